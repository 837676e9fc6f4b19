section
-- ===== PART A: goes FIRST, ahead of the names: the tables' words, and 'selects' of the private methods out of them =====
/-- a private method of a class that the tables say can be made, by its rows of tables_1 -/
def lw_okq (q : MethodName × Nat) : Prop := (q.1.cls ≠ "java/lang/invoke/MethodHandle" ∧ q.1.cls ≠ "java/lang/invoke/VarHandle") ∧ Cond.instantiable q.1.cls q.2 ∈ tables_1 ∧ Cond.privateMethod q.1 ∈ tables_1 ∧ Cond.instanceMethod q.1 ∈ tables_1
theorem lw_p0 : lw_okq (⟨"WatchBench", "refuse", "(I)J"⟩, 12) := ⟨⟨by decide +kernel, by decide +kernel⟩, List.mem_of_getElem? (i := 19) (by decide +kernel), List.mem_of_getElem? (i := 261) (by decide +kernel), List.mem_of_getElem? (i := 262) (by decide +kernel)⟩
theorem lw_p1 : lw_okq (⟨"WatchBench", "whyNoLaying", "(II)I"⟩, 12) := ⟨⟨by decide +kernel, by decide +kernel⟩, List.mem_of_getElem? (i := 19) (by decide +kernel), List.mem_of_getElem? (i := 418) (by decide +kernel), List.mem_of_getElem? (i := 419) (by decide +kernel)⟩
theorem lw_p2 : lw_okq (⟨"WatchBench", "isModel", "(I)Z"⟩, 12) := ⟨⟨by decide +kernel, by decide +kernel⟩, List.mem_of_getElem? (i := 19) (by decide +kernel), List.mem_of_getElem? (i := 442) (by decide +kernel), List.mem_of_getElem? (i := 443) (by decide +kernel)⟩
theorem lw_p3 : lw_okq (⟨"WatchBench$Products", "weigh", "(ILWatchBench$Stock;I)V"⟩, 5) := ⟨⟨by decide +kernel, by decide +kernel⟩, List.mem_of_getElem? (i := 128) (by decide +kernel), List.mem_of_getElem? (i := 461) (by decide +kernel), List.mem_of_getElem? (i := 462) (by decide +kernel)⟩
theorem lw_p4 : lw_okq (⟨"WatchBench$Products", "pickColumns", "(I)V"⟩, 5) := ⟨⟨by decide +kernel, by decide +kernel⟩, List.mem_of_getElem? (i := 128) (by decide +kernel), List.mem_of_getElem? (i := 472) (by decide +kernel), List.mem_of_getElem? (i := 473) (by decide +kernel)⟩
theorem lw_p5 : lw_okq (⟨"WatchBench$Products", "minorOf", "(I)J"⟩, 5) := ⟨⟨by decide +kernel, by decide +kernel⟩, List.mem_of_getElem? (i := 128) (by decide +kernel), List.mem_of_getElem? (i := 476) (by decide +kernel), List.mem_of_getElem? (i := 477) (by decide +kernel)⟩
theorem lw_p6 : lw_okq (⟨"WatchBench", "whyNoSizes", "()I"⟩, 12) := ⟨⟨by decide +kernel, by decide +kernel⟩, List.mem_of_getElem? (i := 19) (by decide +kernel), List.mem_of_getElem? (i := 521) (by decide +kernel), List.mem_of_getElem? (i := 522) (by decide +kernel)⟩
theorem lw_p7 : lw_okq (⟨"WatchBench", "whyNoPaper", "()I"⟩, 12) := ⟨⟨by decide +kernel, by decide +kernel⟩, List.mem_of_getElem? (i := 19) (by decide +kernel), List.mem_of_getElem? (i := 648) (by decide +kernel), List.mem_of_getElem? (i := 649) (by decide +kernel)⟩
theorem lw_p8 : lw_okq (⟨"WatchBench$MendSearch", "tryOut", "(IIII)V"⟩, 6) := ⟨⟨by decide +kernel, by decide +kernel⟩, List.mem_of_getElem? (i := 176) (by decide +kernel), List.mem_of_getElem? (i := 680) (by decide +kernel), List.mem_of_getElem? (i := 681) (by decide +kernel)⟩
theorem lw_p9 : lw_okq (⟨"WatchBench$MendSearch", "trySecond", "(II)V"⟩, 6) := ⟨⟨by decide +kernel, by decide +kernel⟩, List.mem_of_getElem? (i := 176) (by decide +kernel), List.mem_of_getElem? (i := 687) (by decide +kernel), List.mem_of_getElem? (i := 688) (by decide +kernel)⟩
theorem lw_p10 : lw_okq (⟨"WatchBench$Trial", "isAt", "(II)Z"⟩, 1) := ⟨⟨by decide +kernel, by decide +kernel⟩, List.mem_of_getElem? (i := 201) (by decide +kernel), List.mem_of_getElem? (i := 725) (by decide +kernel), List.mem_of_getElem? (i := 726) (by decide +kernel)⟩
theorem lw_p11 : lw_okq (⟨"WatchBench", "judge", "(I)I"⟩, 12) := ⟨⟨by decide +kernel, by decide +kernel⟩, List.mem_of_getElem? (i := 19) (by decide +kernel), List.mem_of_getElem? (i := 755) (by decide +kernel), List.mem_of_getElem? (i := 756) (by decide +kernel)⟩
theorem lw_p12 : lw_okq (⟨"WatchBenchModel", "tellFinding", "(J)J"⟩, 27) := ⟨⟨by decide +kernel, by decide +kernel⟩, List.mem_of_getElem? (i := 806) (by decide +kernel), List.mem_of_getElem? (i := 902) (by decide +kernel), List.mem_of_getElem? (i := 903) (by decide +kernel)⟩
theorem lw_p13 : lw_okq (⟨"WatchBenchModel", "isCause", "(I)Z"⟩, 27) := ⟨⟨by decide +kernel, by decide +kernel⟩, List.mem_of_getElem? (i := 806) (by decide +kernel), List.mem_of_getElem? (i := 912) (by decide +kernel), List.mem_of_getElem? (i := 913) (by decide +kernel)⟩
theorem lw_p14 : lw_okq (⟨"WatchBenchModel", "shown", "(II)J"⟩, 27) := ⟨⟨by decide +kernel, by decide +kernel⟩, List.mem_of_getElem? (i := 806) (by decide +kernel), List.mem_of_getElem? (i := 919) (by decide +kernel), List.mem_of_getElem? (i := 920) (by decide +kernel)⟩
theorem lw_p15 : lw_okq (⟨"WatchBenchModel", "addReading", "(II)V"⟩, 27) := ⟨⟨by decide +kernel, by decide +kernel⟩, List.mem_of_getElem? (i := 806) (by decide +kernel), List.mem_of_getElem? (i := 932) (by decide +kernel), List.mem_of_getElem? (i := 933) (by decide +kernel)⟩
def lw_privs_1 : List (MethodName × Nat) := [(⟨"WatchBench", "refuse", "(I)J"⟩, 12), (⟨"WatchBench", "whyNoLaying", "(II)I"⟩, 12), (⟨"WatchBench", "isModel", "(I)Z"⟩, 12), (⟨"WatchBench$Products", "weigh", "(ILWatchBench$Stock;I)V"⟩, 5), (⟨"WatchBench$Products", "pickColumns", "(I)V"⟩, 5), (⟨"WatchBench$Products", "minorOf", "(I)J"⟩, 5), (⟨"WatchBench", "whyNoSizes", "()I"⟩, 12), (⟨"WatchBench", "whyNoPaper", "()I"⟩, 12), (⟨"WatchBench$MendSearch", "tryOut", "(IIII)V"⟩, 6), (⟨"WatchBench$MendSearch", "trySecond", "(II)V"⟩, 6), (⟨"WatchBench$Trial", "isAt", "(II)Z"⟩, 1), (⟨"WatchBench", "judge", "(I)I"⟩, 12), (⟨"WatchBenchModel", "tellFinding", "(J)J"⟩, 27), (⟨"WatchBenchModel", "isCause", "(I)Z"⟩, 27), (⟨"WatchBenchModel", "shown", "(II)J"⟩, 27), (⟨"WatchBenchModel", "addReading", "(II)V"⟩, 27)]
theorem lw_r1 : ∀ q ∈ lw_privs_1, lw_okq q := List.forall_mem_cons.mpr ⟨lw_p0, List.forall_mem_cons.mpr ⟨lw_p1, List.forall_mem_cons.mpr ⟨lw_p2, List.forall_mem_cons.mpr ⟨lw_p3, List.forall_mem_cons.mpr ⟨lw_p4, List.forall_mem_cons.mpr ⟨lw_p5, List.forall_mem_cons.mpr ⟨lw_p6, List.forall_mem_cons.mpr ⟨lw_p7, List.forall_mem_cons.mpr ⟨lw_p8, List.forall_mem_cons.mpr ⟨lw_p9, List.forall_mem_cons.mpr ⟨lw_p10, List.forall_mem_cons.mpr ⟨lw_p11, List.forall_mem_cons.mpr ⟨lw_p12, List.forall_mem_cons.mpr ⟨lw_p13, List.forall_mem_cons.mpr ⟨lw_p14, List.forall_mem_cons.mpr ⟨lw_p15, fun _ h => absurd h List.not_mem_nil⟩⟩⟩⟩⟩⟩⟩⟩⟩⟩⟩⟩⟩⟩⟩⟩
theorem lw_p16 : lw_okq (⟨"WatchBenchModel", "isReading", "(I)Z"⟩, 27) := ⟨⟨by decide +kernel, by decide +kernel⟩, List.mem_of_getElem? (i := 806) (by decide +kernel), List.mem_of_getElem? (i := 940) (by decide +kernel), List.mem_of_getElem? (i := 941) (by decide +kernel)⟩
theorem lw_p17 : lw_okq (⟨"WatchBenchModel", "takeModel", "(I)V"⟩, 27) := ⟨⟨by decide +kernel, by decide +kernel⟩, List.mem_of_getElem? (i := 806) (by decide +kernel), List.mem_of_getElem? (i := 972) (by decide +kernel), List.mem_of_getElem? (i := 973) (by decide +kernel)⟩
theorem lw_p18 : lw_okq (⟨"WatchBenchModel", "solve", "(I)Z"⟩, 27) := ⟨⟨by decide +kernel, by decide +kernel⟩, List.mem_of_getElem? (i := 806) (by decide +kernel), List.mem_of_getElem? (i := 976) (by decide +kernel), List.mem_of_getElem? (i := 977) (by decide +kernel)⟩
theorem lw_p19 : lw_okq (⟨"WatchBenchModel", "whole", "(I)J"⟩, 27) := ⟨⟨by decide +kernel, by decide +kernel⟩, List.mem_of_getElem? (i := 806) (by decide +kernel), List.mem_of_getElem? (i := 980) (by decide +kernel), List.mem_of_getElem? (i := 981) (by decide +kernel)⟩
theorem lw_p20 : lw_okq (⟨"WatchBenchModel", "entry", "(III)J"⟩, 27) := ⟨⟨by decide +kernel, by decide +kernel⟩, List.mem_of_getElem? (i := 806) (by decide +kernel), List.mem_of_getElem? (i := 984) (by decide +kernel), List.mem_of_getElem? (i := 985) (by decide +kernel)⟩
theorem lw_p21 : lw_okq (⟨"WatchBenchModel", "two", "(IIIII)J"⟩, 27) := ⟨⟨by decide +kernel, by decide +kernel⟩, List.mem_of_getElem? (i := 806) (by decide +kernel), List.mem_of_getElem? (i := 988) (by decide +kernel), List.mem_of_getElem? (i := 989) (by decide +kernel)⟩
theorem lw_p22 : lw_okq (⟨"WatchBenchModel", "three", "(IIIIIII)J"⟩, 27) := ⟨⟨by decide +kernel, by decide +kernel⟩, List.mem_of_getElem? (i := 806) (by decide +kernel), List.mem_of_getElem? (i := 992) (by decide +kernel), List.mem_of_getElem? (i := 993) (by decide +kernel)⟩
theorem lw_p23 : lw_okq (⟨"WatchBenchModel", "becomesFound", "(I)V"⟩, 27) := ⟨⟨by decide +kernel, by decide +kernel⟩, List.mem_of_getElem? (i := 806) (by decide +kernel), List.mem_of_getElem? (i := 996) (by decide +kernel), List.mem_of_getElem? (i := 997) (by decide +kernel)⟩
theorem lw_p24 : lw_okq (⟨"WatchBenchModel", "sumLeft", "()J"⟩, 27) := ⟨⟨by decide +kernel, by decide +kernel⟩, List.mem_of_getElem? (i := 806) (by decide +kernel), List.mem_of_getElem? (i := 1000) (by decide +kernel), List.mem_of_getElem? (i := 1001) (by decide +kernel)⟩
theorem lw_p25 : lw_okq (⟨"WatchBenchModel", "rank", "(I)I"⟩, 27) := ⟨⟨by decide +kernel, by decide +kernel⟩, List.mem_of_getElem? (i := 806) (by decide +kernel), List.mem_of_getElem? (i := 1004) (by decide +kernel), List.mem_of_getElem? (i := 1005) (by decide +kernel)⟩
theorem lw_p26 : lw_okq (⟨"WatchBenchModel", "notFound", "()J"⟩, 27) := ⟨⟨by decide +kernel, by decide +kernel⟩, List.mem_of_getElem? (i := 806) (by decide +kernel), List.mem_of_getElem? (i := 1017) (by decide +kernel), List.mem_of_getElem? (i := 1018) (by decide +kernel)⟩
theorem lw_p27 : lw_okq (⟨"WatchBenchModel", "placeOf", "(I)I"⟩, 27) := ⟨⟨by decide +kernel, by decide +kernel⟩, List.mem_of_getElem? (i := 806) (by decide +kernel), List.mem_of_getElem? (i := 1022) (by decide +kernel), List.mem_of_getElem? (i := 1023) (by decide +kernel)⟩
theorem lw_p28 : lw_okq (⟨"WatchBenchModel", "foretoldAt", "(I)J"⟩, 27) := ⟨⟨by decide +kernel, by decide +kernel⟩, List.mem_of_getElem? (i := 806) (by decide +kernel), List.mem_of_getElem? (i := 1036) (by decide +kernel), List.mem_of_getElem? (i := 1037) (by decide +kernel)⟩
theorem lw_p29 : lw_okq (⟨"WatchBenchModel", "isMend", "(I)Z"⟩, 27) := ⟨⟨by decide +kernel, by decide +kernel⟩, List.mem_of_getElem? (i := 806) (by decide +kernel), List.mem_of_getElem? (i := 1083) (by decide +kernel), List.mem_of_getElem? (i := 1084) (by decide +kernel)⟩
theorem lw_p30 : lw_okq (⟨"WatchBenchModel", "mended", "(III)J"⟩, 27) := ⟨⟨by decide +kernel, by decide +kernel⟩, List.mem_of_getElem? (i := 806) (by decide +kernel), List.mem_of_getElem? (i := 1087) (by decide +kernel), List.mem_of_getElem? (i := 1088) (by decide +kernel)⟩
theorem lw_p31 : lw_okq (⟨"WatchBenchModel", "noWorst", "()J"⟩, 27) := ⟨⟨by decide +kernel, by decide +kernel⟩, List.mem_of_getElem? (i := 806) (by decide +kernel), List.mem_of_getElem? (i := 1095) (by decide +kernel), List.mem_of_getElem? (i := 1096) (by decide +kernel)⟩
def lw_privs_2 : List (MethodName × Nat) := [(⟨"WatchBenchModel", "isReading", "(I)Z"⟩, 27), (⟨"WatchBenchModel", "takeModel", "(I)V"⟩, 27), (⟨"WatchBenchModel", "solve", "(I)Z"⟩, 27), (⟨"WatchBenchModel", "whole", "(I)J"⟩, 27), (⟨"WatchBenchModel", "entry", "(III)J"⟩, 27), (⟨"WatchBenchModel", "two", "(IIIII)J"⟩, 27), (⟨"WatchBenchModel", "three", "(IIIIIII)J"⟩, 27), (⟨"WatchBenchModel", "becomesFound", "(I)V"⟩, 27), (⟨"WatchBenchModel", "sumLeft", "()J"⟩, 27), (⟨"WatchBenchModel", "rank", "(I)I"⟩, 27), (⟨"WatchBenchModel", "notFound", "()J"⟩, 27), (⟨"WatchBenchModel", "placeOf", "(I)I"⟩, 27), (⟨"WatchBenchModel", "foretoldAt", "(I)J"⟩, 27), (⟨"WatchBenchModel", "isMend", "(I)Z"⟩, 27), (⟨"WatchBenchModel", "mended", "(III)J"⟩, 27), (⟨"WatchBenchModel", "noWorst", "()J"⟩, 27)]
theorem lw_r2 : ∀ q ∈ lw_privs_2, lw_okq q := List.forall_mem_cons.mpr ⟨lw_p16, List.forall_mem_cons.mpr ⟨lw_p17, List.forall_mem_cons.mpr ⟨lw_p18, List.forall_mem_cons.mpr ⟨lw_p19, List.forall_mem_cons.mpr ⟨lw_p20, List.forall_mem_cons.mpr ⟨lw_p21, List.forall_mem_cons.mpr ⟨lw_p22, List.forall_mem_cons.mpr ⟨lw_p23, List.forall_mem_cons.mpr ⟨lw_p24, List.forall_mem_cons.mpr ⟨lw_p25, List.forall_mem_cons.mpr ⟨lw_p26, List.forall_mem_cons.mpr ⟨lw_p27, List.forall_mem_cons.mpr ⟨lw_p28, List.forall_mem_cons.mpr ⟨lw_p29, List.forall_mem_cons.mpr ⟨lw_p30, List.forall_mem_cons.mpr ⟨lw_p31, fun _ h => absurd h List.not_mem_nil⟩⟩⟩⟩⟩⟩⟩⟩⟩⟩⟩⟩⟩⟩⟩⟩
theorem lw_p32 : lw_okq (⟨"WatchBenchModel", "spans", "()I"⟩, 27) := ⟨⟨by decide +kernel, by decide +kernel⟩, List.mem_of_getElem? (i := 806) (by decide +kernel), List.mem_of_getElem? (i := 1099) (by decide +kernel), List.mem_of_getElem? (i := 1100) (by decide +kernel)⟩
theorem lw_p33 : lw_okq (⟨"WatchBenchModel", "hasSpan", "(I)Z"⟩, 27) := ⟨⟨by decide +kernel, by decide +kernel⟩, List.mem_of_getElem? (i := 806) (by decide +kernel), List.mem_of_getElem? (i := 1103) (by decide +kernel), List.mem_of_getElem? (i := 1104) (by decide +kernel)⟩
theorem lw_p34 : lw_okq (⟨"WatchBenchModel", "worstWith", "(IIII)J"⟩, 27) := ⟨⟨by decide +kernel, by decide +kernel⟩, List.mem_of_getElem? (i := 806) (by decide +kernel), List.mem_of_getElem? (i := 1107) (by decide +kernel), List.mem_of_getElem? (i := 1108) (by decide +kernel)⟩
theorem lw_p35 : lw_okq (⟨"WatchBenchModel", "isAt", "(II)Z"⟩, 27) := ⟨⟨by decide +kernel, by decide +kernel⟩, List.mem_of_getElem? (i := 806) (by decide +kernel), List.mem_of_getElem? (i := 1137) (by decide +kernel), List.mem_of_getElem? (i := 1138) (by decide +kernel)⟩
def lw_privs_3 : List (MethodName × Nat) := [(⟨"WatchBenchModel", "spans", "()I"⟩, 27), (⟨"WatchBenchModel", "hasSpan", "(I)Z"⟩, 27), (⟨"WatchBenchModel", "worstWith", "(IIII)J"⟩, 27), (⟨"WatchBenchModel", "isAt", "(II)Z"⟩, 27)]
theorem lw_r3 : ∀ q ∈ lw_privs_3, lw_okq q := List.forall_mem_cons.mpr ⟨lw_p32, List.forall_mem_cons.mpr ⟨lw_p33, List.forall_mem_cons.mpr ⟨lw_p34, List.forall_mem_cons.mpr ⟨lw_p35, fun _ h => absurd h List.not_mem_nil⟩⟩⟩⟩
def lw_privs : List (MethodName × Nat) := lw_privs_1 ++ (lw_privs_2 ++ (lw_privs_3))
def lw_tbl : List Cond := k2_sels lw_privs ++ tables_1
theorem lw_privs_ok : ∀ q ∈ lw_privs, lw_okq q := by
  show ∀ q ∈ lw_privs_1 ++ (lw_privs_2 ++ (lw_privs_3)), lw_okq q
  exact List.forall_mem_append.mpr ⟨lw_r1, List.forall_mem_append.mpr ⟨lw_r2, lw_r3⟩⟩
end
section
def RX0 : String := "WatchBench$Causes"
def TX0 : u_T := fun k => match k with
  | 0 => ("WatchBench$Causes", "kinds", "[I", true)
  | _ => ("WatchBench$Causes", "numbers", "LWatchBench$Pairs;", true)
def tyX0 : Nat → FieldType := fun k => match k with
  | 0 => .array .int
  | _ => .object "WatchBench$Pairs"
abbrev wsX00 : List Cond := u_ws RX0 TX0 2
theorem nmX0 : ∀ a, a < 2 → ∀ b, b < 2 → a ≠ b → (TX0 a).2.1 ≠ (TX0 b).2.1 := by decide +kernel
theorem tyX0_ok : ∀ k, k < 2 → parseFieldDescriptor (TX0 k).2.2.1 = some (tyX0 k) := by decide +kernel
abbrev cX0_init : ByteArray := prog_2_method_1_code
def yX0_init : MethodName := ⟨RX0, "<init>", "()V"⟩
abbrev cX0_isKind : ByteArray := prog_2_method_2_code
def yX0_isKind : MethodName := ⟨RX0, "isKind", "(I)Z"⟩
abbrev cX0_allows : ByteArray := prog_2_method_3_code
def yX0_allows : MethodName := ⟨RX0, "allows", "(III)Z"⟩
abbrev cX0_length : ByteArray := prog_2_method_4_code
def yX0_length : MethodName := ⟨RX0, "length", "()I"⟩
abbrev cX0_has : ByteArray := prog_2_method_5_code
def yX0_has : MethodName := ⟨RX0, "has", "(I)Z"⟩
abbrev cX0_isFull : ByteArray := prog_2_method_6_code
def yX0_isFull : MethodName := ⟨RX0, "isFull", "()Z"⟩
abbrev cX0_append : ByteArray := prog_2_method_7_code
def yX0_append : MethodName := ⟨RX0, "append", "(III)I"⟩
abbrev cX0_isOf : ByteArray := prog_2_method_8_code
def yX0_isOf : MethodName := ⟨RX0, "isOf", "(II)Z"⟩
abbrev cX0_numberA : ByteArray := prog_2_method_9_code
def yX0_numberA : MethodName := ⟨RX0, "numberA", "(I)I"⟩
abbrev cX0_shownIn : ByteArray := prog_2_method_10_code
def yX0_shownIn : MethodName := ⟨RX0, "shownIn", "(II)I"⟩
abbrev cX0_hanging : ByteArray := prog_2_method_11_code
def yX0_hanging : MethodName := ⟨RX0, "hanging", "(IIII)I"⟩
abbrev cX0_copyFrom : ByteArray := prog_2_method_12_code
def yX0_copyFrom : MethodName := ⟨RX0, "copyFrom", "(LWatchBench$Causes;)V"⟩
def RX1 : String := "WatchBench$MendSearch"
def TX1 : u_T := fun k => match k with
  | 0 => ("WatchBench$MendSearch", "rates", "[J", true)
  | 1 => ("WatchBench$MendSearch", "steps", "[J", true)
  | 2 => ("WatchBench$MendSearch", "places", "I", false)
  | 3 => ("WatchBench$MendSearch", "mends", "I", false)
  | 4 => ("WatchBench$MendSearch", "least", "J", false)
  | _ => ("WatchBench$MendSearch", "answer", "J", false)
def tyX1 : Nat → FieldType := fun k => match k with
  | 0 => .array .long
  | 1 => .array .long
  | 2 => .int
  | 3 => .int
  | 4 => .long
  | _ => .long
abbrev wsX10 : List Cond := u_ws RX1 TX1 6
theorem nmX1 : ∀ a, a < 6 → ∀ b, b < 6 → a ≠ b → (TX1 a).2.1 ≠ (TX1 b).2.1 := by decide +kernel
theorem tyX1_ok : ∀ k, k < 6 → parseFieldDescriptor (TX1 k).2.2.1 = some (tyX1 k) := by decide +kernel
abbrev cX1_init : ByteArray := prog_3_method_1_code
def yX1_init : MethodName := ⟨RX1, "<init>", "()V"⟩
abbrev cX1_prepare : ByteArray := prog_3_method_2_code
def yX1_prepare : MethodName := ⟨RX1, "prepare", "(LWatchBench$Stock;LWatchBench$Sizes;)V"⟩
abbrev cX1_run : ByteArray := prog_3_method_3_code
def yX1_run : MethodName := ⟨RX1, "run", "()J"⟩
abbrev cX1_trySecond : ByteArray := prog_3_method_4_code
def yX1_trySecond : MethodName := ⟨RX1, "trySecond", "(II)V"⟩
abbrev cX1_tryOut : ByteArray := prog_3_method_5_code
def yX1_tryOut : MethodName := ⟨RX1, "tryOut", "(IIII)V"⟩
def RX2 : String := "WatchBench$Numbers"
def TX2 : u_T := fun k => match k with
  | _ => ("", "", "", false)
def tyX2 : Nat → FieldType := fun k => match k with
  | _ => .int
abbrev wsX20 : List Cond := u_ws RX2 TX2 0
theorem nmX2 : ∀ a, a < 0 → ∀ b, b < 0 → a ≠ b → (TX2 a).2.1 ≠ (TX2 b).2.1 := by decide +kernel
theorem tyX2_ok : ∀ k, k < 0 → parseFieldDescriptor (TX2 k).2.2.1 = some (tyX2 k) := by decide +kernel
abbrev cX2_within : ByteArray := prog_4_method_2_code
def yX2_within : MethodName := ⟨RX2, "within", "(III)Z"⟩
abbrev cX2_lowest : ByteArray := prog_4_method_3_code
def yX2_lowest : MethodName := ⟨RX2, "lowest", "(JJZ)J"⟩
abbrev cX2_commonOf : ByteArray := prog_4_method_4_code
def yX2_commonOf : MethodName := ⟨RX2, "commonOf", "(JJ)J"⟩
abbrev cX2_order : ByteArray := prog_4_method_5_code
def yX2_order : MethodName := ⟨RX2, "order", "(JJJJ)I"⟩
def RX3 : String := "WatchBench$Pairs"
def TX3 : u_T := fun k => match k with
  | 0 => ("WatchBench$Pairs", "firsts", "[I", true)
  | 1 => ("WatchBench$Pairs", "seconds", "[I", true)
  | _ => ("WatchBench$Pairs", "length", "I", false)
def tyX3 : Nat → FieldType := fun k => match k with
  | 0 => .array .int
  | 1 => .array .int
  | _ => .int
abbrev wsX30 : List Cond := u_ws RX3 TX3 3
theorem nmX3 : ∀ a, a < 3 → ∀ b, b < 3 → a ≠ b → (TX3 a).2.1 ≠ (TX3 b).2.1 := by decide +kernel
theorem tyX3_ok : ∀ k, k < 3 → parseFieldDescriptor (TX3 k).2.2.1 = some (tyX3 k) := by decide +kernel
abbrev cX3_init : ByteArray := prog_5_method_1_code
def yX3_init : MethodName := ⟨RX3, "<init>", "(I)V"⟩
abbrev cX3_length : ByteArray := prog_5_method_2_code
def yX3_length : MethodName := ⟨RX3, "length", "()I"⟩
abbrev cX3_has : ByteArray := prog_5_method_3_code
def yX3_has : MethodName := ⟨RX3, "has", "(I)Z"⟩
abbrev cX3_isFull : ByteArray := prog_5_method_4_code
def yX3_isFull : MethodName := ⟨RX3, "isFull", "()Z"⟩
abbrev cX3_first : ByteArray := prog_5_method_5_code
def yX3_first : MethodName := ⟨RX3, "first", "(I)I"⟩
abbrev cX3_second : ByteArray := prog_5_method_6_code
def yX3_second : MethodName := ⟨RX3, "second", "(I)I"⟩
abbrev cX3_append : ByteArray := prog_5_method_7_code
def yX3_append : MethodName := ⟨RX3, "append", "(II)I"⟩
abbrev cX3_removeAt : ByteArray := prog_5_method_8_code
def yX3_removeAt : MethodName := ⟨RX3, "removeAt", "(I)V"⟩
abbrev cX3_clear : ByteArray := prog_5_method_9_code
def yX3_clear : MethodName := ⟨RX3, "clear", "()V"⟩
abbrev cX3_copyFrom : ByteArray := prog_5_method_10_code
def yX3_copyFrom : MethodName := ⟨RX3, "copyFrom", "(LWatchBench$Pairs;)V"⟩
def RX4 : String := "WatchBench$Products"
def TX4 : u_T := fun k => match k with
  | 0 => ("WatchBench$Products", "shown", "[J", true)
  | 1 => ("WatchBench$Products", "table", "[J", true)
  | 2 => ("WatchBench$Products", "columns", "[I", true)
  | 3 => ("WatchBench$Products", "causesIn", "I", false)
  | _ => ("WatchBench$Products", "minors", "[J", true)
def tyX4 : Nat → FieldType := fun k => match k with
  | 0 => .array .long
  | 1 => .array .long
  | 2 => .array .int
  | 3 => .int
  | _ => .array .long
abbrev wsX40 : List Cond := u_ws RX4 TX4 5
theorem nmX4 : ∀ a, a < 5 → ∀ b, b < 5 → a ≠ b → (TX4 a).2.1 ≠ (TX4 b).2.1 := by decide +kernel
theorem tyX4_ok : ∀ k, k < 5 → parseFieldDescriptor (TX4 k).2.2.1 = some (tyX4 k) := by decide +kernel
abbrev cX4_init : ByteArray := prog_6_method_1_code
def yX4_init : MethodName := ⟨RX4, "<init>", "()V"⟩
abbrev cX4_gather : ByteArray := prog_6_method_2_code
def yX4_gather : MethodName := ⟨RX4, "gather", "(LWatchBench$Stock;)V"⟩
abbrev cX4_weigh : ByteArray := prog_6_method_3_code
def yX4_weigh : MethodName := ⟨RX4, "weigh", "(ILWatchBench$Stock;I)V"⟩
abbrev cX4_solve : ByteArray := prog_6_method_4_code
def yX4_solve : MethodName := ⟨RX4, "solve", "(I)Z"⟩
abbrev cX4_solveWithout : ByteArray := prog_6_method_5_code
def yX4_solveWithout : MethodName := ⟨RX4, "solveWithout", "(IILWatchBench$Stock;)Z"⟩
abbrev cX4_pickColumns : ByteArray := prog_6_method_6_code
def yX4_pickColumns : MethodName := ⟨RX4, "pickColumns", "(I)V"⟩
abbrev cX4_minorOf : ByteArray := prog_6_method_7_code
def yX4_minorOf : MethodName := ⟨RX4, "minorOf", "(I)J"⟩
abbrev cX4_below : ByteArray := prog_6_method_8_code
def yX4_below : MethodName := ⟨RX4, "below", "()J"⟩
abbrev cX4_squares : ByteArray := prog_6_method_9_code
def yX4_squares : MethodName := ⟨RX4, "squares", "()J"⟩
abbrev cX4_above : ByteArray := prog_6_method_10_code
def yX4_above : MethodName := ⟨RX4, "above", "(I)J"⟩
abbrev cX4_looseOf : ByteArray := prog_6_method_11_code
def yX4_looseOf : MethodName := ⟨RX4, "looseOf", "(I)I"⟩
abbrev cX4_fewestOf : ByteArray := prog_6_method_12_code
def yX4_fewestOf : MethodName := ⟨RX4, "fewestOf", "(II)I"⟩
def RX5 : String := "WatchBench$Sheets"
def TX5 : u_T := fun k => match k with
  | 0 => ("WatchBench$Sheets", "lengths", "[I", true)
  | _ => ("WatchBench$Sheets", "rates", "[[S", true)
def tyX5 : Nat → FieldType := fun k => match k with
  | 0 => .array .int
  | _ => .array (.array .short)
abbrev wsX50 : List Cond := u_ws RX5 TX5 2
theorem nmX5 : ∀ a, a < 2 → ∀ b, b < 2 → a ≠ b → (TX5 a).2.1 ≠ (TX5 b).2.1 := by decide +kernel
theorem tyX5_ok : ∀ k, k < 2 → parseFieldDescriptor (TX5 k).2.2.1 = some (tyX5 k) := by decide +kernel
abbrev cX5_init : ByteArray := prog_7_method_1_code
def yX5_init : MethodName := ⟨RX5, "<init>", "()V"⟩
abbrev cX5_isSheet : ByteArray := prog_7_method_2_code
def yX5_isSheet : MethodName := ⟨RX5, "isSheet", "(I)Z"⟩
abbrev cX5_placesOf : ByteArray := prog_7_method_3_code
def yX5_placesOf : MethodName := ⟨RX5, "placesOf", "(I)I"⟩
abbrev cX5_isMissing : ByteArray := prog_7_method_4_code
def yX5_isMissing : MethodName := ⟨RX5, "isMissing", "(I)Z"⟩
abbrev cX5_hasPlace : ByteArray := prog_7_method_5_code
def yX5_hasPlace : MethodName := ⟨RX5, "hasPlace", "(II)Z"⟩
abbrev cX5_layOut : ByteArray := prog_7_method_6_code
def yX5_layOut : MethodName := ⟨RX5, "layOut", "(II)V"⟩
abbrev cX5_write : ByteArray := prog_7_method_7_code
def yX5_write : MethodName := ⟨RX5, "write", "(III)I"⟩
abbrev cX5_rateAt : ByteArray := prog_7_method_8_code
def yX5_rateAt : MethodName := ⟨RX5, "rateAt", "(II)I"⟩
abbrev cX5_wasRead : ByteArray := prog_7_method_9_code
def yX5_wasRead : MethodName := ⟨RX5, "wasRead", "(II)Z"⟩
abbrev cX5_howManyRead : ByteArray := prog_7_method_10_code
def yX5_howManyRead : MethodName := ⟨RX5, "howManyRead", "(II)I"⟩
abbrev cX5_holdsRates : ByteArray := prog_7_method_11_code
def yX5_holdsRates : MethodName := ⟨RX5, "holdsRates", "(II)Z"⟩
def RX6 : String := "WatchBench$Sizes"
def TX6 : u_T := fun k => match k with
  | 0 => ("WatchBench$Sizes", "areThere", "Z", false)
  | 1 => ("WatchBench$Sizes", "stale", "Z", false)
  | 2 => ("WatchBench$Sizes", "causeSet", "I", false)
  | 3 => ("WatchBench$Sizes", "aboves", "[J", true)
  | 4 => ("WatchBench$Sizes", "below", "J", false)
  | _ => ("WatchBench$Sizes", "squares", "J", false)
def tyX6 : Nat → FieldType := fun k => match k with
  | 0 => .boolean
  | 1 => .boolean
  | 2 => .int
  | 3 => .array .long
  | 4 => .long
  | _ => .long
abbrev wsX60 : List Cond := u_ws RX6 TX6 6
theorem nmX6 : ∀ a, a < 6 → ∀ b, b < 6 → a ≠ b → (TX6 a).2.1 ≠ (TX6 b).2.1 := by decide +kernel
theorem tyX6_ok : ∀ k, k < 6 → parseFieldDescriptor (TX6 k).2.2.1 = some (tyX6 k) := by decide +kernel
abbrev cX6_init : ByteArray := prog_8_method_1_code
def yX6_init : MethodName := ⟨RX6, "<init>", "()V"⟩
abbrev cX6_take : ByteArray := prog_8_method_2_code
def yX6_take : MethodName := ⟨RX6, "take", "(ILWatchBench$Products;)V"⟩
abbrev cX6_forget : ByteArray := prog_8_method_3_code
def yX6_forget : MethodName := ⟨RX6, "forget", "()V"⟩
abbrev cX6_growStale : ByteArray := prog_8_method_4_code
def yX6_growStale : MethodName := ⟨RX6, "growStale", "()V"⟩
abbrev cX6_areFound : ByteArray := prog_8_method_5_code
def yX6_areFound : MethodName := ⟨RX6, "areFound", "()Z"⟩
abbrev cX6_areStale : ByteArray := prog_8_method_6_code
def yX6_areStale : MethodName := ⟨RX6, "areStale", "()Z"⟩
abbrev cX6_causeSet : ByteArray := prog_8_method_7_code
def yX6_causeSet : MethodName := ⟨RX6, "causeSet", "()I"⟩
abbrev cX6_has : ByteArray := prog_8_method_8_code
def yX6_has : MethodName := ⟨RX6, "has", "(I)Z"⟩
abbrev cX6_placeOf : ByteArray := prog_8_method_9_code
def yX6_placeOf : MethodName := ⟨RX6, "placeOf", "(I)I"⟩
abbrev cX6_above : ByteArray := prog_8_method_10_code
def yX6_above : MethodName := ⟨RX6, "above", "(I)J"⟩
abbrev cX6_below : ByteArray := prog_8_method_11_code
def yX6_below : MethodName := ⟨RX6, "below", "()J"⟩
abbrev cX6_squares : ByteArray := prog_8_method_12_code
def yX6_squares : MethodName := ⟨RX6, "squares", "()J"⟩
abbrev cX6_aboveIn : ByteArray := prog_8_method_13_code
def yX6_aboveIn : MethodName := ⟨RX6, "aboveIn", "(ILWatchBench$Causes;)J"⟩
abbrev cX6_stepIn : ByteArray := prog_8_method_14_code
def yX6_stepIn : MethodName := ⟨RX6, "stepIn", "(IILWatchBench$Stock;)J"⟩
abbrev cX6_isSize : ByteArray := prog_8_method_15_code
def yX6_isSize : MethodName := ⟨RX6, "isSize", "(III)Z"⟩
def RX7 : String := "WatchBench$Spans"
def TX7 : u_T := fun k => match k with
  | 0 => ("WatchBench$Spans", "there", "[Z", true)
  | 1 => ("WatchBench$Spans", "froms", "[I", true)
  | _ => ("WatchBench$Spans", "tos", "[I", true)
def tyX7 : Nat → FieldType := fun k => match k with
  | 0 => .array .boolean
  | 1 => .array .int
  | _ => .array .int
abbrev wsX70 : List Cond := u_ws RX7 TX7 3
theorem nmX7 : ∀ a, a < 3 → ∀ b, b < 3 → a ≠ b → (TX7 a).2.1 ≠ (TX7 b).2.1 := by decide +kernel
theorem tyX7_ok : ∀ k, k < 3 → parseFieldDescriptor (TX7 k).2.2.1 = some (tyX7 k) := by decide +kernel
abbrev cX7_init : ByteArray := prog_9_method_1_code
def yX7_init : MethodName := ⟨RX7, "<init>", "()V"⟩
abbrev cX7_has : ByteArray := prog_9_method_2_code
def yX7_has : MethodName := ⟨RX7, "has", "(I)Z"⟩
abbrev cX7_write : ByteArray := prog_9_method_3_code
def yX7_write : MethodName := ⟨RX7, "write", "(III)V"⟩
abbrev cX7_howMany : ByteArray := prog_9_method_4_code
def yX7_howMany : MethodName := ⟨RX7, "howMany", "()I"⟩
abbrev cX7_holds : ByteArray := prog_9_method_5_code
def yX7_holds : MethodName := ⟨RX7, "holds", "(IJJ)Z"⟩
abbrev cX7_copyFrom : ByteArray := prog_9_method_6_code
def yX7_copyFrom : MethodName := ⟨RX7, "copyFrom", "(LWatchBench$Spans;)V"⟩
def RX8 : String := "WatchBench$Stock"
def TX8 : u_T := fun k => match k with
  | 0 => ("WatchBench$Stock", "causes", "LWatchBench$Causes;", true)
  | 1 => ("WatchBench$Stock", "readings", "LWatchBench$Pairs;", true)
  | 2 => ("WatchBench$Stock", "mends", "LWatchBench$Pairs;", true)
  | _ => ("WatchBench$Stock", "spans", "LWatchBench$Spans;", true)
def tyX8 : Nat → FieldType := fun k => match k with
  | 0 => .object "WatchBench$Causes"
  | 1 => .object "WatchBench$Pairs"
  | 2 => .object "WatchBench$Pairs"
  | _ => .object "WatchBench$Spans"
abbrev wsX80 : List Cond := u_ws RX8 TX8 4
theorem nmX8 : ∀ a, a < 4 → ∀ b, b < 4 → a ≠ b → (TX8 a).2.1 ≠ (TX8 b).2.1 := by decide +kernel
theorem tyX8_ok : ∀ k, k < 4 → parseFieldDescriptor (TX8 k).2.2.1 = some (tyX8 k) := by decide +kernel
abbrev cX8_init : ByteArray := prog_10_method_1_code
def yX8_init : MethodName := ⟨RX8, "<init>", "()V"⟩
abbrev cX8_copyFrom : ByteArray := prog_10_method_2_code
def yX8_copyFrom : MethodName := ⟨RX8, "copyFrom", "(LWatchBench$Stock;)V"⟩
def RX9 : String := "WatchBench$Trial"
def TX9 : u_T := fun k => match k with
  | _ => ("WatchBench$Trial", "days", "LWatchBench$Pairs;", true)
def tyX9 : Nat → FieldType := fun k => match k with
  | _ => .object "WatchBench$Pairs"
abbrev wsX90 : List Cond := u_ws RX9 TX9 1
theorem nmX9 : ∀ a, a < 1 → ∀ b, b < 1 → a ≠ b → (TX9 a).2.1 ≠ (TX9 b).2.1 := by decide +kernel
theorem tyX9_ok : ∀ k, k < 1 → parseFieldDescriptor (TX9 k).2.2.1 = some (tyX9 k) := by decide +kernel
abbrev cX9_init : ByteArray := prog_11_method_1_code
def yX9_init : MethodName := ⟨RX9, "<init>", "()V"⟩
abbrev cX9_isPlace : ByteArray := prog_11_method_2_code
def yX9_isPlace : MethodName := ⟨RX9, "isPlace", "(I)Z"⟩
abbrev cX9_isAt : ByteArray := prog_11_method_3_code
def yX9_isAt : MethodName := ⟨RX9, "isAt", "(II)Z"⟩
abbrev cX9_daysAt : ByteArray := prog_11_method_4_code
def yX9_daysAt : MethodName := ⟨RX9, "daysAt", "(I)I"⟩
abbrev cX9_gainAt : ByteArray := prog_11_method_5_code
def yX9_gainAt : MethodName := ⟨RX9, "gainAt", "(I)I"⟩
abbrev cX9_greatestTurnAt : ByteArray := prog_11_method_6_code
def yX9_greatestTurnAt : MethodName := ⟨RX9, "greatestTurnAt", "(I)I"⟩
def RX10 : String := "WatchBench"
def TX10 : u_T := fun k => match k with
  | 0 => ("WatchBench", "stock", "LWatchBench$Stock;", true)
  | 1 => ("WatchBench", "kept", "LWatchBench$Stock;", true)
  | 2 => ("WatchBench", "anyKept", "Z", false)
  | 3 => ("WatchBench", "sheets", "LWatchBench$Sheets;", true)
  | 4 => ("WatchBench", "products", "LWatchBench$Products;", true)
  | 5 => ("WatchBench", "sizes", "LWatchBench$Sizes;", true)
  | 6 => ("WatchBench", "looseSet", "I", false)
  | 7 => ("WatchBench", "mendSearch", "LWatchBench$MendSearch;", true)
  | 8 => ("WatchBench", "trial", "LWatchBench$Trial;", true)
  | 9 => ("WatchBench", "told", "[I", true)
  | 10 => ("WatchBench", "waiting", "I", false)
  | _ => ("WatchBench", "refusals", "[I", true)
def tyX10 : Nat → FieldType := fun k => match k with
  | 0 => .object "WatchBench$Stock"
  | 1 => .object "WatchBench$Stock"
  | 2 => .boolean
  | 3 => .object "WatchBench$Sheets"
  | 4 => .object "WatchBench$Products"
  | 5 => .object "WatchBench$Sizes"
  | 6 => .int
  | 7 => .object "WatchBench$MendSearch"
  | 8 => .object "WatchBench$Trial"
  | 9 => .array .int
  | 10 => .int
  | _ => .array .int
abbrev wsX100 : List Cond := u_ws RX10 TX10 12
theorem nmX10 : ∀ a, a < 12 → ∀ b, b < 12 → a ≠ b → (TX10 a).2.1 ≠ (TX10 b).2.1 := by decide +kernel
theorem tyX10_ok : ∀ k, k < 12 → parseFieldDescriptor (TX10 k).2.2.1 = some (tyX10 k) := by decide +kernel
abbrev cX10_init : ByteArray := prog_1_method_1_code
def yX10_init : MethodName := ⟨RX10, "<init>", "()V"⟩
abbrev cX10_cause : ByteArray := prog_1_method_2_code
def yX10_cause : MethodName := ⟨RX10, "cause", "(III)J"⟩
abbrev cX10_shows : ByteArray := prog_1_method_3_code
def yX10_shows : MethodName := ⟨RX10, "shows", "(II)J"⟩
abbrev cX10_as : ByteArray := prog_1_method_4_code
def yX10_as : MethodName := ⟨RX10, "as", "(II)J"⟩
abbrev cX10_read : ByteArray := prog_1_method_5_code
def yX10_read : MethodName := ⟨RX10, "read", "(II)J"⟩
abbrev cX10_drop : ByteArray := prog_1_method_6_code
def yX10_drop : MethodName := ⟨RX10, "drop", "(I)J"⟩
abbrev cX10_reading : ByteArray := prog_1_method_7_code
def yX10_reading : MethodName := ⟨RX10, "reading", "(II)J"⟩
abbrev cX10_sheet : ByteArray := prog_1_method_8_code
def yX10_sheet : MethodName := ⟨RX10, "sheet", "(II)J"⟩
abbrev cX10_put : ByteArray := prog_1_method_9_code
def yX10_put : MethodName := ⟨RX10, "put", "(III)J"⟩
abbrev cX10_lay : ByteArray := prog_1_method_10_code
def yX10_lay : MethodName := ⟨RX10, "lay", "(II)J"⟩
abbrev cX10_whyNoLaying : ByteArray := prog_1_method_11_code
def yX10_whyNoLaying : MethodName := ⟨RX10, "whyNoLaying", "(II)I"⟩
abbrev cX10_find : ByteArray := prog_1_method_12_code
def yX10_find : MethodName := ⟨RX10, "find", "(I)J"⟩
abbrev cX10_loose : ByteArray := prog_1_method_13_code
def yX10_loose : MethodName := ⟨RX10, "loose", "()J"⟩
abbrev cX10_size : ByteArray := prog_1_method_14_code
def yX10_size : MethodName := ⟨RX10, "size", "(IZ)J"⟩
abbrev cX10_left : ByteArray := prog_1_method_15_code
def yX10_left : MethodName := ⟨RX10, "left", "(IZ)J"⟩
abbrev cX10_sum : ByteArray := prog_1_method_16_code
def yX10_sum : MethodName := ⟨RX10, "sum", "(Z)J"⟩
abbrev cX10_foretold : ByteArray := prog_1_method_17_code
def yX10_foretold : MethodName := ⟨RX10, "foretold", "(IZ)J"⟩
abbrev cX10_model : ByteArray := prog_1_method_18_code
def yX10_model : MethodName := ⟨RX10, "model", "()J"⟩
abbrev cX10_few : ByteArray := prog_1_method_19_code
def yX10_few : MethodName := ⟨RX10, "few", "(I)J"⟩
abbrev cX10_doubt : ByteArray := prog_1_method_20_code
def yX10_doubt : MethodName := ⟨RX10, "doubt", "(IZZ)J"⟩
abbrev cX10_spare : ByteArray := prog_1_method_21_code
def yX10_spare : MethodName := ⟨RX10, "spare", "()J"⟩
abbrev cX10_mend : ByteArray := prog_1_method_22_code
def yX10_mend : MethodName := ⟨RX10, "mend", "(II)J"⟩
abbrev cX10_span : ByteArray := prog_1_method_23_code
def yX10_span : MethodName := ⟨RX10, "span", "(III)J"⟩
abbrev cX10_behind : ByteArray := prog_1_method_24_code
def yX10_behind : MethodName := ⟨RX10, "behind", "(IIIIIZ)J"⟩
abbrev cX10_worst : ByteArray := prog_1_method_25_code
def yX10_worst : MethodName := ⟨RX10, "worst", "(Z)J"⟩
abbrev cX10_best : ByteArray := prog_1_method_26_code
def yX10_best : MethodName := ⟨RX10, "best", "()J"⟩
abbrev cX10_paper : ByteArray := prog_1_method_27_code
def yX10_paper : MethodName := ⟨RX10, "paper", "()J"⟩
abbrev cX10_day : ByteArray := prog_1_method_28_code
def yX10_day : MethodName := ⟨RX10, "day", "(II)J"⟩
abbrev cX10_anew : ByteArray := prog_1_method_29_code
def yX10_anew : MethodName := ⟨RX10, "anew", "()J"⟩
abbrev cX10_mean : ByteArray := prog_1_method_30_code
def yX10_mean : MethodName := ⟨RX10, "mean", "(IZ)J"⟩
abbrev cX10_change : ByteArray := prog_1_method_31_code
def yX10_change : MethodName := ⟨RX10, "change", "(I)J"⟩
abbrev cX10_tell : ByteArray := prog_1_method_32_code
def yX10_tell : MethodName := ⟨RX10, "tell", "(I)J"⟩
abbrev cX10_check : ByteArray := prog_1_method_33_code
def yX10_check : MethodName := ⟨RX10, "check", "()J"⟩
abbrev cX10_judge : ByteArray := prog_1_method_34_code
def yX10_judge : MethodName := ⟨RX10, "judge", "(I)I"⟩
abbrev cX10_keep : ByteArray := prog_1_method_35_code
def yX10_keep : MethodName := ⟨RX10, "keep", "()J"⟩
abbrev cX10_back : ByteArray := prog_1_method_36_code
def yX10_back : MethodName := ⟨RX10, "back", "()J"⟩
abbrev cX10_count : ByteArray := prog_1_method_37_code
def yX10_count : MethodName := ⟨RX10, "count", "(I)J"⟩
abbrev cX10_found : ByteArray := prog_1_method_38_code
def yX10_found : MethodName := ⟨RX10, "found", "(I)J"⟩
abbrev cX10_refuse : ByteArray := prog_1_method_39_code
def yX10_refuse : MethodName := ⟨RX10, "refuse", "(I)J"⟩
abbrev cX10_whyNoSizes : ByteArray := prog_1_method_40_code
def yX10_whyNoSizes : MethodName := ⟨RX10, "whyNoSizes", "()I"⟩
abbrev cX10_whyNoPaper : ByteArray := prog_1_method_41_code
def yX10_whyNoPaper : MethodName := ⟨RX10, "whyNoPaper", "()I"⟩
abbrev cX10_isModel : ByteArray := prog_1_method_42_code
def yX10_isModel : MethodName := ⟨RX10, "isModel", "(I)Z"⟩
abbrev cX10_isState : ByteArray := prog_1_method_43_code
def yX10_isState : MethodName := ⟨RX10, "isState", "(I)Z"⟩
abbrev cX10_isRate : ByteArray := prog_1_method_44_code
def yX10_isRate : MethodName := ⟨RX10, "isRate", "(I)Z"⟩
abbrev cX10_isSteps : ByteArray := prog_1_method_45_code
def yX10_isSteps : MethodName := ⟨RX10, "isSteps", "(I)Z"⟩
def RX11 : String := "WatchBenchModel"
def TX11 : u_T := fun k => match k with
  | 0 => ("WatchBenchModel", "now", "[I", true)
  | 1 => ("WatchBenchModel", "kept", "[I", true)
  | 2 => ("WatchBenchModel", "isKept", "Z", false)
  | 3 => ("WatchBenchModel", "sheets", "[I", true)
  | 4 => ("WatchBenchModel", "sheetSize", "[I", true)
  | 5 => ("WatchBenchModel", "days", "I", false)
  | 6 => ("WatchBenchModel", "dayState", "[I", true)
  | 7 => ("WatchBenchModel", "dayGain", "[I", true)
  | 8 => ("WatchBenchModel", "waits", "I", false)
  | 9 => ("WatchBenchModel", "waiting", "[I", true)
  | 10 => ("WatchBenchModel", "findings", "[J", true)
  | 11 => ("WatchBenchModel", "looseSet", "J", false)
  | 12 => ("WatchBenchModel", "isFound", "Z", false)
  | 13 => ("WatchBenchModel", "isOld", "Z", false)
  | 14 => ("WatchBenchModel", "foundModel", "I", false)
  | 15 => ("WatchBenchModel", "foundMany", "I", false)
  | 16 => ("WatchBenchModel", "foundCause", "[I", true)
  | 17 => ("WatchBenchModel", "foundAbove", "[J", true)
  | 18 => ("WatchBenchModel", "foundBelow", "J", false)
  | 19 => ("WatchBenchModel", "foundSum", "J", false)
  | 20 => ("WatchBenchModel", "many", "I", false)
  | 21 => ("WatchBenchModel", "causes", "[I", true)
  | 22 => ("WatchBenchModel", "square", "[J", true)
  | 23 => ("WatchBenchModel", "right", "[J", true)
  | 24 => ("WatchBenchModel", "above", "[J", true)
  | 25 => ("WatchBenchModel", "below", "J", false)
  | _ => ("WatchBenchModel", "table", "[J", true)
def tyX11 : Nat → FieldType := fun k => match k with
  | 0 => .array .int
  | 1 => .array .int
  | 2 => .boolean
  | 3 => .array .int
  | 4 => .array .int
  | 5 => .int
  | 6 => .array .int
  | 7 => .array .int
  | 8 => .int
  | 9 => .array .int
  | 10 => .array .long
  | 11 => .long
  | 12 => .boolean
  | 13 => .boolean
  | 14 => .int
  | 15 => .int
  | 16 => .array .int
  | 17 => .array .long
  | 18 => .long
  | 19 => .long
  | 20 => .int
  | 21 => .array .int
  | 22 => .array .long
  | 23 => .array .long
  | 24 => .array .long
  | 25 => .long
  | _ => .array .long
abbrev wsX110 : List Cond := u_ws RX11 TX11 27
theorem nmX11 : ∀ a, a < 27 → ∀ b, b < 27 → a ≠ b → (TX11 a).2.1 ≠ (TX11 b).2.1 := by decide +kernel
theorem tyX11_ok : ∀ k, k < 27 → parseFieldDescriptor (TX11 k).2.2.1 = some (tyX11 k) := by decide +kernel
abbrev cX11_init : ByteArray := prog_13_method_1_code
def yX11_init : MethodName := ⟨RX11, "<init>", "()V"⟩
abbrev cX11_tellFinding : ByteArray := prog_13_method_2_code
def yX11_tellFinding : MethodName := ⟨RX11, "tellFinding", "(J)J"⟩
abbrev cX11_in : ByteArray := prog_13_method_3_code
def yX11_in : MethodName := ⟨RX11, "in", "(III)Z"⟩
abbrev cX11_isCause : ByteArray := prog_13_method_4_code
def yX11_isCause : MethodName := ⟨RX11, "isCause", "(I)Z"⟩
abbrev cX11_isState : ByteArray := prog_13_method_5_code
def yX11_isState : MethodName := ⟨RX11, "isState", "(I)Z"⟩
abbrev cX11_cause : ByteArray := prog_13_method_6_code
def yX11_cause : MethodName := ⟨RX11, "cause", "(III)J"⟩
abbrev cX11_shown : ByteArray := prog_13_method_7_code
def yX11_shown : MethodName := ⟨RX11, "shown", "(II)J"⟩
abbrev cX11_shows : ByteArray := prog_13_method_8_code
def yX11_shows : MethodName := ⟨RX11, "shows", "(II)J"⟩
abbrev cX11_as : ByteArray := prog_13_method_9_code
def yX11_as : MethodName := ⟨RX11, "as", "(II)J"⟩
abbrev cX11_addReading : ByteArray := prog_13_method_10_code
def yX11_addReading : MethodName := ⟨RX11, "addReading", "(II)V"⟩
abbrev cX11_read : ByteArray := prog_13_method_11_code
def yX11_read : MethodName := ⟨RX11, "read", "(II)J"⟩
abbrev cX11_isReading : ByteArray := prog_13_method_12_code
def yX11_isReading : MethodName := ⟨RX11, "isReading", "(I)Z"⟩
abbrev cX11_drop : ByteArray := prog_13_method_13_code
def yX11_drop : MethodName := ⟨RX11, "drop", "(I)J"⟩
abbrev cX11_reading : ByteArray := prog_13_method_14_code
def yX11_reading : MethodName := ⟨RX11, "reading", "(II)J"⟩
abbrev cX11_sheet : ByteArray := prog_13_method_15_code
def yX11_sheet : MethodName := ⟨RX11, "sheet", "(II)J"⟩
abbrev cX11_put : ByteArray := prog_13_method_16_code
def yX11_put : MethodName := ⟨RX11, "put", "(III)J"⟩
abbrev cX11_lay : ByteArray := prog_13_method_17_code
def yX11_lay : MethodName := ⟨RX11, "lay", "(II)J"⟩
abbrev cX11_takeModel : ByteArray := prog_13_method_18_code
def yX11_takeModel : MethodName := ⟨RX11, "takeModel", "(I)V"⟩
abbrev cX11_entry : ByteArray := prog_13_method_19_code
def yX11_entry : MethodName := ⟨RX11, "entry", "(III)J"⟩
abbrev cX11_two : ByteArray := prog_13_method_20_code
def yX11_two : MethodName := ⟨RX11, "two", "(IIIII)J"⟩
abbrev cX11_three : ByteArray := prog_13_method_21_code
def yX11_three : MethodName := ⟨RX11, "three", "(IIIIIII)J"⟩
abbrev cX11_whole : ByteArray := prog_13_method_22_code
def yX11_whole : MethodName := ⟨RX11, "whole", "(I)J"⟩
abbrev cX11_solve : ByteArray := prog_13_method_23_code
def yX11_solve : MethodName := ⟨RX11, "solve", "(I)Z"⟩
abbrev cX11_sumLeft : ByteArray := prog_13_method_24_code
def yX11_sumLeft : MethodName := ⟨RX11, "sumLeft", "()J"⟩
abbrev cX11_rank : ByteArray := prog_13_method_25_code
def yX11_rank : MethodName := ⟨RX11, "rank", "(I)I"⟩
abbrev cX11_common : ByteArray := prog_13_method_26_code
def yX11_common : MethodName := ⟨RX11, "common", "(JJ)J"⟩
abbrev cX11_part : ByteArray := prog_13_method_27_code
def yX11_part : MethodName := ⟨RX11, "part", "(JJZ)J"⟩
abbrev cX11_compare : ByteArray := prog_13_method_28_code
def yX11_compare : MethodName := ⟨RX11, "compare", "(JJJJ)I"⟩
abbrev cX11_becomesFound : ByteArray := prog_13_method_29_code
def yX11_becomesFound : MethodName := ⟨RX11, "becomesFound", "(I)V"⟩
abbrev cX11_bits : ByteArray := prog_13_method_30_code
def yX11_bits : MethodName := ⟨RX11, "bits", "(I)I"⟩
abbrev cX11_find : ByteArray := prog_13_method_31_code
def yX11_find : MethodName := ⟨RX11, "find", "(I)J"⟩
abbrev cX11_loose : ByteArray := prog_13_method_32_code
def yX11_loose : MethodName := ⟨RX11, "loose", "()J"⟩
abbrev cX11_notFound : ByteArray := prog_13_method_33_code
def yX11_notFound : MethodName := ⟨RX11, "notFound", "()J"⟩
abbrev cX11_placeOf : ByteArray := prog_13_method_34_code
def yX11_placeOf : MethodName := ⟨RX11, "placeOf", "(I)I"⟩
abbrev cX11_size : ByteArray := prog_13_method_35_code
def yX11_size : MethodName := ⟨RX11, "size", "(IZ)J"⟩
abbrev cX11_foretoldAt : ByteArray := prog_13_method_36_code
def yX11_foretoldAt : MethodName := ⟨RX11, "foretoldAt", "(I)J"⟩
abbrev cX11_left : ByteArray := prog_13_method_37_code
def yX11_left : MethodName := ⟨RX11, "left", "(IZ)J"⟩
abbrev cX11_sum : ByteArray := prog_13_method_38_code
def yX11_sum : MethodName := ⟨RX11, "sum", "(Z)J"⟩
abbrev cX11_foretold : ByteArray := prog_13_method_39_code
def yX11_foretold : MethodName := ⟨RX11, "foretold", "(IZ)J"⟩
abbrev cX11_model : ByteArray := prog_13_method_40_code
def yX11_model : MethodName := ⟨RX11, "model", "()J"⟩
abbrev cX11_few : ByteArray := prog_13_method_41_code
def yX11_few : MethodName := ⟨RX11, "few", "(I)J"⟩
abbrev cX11_doubt : ByteArray := prog_13_method_42_code
def yX11_doubt : MethodName := ⟨RX11, "doubt", "(IZZ)J"⟩
abbrev cX11_spare : ByteArray := prog_13_method_43_code
def yX11_spare : MethodName := ⟨RX11, "spare", "()J"⟩
abbrev cX11_mend : ByteArray := prog_13_method_44_code
def yX11_mend : MethodName := ⟨RX11, "mend", "(II)J"⟩
abbrev cX11_hasSpan : ByteArray := prog_13_method_45_code
def yX11_hasSpan : MethodName := ⟨RX11, "hasSpan", "(I)Z"⟩
abbrev cX11_spans : ByteArray := prog_13_method_46_code
def yX11_spans : MethodName := ⟨RX11, "spans", "()I"⟩
abbrev cX11_span : ByteArray := prog_13_method_47_code
def yX11_span : MethodName := ⟨RX11, "span", "(III)J"⟩
abbrev cX11_isMend : ByteArray := prog_13_method_48_code
def yX11_isMend : MethodName := ⟨RX11, "isMend", "(I)Z"⟩
abbrev cX11_mended : ByteArray := prog_13_method_49_code
def yX11_mended : MethodName := ⟨RX11, "mended", "(III)J"⟩
abbrev cX11_behind : ByteArray := prog_13_method_50_code
def yX11_behind : MethodName := ⟨RX11, "behind", "(IIIIIZ)J"⟩
abbrev cX11_worstWith : ByteArray := prog_13_method_51_code
def yX11_worstWith : MethodName := ⟨RX11, "worstWith", "(IIII)J"⟩
abbrev cX11_noWorst : ByteArray := prog_13_method_52_code
def yX11_noWorst : MethodName := ⟨RX11, "noWorst", "()J"⟩
abbrev cX11_worst : ByteArray := prog_13_method_53_code
def yX11_worst : MethodName := ⟨RX11, "worst", "(Z)J"⟩
abbrev cX11_code : ByteArray := prog_13_method_54_code
def yX11_code : MethodName := ⟨RX11, "code", "(IIII)J"⟩
abbrev cX11_best : ByteArray := prog_13_method_55_code
def yX11_best : MethodName := ⟨RX11, "best", "()J"⟩
abbrev cX11_paper : ByteArray := prog_13_method_56_code
def yX11_paper : MethodName := ⟨RX11, "paper", "()J"⟩
abbrev cX11_day : ByteArray := prog_13_method_57_code
def yX11_day : MethodName := ⟨RX11, "day", "(II)J"⟩
abbrev cX11_anew : ByteArray := prog_13_method_58_code
def yX11_anew : MethodName := ⟨RX11, "anew", "()J"⟩
abbrev cX11_isAt : ByteArray := prog_13_method_59_code
def yX11_isAt : MethodName := ⟨RX11, "isAt", "(II)Z"⟩
abbrev cX11_mean : ByteArray := prog_13_method_60_code
def yX11_mean : MethodName := ⟨RX11, "mean", "(IZ)J"⟩
abbrev cX11_change : ByteArray := prog_13_method_61_code
def yX11_change : MethodName := ⟨RX11, "change", "(I)J"⟩
abbrev cX11_tell : ByteArray := prog_13_method_62_code
def yX11_tell : MethodName := ⟨RX11, "tell", "(I)J"⟩
abbrev cX11_isFraction : ByteArray := prog_13_method_63_code
def yX11_isFraction : MethodName := ⟨RX11, "isFraction", "(IIJJ)Z"⟩
abbrev cX11_check : ByteArray := prog_13_method_64_code
def yX11_check : MethodName := ⟨RX11, "check", "()J"⟩
abbrev cX11_keep : ByteArray := prog_13_method_65_code
def yX11_keep : MethodName := ⟨RX11, "keep", "()J"⟩
abbrev cX11_back : ByteArray := prog_13_method_66_code
def yX11_back : MethodName := ⟨RX11, "back", "()J"⟩
abbrev cX11_count : ByteArray := prog_13_method_67_code
def yX11_count : MethodName := ⟨RX11, "count", "(I)J"⟩
abbrev cX11_found : ByteArray := prog_13_method_68_code
def yX11_found : MethodName := ⟨RX11, "found", "(I)J"⟩
def RJ6 : String := "java/lang/Integer"
def TJ6 : u_T := fun k => match k with
  | _ => ("", "", "", false)
def tyJ6 : Nat → FieldType := fun k => match k with
  | _ => .int
abbrev wsJ60 : List Cond := u_ws RJ6 TJ6 0
theorem nmJ6 : ∀ a, a < 0 → ∀ b, b < 0 → a ≠ b → (TJ6 a).2.1 ≠ (TJ6 b).2.1 := by decide +kernel
theorem tyJ6_ok : ∀ k, k < 0 → parseFieldDescriptor (TJ6 k).2.2.1 = some (tyJ6 k) := by decide +kernel
abbrev cJ6_bitCount_0f7a4 : ByteArray := prog_14_method_49_code
def yJ6_bitCount_0f7a4 : MethodName := ⟨RJ6, "bitCount", "(I)I"⟩
def RJ13 : String := "java/lang/Long"
def TJ13 : u_T := fun k => match k with
  | _ => ("", "", "", false)
def tyJ13 : Nat → FieldType := fun k => match k with
  | _ => .int
abbrev wsJ130 : List Cond := u_ws RJ13 TJ13 0
theorem nmJ13 : ∀ a, a < 0 → ∀ b, b < 0 → a ≠ b → (TJ13 a).2.1 ≠ (TJ13 b).2.1 := by decide +kernel
theorem tyJ13_ok : ∀ k, k < 0 → parseFieldDescriptor (TJ13 k).2.2.1 = some (tyJ13 k) := by decide +kernel
abbrev cJ13_compare_74951 : ByteArray := prog_15_method_42_code
def yJ13_compare_74951 : MethodName := ⟨RJ13, "compare", "(JJ)I"⟩
def RJ9 : String := "java/lang/Math"
def TJ9 : u_T := fun k => match k with
  | _ => ("", "", "", false)
def tyJ9 : Nat → FieldType := fun k => match k with
  | _ => .int
abbrev wsJ90 : List Cond := u_ws RJ9 TJ9 0
theorem nmJ9 : ∀ a, a < 0 → ∀ b, b < 0 → a ≠ b → (TJ9 a).2.1 ≠ (TJ9 b).2.1 := by decide +kernel
theorem tyJ9_ok : ∀ k, k < 0 → parseFieldDescriptor (TJ9 k).2.2.1 = some (tyJ9 k) := by decide +kernel
abbrev cJ9_floorDiv_f86c9 : ByteArray := prog_16_method_49_code
def yJ9_floorDiv_f86c9 : MethodName := ⟨RJ9, "floorDiv", "(JJ)J"⟩
abbrev cJ9_floorMod_f86c9 : ByteArray := prog_16_method_52_code
def yJ9_floorMod_f86c9 : MethodName := ⟨RJ9, "floorMod", "(JJ)J"⟩
abbrev cJ9_abs_0f7a4 : ByteArray := prog_16_method_59_code
def yJ9_abs_0f7a4 : MethodName := ⟨RJ9, "abs", "(I)I"⟩
abbrev cJ9_abs_067f4 : ByteArray := prog_16_method_61_code
def yJ9_abs_067f4 : MethodName := ⟨RJ9, "abs", "(J)J"⟩
abbrev cJ9_max_7cf53 : ByteArray := prog_16_method_65_code
def yJ9_max_7cf53 : MethodName := ⟨RJ9, "max", "(II)I"⟩
abbrev cJ9_max_f86c9 : ByteArray := prog_16_method_66_code
def yJ9_max_f86c9 : MethodName := ⟨RJ9, "max", "(JJ)J"⟩
abbrev cJ9_min_7cf53 : ByteArray := prog_16_method_69_code
def yJ9_min_7cf53 : MethodName := ⟨RJ9, "min", "(II)I"⟩
def RJ10 : String := "java/lang/System"
def TJ10 : u_T := fun k => match k with
  | _ => ("", "", "", false)
def tyJ10 : Nat → FieldType := fun k => match k with
  | _ => .int
abbrev wsJ100 : List Cond := u_ws RJ10 TJ10 0
theorem nmJ10 : ∀ a, a < 0 → ∀ b, b < 0 → a ≠ b → (TJ10 a).2.1 ≠ (TJ10 b).2.1 := by decide +kernel
theorem tyJ10_ok : ∀ k, k < 0 → parseFieldDescriptor (TJ10 k).2.2.1 = some (tyJ10 k) := by decide +kernel
def RJ7 : String := "java/util/Arrays"
def TJ7 : u_T := fun k => match k with
  | _ => ("", "", "", false)
def tyJ7 : Nat → FieldType := fun k => match k with
  | _ => .int
abbrev wsJ70 : List Cond := u_ws RJ7 TJ7 0
theorem nmJ7 : ∀ a, a < 0 → ∀ b, b < 0 → a ≠ b → (TJ7 a).2.1 ≠ (TJ7 b).2.1 := by decide +kernel
theorem tyJ7_ok : ∀ k, k < 0 → parseFieldDescriptor (TJ7 k).2.2.1 = some (tyJ7 k) := by decide +kernel
abbrev cJ7_fill_d0a16 : ByteArray := prog_18_method_101_code
def yJ7_fill_d0a16 : MethodName := ⟨RJ7, "fill", "([JJ)V"⟩
abbrev cJ7_fill_53178 : ByteArray := prog_18_method_103_code
def yJ7_fill_53178 : MethodName := ⟨RJ7, "fill", "([II)V"⟩
abbrev cJ7_fill_fb410 : ByteArray := prog_18_method_105_code
def yJ7_fill_fb410 : MethodName := ⟨RJ7, "fill", "([SS)V"⟩
def RL : String := "WatchBenchLaw"
abbrev cL_law : ByteArray := code
def yL_law : MethodName := ⟨RL, "law", "([I)Z"⟩
abbrev vwCl : List vw_C := [(RX0, TX0, 2), (RX1, TX1, 6), (RX3, TX3, 3), (RX4, TX4, 5), (RX5, TX5, 2), (RX6, TX6, 6), (RX7, TX7, 3), (RX8, TX8, 4), (RX9, TX9, 1), (RX10, TX10, 12), (RX11, TX11, 27)]
end
section
theorem dX0_init_0 : decode cX0_init 0 = .ok (.aload_n 0, 1) := by decide +kernel
theorem dX0_init_1 : decode cX0_init 1 = .ok (.invokespecial 3, 3) := by decide +kernel
theorem dX0_init_4 : decode cX0_init 4 = .ok (.aload_n 0, 1) := by decide +kernel
theorem dX0_init_5 : decode cX0_init 5 = .ok (.bipush 8, 2) := by decide +kernel
theorem dX0_init_7 : decode cX0_init 7 = .ok (.newarray .int, 2) := by decide +kernel
theorem dX0_init_9 : decode cX0_init 9 = .ok (.putfield 9, 3) := by decide +kernel
theorem dX0_init_12 : decode cX0_init 12 = .ok (.aload_n 0, 1) := by decide +kernel
theorem dX0_init_13 : decode cX0_init 13 = .ok (.new 15, 3) := by decide +kernel
theorem dX0_init_16 : decode cX0_init 16 = .ok (.dup, 1) := by decide +kernel
theorem dX0_init_17 : decode cX0_init 17 = .ok (.bipush 8, 2) := by decide +kernel
theorem dX0_init_19 : decode cX0_init 19 = .ok (.invokespecial 17, 3) := by decide +kernel
theorem dX0_init_22 : decode cX0_init 22 = .ok (.putfield 20, 3) := by decide +kernel
theorem dX0_init_25 : decode cX0_init 25 = .ok (.return_, 1) := by decide +kernel
theorem dX0_isKind_0 : decode cX0_isKind 0 = .ok (.iload_n 0, 1) := by decide +kernel
theorem dX0_isKind_1 : decode cX0_isKind 1 = .ok (.iconst 0, 1) := by decide +kernel
theorem dX0_isKind_2 : decode cX0_isKind 2 = .ok (.iconst 5, 1) := by decide +kernel
theorem dX0_isKind_3 : decode cX0_isKind 3 = .ok (.invokestatic 24, 3) := by decide +kernel
theorem dX0_isKind_6 : decode cX0_isKind 6 = .ok (.ireturn, 1) := by decide +kernel
theorem dX0_allows_0 : decode cX0_allows 0 = .ok (.iload_n 0, 1) := by decide +kernel
theorem dX0_allows_1 : decode cX0_allows 1 = .ok (.tableswitch 91 0 5 #[39, 41, 65, 65, 65, 41], 39) := by decide +kernel
theorem dX0_allows_40 : decode cX0_allows 40 = .ok (.iconst 1, 1) := by decide +kernel
theorem dX0_allows_41 : decode cX0_allows 41 = .ok (.ireturn, 1) := by decide +kernel
theorem dX0_allows_42 : decode cX0_allows 42 = .ok (.iload_n 1, 1) := by decide +kernel
theorem dX0_allows_43 : decode cX0_allows 43 = .ok (.iconst 0, 1) := by decide +kernel
theorem dX0_allows_44 : decode cX0_allows 44 = .ok (.iconst 3, 1) := by decide +kernel
theorem dX0_allows_45 : decode cX0_allows 45 = .ok (.invokestatic 24, 3) := by decide +kernel
theorem dX0_allows_48 : decode cX0_allows 48 = .ok (.ifCond .eq 16, 3) := by decide +kernel
theorem dX0_allows_51 : decode cX0_allows 51 = .ok (.iload_n 2, 1) := by decide +kernel
theorem dX0_allows_52 : decode cX0_allows 52 = .ok (.iconst 1, 1) := by decide +kernel
theorem dX0_allows_53 : decode cX0_allows 53 = .ok (.iconst 3, 1) := by decide +kernel
theorem dX0_allows_54 : decode cX0_allows 54 = .ok (.invokestatic 24, 3) := by decide +kernel
theorem dX0_allows_57 : decode cX0_allows 57 = .ok (.ifCond .eq 7, 3) := by decide +kernel
theorem dX0_allows_60 : decode cX0_allows 60 = .ok (.iconst 1, 1) := by decide +kernel
theorem dX0_allows_61 : decode cX0_allows 61 = .ok (.goto 4, 3) := by decide +kernel
theorem dX0_allows_64 : decode cX0_allows 64 = .ok (.iconst 0, 1) := by decide +kernel
theorem dX0_allows_65 : decode cX0_allows 65 = .ok (.ireturn, 1) := by decide +kernel
theorem dX0_allows_66 : decode cX0_allows 66 = .ok (.iload_n 1, 1) := by decide +kernel
theorem dX0_allows_67 : decode cX0_allows 67 = .ok (.bipush (-2), 2) := by decide +kernel
theorem dX0_allows_69 : decode cX0_allows 69 = .ok (.iconst 2, 1) := by decide +kernel
theorem dX0_allows_70 : decode cX0_allows 70 = .ok (.invokestatic 24, 3) := by decide +kernel
theorem dX0_allows_73 : decode cX0_allows 73 = .ok (.ifCond .eq 17, 3) := by decide +kernel
theorem dX0_allows_76 : decode cX0_allows 76 = .ok (.iload_n 2, 1) := by decide +kernel
theorem dX0_allows_77 : decode cX0_allows 77 = .ok (.bipush (-2), 2) := by decide +kernel
theorem dX0_allows_79 : decode cX0_allows 79 = .ok (.iconst 2, 1) := by decide +kernel
theorem dX0_allows_80 : decode cX0_allows 80 = .ok (.invokestatic 24, 3) := by decide +kernel
theorem dX0_allows_83 : decode cX0_allows 83 = .ok (.ifCond .eq 7, 3) := by decide +kernel
theorem dX0_allows_86 : decode cX0_allows 86 = .ok (.iconst 1, 1) := by decide +kernel
theorem dX0_allows_87 : decode cX0_allows 87 = .ok (.goto 4, 3) := by decide +kernel
theorem dX0_allows_90 : decode cX0_allows 90 = .ok (.iconst 0, 1) := by decide +kernel
theorem dX0_allows_91 : decode cX0_allows 91 = .ok (.ireturn, 1) := by decide +kernel
theorem dX0_allows_92 : decode cX0_allows 92 = .ok (.iconst 0, 1) := by decide +kernel
theorem dX0_allows_93 : decode cX0_allows 93 = .ok (.ireturn, 1) := by decide +kernel
theorem dX0_length_0 : decode cX0_length 0 = .ok (.aload_n 0, 1) := by decide +kernel
theorem dX0_length_1 : decode cX0_length 1 = .ok (.getfield 20, 3) := by decide +kernel
theorem dX0_length_4 : decode cX0_length 4 = .ok (.invokevirtual 30, 3) := by decide +kernel
theorem dX0_length_7 : decode cX0_length 7 = .ok (.ireturn, 1) := by decide +kernel
theorem dX0_has_0 : decode cX0_has 0 = .ok (.aload_n 0, 1) := by decide +kernel
theorem dX0_has_1 : decode cX0_has 1 = .ok (.getfield 20, 3) := by decide +kernel
theorem dX0_has_4 : decode cX0_has 4 = .ok (.iload_n 1, 1) := by decide +kernel
theorem dX0_has_5 : decode cX0_has 5 = .ok (.invokevirtual 34, 3) := by decide +kernel
theorem dX0_has_8 : decode cX0_has 8 = .ok (.ireturn, 1) := by decide +kernel
theorem dX0_isFull_0 : decode cX0_isFull 0 = .ok (.aload_n 0, 1) := by decide +kernel
theorem dX0_isFull_1 : decode cX0_isFull 1 = .ok (.getfield 20, 3) := by decide +kernel
theorem dX0_isFull_4 : decode cX0_isFull 4 = .ok (.invokevirtual 38, 3) := by decide +kernel
theorem dX0_isFull_7 : decode cX0_isFull 7 = .ok (.ireturn, 1) := by decide +kernel
theorem dX0_append_0 : decode cX0_append 0 = .ok (.aload_n 0, 1) := by decide +kernel
theorem dX0_append_1 : decode cX0_append 1 = .ok (.invokevirtual 42, 3) := by decide +kernel
theorem dX0_append_4 : decode cX0_append 4 = .ok (.ifCond .ne 10, 3) := by decide +kernel
theorem dX0_append_7 : decode cX0_append 7 = .ok (.iload_n 1, 1) := by decide +kernel
theorem dX0_append_8 : decode cX0_append 8 = .ok (.invokestatic 43, 3) := by decide +kernel
theorem dX0_append_11 : decode cX0_append 11 = .ok (.ifCond .ne 10, 3) := by decide +kernel
theorem dX0_append_14 : decode cX0_append 14 = .ok (.aload_n 0, 1) := by decide +kernel
theorem dX0_append_15 : decode cX0_append 15 = .ok (.invokevirtual 46, 3) := by decide +kernel
theorem dX0_append_18 : decode cX0_append 18 = .ok (.iconst 1, 1) := by decide +kernel
theorem dX0_append_19 : decode cX0_append 19 = .ok (.isub, 1) := by decide +kernel
theorem dX0_append_20 : decode cX0_append 20 = .ok (.ireturn, 1) := by decide +kernel
theorem dX0_append_21 : decode cX0_append 21 = .ok (.aload_n 0, 1) := by decide +kernel
theorem dX0_append_22 : decode cX0_append 22 = .ok (.getfield 9, 3) := by decide +kernel
theorem dX0_append_25 : decode cX0_append 25 = .ok (.aload_n 0, 1) := by decide +kernel
theorem dX0_append_26 : decode cX0_append 26 = .ok (.invokevirtual 46, 3) := by decide +kernel
theorem dX0_append_29 : decode cX0_append 29 = .ok (.iload_n 1, 1) := by decide +kernel
theorem dX0_append_30 : decode cX0_append 30 = .ok (.iastore, 1) := by decide +kernel
theorem dX0_append_31 : decode cX0_append 31 = .ok (.iload_n 1, 1) := by decide +kernel
theorem dX0_append_32 : decode cX0_append 32 = .ok (.ifCond .ne 15, 3) := by decide +kernel
theorem dX0_append_35 : decode cX0_append 35 = .ok (.aload_n 0, 1) := by decide +kernel
theorem dX0_append_36 : decode cX0_append 36 = .ok (.getfield 20, 3) := by decide +kernel
theorem dX0_append_39 : decode cX0_append 39 = .ok (.iconst 0, 1) := by decide +kernel
theorem dX0_append_40 : decode cX0_append 40 = .ok (.iconst 0, 1) := by decide +kernel
theorem dX0_append_41 : decode cX0_append 41 = .ok (.invokevirtual 47, 3) := by decide +kernel
theorem dX0_append_44 : decode cX0_append 44 = .ok (.goto 12, 3) := by decide +kernel
theorem dX0_append_47 : decode cX0_append 47 = .ok (.aload_n 0, 1) := by decide +kernel
theorem dX0_append_48 : decode cX0_append 48 = .ok (.getfield 20, 3) := by decide +kernel
theorem dX0_append_51 : decode cX0_append 51 = .ok (.iload_n 2, 1) := by decide +kernel
theorem dX0_append_52 : decode cX0_append 52 = .ok (.iload_n 3, 1) := by decide +kernel
theorem dX0_append_53 : decode cX0_append 53 = .ok (.invokevirtual 47, 3) := by decide +kernel
theorem dX0_append_56 : decode cX0_append 56 = .ok (.ireturn, 1) := by decide +kernel
theorem dX0_isOf_0 : decode cX0_isOf 0 = .ok (.aload_n 0, 1) := by decide +kernel
theorem dX0_isOf_1 : decode cX0_isOf 1 = .ok (.iload_n 1, 1) := by decide +kernel
theorem dX0_isOf_2 : decode cX0_isOf 2 = .ok (.invokevirtual 51, 3) := by decide +kernel
theorem dX0_isOf_5 : decode cX0_isOf 5 = .ok (.ifCond .ne 5, 3) := by decide +kernel
theorem dX0_isOf_8 : decode cX0_isOf 8 = .ok (.iconst 0, 1) := by decide +kernel
theorem dX0_isOf_9 : decode cX0_isOf 9 = .ok (.ireturn, 1) := by decide +kernel
theorem dX0_isOf_10 : decode cX0_isOf 10 = .ok (.aload_n 0, 1) := by decide +kernel
theorem dX0_isOf_11 : decode cX0_isOf 11 = .ok (.getfield 9, 3) := by decide +kernel
theorem dX0_isOf_14 : decode cX0_isOf 14 = .ok (.iload_n 1, 1) := by decide +kernel
theorem dX0_isOf_15 : decode cX0_isOf 15 = .ok (.iaload, 1) := by decide +kernel
theorem dX0_isOf_16 : decode cX0_isOf 16 = .ok (.istore_n 3, 1) := by decide +kernel
theorem dX0_isOf_17 : decode cX0_isOf 17 = .ok (.iconst 0, 1) := by decide +kernel
theorem dX0_isOf_18 : decode cX0_isOf 18 = .ok (.istore 4, 2) := by decide +kernel
theorem dX0_isOf_20 : decode cX0_isOf 20 = .ok (.iload 4, 2) := by decide +kernel
theorem dX0_isOf_22 : decode cX0_isOf 22 = .ok (.getstatic 52, 3) := by decide +kernel
theorem dX0_isOf_25 : decode cX0_isOf 25 = .ok (.arraylength, 1) := by decide +kernel
theorem dX0_isOf_26 : decode cX0_isOf 26 = .ok (.if_icmp .ge 27, 3) := by decide +kernel
theorem dX0_isOf_29 : decode cX0_isOf 29 = .ok (.iload_n 3, 1) := by decide +kernel
theorem dX0_isOf_30 : decode cX0_isOf 30 = .ok (.iload_n 2, 1) := by decide +kernel
theorem dX0_isOf_31 : decode cX0_isOf 31 = .ok (.if_icmp .eq 22, 3) := by decide +kernel
theorem dX0_isOf_34 : decode cX0_isOf 34 = .ok (.iload_n 3, 1) := by decide +kernel
theorem dX0_isOf_35 : decode cX0_isOf 35 = .ok (.invokestatic 43, 3) := by decide +kernel
theorem dX0_isOf_38 : decode cX0_isOf 38 = .ok (.ifCond .eq 15, 3) := by decide +kernel
theorem dX0_isOf_41 : decode cX0_isOf 41 = .ok (.getstatic 52, 3) := by decide +kernel
theorem dX0_isOf_44 : decode cX0_isOf 44 = .ok (.iload_n 3, 1) := by decide +kernel
theorem dX0_isOf_45 : decode cX0_isOf 45 = .ok (.iaload, 1) := by decide +kernel
theorem dX0_isOf_46 : decode cX0_isOf 46 = .ok (.istore_n 3, 1) := by decide +kernel
theorem dX0_isOf_47 : decode cX0_isOf 47 = .ok (.iinc 4 1, 3) := by decide +kernel
theorem dX0_isOf_50 : decode cX0_isOf 50 = .ok (.goto (-30), 3) := by decide +kernel
theorem dX0_isOf_53 : decode cX0_isOf 53 = .ok (.iload_n 3, 1) := by decide +kernel
theorem dX0_isOf_54 : decode cX0_isOf 54 = .ok (.iload_n 2, 1) := by decide +kernel
theorem dX0_isOf_55 : decode cX0_isOf 55 = .ok (.if_icmp .ne 7, 3) := by decide +kernel
theorem dX0_isOf_58 : decode cX0_isOf 58 = .ok (.iconst 1, 1) := by decide +kernel
theorem dX0_isOf_59 : decode cX0_isOf 59 = .ok (.goto 4, 3) := by decide +kernel
theorem dX0_isOf_62 : decode cX0_isOf 62 = .ok (.iconst 0, 1) := by decide +kernel
theorem dX0_isOf_63 : decode cX0_isOf 63 = .ok (.ireturn, 1) := by decide +kernel
theorem dX0_numberA_0 : decode cX0_numberA 0 = .ok (.aload_n 0, 1) := by decide +kernel
theorem dX0_numberA_1 : decode cX0_numberA 1 = .ok (.getfield 20, 3) := by decide +kernel
theorem dX0_numberA_4 : decode cX0_numberA 4 = .ok (.iload_n 1, 1) := by decide +kernel
theorem dX0_numberA_5 : decode cX0_numberA 5 = .ok (.invokevirtual 55, 3) := by decide +kernel
theorem dX0_numberA_8 : decode cX0_numberA 8 = .ok (.ireturn, 1) := by decide +kernel
theorem dX0_shownIn_0 : decode cX0_shownIn 0 = .ok (.aload_n 0, 1) := by decide +kernel
theorem dX0_shownIn_1 : decode cX0_shownIn 1 = .ok (.iload_n 1, 1) := by decide +kernel
theorem dX0_shownIn_2 : decode cX0_shownIn 2 = .ok (.invokevirtual 51, 3) := by decide +kernel
theorem dX0_shownIn_5 : decode cX0_shownIn 5 = .ok (.ifCond .eq 10, 3) := by decide +kernel
theorem dX0_shownIn_8 : decode cX0_shownIn 8 = .ok (.iload_n 2, 1) := by decide +kernel
theorem dX0_shownIn_9 : decode cX0_shownIn 9 = .ok (.invokestatic 59, 3) := by decide +kernel
theorem dX0_shownIn_12 : decode cX0_shownIn 12 = .ok (.ifCond .ne 5, 3) := by decide +kernel
theorem dX0_shownIn_15 : decode cX0_shownIn 15 = .ok (.iconst 0, 1) := by decide +kernel
theorem dX0_shownIn_16 : decode cX0_shownIn 16 = .ok (.ireturn, 1) := by decide +kernel
theorem dX0_shownIn_17 : decode cX0_shownIn 17 = .ok (.aload_n 0, 1) := by decide +kernel
theorem dX0_shownIn_18 : decode cX0_shownIn 18 = .ok (.getfield 20, 3) := by decide +kernel
theorem dX0_shownIn_21 : decode cX0_shownIn 21 = .ok (.iload_n 1, 1) := by decide +kernel
theorem dX0_shownIn_22 : decode cX0_shownIn 22 = .ok (.invokevirtual 55, 3) := by decide +kernel
theorem dX0_shownIn_25 : decode cX0_shownIn 25 = .ok (.istore_n 3, 1) := by decide +kernel
theorem dX0_shownIn_26 : decode cX0_shownIn 26 = .ok (.aload_n 0, 1) := by decide +kernel
theorem dX0_shownIn_27 : decode cX0_shownIn 27 = .ok (.getfield 20, 3) := by decide +kernel
theorem dX0_shownIn_30 : decode cX0_shownIn 30 = .ok (.iload_n 1, 1) := by decide +kernel
theorem dX0_shownIn_31 : decode cX0_shownIn 31 = .ok (.invokevirtual 62, 3) := by decide +kernel
theorem dX0_shownIn_34 : decode cX0_shownIn 34 = .ok (.istore 4, 2) := by decide +kernel
theorem dX0_shownIn_36 : decode cX0_shownIn 36 = .ok (.iload_n 2, 1) := by decide +kernel
theorem dX0_shownIn_37 : decode cX0_shownIn 37 = .ok (.bipush 6, 2) := by decide +kernel
theorem dX0_shownIn_39 : decode cX0_shownIn 39 = .ok (.idiv, 1) := by decide +kernel
theorem dX0_shownIn_40 : decode cX0_shownIn 40 = .ok (.istore 5, 2) := by decide +kernel
theorem dX0_shownIn_42 : decode cX0_shownIn 42 = .ok (.iload_n 2, 1) := by decide +kernel
theorem dX0_shownIn_43 : decode cX0_shownIn 43 = .ok (.bipush 6, 2) := by decide +kernel
theorem dX0_shownIn_45 : decode cX0_shownIn 45 = .ok (.irem, 1) := by decide +kernel
theorem dX0_shownIn_46 : decode cX0_shownIn 46 = .ok (.iconst 3, 1) := by decide +kernel
theorem dX0_shownIn_47 : decode cX0_shownIn 47 = .ok (.if_icmp .ge 7, 3) := by decide +kernel
theorem dX0_shownIn_50 : decode cX0_shownIn 50 = .ok (.iconst 1, 1) := by decide +kernel
theorem dX0_shownIn_51 : decode cX0_shownIn 51 = .ok (.goto 4, 3) := by decide +kernel
theorem dX0_shownIn_54 : decode cX0_shownIn 54 = .ok (.iconst 0, 1) := by decide +kernel
theorem dX0_shownIn_55 : decode cX0_shownIn 55 = .ok (.istore 6, 2) := by decide +kernel
theorem dX0_shownIn_57 : decode cX0_shownIn 57 = .ok (.iload_n 2, 1) := by decide +kernel
theorem dX0_shownIn_58 : decode cX0_shownIn 58 = .ok (.iconst 3, 1) := by decide +kernel
theorem dX0_shownIn_59 : decode cX0_shownIn 59 = .ok (.irem, 1) := by decide +kernel
theorem dX0_shownIn_60 : decode cX0_shownIn 60 = .ok (.istore 7, 2) := by decide +kernel
theorem dX0_shownIn_62 : decode cX0_shownIn 62 = .ok (.aload_n 0, 1) := by decide +kernel
theorem dX0_shownIn_63 : decode cX0_shownIn 63 = .ok (.getfield 9, 3) := by decide +kernel
theorem dX0_shownIn_66 : decode cX0_shownIn 66 = .ok (.iload_n 1, 1) := by decide +kernel
theorem dX0_shownIn_67 : decode cX0_shownIn 67 = .ok (.iaload, 1) := by decide +kernel
theorem dX0_shownIn_68 : decode cX0_shownIn 68 = .ok (.tableswitch 111 1 5 #[36, 46, 58, 81, 101], 36) := by decide +kernel
theorem dX0_shownIn_104 : decode cX0_shownIn 104 = .ok (.iload 5, 2) := by decide +kernel
theorem dX0_shownIn_106 : decode cX0_shownIn 106 = .ok (.iload_n 3, 1) := by decide +kernel
theorem dX0_shownIn_107 : decode cX0_shownIn 107 = .ok (.iload 4, 2) := by decide +kernel
theorem dX0_shownIn_109 : decode cX0_shownIn 109 = .ok (.iconst 0, 1) := by decide +kernel
theorem dX0_shownIn_110 : decode cX0_shownIn 110 = .ok (.invokestatic 65, 3) := by decide +kernel
theorem dX0_shownIn_113 : decode cX0_shownIn 113 = .ok (.ireturn, 1) := by decide +kernel
theorem dX0_shownIn_114 : decode cX0_shownIn 114 = .ok (.iload 6, 2) := by decide +kernel
theorem dX0_shownIn_116 : decode cX0_shownIn 116 = .ok (.ifCond .eq 7, 3) := by decide +kernel
theorem dX0_shownIn_119 : decode cX0_shownIn 119 = .ok (.iload_n 3, 1) := by decide +kernel
theorem dX0_shownIn_120 : decode cX0_shownIn 120 = .ok (.goto 5, 3) := by decide +kernel
theorem dX0_shownIn_123 : decode cX0_shownIn 123 = .ok (.iload 4, 2) := by decide +kernel
theorem dX0_shownIn_125 : decode cX0_shownIn 125 = .ok (.ireturn, 1) := by decide +kernel
theorem dX0_shownIn_126 : decode cX0_shownIn 126 = .ok (.iload 6, 2) := by decide +kernel
theorem dX0_shownIn_128 : decode cX0_shownIn 128 = .ok (.ifCond .eq 7, 3) := by decide +kernel
theorem dX0_shownIn_131 : decode cX0_shownIn 131 = .ok (.iload_n 3, 1) := by decide +kernel
theorem dX0_shownIn_132 : decode cX0_shownIn 132 = .ok (.goto 5, 3) := by decide +kernel
theorem dX0_shownIn_135 : decode cX0_shownIn 135 = .ok (.iload 4, 2) := by decide +kernel
theorem dX0_shownIn_137 : decode cX0_shownIn 137 = .ok (.iload 7, 2) := by decide +kernel
theorem dX0_shownIn_139 : decode cX0_shownIn 139 = .ok (.ifCond .ne 7, 3) := by decide +kernel
theorem dX0_shownIn_142 : decode cX0_shownIn 142 = .ok (.iconst 1, 1) := by decide +kernel
theorem dX0_shownIn_143 : decode cX0_shownIn 143 = .ok (.goto 4, 3) := by decide +kernel
theorem dX0_shownIn_146 : decode cX0_shownIn 146 = .ok (.iconst 0, 1) := by decide +kernel
theorem dX0_shownIn_147 : decode cX0_shownIn 147 = .ok (.iadd, 1) := by decide +kernel
theorem dX0_shownIn_148 : decode cX0_shownIn 148 = .ok (.ireturn, 1) := by decide +kernel
theorem dX0_shownIn_149 : decode cX0_shownIn 149 = .ok (.iload_n 3, 1) := by decide +kernel
theorem dX0_shownIn_150 : decode cX0_shownIn 150 = .ok (.iload 7, 2) := by decide +kernel
theorem dX0_shownIn_152 : decode cX0_shownIn 152 = .ok (.iconst 1, 1) := by decide +kernel
theorem dX0_shownIn_153 : decode cX0_shownIn 153 = .ok (.isub, 1) := by decide +kernel
theorem dX0_shownIn_154 : decode cX0_shownIn 154 = .ok (.imul, 1) := by decide +kernel
theorem dX0_shownIn_155 : decode cX0_shownIn 155 = .ok (.iload 7, 2) := by decide +kernel
theorem dX0_shownIn_157 : decode cX0_shownIn 157 = .ok (.iconst 1, 1) := by decide +kernel
theorem dX0_shownIn_158 : decode cX0_shownIn 158 = .ok (.if_icmp .ne 8, 3) := by decide +kernel
theorem dX0_shownIn_161 : decode cX0_shownIn 161 = .ok (.iload 4, 2) := by decide +kernel
theorem dX0_shownIn_163 : decode cX0_shownIn 163 = .ok (.goto 4, 3) := by decide +kernel
theorem dX0_shownIn_166 : decode cX0_shownIn 166 = .ok (.iconst 0, 1) := by decide +kernel
theorem dX0_shownIn_167 : decode cX0_shownIn 167 = .ok (.iadd, 1) := by decide +kernel
theorem dX0_shownIn_168 : decode cX0_shownIn 168 = .ok (.ireturn, 1) := by decide +kernel
theorem dX0_shownIn_169 : decode cX0_shownIn 169 = .ok (.iload 5, 2) := by decide +kernel
theorem dX0_shownIn_171 : decode cX0_shownIn 171 = .ok (.iload_n 3, 1) := by decide +kernel
theorem dX0_shownIn_172 : decode cX0_shownIn 172 = .ok (.iload 4, 2) := by decide +kernel
theorem dX0_shownIn_174 : decode cX0_shownIn 174 = .ok (.iconst 1, 1) := by decide +kernel
theorem dX0_shownIn_175 : decode cX0_shownIn 175 = .ok (.invokestatic 65, 3) := by decide +kernel
theorem dX0_shownIn_178 : decode cX0_shownIn 178 = .ok (.ireturn, 1) := by decide +kernel
theorem dX0_shownIn_179 : decode cX0_shownIn 179 = .ok (.iconst 1, 1) := by decide +kernel
theorem dX0_shownIn_180 : decode cX0_shownIn 180 = .ok (.ireturn, 1) := by decide +kernel
theorem dX0_hanging_0 : decode cX0_hanging 0 = .ok (.iload_n 0, 1) := by decide +kernel
theorem dX0_hanging_1 : decode cX0_hanging 1 = .ok (.iconst 2, 1) := by decide +kernel
theorem dX0_hanging_2 : decode cX0_hanging 2 = .ok (.if_icmp .ge 5, 3) := by decide +kernel
theorem dX0_hanging_5 : decode cX0_hanging 5 = .ok (.iconst 0, 1) := by decide +kernel
theorem dX0_hanging_6 : decode cX0_hanging 6 = .ok (.ireturn, 1) := by decide +kernel
theorem dX0_hanging_7 : decode cX0_hanging 7 = .ok (.iload_n 0, 1) := by decide +kernel
theorem dX0_hanging_8 : decode cX0_hanging 8 = .ok (.iconst 2, 1) := by decide +kernel
theorem dX0_hanging_9 : decode cX0_hanging 9 = .ok (.isub, 1) := by decide +kernel
theorem dX0_hanging_10 : decode cX0_hanging 10 = .ok (.iload_n 1, 1) := by decide +kernel
theorem dX0_hanging_11 : decode cX0_hanging 11 = .ok (.isub, 1) := by decide +kernel
theorem dX0_hanging_12 : decode cX0_hanging 12 = .ok (.iconst 4, 1) := by decide +kernel
theorem dX0_hanging_13 : decode cX0_hanging 13 = .ok (.iadd, 1) := by decide +kernel
theorem dX0_hanging_14 : decode cX0_hanging 14 = .ok (.iconst 4, 1) := by decide +kernel
theorem dX0_hanging_15 : decode cX0_hanging 15 = .ok (.irem, 1) := by decide +kernel
theorem dX0_hanging_16 : decode cX0_hanging 16 = .ok (.istore 4, 2) := by decide +kernel
theorem dX0_hanging_18 : decode cX0_hanging 18 = .ok (.iload 4, 2) := by decide +kernel
theorem dX0_hanging_20 : decode cX0_hanging 20 = .ok (.ifCond .ne 5, 3) := by decide +kernel
theorem dX0_hanging_23 : decode cX0_hanging 23 = .ok (.iload_n 2, 1) := by decide +kernel
theorem dX0_hanging_24 : decode cX0_hanging 24 = .ok (.ireturn, 1) := by decide +kernel
theorem dX0_hanging_25 : decode cX0_hanging 25 = .ok (.iload 4, 2) := by decide +kernel
theorem dX0_hanging_27 : decode cX0_hanging 27 = .ok (.iconst 2, 1) := by decide +kernel
theorem dX0_hanging_28 : decode cX0_hanging 28 = .ok (.if_icmp .ne 8, 3) := by decide +kernel
theorem dX0_hanging_31 : decode cX0_hanging 31 = .ok (.iload_n 2, 1) := by decide +kernel
theorem dX0_hanging_32 : decode cX0_hanging 32 = .ok (.ineg, 1) := by decide +kernel
theorem dX0_hanging_33 : decode cX0_hanging 33 = .ok (.goto 4, 3) := by decide +kernel
theorem dX0_hanging_36 : decode cX0_hanging 36 = .ok (.iload_n 3, 1) := by decide +kernel
theorem dX0_hanging_37 : decode cX0_hanging 37 = .ok (.ireturn, 1) := by decide +kernel
theorem dX0_copyFrom_0 : decode cX0_copyFrom 0 = .ok (.aload_n 1, 1) := by decide +kernel
theorem dX0_copyFrom_1 : decode cX0_copyFrom 1 = .ok (.getfield 9, 3) := by decide +kernel
theorem dX0_copyFrom_4 : decode cX0_copyFrom 4 = .ok (.iconst 0, 1) := by decide +kernel
theorem dX0_copyFrom_5 : decode cX0_copyFrom 5 = .ok (.aload_n 0, 1) := by decide +kernel
theorem dX0_copyFrom_6 : decode cX0_copyFrom 6 = .ok (.getfield 9, 3) := by decide +kernel
theorem dX0_copyFrom_9 : decode cX0_copyFrom 9 = .ok (.iconst 0, 1) := by decide +kernel
theorem dX0_copyFrom_10 : decode cX0_copyFrom 10 = .ok (.bipush 8, 2) := by decide +kernel
theorem dX0_copyFrom_12 : decode cX0_copyFrom 12 = .ok (.invokestatic 69, 3) := by decide +kernel
theorem dX0_copyFrom_15 : decode cX0_copyFrom 15 = .ok (.aload_n 0, 1) := by decide +kernel
theorem dX0_copyFrom_16 : decode cX0_copyFrom 16 = .ok (.getfield 20, 3) := by decide +kernel
theorem dX0_copyFrom_19 : decode cX0_copyFrom 19 = .ok (.aload_n 1, 1) := by decide +kernel
theorem dX0_copyFrom_20 : decode cX0_copyFrom 20 = .ok (.getfield 20, 3) := by decide +kernel
theorem dX0_copyFrom_23 : decode cX0_copyFrom 23 = .ok (.invokevirtual 75, 3) := by decide +kernel
theorem dX0_copyFrom_26 : decode cX0_copyFrom 26 = .ok (.return_, 1) := by decide +kernel
theorem dX1_init_0 : decode cX1_init 0 = .ok (.aload_n 0, 1) := by decide +kernel
theorem dX1_init_1 : decode cX1_init 1 = .ok (.invokespecial 3, 3) := by decide +kernel
theorem dX1_init_4 : decode cX1_init 4 = .ok (.aload_n 0, 1) := by decide +kernel
theorem dX1_init_5 : decode cX1_init 5 = .ok (.bipush 36, 2) := by decide +kernel
theorem dX1_init_7 : decode cX1_init 7 = .ok (.newarray .long, 2) := by decide +kernel
theorem dX1_init_9 : decode cX1_init 9 = .ok (.putfield 9, 3) := by decide +kernel
theorem dX1_init_12 : decode cX1_init 12 = .ok (.aload_n 0, 1) := by decide +kernel
theorem dX1_init_13 : decode cX1_init 13 = .ok (.sipush 288, 3) := by decide +kernel
theorem dX1_init_16 : decode cX1_init 16 = .ok (.newarray .long, 2) := by decide +kernel
theorem dX1_init_18 : decode cX1_init 18 = .ok (.putfield 15, 3) := by decide +kernel
theorem dX1_init_21 : decode cX1_init 21 = .ok (.return_, 1) := by decide +kernel
theorem dX1_prepare_0 : decode cX1_prepare 0 = .ok (.aload_n 0, 1) := by decide +kernel
theorem dX1_prepare_1 : decode cX1_prepare 1 = .ok (.iconst 0, 1) := by decide +kernel
theorem dX1_prepare_2 : decode cX1_prepare 2 = .ok (.putfield 18, 3) := by decide +kernel
theorem dX1_prepare_5 : decode cX1_prepare 5 = .ok (.aload_n 0, 1) := by decide +kernel
theorem dX1_prepare_6 : decode cX1_prepare 6 = .ok (.aload_n 1, 1) := by decide +kernel
theorem dX1_prepare_7 : decode cX1_prepare 7 = .ok (.getfield 22, 3) := by decide +kernel
theorem dX1_prepare_10 : decode cX1_prepare 10 = .ok (.invokevirtual 28, 3) := by decide +kernel
theorem dX1_prepare_13 : decode cX1_prepare 13 = .ok (.bipush 8, 2) := by decide +kernel
theorem dX1_prepare_15 : decode cX1_prepare 15 = .ok (.invokestatic 34, 3) := by decide +kernel
theorem dX1_prepare_18 : decode cX1_prepare 18 = .ok (.putfield 40, 3) := by decide +kernel
theorem dX1_prepare_21 : decode cX1_prepare 21 = .ok (.iconst 0, 1) := by decide +kernel
theorem dX1_prepare_22 : decode cX1_prepare 22 = .ok (.istore_n 3, 1) := by decide +kernel
theorem dX1_prepare_23 : decode cX1_prepare 23 = .ok (.iload_n 3, 1) := by decide +kernel
theorem dX1_prepare_24 : decode cX1_prepare 24 = .ok (.bipush 36, 2) := by decide +kernel
theorem dX1_prepare_26 : decode cX1_prepare 26 = .ok (.if_icmp .ge 89, 3) := by decide +kernel
theorem dX1_prepare_29 : decode cX1_prepare 29 = .ok (.aload_n 1, 1) := by decide +kernel
theorem dX1_prepare_30 : decode cX1_prepare 30 = .ok (.getfield 42, 3) := by decide +kernel
theorem dX1_prepare_33 : decode cX1_prepare 33 = .ok (.iload_n 3, 1) := by decide +kernel
theorem dX1_prepare_34 : decode cX1_prepare 34 = .ok (.invokevirtual 46, 3) := by decide +kernel
theorem dX1_prepare_37 : decode cX1_prepare 37 = .ok (.ifCond .eq 72, 3) := by decide +kernel
theorem dX1_prepare_40 : decode cX1_prepare 40 = .ok (.aload_n 0, 1) := by decide +kernel
theorem dX1_prepare_41 : decode cX1_prepare 41 = .ok (.getfield 9, 3) := by decide +kernel
theorem dX1_prepare_44 : decode cX1_prepare 44 = .ok (.aload_n 0, 1) := by decide +kernel
theorem dX1_prepare_45 : decode cX1_prepare 45 = .ok (.getfield 18, 3) := by decide +kernel
theorem dX1_prepare_48 : decode cX1_prepare 48 = .ok (.aload_n 2, 1) := by decide +kernel
theorem dX1_prepare_49 : decode cX1_prepare 49 = .ok (.iload_n 3, 1) := by decide +kernel
theorem dX1_prepare_50 : decode cX1_prepare 50 = .ok (.aload_n 1, 1) := by decide +kernel
theorem dX1_prepare_51 : decode cX1_prepare 51 = .ok (.getfield 52, 3) := by decide +kernel
theorem dX1_prepare_54 : decode cX1_prepare 54 = .ok (.invokevirtual 56, 3) := by decide +kernel
theorem dX1_prepare_57 : decode cX1_prepare 57 = .ok (.lastore, 1) := by decide +kernel
theorem dX1_prepare_58 : decode cX1_prepare 58 = .ok (.iconst 0, 1) := by decide +kernel
theorem dX1_prepare_59 : decode cX1_prepare 59 = .ok (.istore 4, 2) := by decide +kernel
theorem dX1_prepare_61 : decode cX1_prepare 61 = .ok (.iload 4, 2) := by decide +kernel
theorem dX1_prepare_63 : decode cX1_prepare 63 = .ok (.aload_n 0, 1) := by decide +kernel
theorem dX1_prepare_64 : decode cX1_prepare 64 = .ok (.getfield 40, 3) := by decide +kernel
theorem dX1_prepare_67 : decode cX1_prepare 67 = .ok (.if_icmp .ge 32, 3) := by decide +kernel
theorem dX1_prepare_70 : decode cX1_prepare 70 = .ok (.aload_n 0, 1) := by decide +kernel
theorem dX1_prepare_71 : decode cX1_prepare 71 = .ok (.getfield 15, 3) := by decide +kernel
theorem dX1_prepare_74 : decode cX1_prepare 74 = .ok (.iload 4, 2) := by decide +kernel
theorem dX1_prepare_76 : decode cX1_prepare 76 = .ok (.bipush 36, 2) := by decide +kernel
theorem dX1_prepare_78 : decode cX1_prepare 78 = .ok (.imul, 1) := by decide +kernel
theorem dX1_prepare_79 : decode cX1_prepare 79 = .ok (.aload_n 0, 1) := by decide +kernel
theorem dX1_prepare_80 : decode cX1_prepare 80 = .ok (.getfield 18, 3) := by decide +kernel
theorem dX1_prepare_83 : decode cX1_prepare 83 = .ok (.iadd, 1) := by decide +kernel
theorem dX1_prepare_84 : decode cX1_prepare 84 = .ok (.aload_n 2, 1) := by decide +kernel
theorem dX1_prepare_85 : decode cX1_prepare 85 = .ok (.iload_n 3, 1) := by decide +kernel
theorem dX1_prepare_86 : decode cX1_prepare 86 = .ok (.iload 4, 2) := by decide +kernel
theorem dX1_prepare_88 : decode cX1_prepare 88 = .ok (.aload_n 1, 1) := by decide +kernel
theorem dX1_prepare_89 : decode cX1_prepare 89 = .ok (.invokevirtual 62, 3) := by decide +kernel
theorem dX1_prepare_92 : decode cX1_prepare 92 = .ok (.lastore, 1) := by decide +kernel
theorem dX1_prepare_93 : decode cX1_prepare 93 = .ok (.iinc 4 1, 3) := by decide +kernel
theorem dX1_prepare_96 : decode cX1_prepare 96 = .ok (.goto (-35), 3) := by decide +kernel
theorem dX1_prepare_99 : decode cX1_prepare 99 = .ok (.aload_n 0, 1) := by decide +kernel
theorem dX1_prepare_100 : decode cX1_prepare 100 = .ok (.dup, 1) := by decide +kernel
theorem dX1_prepare_101 : decode cX1_prepare 101 = .ok (.getfield 18, 3) := by decide +kernel
theorem dX1_prepare_104 : decode cX1_prepare 104 = .ok (.iconst 1, 1) := by decide +kernel
theorem dX1_prepare_105 : decode cX1_prepare 105 = .ok (.iadd, 1) := by decide +kernel
theorem dX1_prepare_106 : decode cX1_prepare 106 = .ok (.putfield 18, 3) := by decide +kernel
theorem dX1_prepare_109 : decode cX1_prepare 109 = .ok (.iinc 3 1, 3) := by decide +kernel
theorem dX1_prepare_112 : decode cX1_prepare 112 = .ok (.goto (-89), 3) := by decide +kernel
theorem dX1_prepare_115 : decode cX1_prepare 115 = .ok (.return_, 1) := by decide +kernel
theorem dX1_run_0 : decode cX1_run 0 = .ok (.aload_n 0, 1) := by decide +kernel
theorem dX1_run_1 : decode cX1_run 1 = .ok (.ldc2_w 68, 3) := by decide +kernel
theorem dX1_run_4 : decode cX1_run 4 = .ok (.putfield 70, 3) := by decide +kernel
theorem dX1_run_7 : decode cX1_run 7 = .ok (.aload_n 0, 1) := by decide +kernel
theorem dX1_run_8 : decode cX1_run 8 = .ok (.iconst (-1), 1) := by decide +kernel
theorem dX1_run_9 : decode cX1_run 9 = .ok (.iconst 0, 1) := by decide +kernel
theorem dX1_run_10 : decode cX1_run 10 = .ok (.iconst (-1), 1) := by decide +kernel
theorem dX1_run_11 : decode cX1_run 11 = .ok (.iconst 0, 1) := by decide +kernel
theorem dX1_run_12 : decode cX1_run 12 = .ok (.invokevirtual 74, 3) := by decide +kernel
theorem dX1_run_15 : decode cX1_run 15 = .ok (.iconst 0, 1) := by decide +kernel
theorem dX1_run_16 : decode cX1_run 16 = .ok (.istore_n 1, 1) := by decide +kernel
theorem dX1_run_17 : decode cX1_run 17 = .ok (.iload_n 1, 1) := by decide +kernel
theorem dX1_run_18 : decode cX1_run 18 = .ok (.aload_n 0, 1) := by decide +kernel
theorem dX1_run_19 : decode cX1_run 19 = .ok (.getfield 40, 3) := by decide +kernel
theorem dX1_run_22 : decode cX1_run 22 = .ok (.if_icmp .ge 35, 3) := by decide +kernel
theorem dX1_run_25 : decode cX1_run 25 = .ok (.bipush (-3), 2) := by decide +kernel
theorem dX1_run_27 : decode cX1_run 27 = .ok (.istore_n 2, 1) := by decide +kernel
theorem dX1_run_28 : decode cX1_run 28 = .ok (.iload_n 2, 1) := by decide +kernel
theorem dX1_run_29 : decode cX1_run 29 = .ok (.iconst 3, 1) := by decide +kernel
theorem dX1_run_30 : decode cX1_run 30 = .ok (.if_icmp .gt 21, 3) := by decide +kernel
theorem dX1_run_33 : decode cX1_run 33 = .ok (.iload_n 2, 1) := by decide +kernel
theorem dX1_run_34 : decode cX1_run 34 = .ok (.ifCond .eq 11, 3) := by decide +kernel
theorem dX1_run_37 : decode cX1_run 37 = .ok (.aload_n 0, 1) := by decide +kernel
theorem dX1_run_38 : decode cX1_run 38 = .ok (.iload_n 1, 1) := by decide +kernel
theorem dX1_run_39 : decode cX1_run 39 = .ok (.iload_n 2, 1) := by decide +kernel
theorem dX1_run_40 : decode cX1_run 40 = .ok (.iconst (-1), 1) := by decide +kernel
theorem dX1_run_41 : decode cX1_run 41 = .ok (.iconst 0, 1) := by decide +kernel
theorem dX1_run_42 : decode cX1_run 42 = .ok (.invokevirtual 74, 3) := by decide +kernel
theorem dX1_run_45 : decode cX1_run 45 = .ok (.iinc 2 1, 3) := by decide +kernel
theorem dX1_run_48 : decode cX1_run 48 = .ok (.goto (-20), 3) := by decide +kernel
theorem dX1_run_51 : decode cX1_run 51 = .ok (.iinc 1 1, 3) := by decide +kernel
theorem dX1_run_54 : decode cX1_run 54 = .ok (.goto (-37), 3) := by decide +kernel
theorem dX1_run_57 : decode cX1_run 57 = .ok (.iconst 0, 1) := by decide +kernel
theorem dX1_run_58 : decode cX1_run 58 = .ok (.istore_n 1, 1) := by decide +kernel
theorem dX1_run_59 : decode cX1_run 59 = .ok (.iload_n 1, 1) := by decide +kernel
theorem dX1_run_60 : decode cX1_run 60 = .ok (.aload_n 0, 1) := by decide +kernel
theorem dX1_run_61 : decode cX1_run 61 = .ok (.getfield 40, 3) := by decide +kernel
theorem dX1_run_64 : decode cX1_run 64 = .ok (.if_icmp .ge 33, 3) := by decide +kernel
theorem dX1_run_67 : decode cX1_run 67 = .ok (.bipush (-3), 2) := by decide +kernel
theorem dX1_run_69 : decode cX1_run 69 = .ok (.istore_n 2, 1) := by decide +kernel
theorem dX1_run_70 : decode cX1_run 70 = .ok (.iload_n 2, 1) := by decide +kernel
theorem dX1_run_71 : decode cX1_run 71 = .ok (.iconst 3, 1) := by decide +kernel
theorem dX1_run_72 : decode cX1_run 72 = .ok (.if_icmp .gt 19, 3) := by decide +kernel
theorem dX1_run_75 : decode cX1_run 75 = .ok (.iload_n 2, 1) := by decide +kernel
theorem dX1_run_76 : decode cX1_run 76 = .ok (.ifCond .eq 9, 3) := by decide +kernel
theorem dX1_run_79 : decode cX1_run 79 = .ok (.aload_n 0, 1) := by decide +kernel
theorem dX1_run_80 : decode cX1_run 80 = .ok (.iload_n 1, 1) := by decide +kernel
theorem dX1_run_81 : decode cX1_run 81 = .ok (.iload_n 2, 1) := by decide +kernel
theorem dX1_run_82 : decode cX1_run 82 = .ok (.invokevirtual 78, 3) := by decide +kernel
theorem dX1_run_85 : decode cX1_run 85 = .ok (.iinc 2 1, 3) := by decide +kernel
theorem dX1_run_88 : decode cX1_run 88 = .ok (.goto (-18), 3) := by decide +kernel
theorem dX1_run_91 : decode cX1_run 91 = .ok (.iinc 1 1, 3) := by decide +kernel
theorem dX1_run_94 : decode cX1_run 94 = .ok (.goto (-35), 3) := by decide +kernel
theorem dX1_run_97 : decode cX1_run 97 = .ok (.aload_n 0, 1) := by decide +kernel
theorem dX1_run_98 : decode cX1_run 98 = .ok (.getfield 82, 3) := by decide +kernel
theorem dX1_run_101 : decode cX1_run 101 = .ok (.lreturn, 1) := by decide +kernel
theorem dX1_trySecond_0 : decode cX1_trySecond 0 = .ok (.iload_n 1, 1) := by decide +kernel
theorem dX1_trySecond_1 : decode cX1_trySecond 1 = .ok (.iconst 1, 1) := by decide +kernel
theorem dX1_trySecond_2 : decode cX1_trySecond 2 = .ok (.iadd, 1) := by decide +kernel
theorem dX1_trySecond_3 : decode cX1_trySecond 3 = .ok (.istore_n 3, 1) := by decide +kernel
theorem dX1_trySecond_4 : decode cX1_trySecond 4 = .ok (.iload_n 3, 1) := by decide +kernel
theorem dX1_trySecond_5 : decode cX1_trySecond 5 = .ok (.aload_n 0, 1) := by decide +kernel
theorem dX1_trySecond_6 : decode cX1_trySecond 6 = .ok (.getfield 40, 3) := by decide +kernel
theorem dX1_trySecond_9 : decode cX1_trySecond 9 = .ok (.if_icmp .ge 39, 3) := by decide +kernel
theorem dX1_trySecond_12 : decode cX1_trySecond 12 = .ok (.bipush (-3), 2) := by decide +kernel
theorem dX1_trySecond_14 : decode cX1_trySecond 14 = .ok (.istore 4, 2) := by decide +kernel
theorem dX1_trySecond_16 : decode cX1_trySecond 16 = .ok (.iload 4, 2) := by decide +kernel
theorem dX1_trySecond_18 : decode cX1_trySecond 18 = .ok (.iconst 3, 1) := by decide +kernel
theorem dX1_trySecond_19 : decode cX1_trySecond 19 = .ok (.if_icmp .gt 23, 3) := by decide +kernel
theorem dX1_trySecond_22 : decode cX1_trySecond 22 = .ok (.iload 4, 2) := by decide +kernel
theorem dX1_trySecond_24 : decode cX1_trySecond 24 = .ok (.ifCond .eq 12, 3) := by decide +kernel
theorem dX1_trySecond_27 : decode cX1_trySecond 27 = .ok (.aload_n 0, 1) := by decide +kernel
theorem dX1_trySecond_28 : decode cX1_trySecond 28 = .ok (.iload_n 1, 1) := by decide +kernel
theorem dX1_trySecond_29 : decode cX1_trySecond 29 = .ok (.iload_n 2, 1) := by decide +kernel
theorem dX1_trySecond_30 : decode cX1_trySecond 30 = .ok (.iload_n 3, 1) := by decide +kernel
theorem dX1_trySecond_31 : decode cX1_trySecond 31 = .ok (.iload 4, 2) := by decide +kernel
theorem dX1_trySecond_33 : decode cX1_trySecond 33 = .ok (.invokevirtual 74, 3) := by decide +kernel
theorem dX1_trySecond_36 : decode cX1_trySecond 36 = .ok (.iinc 4 1, 3) := by decide +kernel
theorem dX1_trySecond_39 : decode cX1_trySecond 39 = .ok (.goto (-23), 3) := by decide +kernel
theorem dX1_trySecond_42 : decode cX1_trySecond 42 = .ok (.iinc 3 1, 3) := by decide +kernel
theorem dX1_trySecond_45 : decode cX1_trySecond 45 = .ok (.goto (-41), 3) := by decide +kernel
theorem dX1_trySecond_48 : decode cX1_trySecond 48 = .ok (.return_, 1) := by decide +kernel
theorem dX1_tryOut_0 : decode cX1_tryOut 0 = .ok (.iconst 0, 1) := by decide +kernel
theorem dX1_tryOut_1 : decode cX1_tryOut 1 = .ok (.iload_n 1, 1) := by decide +kernel
theorem dX1_tryOut_2 : decode cX1_tryOut 2 = .ok (.invokestatic 85, 3) := by decide +kernel
theorem dX1_tryOut_5 : decode cX1_tryOut 5 = .ok (.bipush 36, 2) := by decide +kernel
theorem dX1_tryOut_7 : decode cX1_tryOut 7 = .ok (.imul, 1) := by decide +kernel
theorem dX1_tryOut_8 : decode cX1_tryOut 8 = .ok (.istore 5, 2) := by decide +kernel
theorem dX1_tryOut_10 : decode cX1_tryOut 10 = .ok (.iconst 0, 1) := by decide +kernel
theorem dX1_tryOut_11 : decode cX1_tryOut 11 = .ok (.iload_n 3, 1) := by decide +kernel
theorem dX1_tryOut_12 : decode cX1_tryOut 12 = .ok (.invokestatic 85, 3) := by decide +kernel
theorem dX1_tryOut_15 : decode cX1_tryOut 15 = .ok (.bipush 36, 2) := by decide +kernel
theorem dX1_tryOut_17 : decode cX1_tryOut 17 = .ok (.imul, 1) := by decide +kernel
theorem dX1_tryOut_18 : decode cX1_tryOut 18 = .ok (.istore 6, 2) := by decide +kernel
theorem dX1_tryOut_20 : decode cX1_tryOut 20 = .ok (.lconst 0, 1) := by decide +kernel
theorem dX1_tryOut_21 : decode cX1_tryOut 21 = .ok (.lstore 7, 2) := by decide +kernel
theorem dX1_tryOut_23 : decode cX1_tryOut 23 = .ok (.iconst 0, 1) := by decide +kernel
theorem dX1_tryOut_24 : decode cX1_tryOut 24 = .ok (.istore 9, 2) := by decide +kernel
theorem dX1_tryOut_26 : decode cX1_tryOut 26 = .ok (.iload 9, 2) := by decide +kernel
theorem dX1_tryOut_28 : decode cX1_tryOut 28 = .ok (.aload_n 0, 1) := by decide +kernel
theorem dX1_tryOut_29 : decode cX1_tryOut 29 = .ok (.getfield 18, 3) := by decide +kernel
theorem dX1_tryOut_32 : decode cX1_tryOut 32 = .ok (.if_icmp .ge 70, 3) := by decide +kernel
theorem dX1_tryOut_35 : decode cX1_tryOut 35 = .ok (.aload_n 0, 1) := by decide +kernel
theorem dX1_tryOut_36 : decode cX1_tryOut 36 = .ok (.getfield 9, 3) := by decide +kernel
theorem dX1_tryOut_39 : decode cX1_tryOut 39 = .ok (.iload 9, 2) := by decide +kernel
theorem dX1_tryOut_41 : decode cX1_tryOut 41 = .ok (.laload, 1) := by decide +kernel
theorem dX1_tryOut_42 : decode cX1_tryOut 42 = .ok (.iload_n 2, 1) := by decide +kernel
theorem dX1_tryOut_43 : decode cX1_tryOut 43 = .ok (.i2l, 1) := by decide +kernel
theorem dX1_tryOut_44 : decode cX1_tryOut 44 = .ok (.aload_n 0, 1) := by decide +kernel
theorem dX1_tryOut_45 : decode cX1_tryOut 45 = .ok (.getfield 15, 3) := by decide +kernel
theorem dX1_tryOut_48 : decode cX1_tryOut 48 = .ok (.iload 5, 2) := by decide +kernel
theorem dX1_tryOut_50 : decode cX1_tryOut 50 = .ok (.iload 9, 2) := by decide +kernel
theorem dX1_tryOut_52 : decode cX1_tryOut 52 = .ok (.iadd, 1) := by decide +kernel
theorem dX1_tryOut_53 : decode cX1_tryOut 53 = .ok (.laload, 1) := by decide +kernel
theorem dX1_tryOut_54 : decode cX1_tryOut 54 = .ok (.lmul, 1) := by decide +kernel
theorem dX1_tryOut_55 : decode cX1_tryOut 55 = .ok (.ladd, 1) := by decide +kernel
theorem dX1_tryOut_56 : decode cX1_tryOut 56 = .ok (.iload 4, 2) := by decide +kernel
theorem dX1_tryOut_58 : decode cX1_tryOut 58 = .ok (.i2l, 1) := by decide +kernel
theorem dX1_tryOut_59 : decode cX1_tryOut 59 = .ok (.aload_n 0, 1) := by decide +kernel
theorem dX1_tryOut_60 : decode cX1_tryOut 60 = .ok (.getfield 15, 3) := by decide +kernel
theorem dX1_tryOut_63 : decode cX1_tryOut 63 = .ok (.iload 6, 2) := by decide +kernel
theorem dX1_tryOut_65 : decode cX1_tryOut 65 = .ok (.iload 9, 2) := by decide +kernel
theorem dX1_tryOut_67 : decode cX1_tryOut 67 = .ok (.iadd, 1) := by decide +kernel
theorem dX1_tryOut_68 : decode cX1_tryOut 68 = .ok (.laload, 1) := by decide +kernel
theorem dX1_tryOut_69 : decode cX1_tryOut 69 = .ok (.lmul, 1) := by decide +kernel
theorem dX1_tryOut_70 : decode cX1_tryOut 70 = .ok (.ladd, 1) := by decide +kernel
theorem dX1_tryOut_71 : decode cX1_tryOut 71 = .ok (.invokestatic 88, 3) := by decide +kernel
theorem dX1_tryOut_74 : decode cX1_tryOut 74 = .ok (.lstore 10, 2) := by decide +kernel
theorem dX1_tryOut_76 : decode cX1_tryOut 76 = .ok (.lload 10, 2) := by decide +kernel
theorem dX1_tryOut_78 : decode cX1_tryOut 78 = .ok (.aload_n 0, 1) := by decide +kernel
theorem dX1_tryOut_79 : decode cX1_tryOut 79 = .ok (.getfield 70, 3) := by decide +kernel
theorem dX1_tryOut_82 : decode cX1_tryOut 82 = .ok (.lcmp, 1) := by decide +kernel
theorem dX1_tryOut_83 : decode cX1_tryOut 83 = .ok (.ifCond .lt 4, 3) := by decide +kernel
theorem dX1_tryOut_86 : decode cX1_tryOut 86 = .ok (.return_, 1) := by decide +kernel
theorem dX1_tryOut_87 : decode cX1_tryOut 87 = .ok (.lload 7, 2) := by decide +kernel
theorem dX1_tryOut_89 : decode cX1_tryOut 89 = .ok (.lload 10, 2) := by decide +kernel
theorem dX1_tryOut_91 : decode cX1_tryOut 91 = .ok (.invokestatic 92, 3) := by decide +kernel
theorem dX1_tryOut_94 : decode cX1_tryOut 94 = .ok (.lstore 7, 2) := by decide +kernel
theorem dX1_tryOut_96 : decode cX1_tryOut 96 = .ok (.iinc 9 1, 3) := by decide +kernel
theorem dX1_tryOut_99 : decode cX1_tryOut 99 = .ok (.goto (-73), 3) := by decide +kernel
theorem dX1_tryOut_102 : decode cX1_tryOut 102 = .ok (.aload_n 0, 1) := by decide +kernel
theorem dX1_tryOut_103 : decode cX1_tryOut 103 = .ok (.lload 7, 2) := by decide +kernel
theorem dX1_tryOut_105 : decode cX1_tryOut 105 = .ok (.putfield 70, 3) := by decide +kernel
theorem dX1_tryOut_108 : decode cX1_tryOut 108 = .ok (.aload_n 0, 1) := by decide +kernel
theorem dX1_tryOut_109 : decode cX1_tryOut 109 = .ok (.sipush 10000, 3) := by decide +kernel
theorem dX1_tryOut_112 : decode cX1_tryOut 112 = .ok (.iload_n 1, 1) := by decide +kernel
theorem dX1_tryOut_113 : decode cX1_tryOut 113 = .ok (.iconst 1, 1) := by decide +kernel
theorem dX1_tryOut_114 : decode cX1_tryOut 114 = .ok (.iadd, 1) := by decide +kernel
theorem dX1_tryOut_115 : decode cX1_tryOut 115 = .ok (.imul, 1) := by decide +kernel
theorem dX1_tryOut_116 : decode cX1_tryOut 116 = .ok (.sipush 1000, 3) := by decide +kernel
theorem dX1_tryOut_119 : decode cX1_tryOut 119 = .ok (.iload_n 2, 1) := by decide +kernel
theorem dX1_tryOut_120 : decode cX1_tryOut 120 = .ok (.iconst 3, 1) := by decide +kernel
theorem dX1_tryOut_121 : decode cX1_tryOut 121 = .ok (.iadd, 1) := by decide +kernel
theorem dX1_tryOut_122 : decode cX1_tryOut 122 = .ok (.imul, 1) := by decide +kernel
theorem dX1_tryOut_123 : decode cX1_tryOut 123 = .ok (.iadd, 1) := by decide +kernel
theorem dX1_tryOut_124 : decode cX1_tryOut 124 = .ok (.bipush 10, 2) := by decide +kernel
theorem dX1_tryOut_126 : decode cX1_tryOut 126 = .ok (.iload_n 3, 1) := by decide +kernel
theorem dX1_tryOut_127 : decode cX1_tryOut 127 = .ok (.iconst 1, 1) := by decide +kernel
theorem dX1_tryOut_128 : decode cX1_tryOut 128 = .ok (.iadd, 1) := by decide +kernel
theorem dX1_tryOut_129 : decode cX1_tryOut 129 = .ok (.imul, 1) := by decide +kernel
theorem dX1_tryOut_130 : decode cX1_tryOut 130 = .ok (.iadd, 1) := by decide +kernel
theorem dX1_tryOut_131 : decode cX1_tryOut 131 = .ok (.iload 4, 2) := by decide +kernel
theorem dX1_tryOut_133 : decode cX1_tryOut 133 = .ok (.iconst 3, 1) := by decide +kernel
theorem dX1_tryOut_134 : decode cX1_tryOut 134 = .ok (.iadd, 1) := by decide +kernel
theorem dX1_tryOut_135 : decode cX1_tryOut 135 = .ok (.iadd, 1) := by decide +kernel
theorem dX1_tryOut_136 : decode cX1_tryOut 136 = .ok (.i2l, 1) := by decide +kernel
theorem dX1_tryOut_137 : decode cX1_tryOut 137 = .ok (.putfield 82, 3) := by decide +kernel
theorem dX1_tryOut_140 : decode cX1_tryOut 140 = .ok (.return_, 1) := by decide +kernel
theorem dX2_within_0 : decode cX2_within 0 = .ok (.iload_n 0, 1) := by decide +kernel
theorem dX2_within_1 : decode cX2_within 1 = .ok (.iload_n 1, 1) := by decide +kernel
theorem dX2_within_2 : decode cX2_within 2 = .ok (.if_icmp .lt 12, 3) := by decide +kernel
theorem dX2_within_5 : decode cX2_within 5 = .ok (.iload_n 0, 1) := by decide +kernel
theorem dX2_within_6 : decode cX2_within 6 = .ok (.iload_n 2, 1) := by decide +kernel
theorem dX2_within_7 : decode cX2_within 7 = .ok (.if_icmp .gt 7, 3) := by decide +kernel
theorem dX2_within_10 : decode cX2_within 10 = .ok (.iconst 1, 1) := by decide +kernel
theorem dX2_within_11 : decode cX2_within 11 = .ok (.goto 4, 3) := by decide +kernel
theorem dX2_within_14 : decode cX2_within 14 = .ok (.iconst 0, 1) := by decide +kernel
theorem dX2_within_15 : decode cX2_within 15 = .ok (.ireturn, 1) := by decide +kernel
theorem dX2_lowest_0 : decode cX2_lowest 0 = .ok (.iload 4, 2) := by decide +kernel
theorem dX2_lowest_2 : decode cX2_lowest 2 = .ok (.ifCond .eq 7, 3) := by decide +kernel
theorem dX2_lowest_5 : decode cX2_lowest 5 = .ok (.lload_n 2, 1) := by decide +kernel
theorem dX2_lowest_6 : decode cX2_lowest 6 = .ok (.goto 4, 3) := by decide +kernel
theorem dX2_lowest_9 : decode cX2_lowest 9 = .ok (.lload_n 0, 1) := by decide +kernel
theorem dX2_lowest_10 : decode cX2_lowest 10 = .ok (.lstore 5, 2) := by decide +kernel
theorem dX2_lowest_12 : decode cX2_lowest 12 = .ok (.lload_n 0, 1) := by decide +kernel
theorem dX2_lowest_13 : decode cX2_lowest 13 = .ok (.invokestatic 7, 3) := by decide +kernel
theorem dX2_lowest_16 : decode cX2_lowest 16 = .ok (.lload_n 2, 1) := by decide +kernel
theorem dX2_lowest_17 : decode cX2_lowest 17 = .ok (.invokestatic 13, 3) := by decide +kernel
theorem dX2_lowest_20 : decode cX2_lowest 20 = .ok (.lstore 7, 2) := by decide +kernel
theorem dX2_lowest_22 : decode cX2_lowest 22 = .ok (.lload 7, 2) := by decide +kernel
theorem dX2_lowest_24 : decode cX2_lowest 24 = .ok (.lconst 1, 1) := by decide +kernel
theorem dX2_lowest_25 : decode cX2_lowest 25 = .ok (.lcmp, 1) := by decide +kernel
theorem dX2_lowest_26 : decode cX2_lowest 26 = .ok (.ifCond .le 11, 3) := by decide +kernel
theorem dX2_lowest_29 : decode cX2_lowest 29 = .ok (.lload 5, 2) := by decide +kernel
theorem dX2_lowest_31 : decode cX2_lowest 31 = .ok (.lload 7, 2) := by decide +kernel
theorem dX2_lowest_33 : decode cX2_lowest 33 = .ok (.ldiv, 1) := by decide +kernel
theorem dX2_lowest_34 : decode cX2_lowest 34 = .ok (.goto 5, 3) := by decide +kernel
theorem dX2_lowest_37 : decode cX2_lowest 37 = .ok (.lload 5, 2) := by decide +kernel
theorem dX2_lowest_39 : decode cX2_lowest 39 = .ok (.lreturn, 1) := by decide +kernel
theorem dX2_commonOf_0 : decode cX2_commonOf 0 = .ok (.iconst 0, 1) := by decide +kernel
theorem dX2_commonOf_1 : decode cX2_commonOf 1 = .ok (.istore 4, 2) := by decide +kernel
theorem dX2_commonOf_3 : decode cX2_commonOf 3 = .ok (.iload 4, 2) := by decide +kernel
theorem dX2_commonOf_5 : decode cX2_commonOf 5 = .ok (.bipush 100, 2) := by decide +kernel
theorem dX2_commonOf_7 : decode cX2_commonOf 7 = .ok (.if_icmp .ge 25, 3) := by decide +kernel
theorem dX2_commonOf_10 : decode cX2_commonOf 10 = .ok (.lload_n 2, 1) := by decide +kernel
theorem dX2_commonOf_11 : decode cX2_commonOf 11 = .ok (.lconst 0, 1) := by decide +kernel
theorem dX2_commonOf_12 : decode cX2_commonOf 12 = .ok (.lcmp, 1) := by decide +kernel
theorem dX2_commonOf_13 : decode cX2_commonOf 13 = .ok (.ifCond .eq 19, 3) := by decide +kernel
theorem dX2_commonOf_16 : decode cX2_commonOf 16 = .ok (.lload_n 0, 1) := by decide +kernel
theorem dX2_commonOf_17 : decode cX2_commonOf 17 = .ok (.lload_n 2, 1) := by decide +kernel
theorem dX2_commonOf_18 : decode cX2_commonOf 18 = .ok (.lrem, 1) := by decide +kernel
theorem dX2_commonOf_19 : decode cX2_commonOf 19 = .ok (.lstore 5, 2) := by decide +kernel
theorem dX2_commonOf_21 : decode cX2_commonOf 21 = .ok (.lload_n 2, 1) := by decide +kernel
theorem dX2_commonOf_22 : decode cX2_commonOf 22 = .ok (.lstore_n 0, 1) := by decide +kernel
theorem dX2_commonOf_23 : decode cX2_commonOf 23 = .ok (.lload 5, 2) := by decide +kernel
theorem dX2_commonOf_25 : decode cX2_commonOf 25 = .ok (.lstore_n 2, 1) := by decide +kernel
theorem dX2_commonOf_26 : decode cX2_commonOf 26 = .ok (.iinc 4 1, 3) := by decide +kernel
theorem dX2_commonOf_29 : decode cX2_commonOf 29 = .ok (.goto (-26), 3) := by decide +kernel
theorem dX2_commonOf_32 : decode cX2_commonOf 32 = .ok (.lload_n 0, 1) := by decide +kernel
theorem dX2_commonOf_33 : decode cX2_commonOf 33 = .ok (.lreturn, 1) := by decide +kernel
theorem dX2_order_0 : decode cX2_order 0 = .ok (.iconst 0, 1) := by decide +kernel
theorem dX2_order_1 : decode cX2_order 1 = .ok (.istore 8, 2) := by decide +kernel
theorem dX2_order_3 : decode cX2_order 3 = .ok (.iload 8, 2) := by decide +kernel
theorem dX2_order_5 : decode cX2_order 5 = .ok (.bipush 100, 2) := by decide +kernel
theorem dX2_order_7 : decode cX2_order 7 = .ok (.if_icmp .ge 107, 3) := by decide +kernel
theorem dX2_order_10 : decode cX2_order 10 = .ok (.lload_n 2, 1) := by decide +kernel
theorem dX2_order_11 : decode cX2_order 11 = .ok (.lconst 0, 1) := by decide +kernel
theorem dX2_order_12 : decode cX2_order 12 = .ok (.lcmp, 1) := by decide +kernel
theorem dX2_order_13 : decode cX2_order 13 = .ok (.ifCond .le 101, 3) := by decide +kernel
theorem dX2_order_16 : decode cX2_order 16 = .ok (.lload 6, 2) := by decide +kernel
theorem dX2_order_18 : decode cX2_order 18 = .ok (.lconst 0, 1) := by decide +kernel
theorem dX2_order_19 : decode cX2_order 19 = .ok (.lcmp, 1) := by decide +kernel
theorem dX2_order_20 : decode cX2_order 20 = .ok (.ifCond .le 94, 3) := by decide +kernel
theorem dX2_order_23 : decode cX2_order 23 = .ok (.lload_n 0, 1) := by decide +kernel
theorem dX2_order_24 : decode cX2_order 24 = .ok (.lload_n 2, 1) := by decide +kernel
theorem dX2_order_25 : decode cX2_order 25 = .ok (.invokestatic 19, 3) := by decide +kernel
theorem dX2_order_28 : decode cX2_order 28 = .ok (.lstore 9, 2) := by decide +kernel
theorem dX2_order_30 : decode cX2_order 30 = .ok (.lload 4, 2) := by decide +kernel
theorem dX2_order_32 : decode cX2_order 32 = .ok (.lload 6, 2) := by decide +kernel
theorem dX2_order_34 : decode cX2_order 34 = .ok (.invokestatic 19, 3) := by decide +kernel
theorem dX2_order_37 : decode cX2_order 37 = .ok (.lstore 11, 2) := by decide +kernel
theorem dX2_order_39 : decode cX2_order 39 = .ok (.lload 9, 2) := by decide +kernel
theorem dX2_order_41 : decode cX2_order 41 = .ok (.lload 11, 2) := by decide +kernel
theorem dX2_order_43 : decode cX2_order 43 = .ok (.lcmp, 1) := by decide +kernel
theorem dX2_order_44 : decode cX2_order 44 = .ok (.ifCond .eq 11, 3) := by decide +kernel
theorem dX2_order_47 : decode cX2_order 47 = .ok (.lload 9, 2) := by decide +kernel
theorem dX2_order_49 : decode cX2_order 49 = .ok (.lload 11, 2) := by decide +kernel
theorem dX2_order_51 : decode cX2_order 51 = .ok (.invokestatic 22, 3) := by decide +kernel
theorem dX2_order_54 : decode cX2_order 54 = .ok (.ireturn, 1) := by decide +kernel
theorem dX2_order_55 : decode cX2_order 55 = .ok (.lload_n 0, 1) := by decide +kernel
theorem dX2_order_56 : decode cX2_order 56 = .ok (.lload 9, 2) := by decide +kernel
theorem dX2_order_58 : decode cX2_order 58 = .ok (.lload_n 2, 1) := by decide +kernel
theorem dX2_order_59 : decode cX2_order 59 = .ok (.lmul, 1) := by decide +kernel
theorem dX2_order_60 : decode cX2_order 60 = .ok (.lsub, 1) := by decide +kernel
theorem dX2_order_61 : decode cX2_order 61 = .ok (.lstore 13, 2) := by decide +kernel
theorem dX2_order_63 : decode cX2_order 63 = .ok (.lload 4, 2) := by decide +kernel
theorem dX2_order_65 : decode cX2_order 65 = .ok (.lload 11, 2) := by decide +kernel
theorem dX2_order_67 : decode cX2_order 67 = .ok (.lload 6, 2) := by decide +kernel
theorem dX2_order_69 : decode cX2_order 69 = .ok (.lmul, 1) := by decide +kernel
theorem dX2_order_70 : decode cX2_order 70 = .ok (.lsub, 1) := by decide +kernel
theorem dX2_order_71 : decode cX2_order 71 = .ok (.lstore 15, 2) := by decide +kernel
theorem dX2_order_73 : decode cX2_order 73 = .ok (.lload 13, 2) := by decide +kernel
theorem dX2_order_75 : decode cX2_order 75 = .ok (.lconst 0, 1) := by decide +kernel
theorem dX2_order_76 : decode cX2_order 76 = .ok (.lcmp, 1) := by decide +kernel
theorem dX2_order_77 : decode cX2_order 77 = .ok (.ifCond .eq 10, 3) := by decide +kernel
theorem dX2_order_80 : decode cX2_order 80 = .ok (.lload 15, 2) := by decide +kernel
theorem dX2_order_82 : decode cX2_order 82 = .ok (.lconst 0, 1) := by decide +kernel
theorem dX2_order_83 : decode cX2_order 83 = .ok (.lcmp, 1) := by decide +kernel
theorem dX2_order_84 : decode cX2_order 84 = .ok (.ifCond .ne 11, 3) := by decide +kernel
theorem dX2_order_87 : decode cX2_order 87 = .ok (.lload 13, 2) := by decide +kernel
theorem dX2_order_89 : decode cX2_order 89 = .ok (.lload 15, 2) := by decide +kernel
theorem dX2_order_91 : decode cX2_order 91 = .ok (.invokestatic 22, 3) := by decide +kernel
theorem dX2_order_94 : decode cX2_order 94 = .ok (.ireturn, 1) := by decide +kernel
theorem dX2_order_95 : decode cX2_order 95 = .ok (.lload 6, 2) := by decide +kernel
theorem dX2_order_97 : decode cX2_order 97 = .ok (.lstore_n 0, 1) := by decide +kernel
theorem dX2_order_98 : decode cX2_order 98 = .ok (.lload_n 2, 1) := by decide +kernel
theorem dX2_order_99 : decode cX2_order 99 = .ok (.lstore 4, 2) := by decide +kernel
theorem dX2_order_101 : decode cX2_order 101 = .ok (.lload 15, 2) := by decide +kernel
theorem dX2_order_103 : decode cX2_order 103 = .ok (.lstore_n 2, 1) := by decide +kernel
theorem dX2_order_104 : decode cX2_order 104 = .ok (.lload 13, 2) := by decide +kernel
theorem dX2_order_106 : decode cX2_order 106 = .ok (.lstore 6, 2) := by decide +kernel
theorem dX2_order_108 : decode cX2_order 108 = .ok (.iinc 8 1, 3) := by decide +kernel
theorem dX2_order_111 : decode cX2_order 111 = .ok (.goto (-108), 3) := by decide +kernel
theorem dX2_order_114 : decode cX2_order 114 = .ok (.iconst 0, 1) := by decide +kernel
theorem dX2_order_115 : decode cX2_order 115 = .ok (.ireturn, 1) := by decide +kernel
theorem dX3_init_0 : decode cX3_init 0 = .ok (.aload_n 0, 1) := by decide +kernel
theorem dX3_init_1 : decode cX3_init 1 = .ok (.invokespecial 1, 3) := by decide +kernel
theorem dX3_init_4 : decode cX3_init 4 = .ok (.iconst 0, 1) := by decide +kernel
theorem dX3_init_5 : decode cX3_init 5 = .ok (.iload_n 1, 1) := by decide +kernel
theorem dX3_init_6 : decode cX3_init 6 = .ok (.invokestatic 7, 3) := by decide +kernel
theorem dX3_init_9 : decode cX3_init 9 = .ok (.istore_n 2, 1) := by decide +kernel
theorem dX3_init_10 : decode cX3_init 10 = .ok (.aload_n 0, 1) := by decide +kernel
theorem dX3_init_11 : decode cX3_init 11 = .ok (.iload_n 2, 1) := by decide +kernel
theorem dX3_init_12 : decode cX3_init 12 = .ok (.newarray .int, 2) := by decide +kernel
theorem dX3_init_14 : decode cX3_init 14 = .ok (.putfield 13, 3) := by decide +kernel
theorem dX3_init_17 : decode cX3_init 17 = .ok (.aload_n 0, 1) := by decide +kernel
theorem dX3_init_18 : decode cX3_init 18 = .ok (.iload_n 2, 1) := by decide +kernel
theorem dX3_init_19 : decode cX3_init 19 = .ok (.newarray .int, 2) := by decide +kernel
theorem dX3_init_21 : decode cX3_init 21 = .ok (.putfield 19, 3) := by decide +kernel
theorem dX3_init_24 : decode cX3_init 24 = .ok (.return_, 1) := by decide +kernel
theorem dX3_length_0 : decode cX3_length 0 = .ok (.aload_n 0, 1) := by decide +kernel
theorem dX3_length_1 : decode cX3_length 1 = .ok (.getfield 22, 3) := by decide +kernel
theorem dX3_length_4 : decode cX3_length 4 = .ok (.ireturn, 1) := by decide +kernel
theorem dX3_has_0 : decode cX3_has 0 = .ok (.iload_n 1, 1) := by decide +kernel
theorem dX3_has_1 : decode cX3_has 1 = .ok (.ifCond .lt 15, 3) := by decide +kernel
theorem dX3_has_4 : decode cX3_has 4 = .ok (.iload_n 1, 1) := by decide +kernel
theorem dX3_has_5 : decode cX3_has 5 = .ok (.aload_n 0, 1) := by decide +kernel
theorem dX3_has_6 : decode cX3_has 6 = .ok (.getfield 22, 3) := by decide +kernel
theorem dX3_has_9 : decode cX3_has 9 = .ok (.if_icmp .ge 7, 3) := by decide +kernel
theorem dX3_has_12 : decode cX3_has 12 = .ok (.iconst 1, 1) := by decide +kernel
theorem dX3_has_13 : decode cX3_has 13 = .ok (.goto 4, 3) := by decide +kernel
theorem dX3_has_16 : decode cX3_has 16 = .ok (.iconst 0, 1) := by decide +kernel
theorem dX3_has_17 : decode cX3_has 17 = .ok (.ireturn, 1) := by decide +kernel
theorem dX3_isFull_0 : decode cX3_isFull 0 = .ok (.aload_n 0, 1) := by decide +kernel
theorem dX3_isFull_1 : decode cX3_isFull 1 = .ok (.getfield 22, 3) := by decide +kernel
theorem dX3_isFull_4 : decode cX3_isFull 4 = .ok (.aload_n 0, 1) := by decide +kernel
theorem dX3_isFull_5 : decode cX3_isFull 5 = .ok (.getfield 13, 3) := by decide +kernel
theorem dX3_isFull_8 : decode cX3_isFull 8 = .ok (.arraylength, 1) := by decide +kernel
theorem dX3_isFull_9 : decode cX3_isFull 9 = .ok (.if_icmp .lt 7, 3) := by decide +kernel
theorem dX3_isFull_12 : decode cX3_isFull 12 = .ok (.iconst 1, 1) := by decide +kernel
theorem dX3_isFull_13 : decode cX3_isFull 13 = .ok (.goto 4, 3) := by decide +kernel
theorem dX3_isFull_16 : decode cX3_isFull 16 = .ok (.iconst 0, 1) := by decide +kernel
theorem dX3_isFull_17 : decode cX3_isFull 17 = .ok (.ireturn, 1) := by decide +kernel
theorem dX3_first_0 : decode cX3_first 0 = .ok (.aload_n 0, 1) := by decide +kernel
theorem dX3_first_1 : decode cX3_first 1 = .ok (.iload_n 1, 1) := by decide +kernel
theorem dX3_first_2 : decode cX3_first 2 = .ok (.invokevirtual 26, 3) := by decide +kernel
theorem dX3_first_5 : decode cX3_first 5 = .ok (.ifCond .eq 12, 3) := by decide +kernel
theorem dX3_first_8 : decode cX3_first 8 = .ok (.aload_n 0, 1) := by decide +kernel
theorem dX3_first_9 : decode cX3_first 9 = .ok (.getfield 13, 3) := by decide +kernel
theorem dX3_first_12 : decode cX3_first 12 = .ok (.iload_n 1, 1) := by decide +kernel
theorem dX3_first_13 : decode cX3_first 13 = .ok (.iaload, 1) := by decide +kernel
theorem dX3_first_14 : decode cX3_first 14 = .ok (.goto 4, 3) := by decide +kernel
theorem dX3_first_17 : decode cX3_first 17 = .ok (.iconst 0, 1) := by decide +kernel
theorem dX3_first_18 : decode cX3_first 18 = .ok (.ireturn, 1) := by decide +kernel
theorem dX3_second_0 : decode cX3_second 0 = .ok (.aload_n 0, 1) := by decide +kernel
theorem dX3_second_1 : decode cX3_second 1 = .ok (.iload_n 1, 1) := by decide +kernel
theorem dX3_second_2 : decode cX3_second 2 = .ok (.invokevirtual 26, 3) := by decide +kernel
theorem dX3_second_5 : decode cX3_second 5 = .ok (.ifCond .eq 12, 3) := by decide +kernel
theorem dX3_second_8 : decode cX3_second 8 = .ok (.aload_n 0, 1) := by decide +kernel
theorem dX3_second_9 : decode cX3_second 9 = .ok (.getfield 19, 3) := by decide +kernel
theorem dX3_second_12 : decode cX3_second 12 = .ok (.iload_n 1, 1) := by decide +kernel
theorem dX3_second_13 : decode cX3_second 13 = .ok (.iaload, 1) := by decide +kernel
theorem dX3_second_14 : decode cX3_second 14 = .ok (.goto 4, 3) := by decide +kernel
theorem dX3_second_17 : decode cX3_second 17 = .ok (.iconst 0, 1) := by decide +kernel
theorem dX3_second_18 : decode cX3_second 18 = .ok (.ireturn, 1) := by decide +kernel
theorem dX3_append_0 : decode cX3_append 0 = .ok (.aload_n 0, 1) := by decide +kernel
theorem dX3_append_1 : decode cX3_append 1 = .ok (.invokevirtual 30, 3) := by decide +kernel
theorem dX3_append_4 : decode cX3_append 4 = .ok (.ifCond .ne 33, 3) := by decide +kernel
theorem dX3_append_7 : decode cX3_append 7 = .ok (.aload_n 0, 1) := by decide +kernel
theorem dX3_append_8 : decode cX3_append 8 = .ok (.getfield 13, 3) := by decide +kernel
theorem dX3_append_11 : decode cX3_append 11 = .ok (.aload_n 0, 1) := by decide +kernel
theorem dX3_append_12 : decode cX3_append 12 = .ok (.getfield 22, 3) := by decide +kernel
theorem dX3_append_15 : decode cX3_append 15 = .ok (.iload_n 1, 1) := by decide +kernel
theorem dX3_append_16 : decode cX3_append 16 = .ok (.iastore, 1) := by decide +kernel
theorem dX3_append_17 : decode cX3_append 17 = .ok (.aload_n 0, 1) := by decide +kernel
theorem dX3_append_18 : decode cX3_append 18 = .ok (.getfield 19, 3) := by decide +kernel
theorem dX3_append_21 : decode cX3_append 21 = .ok (.aload_n 0, 1) := by decide +kernel
theorem dX3_append_22 : decode cX3_append 22 = .ok (.getfield 22, 3) := by decide +kernel
theorem dX3_append_25 : decode cX3_append 25 = .ok (.iload_n 2, 1) := by decide +kernel
theorem dX3_append_26 : decode cX3_append 26 = .ok (.iastore, 1) := by decide +kernel
theorem dX3_append_27 : decode cX3_append 27 = .ok (.aload_n 0, 1) := by decide +kernel
theorem dX3_append_28 : decode cX3_append 28 = .ok (.dup, 1) := by decide +kernel
theorem dX3_append_29 : decode cX3_append 29 = .ok (.getfield 22, 3) := by decide +kernel
theorem dX3_append_32 : decode cX3_append 32 = .ok (.iconst 1, 1) := by decide +kernel
end
section
theorem dX3_append_33 : decode cX3_append 33 = .ok (.iadd, 1) := by decide +kernel
theorem dX3_append_34 : decode cX3_append 34 = .ok (.putfield 22, 3) := by decide +kernel
theorem dX3_append_37 : decode cX3_append 37 = .ok (.aload_n 0, 1) := by decide +kernel
theorem dX3_append_38 : decode cX3_append 38 = .ok (.getfield 22, 3) := by decide +kernel
theorem dX3_append_41 : decode cX3_append 41 = .ok (.iconst 1, 1) := by decide +kernel
theorem dX3_append_42 : decode cX3_append 42 = .ok (.isub, 1) := by decide +kernel
theorem dX3_append_43 : decode cX3_append 43 = .ok (.ireturn, 1) := by decide +kernel
theorem dX3_removeAt_0 : decode cX3_removeAt 0 = .ok (.aload_n 0, 1) := by decide +kernel
theorem dX3_removeAt_1 : decode cX3_removeAt 1 = .ok (.iload_n 1, 1) := by decide +kernel
theorem dX3_removeAt_2 : decode cX3_removeAt 2 = .ok (.invokevirtual 26, 3) := by decide +kernel
theorem dX3_removeAt_5 : decode cX3_removeAt 5 = .ok (.ifCond .eq 57, 3) := by decide +kernel
theorem dX3_removeAt_8 : decode cX3_removeAt 8 = .ok (.aload_n 0, 1) := by decide +kernel
theorem dX3_removeAt_9 : decode cX3_removeAt 9 = .ok (.dup, 1) := by decide +kernel
theorem dX3_removeAt_10 : decode cX3_removeAt 10 = .ok (.getfield 22, 3) := by decide +kernel
theorem dX3_removeAt_13 : decode cX3_removeAt 13 = .ok (.iconst 1, 1) := by decide +kernel
theorem dX3_removeAt_14 : decode cX3_removeAt 14 = .ok (.isub, 1) := by decide +kernel
theorem dX3_removeAt_15 : decode cX3_removeAt 15 = .ok (.putfield 22, 3) := by decide +kernel
theorem dX3_removeAt_18 : decode cX3_removeAt 18 = .ok (.iload_n 1, 1) := by decide +kernel
theorem dX3_removeAt_19 : decode cX3_removeAt 19 = .ok (.istore_n 2, 1) := by decide +kernel
theorem dX3_removeAt_20 : decode cX3_removeAt 20 = .ok (.iload_n 2, 1) := by decide +kernel
theorem dX3_removeAt_21 : decode cX3_removeAt 21 = .ok (.aload_n 0, 1) := by decide +kernel
theorem dX3_removeAt_22 : decode cX3_removeAt 22 = .ok (.getfield 22, 3) := by decide +kernel
theorem dX3_removeAt_25 : decode cX3_removeAt 25 = .ok (.if_icmp .ge 37, 3) := by decide +kernel
theorem dX3_removeAt_28 : decode cX3_removeAt 28 = .ok (.aload_n 0, 1) := by decide +kernel
theorem dX3_removeAt_29 : decode cX3_removeAt 29 = .ok (.getfield 13, 3) := by decide +kernel
theorem dX3_removeAt_32 : decode cX3_removeAt 32 = .ok (.iload_n 2, 1) := by decide +kernel
theorem dX3_removeAt_33 : decode cX3_removeAt 33 = .ok (.aload_n 0, 1) := by decide +kernel
theorem dX3_removeAt_34 : decode cX3_removeAt 34 = .ok (.getfield 13, 3) := by decide +kernel
theorem dX3_removeAt_37 : decode cX3_removeAt 37 = .ok (.iload_n 2, 1) := by decide +kernel
theorem dX3_removeAt_38 : decode cX3_removeAt 38 = .ok (.iconst 1, 1) := by decide +kernel
theorem dX3_removeAt_39 : decode cX3_removeAt 39 = .ok (.iadd, 1) := by decide +kernel
theorem dX3_removeAt_40 : decode cX3_removeAt 40 = .ok (.iaload, 1) := by decide +kernel
theorem dX3_removeAt_41 : decode cX3_removeAt 41 = .ok (.iastore, 1) := by decide +kernel
theorem dX3_removeAt_42 : decode cX3_removeAt 42 = .ok (.aload_n 0, 1) := by decide +kernel
theorem dX3_removeAt_43 : decode cX3_removeAt 43 = .ok (.getfield 19, 3) := by decide +kernel
theorem dX3_removeAt_46 : decode cX3_removeAt 46 = .ok (.iload_n 2, 1) := by decide +kernel
theorem dX3_removeAt_47 : decode cX3_removeAt 47 = .ok (.aload_n 0, 1) := by decide +kernel
theorem dX3_removeAt_48 : decode cX3_removeAt 48 = .ok (.getfield 19, 3) := by decide +kernel
theorem dX3_removeAt_51 : decode cX3_removeAt 51 = .ok (.iload_n 2, 1) := by decide +kernel
theorem dX3_removeAt_52 : decode cX3_removeAt 52 = .ok (.iconst 1, 1) := by decide +kernel
theorem dX3_removeAt_53 : decode cX3_removeAt 53 = .ok (.iadd, 1) := by decide +kernel
theorem dX3_removeAt_54 : decode cX3_removeAt 54 = .ok (.iaload, 1) := by decide +kernel
theorem dX3_removeAt_55 : decode cX3_removeAt 55 = .ok (.iastore, 1) := by decide +kernel
theorem dX3_removeAt_56 : decode cX3_removeAt 56 = .ok (.iinc 2 1, 3) := by decide +kernel
theorem dX3_removeAt_59 : decode cX3_removeAt 59 = .ok (.goto (-39), 3) := by decide +kernel
theorem dX3_removeAt_62 : decode cX3_removeAt 62 = .ok (.return_, 1) := by decide +kernel
theorem dX3_clear_0 : decode cX3_clear 0 = .ok (.aload_n 0, 1) := by decide +kernel
theorem dX3_clear_1 : decode cX3_clear 1 = .ok (.iconst 0, 1) := by decide +kernel
theorem dX3_clear_2 : decode cX3_clear 2 = .ok (.putfield 22, 3) := by decide +kernel
theorem dX3_clear_5 : decode cX3_clear 5 = .ok (.return_, 1) := by decide +kernel
theorem dX3_copyFrom_0 : decode cX3_copyFrom 0 = .ok (.aload_n 0, 1) := by decide +kernel
theorem dX3_copyFrom_1 : decode cX3_copyFrom 1 = .ok (.invokevirtual 34, 3) := by decide +kernel
theorem dX3_copyFrom_4 : decode cX3_copyFrom 4 = .ok (.iconst 0, 1) := by decide +kernel
theorem dX3_copyFrom_5 : decode cX3_copyFrom 5 = .ok (.istore_n 2, 1) := by decide +kernel
theorem dX3_copyFrom_6 : decode cX3_copyFrom 6 = .ok (.iload_n 2, 1) := by decide +kernel
theorem dX3_copyFrom_7 : decode cX3_copyFrom 7 = .ok (.aload_n 1, 1) := by decide +kernel
theorem dX3_copyFrom_8 : decode cX3_copyFrom 8 = .ok (.getfield 22, 3) := by decide +kernel
theorem dX3_copyFrom_11 : decode cX3_copyFrom 11 = .ok (.if_icmp .ge 26, 3) := by decide +kernel
theorem dX3_copyFrom_14 : decode cX3_copyFrom 14 = .ok (.aload_n 0, 1) := by decide +kernel
theorem dX3_copyFrom_15 : decode cX3_copyFrom 15 = .ok (.aload_n 1, 1) := by decide +kernel
theorem dX3_copyFrom_16 : decode cX3_copyFrom 16 = .ok (.getfield 13, 3) := by decide +kernel
theorem dX3_copyFrom_19 : decode cX3_copyFrom 19 = .ok (.iload_n 2, 1) := by decide +kernel
theorem dX3_copyFrom_20 : decode cX3_copyFrom 20 = .ok (.iaload, 1) := by decide +kernel
theorem dX3_copyFrom_21 : decode cX3_copyFrom 21 = .ok (.aload_n 1, 1) := by decide +kernel
theorem dX3_copyFrom_22 : decode cX3_copyFrom 22 = .ok (.getfield 19, 3) := by decide +kernel
theorem dX3_copyFrom_25 : decode cX3_copyFrom 25 = .ok (.iload_n 2, 1) := by decide +kernel
theorem dX3_copyFrom_26 : decode cX3_copyFrom 26 = .ok (.iaload, 1) := by decide +kernel
theorem dX3_copyFrom_27 : decode cX3_copyFrom 27 = .ok (.invokevirtual 37, 3) := by decide +kernel
theorem dX3_copyFrom_30 : decode cX3_copyFrom 30 = .ok (.pop, 1) := by decide +kernel
theorem dX3_copyFrom_31 : decode cX3_copyFrom 31 = .ok (.iinc 2 1, 3) := by decide +kernel
theorem dX3_copyFrom_34 : decode cX3_copyFrom 34 = .ok (.goto (-28), 3) := by decide +kernel
theorem dX3_copyFrom_37 : decode cX3_copyFrom 37 = .ok (.return_, 1) := by decide +kernel
theorem dX4_init_0 : decode cX4_init 0 = .ok (.aload_n 0, 1) := by decide +kernel
theorem dX4_init_1 : decode cX4_init 1 = .ok (.invokespecial 3, 3) := by decide +kernel
theorem dX4_init_4 : decode cX4_init 4 = .ok (.aload_n 0, 1) := by decide +kernel
theorem dX4_init_5 : decode cX4_init 5 = .ok (.bipush 9, 2) := by decide +kernel
theorem dX4_init_7 : decode cX4_init 7 = .ok (.newarray .long, 2) := by decide +kernel
theorem dX4_init_9 : decode cX4_init 9 = .ok (.putfield 11, 3) := by decide +kernel
theorem dX4_init_12 : decode cX4_init 12 = .ok (.aload_n 0, 1) := by decide +kernel
theorem dX4_init_13 : decode cX4_init 13 = .ok (.bipush 81, 2) := by decide +kernel
theorem dX4_init_15 : decode cX4_init 15 = .ok (.newarray .long, 2) := by decide +kernel
theorem dX4_init_17 : decode cX4_init 17 = .ok (.putfield 15, 3) := by decide +kernel
theorem dX4_init_20 : decode cX4_init 20 = .ok (.aload_n 0, 1) := by decide +kernel
theorem dX4_init_21 : decode cX4_init 21 = .ok (.iconst 5, 1) := by decide +kernel
theorem dX4_init_22 : decode cX4_init 22 = .ok (.newarray .int, 2) := by decide +kernel
theorem dX4_init_24 : decode cX4_init 24 = .ok (.putfield 18, 3) := by decide +kernel
theorem dX4_init_27 : decode cX4_init 27 = .ok (.aload_n 0, 1) := by decide +kernel
theorem dX4_init_28 : decode cX4_init 28 = .ok (.bipush 32, 2) := by decide +kernel
theorem dX4_init_30 : decode cX4_init 30 = .ok (.newarray .long, 2) := by decide +kernel
theorem dX4_init_32 : decode cX4_init 32 = .ok (.putfield 22, 3) := by decide +kernel
theorem dX4_init_35 : decode cX4_init 35 = .ok (.return_, 1) := by decide +kernel
theorem dX4_gather_0 : decode cX4_gather 0 = .ok (.aload_n 0, 1) := by decide +kernel
theorem dX4_gather_1 : decode cX4_gather 1 = .ok (.getfield 15, 3) := by decide +kernel
theorem dX4_gather_4 : decode cX4_gather 4 = .ok (.lconst 0, 1) := by decide +kernel
theorem dX4_gather_5 : decode cX4_gather 5 = .ok (.invokestatic 25, 3) := by decide +kernel
theorem dX4_gather_8 : decode cX4_gather 8 = .ok (.iconst 0, 1) := by decide +kernel
theorem dX4_gather_9 : decode cX4_gather 9 = .ok (.istore_n 2, 1) := by decide +kernel
theorem dX4_gather_10 : decode cX4_gather 10 = .ok (.iload_n 2, 1) := by decide +kernel
theorem dX4_gather_11 : decode cX4_gather 11 = .ok (.aload_n 1, 1) := by decide +kernel
theorem dX4_gather_12 : decode cX4_gather 12 = .ok (.getfield 31, 3) := by decide +kernel
theorem dX4_gather_15 : decode cX4_gather 15 = .ok (.invokevirtual 37, 3) := by decide +kernel
theorem dX4_gather_18 : decode cX4_gather 18 = .ok (.if_icmp .ge 16, 3) := by decide +kernel
theorem dX4_gather_21 : decode cX4_gather 21 = .ok (.aload_n 0, 1) := by decide +kernel
theorem dX4_gather_22 : decode cX4_gather 22 = .ok (.iload_n 2, 1) := by decide +kernel
theorem dX4_gather_23 : decode cX4_gather 23 = .ok (.aload_n 1, 1) := by decide +kernel
theorem dX4_gather_24 : decode cX4_gather 24 = .ok (.iconst 1, 1) := by decide +kernel
theorem dX4_gather_25 : decode cX4_gather 25 = .ok (.invokevirtual 43, 3) := by decide +kernel
theorem dX4_gather_28 : decode cX4_gather 28 = .ok (.iinc 2 1, 3) := by decide +kernel
theorem dX4_gather_31 : decode cX4_gather 31 = .ok (.goto (-21), 3) := by decide +kernel
theorem dX4_gather_34 : decode cX4_gather 34 = .ok (.return_, 1) := by decide +kernel
theorem dX4_weigh_0 : decode cX4_weigh 0 = .ok (.aload_n 2, 1) := by decide +kernel
theorem dX4_weigh_1 : decode cX4_weigh 1 = .ok (.getfield 31, 3) := by decide +kernel
theorem dX4_weigh_4 : decode cX4_weigh 4 = .ok (.iload_n 1, 1) := by decide +kernel
theorem dX4_weigh_5 : decode cX4_weigh 5 = .ok (.invokevirtual 47, 3) := by decide +kernel
theorem dX4_weigh_8 : decode cX4_weigh 8 = .ok (.istore 4, 2) := by decide +kernel
theorem dX4_weigh_10 : decode cX4_weigh 10 = .ok (.iconst 0, 1) := by decide +kernel
theorem dX4_weigh_11 : decode cX4_weigh 11 = .ok (.istore 5, 2) := by decide +kernel
theorem dX4_weigh_13 : decode cX4_weigh 13 = .ok (.iload 5, 2) := by decide +kernel
theorem dX4_weigh_15 : decode cX4_weigh 15 = .ok (.bipush 8, 2) := by decide +kernel
theorem dX4_weigh_17 : decode cX4_weigh 17 = .ok (.if_icmp .ge 28, 3) := by decide +kernel
theorem dX4_weigh_20 : decode cX4_weigh 20 = .ok (.aload_n 0, 1) := by decide +kernel
theorem dX4_weigh_21 : decode cX4_weigh 21 = .ok (.getfield 11, 3) := by decide +kernel
theorem dX4_weigh_24 : decode cX4_weigh 24 = .ok (.iload 5, 2) := by decide +kernel
theorem dX4_weigh_26 : decode cX4_weigh 26 = .ok (.aload_n 2, 1) := by decide +kernel
theorem dX4_weigh_27 : decode cX4_weigh 27 = .ok (.getfield 51, 3) := by decide +kernel
theorem dX4_weigh_30 : decode cX4_weigh 30 = .ok (.iload 5, 2) := by decide +kernel
theorem dX4_weigh_32 : decode cX4_weigh 32 = .ok (.iload 4, 2) := by decide +kernel
theorem dX4_weigh_34 : decode cX4_weigh 34 = .ok (.invokevirtual 55, 3) := by decide +kernel
theorem dX4_weigh_37 : decode cX4_weigh 37 = .ok (.i2l, 1) := by decide +kernel
theorem dX4_weigh_38 : decode cX4_weigh 38 = .ok (.lastore, 1) := by decide +kernel
theorem dX4_weigh_39 : decode cX4_weigh 39 = .ok (.iinc 5 1, 3) := by decide +kernel
theorem dX4_weigh_42 : decode cX4_weigh 42 = .ok (.goto (-29), 3) := by decide +kernel
theorem dX4_weigh_45 : decode cX4_weigh 45 = .ok (.aload_n 0, 1) := by decide +kernel
theorem dX4_weigh_46 : decode cX4_weigh 46 = .ok (.getfield 11, 3) := by decide +kernel
theorem dX4_weigh_49 : decode cX4_weigh 49 = .ok (.bipush 8, 2) := by decide +kernel
theorem dX4_weigh_51 : decode cX4_weigh 51 = .ok (.aload_n 2, 1) := by decide +kernel
theorem dX4_weigh_52 : decode cX4_weigh 52 = .ok (.getfield 31, 3) := by decide +kernel
theorem dX4_weigh_55 : decode cX4_weigh 55 = .ok (.iload_n 1, 1) := by decide +kernel
theorem dX4_weigh_56 : decode cX4_weigh 56 = .ok (.invokevirtual 61, 3) := by decide +kernel
theorem dX4_weigh_59 : decode cX4_weigh 59 = .ok (.i2l, 1) := by decide +kernel
theorem dX4_weigh_60 : decode cX4_weigh 60 = .ok (.lastore, 1) := by decide +kernel
theorem dX4_weigh_61 : decode cX4_weigh 61 = .ok (.iconst 0, 1) := by decide +kernel
theorem dX4_weigh_62 : decode cX4_weigh 62 = .ok (.istore 5, 2) := by decide +kernel
theorem dX4_weigh_64 : decode cX4_weigh 64 = .ok (.iload 5, 2) := by decide +kernel
theorem dX4_weigh_66 : decode cX4_weigh 66 = .ok (.bipush 9, 2) := by decide +kernel
theorem dX4_weigh_68 : decode cX4_weigh 68 = .ok (.if_icmp .ge 70, 3) := by decide +kernel
theorem dX4_weigh_71 : decode cX4_weigh 71 = .ok (.iload_n 3, 1) := by decide +kernel
theorem dX4_weigh_72 : decode cX4_weigh 72 = .ok (.i2l, 1) := by decide +kernel
theorem dX4_weigh_73 : decode cX4_weigh 73 = .ok (.aload_n 0, 1) := by decide +kernel
theorem dX4_weigh_74 : decode cX4_weigh 74 = .ok (.getfield 11, 3) := by decide +kernel
theorem dX4_weigh_77 : decode cX4_weigh 77 = .ok (.iload 5, 2) := by decide +kernel
theorem dX4_weigh_79 : decode cX4_weigh 79 = .ok (.laload, 1) := by decide +kernel
theorem dX4_weigh_80 : decode cX4_weigh 80 = .ok (.lmul, 1) := by decide +kernel
theorem dX4_weigh_81 : decode cX4_weigh 81 = .ok (.lstore 6, 2) := by decide +kernel
theorem dX4_weigh_83 : decode cX4_weigh 83 = .ok (.iconst 0, 1) := by decide +kernel
theorem dX4_weigh_84 : decode cX4_weigh 84 = .ok (.istore 8, 2) := by decide +kernel
theorem dX4_weigh_86 : decode cX4_weigh 86 = .ok (.lload 6, 2) := by decide +kernel
theorem dX4_weigh_88 : decode cX4_weigh 88 = .ok (.lconst 0, 1) := by decide +kernel
theorem dX4_weigh_89 : decode cX4_weigh 89 = .ok (.lcmp, 1) := by decide +kernel
theorem dX4_weigh_90 : decode cX4_weigh 90 = .ok (.ifCond .eq 42, 3) := by decide +kernel
theorem dX4_weigh_93 : decode cX4_weigh 93 = .ok (.iload 8, 2) := by decide +kernel
theorem dX4_weigh_95 : decode cX4_weigh 95 = .ok (.bipush 9, 2) := by decide +kernel
theorem dX4_weigh_97 : decode cX4_weigh 97 = .ok (.if_icmp .ge 35, 3) := by decide +kernel
theorem dX4_weigh_100 : decode cX4_weigh 100 = .ok (.aload_n 0, 1) := by decide +kernel
theorem dX4_weigh_101 : decode cX4_weigh 101 = .ok (.getfield 15, 3) := by decide +kernel
theorem dX4_weigh_104 : decode cX4_weigh 104 = .ok (.iload 5, 2) := by decide +kernel
theorem dX4_weigh_106 : decode cX4_weigh 106 = .ok (.bipush 9, 2) := by decide +kernel
theorem dX4_weigh_108 : decode cX4_weigh 108 = .ok (.imul, 1) := by decide +kernel
theorem dX4_weigh_109 : decode cX4_weigh 109 = .ok (.iload 8, 2) := by decide +kernel
theorem dX4_weigh_111 : decode cX4_weigh 111 = .ok (.iadd, 1) := by decide +kernel
theorem dX4_weigh_112 : decode cX4_weigh 112 = .ok (.dup2, 1) := by decide +kernel
theorem dX4_weigh_113 : decode cX4_weigh 113 = .ok (.laload, 1) := by decide +kernel
theorem dX4_weigh_114 : decode cX4_weigh 114 = .ok (.lload 6, 2) := by decide +kernel
theorem dX4_weigh_116 : decode cX4_weigh 116 = .ok (.aload_n 0, 1) := by decide +kernel
theorem dX4_weigh_117 : decode cX4_weigh 117 = .ok (.getfield 11, 3) := by decide +kernel
theorem dX4_weigh_120 : decode cX4_weigh 120 = .ok (.iload 8, 2) := by decide +kernel
theorem dX4_weigh_122 : decode cX4_weigh 122 = .ok (.laload, 1) := by decide +kernel
theorem dX4_weigh_123 : decode cX4_weigh 123 = .ok (.lmul, 1) := by decide +kernel
theorem dX4_weigh_124 : decode cX4_weigh 124 = .ok (.ladd, 1) := by decide +kernel
theorem dX4_weigh_125 : decode cX4_weigh 125 = .ok (.lastore, 1) := by decide +kernel
theorem dX4_weigh_126 : decode cX4_weigh 126 = .ok (.iinc 8 1, 3) := by decide +kernel
theorem dX4_weigh_129 : decode cX4_weigh 129 = .ok (.goto (-43), 3) := by decide +kernel
theorem dX4_weigh_132 : decode cX4_weigh 132 = .ok (.iinc 5 1, 3) := by decide +kernel
theorem dX4_weigh_135 : decode cX4_weigh 135 = .ok (.goto (-71), 3) := by decide +kernel
theorem dX4_weigh_138 : decode cX4_weigh 138 = .ok (.return_, 1) := by decide +kernel
theorem dX4_solve_0 : decode cX4_solve 0 = .ok (.aload_n 0, 1) := by decide +kernel
theorem dX4_solve_1 : decode cX4_solve 1 = .ok (.iload_n 1, 1) := by decide +kernel
theorem dX4_solve_2 : decode cX4_solve 2 = .ok (.invokevirtual 64, 3) := by decide +kernel
theorem dX4_solve_5 : decode cX4_solve 5 = .ok (.aload_n 0, 1) := by decide +kernel
theorem dX4_solve_6 : decode cX4_solve 6 = .ok (.getfield 22, 3) := by decide +kernel
theorem dX4_solve_9 : decode cX4_solve 9 = .ok (.iconst 0, 1) := by decide +kernel
theorem dX4_solve_10 : decode cX4_solve 10 = .ok (.lconst 1, 1) := by decide +kernel
theorem dX4_solve_11 : decode cX4_solve 11 = .ok (.lastore, 1) := by decide +kernel
theorem dX4_solve_12 : decode cX4_solve 12 = .ok (.iconst 1, 1) := by decide +kernel
theorem dX4_solve_13 : decode cX4_solve 13 = .ok (.aload_n 0, 1) := by decide +kernel
theorem dX4_solve_14 : decode cX4_solve 14 = .ok (.getfield 68, 3) := by decide +kernel
theorem dX4_solve_17 : decode cX4_solve 17 = .ok (.iconst 1, 1) := by decide +kernel
theorem dX4_solve_18 : decode cX4_solve 18 = .ok (.iadd, 1) := by decide +kernel
theorem dX4_solve_19 : decode cX4_solve 19 = .ok (.ishl, 1) := by decide +kernel
theorem dX4_solve_20 : decode cX4_solve 20 = .ok (.istore_n 2, 1) := by decide +kernel
theorem dX4_solve_21 : decode cX4_solve 21 = .ok (.iconst 1, 1) := by decide +kernel
theorem dX4_solve_22 : decode cX4_solve 22 = .ok (.istore_n 3, 1) := by decide +kernel
theorem dX4_solve_23 : decode cX4_solve 23 = .ok (.iload_n 3, 1) := by decide +kernel
theorem dX4_solve_24 : decode cX4_solve 24 = .ok (.iload_n 2, 1) := by decide +kernel
theorem dX4_solve_25 : decode cX4_solve 25 = .ok (.if_icmp .ge 29, 3) := by decide +kernel
theorem dX4_solve_28 : decode cX4_solve 28 = .ok (.iload_n 3, 1) := by decide +kernel
theorem dX4_solve_29 : decode cX4_solve 29 = .ok (.aload_n 0, 1) := by decide +kernel
theorem dX4_solve_30 : decode cX4_solve 30 = .ok (.getfield 22, 3) := by decide +kernel
theorem dX4_solve_33 : decode cX4_solve 33 = .ok (.arraylength, 1) := by decide +kernel
theorem dX4_solve_34 : decode cX4_solve 34 = .ok (.if_icmp .ge 20, 3) := by decide +kernel
theorem dX4_solve_37 : decode cX4_solve 37 = .ok (.aload_n 0, 1) := by decide +kernel
theorem dX4_solve_38 : decode cX4_solve 38 = .ok (.getfield 22, 3) := by decide +kernel
theorem dX4_solve_41 : decode cX4_solve 41 = .ok (.iload_n 3, 1) := by decide +kernel
theorem dX4_solve_42 : decode cX4_solve 42 = .ok (.aload_n 0, 1) := by decide +kernel
theorem dX4_solve_43 : decode cX4_solve 43 = .ok (.iload_n 3, 1) := by decide +kernel
theorem dX4_solve_44 : decode cX4_solve 44 = .ok (.invokevirtual 72, 3) := by decide +kernel
theorem dX4_solve_47 : decode cX4_solve 47 = .ok (.lastore, 1) := by decide +kernel
theorem dX4_solve_48 : decode cX4_solve 48 = .ok (.iinc 3 1, 3) := by decide +kernel
theorem dX4_solve_51 : decode cX4_solve 51 = .ok (.goto (-28), 3) := by decide +kernel
theorem dX4_solve_54 : decode cX4_solve 54 = .ok (.aload_n 0, 1) := by decide +kernel
theorem dX4_solve_55 : decode cX4_solve 55 = .ok (.invokevirtual 76, 3) := by decide +kernel
theorem dX4_solve_58 : decode cX4_solve 58 = .ok (.lconst 0, 1) := by decide +kernel
theorem dX4_solve_59 : decode cX4_solve 59 = .ok (.lcmp, 1) := by decide +kernel
theorem dX4_solve_60 : decode cX4_solve 60 = .ok (.ifCond .eq 7, 3) := by decide +kernel
theorem dX4_solve_63 : decode cX4_solve 63 = .ok (.iconst 1, 1) := by decide +kernel
theorem dX4_solve_64 : decode cX4_solve 64 = .ok (.goto 4, 3) := by decide +kernel
theorem dX4_solve_67 : decode cX4_solve 67 = .ok (.iconst 0, 1) := by decide +kernel
theorem dX4_solve_68 : decode cX4_solve 68 = .ok (.ireturn, 1) := by decide +kernel
theorem dX4_solveWithout_0 : decode cX4_solveWithout 0 = .ok (.aload_n 0, 1) := by decide +kernel
theorem dX4_solveWithout_1 : decode cX4_solveWithout 1 = .ok (.iload_n 1, 1) := by decide +kernel
theorem dX4_solveWithout_2 : decode cX4_solveWithout 2 = .ok (.aload_n 3, 1) := by decide +kernel
theorem dX4_solveWithout_3 : decode cX4_solveWithout 3 = .ok (.iconst (-1), 1) := by decide +kernel
theorem dX4_solveWithout_4 : decode cX4_solveWithout 4 = .ok (.invokevirtual 43, 3) := by decide +kernel
theorem dX4_solveWithout_7 : decode cX4_solveWithout 7 = .ok (.aload_n 0, 1) := by decide +kernel
theorem dX4_solveWithout_8 : decode cX4_solveWithout 8 = .ok (.iload_n 2, 1) := by decide +kernel
theorem dX4_solveWithout_9 : decode cX4_solveWithout 9 = .ok (.invokevirtual 80, 3) := by decide +kernel
theorem dX4_solveWithout_12 : decode cX4_solveWithout 12 = .ok (.istore 4, 2) := by decide +kernel
theorem dX4_solveWithout_14 : decode cX4_solveWithout 14 = .ok (.aload_n 0, 1) := by decide +kernel
theorem dX4_solveWithout_15 : decode cX4_solveWithout 15 = .ok (.iload_n 1, 1) := by decide +kernel
theorem dX4_solveWithout_16 : decode cX4_solveWithout 16 = .ok (.aload_n 3, 1) := by decide +kernel
theorem dX4_solveWithout_17 : decode cX4_solveWithout 17 = .ok (.iconst 1, 1) := by decide +kernel
theorem dX4_solveWithout_18 : decode cX4_solveWithout 18 = .ok (.invokevirtual 43, 3) := by decide +kernel
theorem dX4_solveWithout_21 : decode cX4_solveWithout 21 = .ok (.iload 4, 2) := by decide +kernel
theorem dX4_solveWithout_23 : decode cX4_solveWithout 23 = .ok (.ireturn, 1) := by decide +kernel
theorem dX4_pickColumns_0 : decode cX4_pickColumns 0 = .ok (.aload_n 0, 1) := by decide +kernel
theorem dX4_pickColumns_1 : decode cX4_pickColumns 1 = .ok (.iconst 0, 1) := by decide +kernel
theorem dX4_pickColumns_2 : decode cX4_pickColumns 2 = .ok (.putfield 68, 3) := by decide +kernel
theorem dX4_pickColumns_5 : decode cX4_pickColumns 5 = .ok (.iconst 0, 1) := by decide +kernel
theorem dX4_pickColumns_6 : decode cX4_pickColumns 6 = .ok (.istore_n 2, 1) := by decide +kernel
theorem dX4_pickColumns_7 : decode cX4_pickColumns 7 = .ok (.iload_n 2, 1) := by decide +kernel
theorem dX4_pickColumns_8 : decode cX4_pickColumns 8 = .ok (.bipush 8, 2) := by decide +kernel
theorem dX4_pickColumns_10 : decode cX4_pickColumns 10 = .ok (.if_icmp .ge 45, 3) := by decide +kernel
theorem dX4_pickColumns_13 : decode cX4_pickColumns 13 = .ok (.aload_n 0, 1) := by decide +kernel
theorem dX4_pickColumns_14 : decode cX4_pickColumns 14 = .ok (.getfield 68, 3) := by decide +kernel
theorem dX4_pickColumns_17 : decode cX4_pickColumns 17 = .ok (.iconst 4, 1) := by decide +kernel
theorem dX4_pickColumns_18 : decode cX4_pickColumns 18 = .ok (.if_icmp .ge 37, 3) := by decide +kernel
theorem dX4_pickColumns_21 : decode cX4_pickColumns 21 = .ok (.iload_n 1, 1) := by decide +kernel
theorem dX4_pickColumns_22 : decode cX4_pickColumns 22 = .ok (.iload_n 2, 1) := by decide +kernel
theorem dX4_pickColumns_23 : decode cX4_pickColumns 23 = .ok (.ishr, 1) := by decide +kernel
theorem dX4_pickColumns_24 : decode cX4_pickColumns 24 = .ok (.iconst 1, 1) := by decide +kernel
theorem dX4_pickColumns_25 : decode cX4_pickColumns 25 = .ok (.iand, 1) := by decide +kernel
theorem dX4_pickColumns_26 : decode cX4_pickColumns 26 = .ok (.ifCond .eq 23, 3) := by decide +kernel
theorem dX4_pickColumns_29 : decode cX4_pickColumns 29 = .ok (.aload_n 0, 1) := by decide +kernel
theorem dX4_pickColumns_30 : decode cX4_pickColumns 30 = .ok (.getfield 18, 3) := by decide +kernel
theorem dX4_pickColumns_33 : decode cX4_pickColumns 33 = .ok (.aload_n 0, 1) := by decide +kernel
theorem dX4_pickColumns_34 : decode cX4_pickColumns 34 = .ok (.getfield 68, 3) := by decide +kernel
theorem dX4_pickColumns_37 : decode cX4_pickColumns 37 = .ok (.iload_n 2, 1) := by decide +kernel
theorem dX4_pickColumns_38 : decode cX4_pickColumns 38 = .ok (.iastore, 1) := by decide +kernel
theorem dX4_pickColumns_39 : decode cX4_pickColumns 39 = .ok (.aload_n 0, 1) := by decide +kernel
theorem dX4_pickColumns_40 : decode cX4_pickColumns 40 = .ok (.dup, 1) := by decide +kernel
theorem dX4_pickColumns_41 : decode cX4_pickColumns 41 = .ok (.getfield 68, 3) := by decide +kernel
theorem dX4_pickColumns_44 : decode cX4_pickColumns 44 = .ok (.iconst 1, 1) := by decide +kernel
theorem dX4_pickColumns_45 : decode cX4_pickColumns 45 = .ok (.iadd, 1) := by decide +kernel
theorem dX4_pickColumns_46 : decode cX4_pickColumns 46 = .ok (.putfield 68, 3) := by decide +kernel
theorem dX4_pickColumns_49 : decode cX4_pickColumns 49 = .ok (.iinc 2 1, 3) := by decide +kernel
theorem dX4_pickColumns_52 : decode cX4_pickColumns 52 = .ok (.goto (-45), 3) := by decide +kernel
theorem dX4_pickColumns_55 : decode cX4_pickColumns 55 = .ok (.aload_n 0, 1) := by decide +kernel
theorem dX4_pickColumns_56 : decode cX4_pickColumns 56 = .ok (.getfield 18, 3) := by decide +kernel
theorem dX4_pickColumns_59 : decode cX4_pickColumns 59 = .ok (.aload_n 0, 1) := by decide +kernel
theorem dX4_pickColumns_60 : decode cX4_pickColumns 60 = .ok (.getfield 68, 3) := by decide +kernel
theorem dX4_pickColumns_63 : decode cX4_pickColumns 63 = .ok (.bipush 8, 2) := by decide +kernel
theorem dX4_pickColumns_65 : decode cX4_pickColumns 65 = .ok (.iastore, 1) := by decide +kernel
theorem dX4_pickColumns_66 : decode cX4_pickColumns 66 = .ok (.return_, 1) := by decide +kernel
theorem dX4_minorOf_0 : decode cX4_minorOf 0 = .ok (.iload_n 1, 1) := by decide +kernel
theorem dX4_minorOf_1 : decode cX4_minorOf 1 = .ok (.invokestatic 84, 3) := by decide +kernel
theorem dX4_minorOf_4 : decode cX4_minorOf 4 = .ok (.istore_n 2, 1) := by decide +kernel
theorem dX4_minorOf_5 : decode cX4_minorOf 5 = .ok (.aload_n 0, 1) := by decide +kernel
theorem dX4_minorOf_6 : decode cX4_minorOf 6 = .ok (.getfield 18, 3) := by decide +kernel
theorem dX4_minorOf_9 : decode cX4_minorOf 9 = .ok (.iload_n 2, 1) := by decide +kernel
theorem dX4_minorOf_10 : decode cX4_minorOf 10 = .ok (.iconst 1, 1) := by decide +kernel
theorem dX4_minorOf_11 : decode cX4_minorOf 11 = .ok (.isub, 1) := by decide +kernel
theorem dX4_minorOf_12 : decode cX4_minorOf 12 = .ok (.iaload, 1) := by decide +kernel
theorem dX4_minorOf_13 : decode cX4_minorOf 13 = .ok (.istore_n 3, 1) := by decide +kernel
theorem dX4_minorOf_14 : decode cX4_minorOf 14 = .ok (.iload_n 2, 1) := by decide +kernel
theorem dX4_minorOf_15 : decode cX4_minorOf 15 = .ok (.iconst 2, 1) := by decide +kernel
theorem dX4_minorOf_16 : decode cX4_minorOf 16 = .ok (.irem, 1) := by decide +kernel
theorem dX4_minorOf_17 : decode cX4_minorOf 17 = .ok (.ifCond .ne 9, 3) := by decide +kernel
theorem dX4_minorOf_20 : decode cX4_minorOf 20 = .ok (.ldc2_w 89, 3) := by decide +kernel
theorem dX4_minorOf_23 : decode cX4_minorOf 23 = .ok (.goto 4, 3) := by decide +kernel
theorem dX4_minorOf_26 : decode cX4_minorOf 26 = .ok (.lconst 1, 1) := by decide +kernel
theorem dX4_minorOf_27 : decode cX4_minorOf 27 = .ok (.lstore 4, 2) := by decide +kernel
theorem dX4_minorOf_29 : decode cX4_minorOf 29 = .ok (.lconst 0, 1) := by decide +kernel
theorem dX4_minorOf_30 : decode cX4_minorOf 30 = .ok (.lstore 6, 2) := by decide +kernel
theorem dX4_minorOf_32 : decode cX4_minorOf 32 = .ok (.iconst 0, 1) := by decide +kernel
theorem dX4_minorOf_33 : decode cX4_minorOf 33 = .ok (.istore 8, 2) := by decide +kernel
theorem dX4_minorOf_35 : decode cX4_minorOf 35 = .ok (.iload 8, 2) := by decide +kernel
theorem dX4_minorOf_37 : decode cX4_minorOf 37 = .ok (.aload_n 0, 1) := by decide +kernel
theorem dX4_minorOf_38 : decode cX4_minorOf 38 = .ok (.getfield 68, 3) := by decide +kernel
theorem dX4_minorOf_41 : decode cX4_minorOf 41 = .ok (.if_icmp .gt 62, 3) := by decide +kernel
theorem dX4_minorOf_44 : decode cX4_minorOf 44 = .ok (.iconst 1, 1) := by decide +kernel
theorem dX4_minorOf_45 : decode cX4_minorOf 45 = .ok (.iload 8, 2) := by decide +kernel
theorem dX4_minorOf_47 : decode cX4_minorOf 47 = .ok (.ishl, 1) := by decide +kernel
theorem dX4_minorOf_48 : decode cX4_minorOf 48 = .ok (.istore 9, 2) := by decide +kernel
theorem dX4_minorOf_50 : decode cX4_minorOf 50 = .ok (.iload_n 1, 1) := by decide +kernel
theorem dX4_minorOf_51 : decode cX4_minorOf 51 = .ok (.iload 9, 2) := by decide +kernel
theorem dX4_minorOf_53 : decode cX4_minorOf 53 = .ok (.iand, 1) := by decide +kernel
theorem dX4_minorOf_54 : decode cX4_minorOf 54 = .ok (.ifCond .eq 43, 3) := by decide +kernel
theorem dX4_minorOf_57 : decode cX4_minorOf 57 = .ok (.lload 6, 2) := by decide +kernel
theorem dX4_minorOf_59 : decode cX4_minorOf 59 = .ok (.lload 4, 2) := by decide +kernel
theorem dX4_minorOf_61 : decode cX4_minorOf 61 = .ok (.aload_n 0, 1) := by decide +kernel
theorem dX4_minorOf_62 : decode cX4_minorOf 62 = .ok (.getfield 15, 3) := by decide +kernel
theorem dX4_minorOf_65 : decode cX4_minorOf 65 = .ok (.iload_n 3, 1) := by decide +kernel
theorem dX4_minorOf_66 : decode cX4_minorOf 66 = .ok (.bipush 9, 2) := by decide +kernel
theorem dX4_minorOf_68 : decode cX4_minorOf 68 = .ok (.imul, 1) := by decide +kernel
theorem dX4_minorOf_69 : decode cX4_minorOf 69 = .ok (.aload_n 0, 1) := by decide +kernel
theorem dX4_minorOf_70 : decode cX4_minorOf 70 = .ok (.getfield 18, 3) := by decide +kernel
theorem dX4_minorOf_73 : decode cX4_minorOf 73 = .ok (.iload 8, 2) := by decide +kernel
theorem dX4_minorOf_75 : decode cX4_minorOf 75 = .ok (.iaload, 1) := by decide +kernel
theorem dX4_minorOf_76 : decode cX4_minorOf 76 = .ok (.iadd, 1) := by decide +kernel
theorem dX4_minorOf_77 : decode cX4_minorOf 77 = .ok (.laload, 1) := by decide +kernel
theorem dX4_minorOf_78 : decode cX4_minorOf 78 = .ok (.lmul, 1) := by decide +kernel
theorem dX4_minorOf_79 : decode cX4_minorOf 79 = .ok (.aload_n 0, 1) := by decide +kernel
theorem dX4_minorOf_80 : decode cX4_minorOf 80 = .ok (.getfield 22, 3) := by decide +kernel
theorem dX4_minorOf_83 : decode cX4_minorOf 83 = .ok (.iload_n 1, 1) := by decide +kernel
theorem dX4_minorOf_84 : decode cX4_minorOf 84 = .ok (.iload 9, 2) := by decide +kernel
theorem dX4_minorOf_86 : decode cX4_minorOf 86 = .ok (.ixor, 1) := by decide +kernel
theorem dX4_minorOf_87 : decode cX4_minorOf 87 = .ok (.laload, 1) := by decide +kernel
theorem dX4_minorOf_88 : decode cX4_minorOf 88 = .ok (.lmul, 1) := by decide +kernel
theorem dX4_minorOf_89 : decode cX4_minorOf 89 = .ok (.ladd, 1) := by decide +kernel
theorem dX4_minorOf_90 : decode cX4_minorOf 90 = .ok (.lstore 6, 2) := by decide +kernel
theorem dX4_minorOf_92 : decode cX4_minorOf 92 = .ok (.lload 4, 2) := by decide +kernel
theorem dX4_minorOf_94 : decode cX4_minorOf 94 = .ok (.lneg, 1) := by decide +kernel
theorem dX4_minorOf_95 : decode cX4_minorOf 95 = .ok (.lstore 4, 2) := by decide +kernel
theorem dX4_minorOf_97 : decode cX4_minorOf 97 = .ok (.iinc 8 1, 3) := by decide +kernel
theorem dX4_minorOf_100 : decode cX4_minorOf 100 = .ok (.goto (-65), 3) := by decide +kernel
theorem dX4_minorOf_103 : decode cX4_minorOf 103 = .ok (.lload 6, 2) := by decide +kernel
theorem dX4_minorOf_105 : decode cX4_minorOf 105 = .ok (.lreturn, 1) := by decide +kernel
theorem dX4_below_0 : decode cX4_below 0 = .ok (.aload_n 0, 1) := by decide +kernel
theorem dX4_below_1 : decode cX4_below 1 = .ok (.getfield 22, 3) := by decide +kernel
theorem dX4_below_4 : decode cX4_below 4 = .ok (.iconst 1, 1) := by decide +kernel
theorem dX4_below_5 : decode cX4_below 5 = .ok (.aload_n 0, 1) := by decide +kernel
theorem dX4_below_6 : decode cX4_below 6 = .ok (.getfield 68, 3) := by decide +kernel
theorem dX4_below_9 : decode cX4_below 9 = .ok (.ishl, 1) := by decide +kernel
theorem dX4_below_10 : decode cX4_below 10 = .ok (.iconst 1, 1) := by decide +kernel
theorem dX4_below_11 : decode cX4_below 11 = .ok (.isub, 1) := by decide +kernel
theorem dX4_below_12 : decode cX4_below 12 = .ok (.laload, 1) := by decide +kernel
theorem dX4_below_13 : decode cX4_below 13 = .ok (.lreturn, 1) := by decide +kernel
theorem dX4_squares_0 : decode cX4_squares 0 = .ok (.aload_n 0, 1) := by decide +kernel
theorem dX4_squares_1 : decode cX4_squares 1 = .ok (.getfield 22, 3) := by decide +kernel
theorem dX4_squares_4 : decode cX4_squares 4 = .ok (.iconst 1, 1) := by decide +kernel
theorem dX4_squares_5 : decode cX4_squares 5 = .ok (.aload_n 0, 1) := by decide +kernel
theorem dX4_squares_6 : decode cX4_squares 6 = .ok (.getfield 68, 3) := by decide +kernel
theorem dX4_squares_9 : decode cX4_squares 9 = .ok (.iconst 1, 1) := by decide +kernel
theorem dX4_squares_10 : decode cX4_squares 10 = .ok (.iadd, 1) := by decide +kernel
theorem dX4_squares_11 : decode cX4_squares 11 = .ok (.ishl, 1) := by decide +kernel
theorem dX4_squares_12 : decode cX4_squares 12 = .ok (.iconst 1, 1) := by decide +kernel
theorem dX4_squares_13 : decode cX4_squares 13 = .ok (.isub, 1) := by decide +kernel
theorem dX4_squares_14 : decode cX4_squares 14 = .ok (.laload, 1) := by decide +kernel
theorem dX4_squares_15 : decode cX4_squares 15 = .ok (.lreturn, 1) := by decide +kernel
theorem dX4_above_0 : decode cX4_above 0 = .ok (.iload_n 1, 1) := by decide +kernel
theorem dX4_above_1 : decode cX4_above 1 = .ok (.ifCond .lt 11, 3) := by decide +kernel
theorem dX4_above_4 : decode cX4_above 4 = .ok (.iload_n 1, 1) := by decide +kernel
theorem dX4_above_5 : decode cX4_above 5 = .ok (.aload_n 0, 1) := by decide +kernel
theorem dX4_above_6 : decode cX4_above 6 = .ok (.getfield 68, 3) := by decide +kernel
theorem dX4_above_9 : decode cX4_above 9 = .ok (.if_icmp .lt 5, 3) := by decide +kernel
theorem dX4_above_12 : decode cX4_above 12 = .ok (.lconst 0, 1) := by decide +kernel
theorem dX4_above_13 : decode cX4_above 13 = .ok (.lreturn, 1) := by decide +kernel
theorem dX4_above_14 : decode cX4_above 14 = .ok (.aload_n 0, 1) := by decide +kernel
theorem dX4_above_15 : decode cX4_above 15 = .ok (.getfield 22, 3) := by decide +kernel
theorem dX4_above_18 : decode cX4_above 18 = .ok (.iconst 1, 1) := by decide +kernel
theorem dX4_above_19 : decode cX4_above 19 = .ok (.aload_n 0, 1) := by decide +kernel
theorem dX4_above_20 : decode cX4_above 20 = .ok (.getfield 68, 3) := by decide +kernel
theorem dX4_above_23 : decode cX4_above 23 = .ok (.iconst 1, 1) := by decide +kernel
theorem dX4_above_24 : decode cX4_above 24 = .ok (.iadd, 1) := by decide +kernel
theorem dX4_above_25 : decode cX4_above 25 = .ok (.ishl, 1) := by decide +kernel
theorem dX4_above_26 : decode cX4_above 26 = .ok (.iconst 1, 1) := by decide +kernel
theorem dX4_above_27 : decode cX4_above 27 = .ok (.isub, 1) := by decide +kernel
theorem dX4_above_28 : decode cX4_above 28 = .ok (.iconst 1, 1) := by decide +kernel
theorem dX4_above_29 : decode cX4_above 29 = .ok (.iload_n 1, 1) := by decide +kernel
theorem dX4_above_30 : decode cX4_above 30 = .ok (.ishl, 1) := by decide +kernel
theorem dX4_above_31 : decode cX4_above 31 = .ok (.ixor, 1) := by decide +kernel
theorem dX4_above_32 : decode cX4_above 32 = .ok (.laload, 1) := by decide +kernel
theorem dX4_above_33 : decode cX4_above 33 = .ok (.lstore_n 2, 1) := by decide +kernel
theorem dX4_above_34 : decode cX4_above 34 = .ok (.aload_n 0, 1) := by decide +kernel
theorem dX4_above_35 : decode cX4_above 35 = .ok (.getfield 68, 3) := by decide +kernel
theorem dX4_above_38 : decode cX4_above 38 = .ok (.iconst 1, 1) := by decide +kernel
theorem dX4_above_39 : decode cX4_above 39 = .ok (.isub, 1) := by decide +kernel
theorem dX4_above_40 : decode cX4_above 40 = .ok (.iload_n 1, 1) := by decide +kernel
theorem dX4_above_41 : decode cX4_above 41 = .ok (.isub, 1) := by decide +kernel
theorem dX4_above_42 : decode cX4_above 42 = .ok (.iconst 2, 1) := by decide +kernel
theorem dX4_above_43 : decode cX4_above 43 = .ok (.irem, 1) := by decide +kernel
theorem dX4_above_44 : decode cX4_above 44 = .ok (.ifCond .ne 7, 3) := by decide +kernel
theorem dX4_above_47 : decode cX4_above 47 = .ok (.lload_n 2, 1) := by decide +kernel
theorem dX4_above_48 : decode cX4_above 48 = .ok (.goto 5, 3) := by decide +kernel
theorem dX4_above_51 : decode cX4_above 51 = .ok (.lload_n 2, 1) := by decide +kernel
theorem dX4_above_52 : decode cX4_above 52 = .ok (.lneg, 1) := by decide +kernel
theorem dX4_above_53 : decode cX4_above 53 = .ok (.lreturn, 1) := by decide +kernel
theorem dX4_looseOf_0 : decode cX4_looseOf 0 = .ok (.iconst 0, 1) := by decide +kernel
theorem dX4_looseOf_1 : decode cX4_looseOf 1 = .ok (.istore_n 2, 1) := by decide +kernel
theorem dX4_looseOf_2 : decode cX4_looseOf 2 = .ok (.iload_n 1, 1) := by decide +kernel
theorem dX4_looseOf_3 : decode cX4_looseOf 3 = .ok (.istore_n 3, 1) := by decide +kernel
theorem dX4_looseOf_4 : decode cX4_looseOf 4 = .ok (.iconst 1, 1) := by decide +kernel
theorem dX4_looseOf_5 : decode cX4_looseOf 5 = .ok (.istore 4, 2) := by decide +kernel
theorem dX4_looseOf_7 : decode cX4_looseOf 7 = .ok (.iload 4, 2) := by decide +kernel
theorem dX4_looseOf_9 : decode cX4_looseOf 9 = .ok (.iload_n 1, 1) := by decide +kernel
theorem dX4_looseOf_10 : decode cX4_looseOf 10 = .ok (.if_icmp .gt 75, 3) := by decide +kernel
theorem dX4_looseOf_13 : decode cX4_looseOf 13 = .ok (.iload 4, 2) := by decide +kernel
theorem dX4_looseOf_15 : decode cX4_looseOf 15 = .ok (.sipush 256, 3) := by decide +kernel
theorem dX4_looseOf_18 : decode cX4_looseOf 18 = .ok (.if_icmp .ge 67, 3) := by decide +kernel
theorem dX4_looseOf_21 : decode cX4_looseOf 21 = .ok (.iload 4, 2) := by decide +kernel
theorem dX4_looseOf_23 : decode cX4_looseOf 23 = .ok (.invokestatic 84, 3) := by decide +kernel
theorem dX4_looseOf_26 : decode cX4_looseOf 26 = .ok (.istore 5, 2) := by decide +kernel
theorem dX4_looseOf_28 : decode cX4_looseOf 28 = .ok (.iload 4, 2) := by decide +kernel
theorem dX4_looseOf_30 : decode cX4_looseOf 30 = .ok (.iload_n 1, 1) := by decide +kernel
theorem dX4_looseOf_31 : decode cX4_looseOf 31 = .ok (.iconst (-1), 1) := by decide +kernel
theorem dX4_looseOf_32 : decode cX4_looseOf 32 = .ok (.ixor, 1) := by decide +kernel
theorem dX4_looseOf_33 : decode cX4_looseOf 33 = .ok (.iand, 1) := by decide +kernel
theorem dX4_looseOf_34 : decode cX4_looseOf 34 = .ok (.ifCond .ne 45, 3) := by decide +kernel
theorem dX4_looseOf_37 : decode cX4_looseOf 37 = .ok (.iload 5, 2) := by decide +kernel
theorem dX4_looseOf_39 : decode cX4_looseOf 39 = .ok (.iload_n 2, 1) := by decide +kernel
theorem dX4_looseOf_40 : decode cX4_looseOf 40 = .ok (.if_icmp .lt 39, 3) := by decide +kernel
theorem dX4_looseOf_43 : decode cX4_looseOf 43 = .ok (.aload_n 0, 1) := by decide +kernel
theorem dX4_looseOf_44 : decode cX4_looseOf 44 = .ok (.iload 4, 2) := by decide +kernel
theorem dX4_looseOf_46 : decode cX4_looseOf 46 = .ok (.invokevirtual 80, 3) := by decide +kernel
theorem dX4_looseOf_49 : decode cX4_looseOf 49 = .ok (.ifCond .eq 30, 3) := by decide +kernel
theorem dX4_looseOf_52 : decode cX4_looseOf 52 = .ok (.iload_n 1, 1) := by decide +kernel
theorem dX4_looseOf_53 : decode cX4_looseOf 53 = .ok (.iload 4, 2) := by decide +kernel
theorem dX4_looseOf_55 : decode cX4_looseOf 55 = .ok (.iconst (-1), 1) := by decide +kernel
theorem dX4_looseOf_56 : decode cX4_looseOf 56 = .ok (.ixor, 1) := by decide +kernel
theorem dX4_looseOf_57 : decode cX4_looseOf 57 = .ok (.iand, 1) := by decide +kernel
theorem dX4_looseOf_58 : decode cX4_looseOf 58 = .ok (.istore 6, 2) := by decide +kernel
theorem dX4_looseOf_60 : decode cX4_looseOf 60 = .ok (.iload 5, 2) := by decide +kernel
theorem dX4_looseOf_62 : decode cX4_looseOf 62 = .ok (.iload_n 2, 1) := by decide +kernel
theorem dX4_looseOf_63 : decode cX4_looseOf 63 = .ok (.if_icmp .le 8, 3) := by decide +kernel
theorem dX4_looseOf_66 : decode cX4_looseOf 66 = .ok (.iload 6, 2) := by decide +kernel
theorem dX4_looseOf_68 : decode cX4_looseOf 68 = .ok (.goto 7, 3) := by decide +kernel
theorem dX4_looseOf_71 : decode cX4_looseOf 71 = .ok (.iload_n 3, 1) := by decide +kernel
theorem dX4_looseOf_72 : decode cX4_looseOf 72 = .ok (.iload 6, 2) := by decide +kernel
theorem dX4_looseOf_74 : decode cX4_looseOf 74 = .ok (.ior, 1) := by decide +kernel
theorem dX4_looseOf_75 : decode cX4_looseOf 75 = .ok (.istore_n 3, 1) := by decide +kernel
theorem dX4_looseOf_76 : decode cX4_looseOf 76 = .ok (.iload 5, 2) := by decide +kernel
theorem dX4_looseOf_78 : decode cX4_looseOf 78 = .ok (.istore_n 2, 1) := by decide +kernel
theorem dX4_looseOf_79 : decode cX4_looseOf 79 = .ok (.iinc 4 1, 3) := by decide +kernel
theorem dX4_looseOf_82 : decode cX4_looseOf 82 = .ok (.goto (-75), 3) := by decide +kernel
theorem dX4_looseOf_85 : decode cX4_looseOf 85 = .ok (.iload_n 3, 1) := by decide +kernel
theorem dX4_looseOf_86 : decode cX4_looseOf 86 = .ok (.ireturn, 1) := by decide +kernel
theorem dX4_fewestOf_0 : decode cX4_fewestOf 0 = .ok (.iconst 0, 1) := by decide +kernel
theorem dX4_fewestOf_1 : decode cX4_fewestOf 1 = .ok (.istore_n 3, 1) := by decide +kernel
theorem dX4_fewestOf_2 : decode cX4_fewestOf 2 = .ok (.lconst 0, 1) := by decide +kernel
theorem dX4_fewestOf_3 : decode cX4_fewestOf 3 = .ok (.lstore 4, 2) := by decide +kernel
theorem dX4_fewestOf_5 : decode cX4_fewestOf 5 = .ok (.lconst 1, 1) := by decide +kernel
theorem dX4_fewestOf_6 : decode cX4_fewestOf 6 = .ok (.lstore 6, 2) := by decide +kernel
theorem dX4_fewestOf_8 : decode cX4_fewestOf 8 = .ok (.iconst 1, 1) := by decide +kernel
theorem dX4_fewestOf_9 : decode cX4_fewestOf 9 = .ok (.istore 8, 2) := by decide +kernel
theorem dX4_fewestOf_11 : decode cX4_fewestOf 11 = .ok (.iload 8, 2) := by decide +kernel
theorem dX4_fewestOf_13 : decode cX4_fewestOf 13 = .ok (.iload_n 2, 1) := by decide +kernel
theorem dX4_fewestOf_14 : decode cX4_fewestOf 14 = .ok (.if_icmp .gt 94, 3) := by decide +kernel
theorem dX4_fewestOf_17 : decode cX4_fewestOf 17 = .ok (.iload 8, 2) := by decide +kernel
theorem dX4_fewestOf_19 : decode cX4_fewestOf 19 = .ok (.iconst 3, 1) := by decide +kernel
theorem dX4_fewestOf_20 : decode cX4_fewestOf 20 = .ok (.if_icmp .gt 88, 3) := by decide +kernel
theorem dX4_fewestOf_23 : decode cX4_fewestOf 23 = .ok (.iconst 1, 1) := by decide +kernel
theorem dX4_fewestOf_24 : decode cX4_fewestOf 24 = .ok (.istore 9, 2) := by decide +kernel
theorem dX4_fewestOf_26 : decode cX4_fewestOf 26 = .ok (.iload 9, 2) := by decide +kernel
theorem dX4_fewestOf_28 : decode cX4_fewestOf 28 = .ok (.iload_n 1, 1) := by decide +kernel
theorem dX4_fewestOf_29 : decode cX4_fewestOf 29 = .ok (.if_icmp .gt 73, 3) := by decide +kernel
theorem dX4_fewestOf_32 : decode cX4_fewestOf 32 = .ok (.iload 9, 2) := by decide +kernel
theorem dX4_fewestOf_34 : decode cX4_fewestOf 34 = .ok (.sipush 256, 3) := by decide +kernel
theorem dX4_fewestOf_37 : decode cX4_fewestOf 37 = .ok (.if_icmp .ge 65, 3) := by decide +kernel
theorem dX4_fewestOf_40 : decode cX4_fewestOf 40 = .ok (.iload 9, 2) := by decide +kernel
theorem dX4_fewestOf_42 : decode cX4_fewestOf 42 = .ok (.invokestatic 84, 3) := by decide +kernel
theorem dX4_fewestOf_45 : decode cX4_fewestOf 45 = .ok (.iload 8, 2) := by decide +kernel
theorem dX4_fewestOf_47 : decode cX4_fewestOf 47 = .ok (.if_icmp .ne 49, 3) := by decide +kernel
theorem dX4_fewestOf_50 : decode cX4_fewestOf 50 = .ok (.aload_n 0, 1) := by decide +kernel
theorem dX4_fewestOf_51 : decode cX4_fewestOf 51 = .ok (.iload 9, 2) := by decide +kernel
theorem dX4_fewestOf_53 : decode cX4_fewestOf 53 = .ok (.invokevirtual 80, 3) := by decide +kernel
theorem dX4_fewestOf_56 : decode cX4_fewestOf 56 = .ok (.ifCond .eq 40, 3) := by decide +kernel
theorem dX4_fewestOf_59 : decode cX4_fewestOf 59 = .ok (.iload_n 3, 1) := by decide +kernel
theorem dX4_fewestOf_60 : decode cX4_fewestOf 60 = .ok (.ifCond .eq 21, 3) := by decide +kernel
theorem dX4_fewestOf_63 : decode cX4_fewestOf 63 = .ok (.aload_n 0, 1) := by decide +kernel
theorem dX4_fewestOf_64 : decode cX4_fewestOf 64 = .ok (.invokevirtual 91, 3) := by decide +kernel
theorem dX4_fewestOf_67 : decode cX4_fewestOf 67 = .ok (.aload_n 0, 1) := by decide +kernel
theorem dX4_fewestOf_68 : decode cX4_fewestOf 68 = .ok (.invokevirtual 76, 3) := by decide +kernel
theorem dX4_fewestOf_71 : decode cX4_fewestOf 71 = .ok (.lload 4, 2) := by decide +kernel
theorem dX4_fewestOf_73 : decode cX4_fewestOf 73 = .ok (.lload 6, 2) := by decide +kernel
theorem dX4_fewestOf_75 : decode cX4_fewestOf 75 = .ok (.invokestatic 94, 3) := by decide +kernel
theorem dX4_fewestOf_78 : decode cX4_fewestOf 78 = .ok (.ifCond .ge 18, 3) := by decide +kernel
theorem dX4_fewestOf_81 : decode cX4_fewestOf 81 = .ok (.iload 9, 2) := by decide +kernel
theorem dX4_fewestOf_83 : decode cX4_fewestOf 83 = .ok (.istore_n 3, 1) := by decide +kernel
theorem dX4_fewestOf_84 : decode cX4_fewestOf 84 = .ok (.aload_n 0, 1) := by decide +kernel
theorem dX4_fewestOf_85 : decode cX4_fewestOf 85 = .ok (.invokevirtual 91, 3) := by decide +kernel
theorem dX4_fewestOf_88 : decode cX4_fewestOf 88 = .ok (.lstore 4, 2) := by decide +kernel
theorem dX4_fewestOf_90 : decode cX4_fewestOf 90 = .ok (.aload_n 0, 1) := by decide +kernel
theorem dX4_fewestOf_91 : decode cX4_fewestOf 91 = .ok (.invokevirtual 76, 3) := by decide +kernel
theorem dX4_fewestOf_94 : decode cX4_fewestOf 94 = .ok (.lstore 6, 2) := by decide +kernel
theorem dX4_fewestOf_96 : decode cX4_fewestOf 96 = .ok (.iinc 9 1, 3) := by decide +kernel
theorem dX4_fewestOf_99 : decode cX4_fewestOf 99 = .ok (.goto (-73), 3) := by decide +kernel
theorem dX4_fewestOf_102 : decode cX4_fewestOf 102 = .ok (.iinc 8 1, 3) := by decide +kernel
theorem dX4_fewestOf_105 : decode cX4_fewestOf 105 = .ok (.goto (-94), 3) := by decide +kernel
theorem dX4_fewestOf_108 : decode cX4_fewestOf 108 = .ok (.iload_n 3, 1) := by decide +kernel
theorem dX4_fewestOf_109 : decode cX4_fewestOf 109 = .ok (.ireturn, 1) := by decide +kernel
theorem dX5_init_0 : decode cX5_init 0 = .ok (.aload_n 0, 1) := by decide +kernel
theorem dX5_init_1 : decode cX5_init 1 = .ok (.invokespecial 3, 3) := by decide +kernel
theorem dX5_init_4 : decode cX5_init 4 = .ok (.aload_n 0, 1) := by decide +kernel
theorem dX5_init_5 : decode cX5_init 5 = .ok (.iconst 3, 1) := by decide +kernel
theorem dX5_init_6 : decode cX5_init 6 = .ok (.newarray .int, 2) := by decide +kernel
theorem dX5_init_8 : decode cX5_init 8 = .ok (.putfield 11, 3) := by decide +kernel
theorem dX5_init_11 : decode cX5_init 11 = .ok (.aload_n 0, 1) := by decide +kernel
theorem dX5_init_12 : decode cX5_init 12 = .ok (.iconst 3, 1) := by decide +kernel
theorem dX5_init_13 : decode cX5_init 13 = .ok (.bipush 36, 2) := by decide +kernel
theorem dX5_init_15 : decode cX5_init 15 = .ok (.multianewarray 15 2, 4) := by decide +kernel
theorem dX5_init_19 : decode cX5_init 19 = .ok (.putfield 17, 3) := by decide +kernel
theorem dX5_init_22 : decode cX5_init 22 = .ok (.aload_n 0, 1) := by decide +kernel
theorem dX5_init_23 : decode cX5_init 23 = .ok (.getfield 11, 3) := by decide +kernel
theorem dX5_init_26 : decode cX5_init 26 = .ok (.iconst (-1), 1) := by decide +kernel
theorem dX5_init_27 : decode cX5_init 27 = .ok (.invokestatic 20, 3) := by decide +kernel
theorem dX5_init_30 : decode cX5_init 30 = .ok (.return_, 1) := by decide +kernel
theorem dX5_isSheet_0 : decode cX5_isSheet 0 = .ok (.iload_n 0, 1) := by decide +kernel
theorem dX5_isSheet_1 : decode cX5_isSheet 1 = .ok (.iconst 0, 1) := by decide +kernel
theorem dX5_isSheet_2 : decode cX5_isSheet 2 = .ok (.iconst 2, 1) := by decide +kernel
theorem dX5_isSheet_3 : decode cX5_isSheet 3 = .ok (.invokestatic 26, 3) := by decide +kernel
theorem dX5_isSheet_6 : decode cX5_isSheet 6 = .ok (.ireturn, 1) := by decide +kernel
theorem dX5_placesOf_0 : decode cX5_placesOf 0 = .ok (.iload_n 1, 1) := by decide +kernel
theorem dX5_placesOf_1 : decode cX5_placesOf 1 = .ok (.invokestatic 32, 3) := by decide +kernel
theorem dX5_placesOf_4 : decode cX5_placesOf 4 = .ok (.ifCond .eq 12, 3) := by decide +kernel
theorem dX5_placesOf_7 : decode cX5_placesOf 7 = .ok (.aload_n 0, 1) := by decide +kernel
theorem dX5_placesOf_8 : decode cX5_placesOf 8 = .ok (.getfield 11, 3) := by decide +kernel
theorem dX5_placesOf_11 : decode cX5_placesOf 11 = .ok (.iload_n 1, 1) := by decide +kernel
theorem dX5_placesOf_12 : decode cX5_placesOf 12 = .ok (.iaload, 1) := by decide +kernel
theorem dX5_placesOf_13 : decode cX5_placesOf 13 = .ok (.goto 4, 3) := by decide +kernel
theorem dX5_placesOf_16 : decode cX5_placesOf 16 = .ok (.iconst (-1), 1) := by decide +kernel
theorem dX5_placesOf_17 : decode cX5_placesOf 17 = .ok (.ireturn, 1) := by decide +kernel
theorem dX5_isMissing_0 : decode cX5_isMissing 0 = .ok (.aload_n 0, 1) := by decide +kernel
theorem dX5_isMissing_1 : decode cX5_isMissing 1 = .ok (.iload_n 1, 1) := by decide +kernel
theorem dX5_isMissing_2 : decode cX5_isMissing 2 = .ok (.invokevirtual 36, 3) := by decide +kernel
theorem dX5_isMissing_5 : decode cX5_isMissing 5 = .ok (.iconst (-1), 1) := by decide +kernel
theorem dX5_isMissing_6 : decode cX5_isMissing 6 = .ok (.if_icmp .ne 7, 3) := by decide +kernel
theorem dX5_isMissing_9 : decode cX5_isMissing 9 = .ok (.iconst 1, 1) := by decide +kernel
theorem dX5_isMissing_10 : decode cX5_isMissing 10 = .ok (.goto 4, 3) := by decide +kernel
theorem dX5_isMissing_13 : decode cX5_isMissing 13 = .ok (.iconst 0, 1) := by decide +kernel
theorem dX5_isMissing_14 : decode cX5_isMissing 14 = .ok (.ireturn, 1) := by decide +kernel
theorem dX5_hasPlace_0 : decode cX5_hasPlace 0 = .ok (.iload_n 2, 1) := by decide +kernel
theorem dX5_hasPlace_1 : decode cX5_hasPlace 1 = .ok (.ifCond .lt 22, 3) := by decide +kernel
theorem dX5_hasPlace_4 : decode cX5_hasPlace 4 = .ok (.iload_n 2, 1) := by decide +kernel
theorem dX5_hasPlace_5 : decode cX5_hasPlace 5 = .ok (.aload_n 0, 1) := by decide +kernel
theorem dX5_hasPlace_6 : decode cX5_hasPlace 6 = .ok (.iload_n 1, 1) := by decide +kernel
theorem dX5_hasPlace_7 : decode cX5_hasPlace 7 = .ok (.invokevirtual 36, 3) := by decide +kernel
theorem dX5_hasPlace_10 : decode cX5_hasPlace 10 = .ok (.if_icmp .ge 13, 3) := by decide +kernel
theorem dX5_hasPlace_13 : decode cX5_hasPlace 13 = .ok (.iload_n 2, 1) := by decide +kernel
theorem dX5_hasPlace_14 : decode cX5_hasPlace 14 = .ok (.bipush 36, 2) := by decide +kernel
theorem dX5_hasPlace_16 : decode cX5_hasPlace 16 = .ok (.if_icmp .ge 7, 3) := by decide +kernel
theorem dX5_hasPlace_19 : decode cX5_hasPlace 19 = .ok (.iconst 1, 1) := by decide +kernel
theorem dX5_hasPlace_20 : decode cX5_hasPlace 20 = .ok (.goto 4, 3) := by decide +kernel
theorem dX5_hasPlace_23 : decode cX5_hasPlace 23 = .ok (.iconst 0, 1) := by decide +kernel
theorem dX5_hasPlace_24 : decode cX5_hasPlace 24 = .ok (.ireturn, 1) := by decide +kernel
theorem dX5_layOut_0 : decode cX5_layOut 0 = .ok (.iload_n 1, 1) := by decide +kernel
theorem dX5_layOut_1 : decode cX5_layOut 1 = .ok (.invokestatic 32, 3) := by decide +kernel
theorem dX5_layOut_4 : decode cX5_layOut 4 = .ok (.ifCond .eq 32, 3) := by decide +kernel
theorem dX5_layOut_7 : decode cX5_layOut 7 = .ok (.iload_n 2, 1) := by decide +kernel
theorem dX5_layOut_8 : decode cX5_layOut 8 = .ok (.iconst (-1), 1) := by decide +kernel
theorem dX5_layOut_9 : decode cX5_layOut 9 = .ok (.bipush 36, 2) := by decide +kernel
theorem dX5_layOut_11 : decode cX5_layOut 11 = .ok (.invokestatic 26, 3) := by decide +kernel
theorem dX5_layOut_14 : decode cX5_layOut 14 = .ok (.ifCond .eq 22, 3) := by decide +kernel
theorem dX5_layOut_17 : decode cX5_layOut 17 = .ok (.aload_n 0, 1) := by decide +kernel
theorem dX5_layOut_18 : decode cX5_layOut 18 = .ok (.getfield 11, 3) := by decide +kernel
theorem dX5_layOut_21 : decode cX5_layOut 21 = .ok (.iload_n 1, 1) := by decide +kernel
theorem dX5_layOut_22 : decode cX5_layOut 22 = .ok (.iload_n 2, 1) := by decide +kernel
theorem dX5_layOut_23 : decode cX5_layOut 23 = .ok (.iastore, 1) := by decide +kernel
theorem dX5_layOut_24 : decode cX5_layOut 24 = .ok (.aload_n 0, 1) := by decide +kernel
theorem dX5_layOut_25 : decode cX5_layOut 25 = .ok (.getfield 17, 3) := by decide +kernel
theorem dX5_layOut_28 : decode cX5_layOut 28 = .ok (.iload_n 1, 1) := by decide +kernel
theorem dX5_layOut_29 : decode cX5_layOut 29 = .ok (.aaload, 1) := by decide +kernel
theorem dX5_layOut_30 : decode cX5_layOut 30 = .ok (.sipush (-32768), 3) := by decide +kernel
theorem dX5_layOut_33 : decode cX5_layOut 33 = .ok (.invokestatic 40, 3) := by decide +kernel
theorem dX5_layOut_36 : decode cX5_layOut 36 = .ok (.return_, 1) := by decide +kernel
theorem dX5_write_0 : decode cX5_write 0 = .ok (.aload_n 0, 1) := by decide +kernel
theorem dX5_write_1 : decode cX5_write 1 = .ok (.iload_n 1, 1) := by decide +kernel
theorem dX5_write_2 : decode cX5_write 2 = .ok (.iload_n 2, 1) := by decide +kernel
theorem dX5_write_3 : decode cX5_write 3 = .ok (.invokevirtual 43, 3) := by decide +kernel
theorem dX5_write_6 : decode cX5_write 6 = .ok (.ifCond .eq 13, 3) := by decide +kernel
theorem dX5_write_9 : decode cX5_write 9 = .ok (.aload_n 0, 1) := by decide +kernel
theorem dX5_write_10 : decode cX5_write 10 = .ok (.getfield 17, 3) := by decide +kernel
theorem dX5_write_13 : decode cX5_write 13 = .ok (.iload_n 1, 1) := by decide +kernel
theorem dX5_write_14 : decode cX5_write 14 = .ok (.aaload, 1) := by decide +kernel
theorem dX5_write_15 : decode cX5_write 15 = .ok (.iload_n 2, 1) := by decide +kernel
theorem dX5_write_16 : decode cX5_write 16 = .ok (.iload_n 3, 1) := by decide +kernel
theorem dX5_write_17 : decode cX5_write 17 = .ok (.i2s, 1) := by decide +kernel
theorem dX5_write_18 : decode cX5_write 18 = .ok (.sastore, 1) := by decide +kernel
theorem dX5_write_19 : decode cX5_write 19 = .ok (.aload_n 0, 1) := by decide +kernel
theorem dX5_write_20 : decode cX5_write 20 = .ok (.iload_n 1, 1) := by decide +kernel
theorem dX5_write_21 : decode cX5_write 21 = .ok (.iload_n 2, 1) := by decide +kernel
theorem dX5_write_22 : decode cX5_write 22 = .ok (.invokevirtual 47, 3) := by decide +kernel
theorem dX5_write_25 : decode cX5_write 25 = .ok (.ireturn, 1) := by decide +kernel
theorem dX5_rateAt_0 : decode cX5_rateAt 0 = .ok (.aload_n 0, 1) := by decide +kernel
theorem dX5_rateAt_1 : decode cX5_rateAt 1 = .ok (.iload_n 1, 1) := by decide +kernel
theorem dX5_rateAt_2 : decode cX5_rateAt 2 = .ok (.iload_n 2, 1) := by decide +kernel
theorem dX5_rateAt_3 : decode cX5_rateAt 3 = .ok (.invokevirtual 43, 3) := by decide +kernel
theorem dX5_rateAt_6 : decode cX5_rateAt 6 = .ok (.ifCond .eq 14, 3) := by decide +kernel
theorem dX5_rateAt_9 : decode cX5_rateAt 9 = .ok (.aload_n 0, 1) := by decide +kernel
theorem dX5_rateAt_10 : decode cX5_rateAt 10 = .ok (.getfield 17, 3) := by decide +kernel
theorem dX5_rateAt_13 : decode cX5_rateAt 13 = .ok (.iload_n 1, 1) := by decide +kernel
theorem dX5_rateAt_14 : decode cX5_rateAt 14 = .ok (.aaload, 1) := by decide +kernel
theorem dX5_rateAt_15 : decode cX5_rateAt 15 = .ok (.iload_n 2, 1) := by decide +kernel
theorem dX5_rateAt_16 : decode cX5_rateAt 16 = .ok (.saload, 1) := by decide +kernel
theorem dX5_rateAt_17 : decode cX5_rateAt 17 = .ok (.goto 6, 3) := by decide +kernel
theorem dX5_rateAt_20 : decode cX5_rateAt 20 = .ok (.sipush (-32768), 3) := by decide +kernel
theorem dX5_rateAt_23 : decode cX5_rateAt 23 = .ok (.ireturn, 1) := by decide +kernel
theorem dX5_wasRead_0 : decode cX5_wasRead 0 = .ok (.aload_n 0, 1) := by decide +kernel
theorem dX5_wasRead_1 : decode cX5_wasRead 1 = .ok (.iload_n 1, 1) := by decide +kernel
theorem dX5_wasRead_2 : decode cX5_wasRead 2 = .ok (.iload_n 2, 1) := by decide +kernel
theorem dX5_wasRead_3 : decode cX5_wasRead 3 = .ok (.invokevirtual 47, 3) := by decide +kernel
theorem dX5_wasRead_6 : decode cX5_wasRead 6 = .ok (.sipush (-32768), 3) := by decide +kernel
theorem dX5_wasRead_9 : decode cX5_wasRead 9 = .ok (.if_icmp .eq 7, 3) := by decide +kernel
theorem dX5_wasRead_12 : decode cX5_wasRead 12 = .ok (.iconst 1, 1) := by decide +kernel
theorem dX5_wasRead_13 : decode cX5_wasRead 13 = .ok (.goto 4, 3) := by decide +kernel
theorem dX5_wasRead_16 : decode cX5_wasRead 16 = .ok (.iconst 0, 1) := by decide +kernel
theorem dX5_wasRead_17 : decode cX5_wasRead 17 = .ok (.ireturn, 1) := by decide +kernel
theorem dX5_howManyRead_0 : decode cX5_howManyRead 0 = .ok (.iconst 0, 1) := by decide +kernel
theorem dX5_howManyRead_1 : decode cX5_howManyRead 1 = .ok (.istore_n 3, 1) := by decide +kernel
theorem dX5_howManyRead_2 : decode cX5_howManyRead 2 = .ok (.iconst 0, 1) := by decide +kernel
theorem dX5_howManyRead_3 : decode cX5_howManyRead 3 = .ok (.istore 4, 2) := by decide +kernel
theorem dX5_howManyRead_5 : decode cX5_howManyRead 5 = .ok (.iload 4, 2) := by decide +kernel
theorem dX5_howManyRead_7 : decode cX5_howManyRead 7 = .ok (.iload_n 2, 1) := by decide +kernel
theorem dX5_howManyRead_8 : decode cX5_howManyRead 8 = .ok (.if_icmp .ge 22, 3) := by decide +kernel
theorem dX5_howManyRead_11 : decode cX5_howManyRead 11 = .ok (.aload_n 0, 1) := by decide +kernel
theorem dX5_howManyRead_12 : decode cX5_howManyRead 12 = .ok (.iload_n 1, 1) := by decide +kernel
theorem dX5_howManyRead_13 : decode cX5_howManyRead 13 = .ok (.iload 4, 2) := by decide +kernel
theorem dX5_howManyRead_15 : decode cX5_howManyRead 15 = .ok (.invokevirtual 51, 3) := by decide +kernel
theorem dX5_howManyRead_18 : decode cX5_howManyRead 18 = .ok (.ifCond .eq 6, 3) := by decide +kernel
theorem dX5_howManyRead_21 : decode cX5_howManyRead 21 = .ok (.iinc 3 1, 3) := by decide +kernel
theorem dX5_howManyRead_24 : decode cX5_howManyRead 24 = .ok (.iinc 4 1, 3) := by decide +kernel
theorem dX5_howManyRead_27 : decode cX5_howManyRead 27 = .ok (.goto (-22), 3) := by decide +kernel
theorem dX5_howManyRead_30 : decode cX5_howManyRead 30 = .ok (.iload_n 3, 1) := by decide +kernel
theorem dX5_howManyRead_31 : decode cX5_howManyRead 31 = .ok (.ireturn, 1) := by decide +kernel
theorem dX5_holdsRates_0 : decode cX5_holdsRates 0 = .ok (.iconst 0, 1) := by decide +kernel
theorem dX5_holdsRates_1 : decode cX5_holdsRates 1 = .ok (.istore_n 3, 1) := by decide +kernel
theorem dX5_holdsRates_2 : decode cX5_holdsRates 2 = .ok (.iload_n 3, 1) := by decide +kernel
theorem dX5_holdsRates_3 : decode cX5_holdsRates 3 = .ok (.iload_n 2, 1) := by decide +kernel
theorem dX5_holdsRates_4 : decode cX5_holdsRates 4 = .ok (.if_icmp .ge 32, 3) := by decide +kernel
theorem dX5_holdsRates_7 : decode cX5_holdsRates 7 = .ok (.aload_n 0, 1) := by decide +kernel
theorem dX5_holdsRates_8 : decode cX5_holdsRates 8 = .ok (.iload_n 1, 1) := by decide +kernel
theorem dX5_holdsRates_9 : decode cX5_holdsRates 9 = .ok (.iload_n 3, 1) := by decide +kernel
theorem dX5_holdsRates_10 : decode cX5_holdsRates 10 = .ok (.invokevirtual 51, 3) := by decide +kernel
theorem dX5_holdsRates_13 : decode cX5_holdsRates 13 = .ok (.ifCond .eq 17, 3) := by decide +kernel
theorem dX5_holdsRates_16 : decode cX5_holdsRates 16 = .ok (.aload_n 0, 1) := by decide +kernel
theorem dX5_holdsRates_17 : decode cX5_holdsRates 17 = .ok (.iload_n 1, 1) := by decide +kernel
theorem dX5_holdsRates_18 : decode cX5_holdsRates 18 = .ok (.iload_n 3, 1) := by decide +kernel
theorem dX5_holdsRates_19 : decode cX5_holdsRates 19 = .ok (.invokevirtual 47, 3) := by decide +kernel
theorem dX5_holdsRates_22 : decode cX5_holdsRates 22 = .ok (.invokestatic 54, 3) := by decide +kernel
theorem dX5_holdsRates_25 : decode cX5_holdsRates 25 = .ok (.ifCond .ne 5, 3) := by decide +kernel
theorem dX5_holdsRates_28 : decode cX5_holdsRates 28 = .ok (.iconst 0, 1) := by decide +kernel
theorem dX5_holdsRates_29 : decode cX5_holdsRates 29 = .ok (.ireturn, 1) := by decide +kernel
theorem dX5_holdsRates_30 : decode cX5_holdsRates 30 = .ok (.iinc 3 1, 3) := by decide +kernel
theorem dX5_holdsRates_33 : decode cX5_holdsRates 33 = .ok (.goto (-31), 3) := by decide +kernel
theorem dX5_holdsRates_36 : decode cX5_holdsRates 36 = .ok (.iconst 1, 1) := by decide +kernel
theorem dX5_holdsRates_37 : decode cX5_holdsRates 37 = .ok (.ireturn, 1) := by decide +kernel
theorem dX6_init_0 : decode cX6_init 0 = .ok (.aload_n 0, 1) := by decide +kernel
theorem dX6_init_1 : decode cX6_init 1 = .ok (.invokespecial 3, 3) := by decide +kernel
theorem dX6_init_4 : decode cX6_init 4 = .ok (.aload_n 0, 1) := by decide +kernel
theorem dX6_init_5 : decode cX6_init 5 = .ok (.bipush 8, 2) := by decide +kernel
theorem dX6_init_7 : decode cX6_init 7 = .ok (.newarray .long, 2) := by decide +kernel
theorem dX6_init_9 : decode cX6_init 9 = .ok (.putfield 9, 3) := by decide +kernel
theorem dX6_init_12 : decode cX6_init 12 = .ok (.aload_n 0, 1) := by decide +kernel
theorem dX6_init_13 : decode cX6_init 13 = .ok (.lconst 1, 1) := by decide +kernel
theorem dX6_init_14 : decode cX6_init 14 = .ok (.putfield 15, 3) := by decide +kernel
theorem dX6_init_17 : decode cX6_init 17 = .ok (.return_, 1) := by decide +kernel
theorem dX6_take_0 : decode cX6_take 0 = .ok (.aload_n 0, 1) := by decide +kernel
theorem dX6_take_1 : decode cX6_take 1 = .ok (.iconst 1, 1) := by decide +kernel
theorem dX6_take_2 : decode cX6_take 2 = .ok (.putfield 19, 3) := by decide +kernel
theorem dX6_take_5 : decode cX6_take 5 = .ok (.aload_n 0, 1) := by decide +kernel
theorem dX6_take_6 : decode cX6_take 6 = .ok (.iconst 0, 1) := by decide +kernel
theorem dX6_take_7 : decode cX6_take 7 = .ok (.putfield 23, 3) := by decide +kernel
theorem dX6_take_10 : decode cX6_take 10 = .ok (.aload_n 0, 1) := by decide +kernel
theorem dX6_take_11 : decode cX6_take 11 = .ok (.iload_n 1, 1) := by decide +kernel
theorem dX6_take_12 : decode cX6_take 12 = .ok (.putfield 26, 3) := by decide +kernel
theorem dX6_take_15 : decode cX6_take 15 = .ok (.aload_n 0, 1) := by decide +kernel
theorem dX6_take_16 : decode cX6_take 16 = .ok (.aload_n 2, 1) := by decide +kernel
theorem dX6_take_17 : decode cX6_take 17 = .ok (.invokevirtual 30, 3) := by decide +kernel
theorem dX6_take_20 : decode cX6_take 20 = .ok (.putfield 15, 3) := by decide +kernel
theorem dX6_take_23 : decode cX6_take 23 = .ok (.aload_n 0, 1) := by decide +kernel
theorem dX6_take_24 : decode cX6_take 24 = .ok (.aload_n 2, 1) := by decide +kernel
theorem dX6_take_25 : decode cX6_take 25 = .ok (.invokevirtual 35, 3) := by decide +kernel
theorem dX6_take_28 : decode cX6_take 28 = .ok (.putfield 38, 3) := by decide +kernel
theorem dX6_take_31 : decode cX6_take 31 = .ok (.iconst 0, 1) := by decide +kernel
theorem dX6_take_32 : decode cX6_take 32 = .ok (.istore_n 3, 1) := by decide +kernel
theorem dX6_take_33 : decode cX6_take 33 = .ok (.iload_n 3, 1) := by decide +kernel
theorem dX6_take_34 : decode cX6_take 34 = .ok (.bipush 8, 2) := by decide +kernel
theorem dX6_take_36 : decode cX6_take 36 = .ok (.if_icmp .ge 36, 3) := by decide +kernel
theorem dX6_take_39 : decode cX6_take 39 = .ok (.aload_n 0, 1) := by decide +kernel
theorem dX6_take_40 : decode cX6_take 40 = .ok (.getfield 9, 3) := by decide +kernel
theorem dX6_take_43 : decode cX6_take 43 = .ok (.iload_n 3, 1) := by decide +kernel
end
section
theorem dX6_take_44 : decode cX6_take 44 = .ok (.aload_n 0, 1) := by decide +kernel
theorem dX6_take_45 : decode cX6_take 45 = .ok (.iload_n 3, 1) := by decide +kernel
theorem dX6_take_46 : decode cX6_take 46 = .ok (.invokevirtual 40, 3) := by decide +kernel
theorem dX6_take_49 : decode cX6_take 49 = .ok (.ifCond .eq 15, 3) := by decide +kernel
theorem dX6_take_52 : decode cX6_take 52 = .ok (.aload_n 2, 1) := by decide +kernel
theorem dX6_take_53 : decode cX6_take 53 = .ok (.aload_n 0, 1) := by decide +kernel
theorem dX6_take_54 : decode cX6_take 54 = .ok (.iload_n 3, 1) := by decide +kernel
theorem dX6_take_55 : decode cX6_take 55 = .ok (.invokevirtual 44, 3) := by decide +kernel
theorem dX6_take_58 : decode cX6_take 58 = .ok (.invokevirtual 48, 3) := by decide +kernel
theorem dX6_take_61 : decode cX6_take 61 = .ok (.goto 4, 3) := by decide +kernel
theorem dX6_take_64 : decode cX6_take 64 = .ok (.lconst 0, 1) := by decide +kernel
theorem dX6_take_65 : decode cX6_take 65 = .ok (.lastore, 1) := by decide +kernel
theorem dX6_take_66 : decode cX6_take 66 = .ok (.iinc 3 1, 3) := by decide +kernel
theorem dX6_take_69 : decode cX6_take 69 = .ok (.goto (-36), 3) := by decide +kernel
theorem dX6_take_72 : decode cX6_take 72 = .ok (.return_, 1) := by decide +kernel
theorem dX6_forget_0 : decode cX6_forget 0 = .ok (.aload_n 0, 1) := by decide +kernel
theorem dX6_forget_1 : decode cX6_forget 1 = .ok (.iconst 0, 1) := by decide +kernel
theorem dX6_forget_2 : decode cX6_forget 2 = .ok (.putfield 19, 3) := by decide +kernel
theorem dX6_forget_5 : decode cX6_forget 5 = .ok (.return_, 1) := by decide +kernel
theorem dX6_growStale_0 : decode cX6_growStale 0 = .ok (.aload_n 0, 1) := by decide +kernel
theorem dX6_growStale_1 : decode cX6_growStale 1 = .ok (.iconst 1, 1) := by decide +kernel
theorem dX6_growStale_2 : decode cX6_growStale 2 = .ok (.putfield 23, 3) := by decide +kernel
theorem dX6_growStale_5 : decode cX6_growStale 5 = .ok (.return_, 1) := by decide +kernel
theorem dX6_areFound_0 : decode cX6_areFound 0 = .ok (.aload_n 0, 1) := by decide +kernel
theorem dX6_areFound_1 : decode cX6_areFound 1 = .ok (.getfield 19, 3) := by decide +kernel
theorem dX6_areFound_4 : decode cX6_areFound 4 = .ok (.ireturn, 1) := by decide +kernel
theorem dX6_areStale_0 : decode cX6_areStale 0 = .ok (.aload_n 0, 1) := by decide +kernel
theorem dX6_areStale_1 : decode cX6_areStale 1 = .ok (.getfield 23, 3) := by decide +kernel
theorem dX6_areStale_4 : decode cX6_areStale 4 = .ok (.ireturn, 1) := by decide +kernel
theorem dX6_causeSet_0 : decode cX6_causeSet 0 = .ok (.aload_n 0, 1) := by decide +kernel
theorem dX6_causeSet_1 : decode cX6_causeSet 1 = .ok (.getfield 26, 3) := by decide +kernel
theorem dX6_causeSet_4 : decode cX6_causeSet 4 = .ok (.ireturn, 1) := by decide +kernel
theorem dX6_has_0 : decode cX6_has 0 = .ok (.iload_n 1, 1) := by decide +kernel
theorem dX6_has_1 : decode cX6_has 1 = .ok (.ifCond .lt 24, 3) := by decide +kernel
theorem dX6_has_4 : decode cX6_has 4 = .ok (.iload_n 1, 1) := by decide +kernel
theorem dX6_has_5 : decode cX6_has 5 = .ok (.bipush 8, 2) := by decide +kernel
theorem dX6_has_7 : decode cX6_has 7 = .ok (.if_icmp .ge 18, 3) := by decide +kernel
theorem dX6_has_10 : decode cX6_has 10 = .ok (.aload_n 0, 1) := by decide +kernel
theorem dX6_has_11 : decode cX6_has 11 = .ok (.getfield 26, 3) := by decide +kernel
theorem dX6_has_14 : decode cX6_has 14 = .ok (.iload_n 1, 1) := by decide +kernel
theorem dX6_has_15 : decode cX6_has 15 = .ok (.ishr, 1) := by decide +kernel
theorem dX6_has_16 : decode cX6_has 16 = .ok (.iconst 1, 1) := by decide +kernel
theorem dX6_has_17 : decode cX6_has 17 = .ok (.iand, 1) := by decide +kernel
theorem dX6_has_18 : decode cX6_has 18 = .ok (.ifCond .eq 7, 3) := by decide +kernel
theorem dX6_has_21 : decode cX6_has 21 = .ok (.iconst 1, 1) := by decide +kernel
theorem dX6_has_22 : decode cX6_has 22 = .ok (.goto 4, 3) := by decide +kernel
theorem dX6_has_25 : decode cX6_has 25 = .ok (.iconst 0, 1) := by decide +kernel
theorem dX6_has_26 : decode cX6_has 26 = .ok (.ireturn, 1) := by decide +kernel
theorem dX6_placeOf_0 : decode cX6_placeOf 0 = .ok (.aload_n 0, 1) := by decide +kernel
theorem dX6_placeOf_1 : decode cX6_placeOf 1 = .ok (.iload_n 1, 1) := by decide +kernel
theorem dX6_placeOf_2 : decode cX6_placeOf 2 = .ok (.invokevirtual 40, 3) := by decide +kernel
theorem dX6_placeOf_5 : decode cX6_placeOf 5 = .ok (.ifCond .eq 19, 3) := by decide +kernel
theorem dX6_placeOf_8 : decode cX6_placeOf 8 = .ok (.aload_n 0, 1) := by decide +kernel
theorem dX6_placeOf_9 : decode cX6_placeOf 9 = .ok (.getfield 26, 3) := by decide +kernel
theorem dX6_placeOf_12 : decode cX6_placeOf 12 = .ok (.iconst 1, 1) := by decide +kernel
theorem dX6_placeOf_13 : decode cX6_placeOf 13 = .ok (.iload_n 1, 1) := by decide +kernel
theorem dX6_placeOf_14 : decode cX6_placeOf 14 = .ok (.ishl, 1) := by decide +kernel
theorem dX6_placeOf_15 : decode cX6_placeOf 15 = .ok (.iconst 1, 1) := by decide +kernel
theorem dX6_placeOf_16 : decode cX6_placeOf 16 = .ok (.isub, 1) := by decide +kernel
theorem dX6_placeOf_17 : decode cX6_placeOf 17 = .ok (.iand, 1) := by decide +kernel
theorem dX6_placeOf_18 : decode cX6_placeOf 18 = .ok (.invokestatic 52, 3) := by decide +kernel
theorem dX6_placeOf_21 : decode cX6_placeOf 21 = .ok (.goto 4, 3) := by decide +kernel
theorem dX6_placeOf_24 : decode cX6_placeOf 24 = .ok (.iconst 0, 1) := by decide +kernel
theorem dX6_placeOf_25 : decode cX6_placeOf 25 = .ok (.ireturn, 1) := by decide +kernel
theorem dX6_above_0 : decode cX6_above 0 = .ok (.aload_n 0, 1) := by decide +kernel
theorem dX6_above_1 : decode cX6_above 1 = .ok (.iload_n 1, 1) := by decide +kernel
theorem dX6_above_2 : decode cX6_above 2 = .ok (.invokevirtual 40, 3) := by decide +kernel
theorem dX6_above_5 : decode cX6_above 5 = .ok (.ifCond .eq 12, 3) := by decide +kernel
theorem dX6_above_8 : decode cX6_above 8 = .ok (.aload_n 0, 1) := by decide +kernel
theorem dX6_above_9 : decode cX6_above 9 = .ok (.getfield 9, 3) := by decide +kernel
theorem dX6_above_12 : decode cX6_above 12 = .ok (.iload_n 1, 1) := by decide +kernel
theorem dX6_above_13 : decode cX6_above 13 = .ok (.laload, 1) := by decide +kernel
theorem dX6_above_14 : decode cX6_above 14 = .ok (.goto 4, 3) := by decide +kernel
theorem dX6_above_17 : decode cX6_above 17 = .ok (.lconst 0, 1) := by decide +kernel
theorem dX6_above_18 : decode cX6_above 18 = .ok (.lreturn, 1) := by decide +kernel
theorem dX6_below_0 : decode cX6_below 0 = .ok (.aload_n 0, 1) := by decide +kernel
theorem dX6_below_1 : decode cX6_below 1 = .ok (.getfield 15, 3) := by decide +kernel
theorem dX6_below_4 : decode cX6_below 4 = .ok (.lreturn, 1) := by decide +kernel
theorem dX6_squares_0 : decode cX6_squares 0 = .ok (.aload_n 0, 1) := by decide +kernel
theorem dX6_squares_1 : decode cX6_squares 1 = .ok (.getfield 38, 3) := by decide +kernel
theorem dX6_squares_4 : decode cX6_squares 4 = .ok (.lreturn, 1) := by decide +kernel
theorem dX6_aboveIn_0 : decode cX6_aboveIn 0 = .ok (.lconst 0, 1) := by decide +kernel
theorem dX6_aboveIn_1 : decode cX6_aboveIn 1 = .ok (.lstore_n 3, 1) := by decide +kernel
theorem dX6_aboveIn_2 : decode cX6_aboveIn 2 = .ok (.iconst 0, 1) := by decide +kernel
theorem dX6_aboveIn_3 : decode cX6_aboveIn 3 = .ok (.istore 5, 2) := by decide +kernel
theorem dX6_aboveIn_5 : decode cX6_aboveIn 5 = .ok (.iload 5, 2) := by decide +kernel
theorem dX6_aboveIn_7 : decode cX6_aboveIn 7 = .ok (.bipush 8, 2) := by decide +kernel
theorem dX6_aboveIn_9 : decode cX6_aboveIn 9 = .ok (.if_icmp .ge 37, 3) := by decide +kernel
theorem dX6_aboveIn_12 : decode cX6_aboveIn 12 = .ok (.aload_n 0, 1) := by decide +kernel
theorem dX6_aboveIn_13 : decode cX6_aboveIn 13 = .ok (.iload 5, 2) := by decide +kernel
theorem dX6_aboveIn_15 : decode cX6_aboveIn 15 = .ok (.invokevirtual 40, 3) := by decide +kernel
theorem dX6_aboveIn_18 : decode cX6_aboveIn 18 = .ok (.ifCond .eq 22, 3) := by decide +kernel
theorem dX6_aboveIn_21 : decode cX6_aboveIn 21 = .ok (.lload_n 3, 1) := by decide +kernel
theorem dX6_aboveIn_22 : decode cX6_aboveIn 22 = .ok (.aload_n 0, 1) := by decide +kernel
theorem dX6_aboveIn_23 : decode cX6_aboveIn 23 = .ok (.getfield 9, 3) := by decide +kernel
theorem dX6_aboveIn_26 : decode cX6_aboveIn 26 = .ok (.iload 5, 2) := by decide +kernel
theorem dX6_aboveIn_28 : decode cX6_aboveIn 28 = .ok (.laload, 1) := by decide +kernel
theorem dX6_aboveIn_29 : decode cX6_aboveIn 29 = .ok (.aload_n 2, 1) := by decide +kernel
theorem dX6_aboveIn_30 : decode cX6_aboveIn 30 = .ok (.iload 5, 2) := by decide +kernel
theorem dX6_aboveIn_32 : decode cX6_aboveIn 32 = .ok (.iload_n 1, 1) := by decide +kernel
theorem dX6_aboveIn_33 : decode cX6_aboveIn 33 = .ok (.invokevirtual 57, 3) := by decide +kernel
theorem dX6_aboveIn_36 : decode cX6_aboveIn 36 = .ok (.i2l, 1) := by decide +kernel
theorem dX6_aboveIn_37 : decode cX6_aboveIn 37 = .ok (.lmul, 1) := by decide +kernel
theorem dX6_aboveIn_38 : decode cX6_aboveIn 38 = .ok (.ladd, 1) := by decide +kernel
theorem dX6_aboveIn_39 : decode cX6_aboveIn 39 = .ok (.lstore_n 3, 1) := by decide +kernel
theorem dX6_aboveIn_40 : decode cX6_aboveIn 40 = .ok (.iinc 5 1, 3) := by decide +kernel
theorem dX6_aboveIn_43 : decode cX6_aboveIn 43 = .ok (.goto (-38), 3) := by decide +kernel
theorem dX6_aboveIn_46 : decode cX6_aboveIn 46 = .ok (.lload_n 3, 1) := by decide +kernel
theorem dX6_aboveIn_47 : decode cX6_aboveIn 47 = .ok (.lreturn, 1) := by decide +kernel
theorem dX6_stepIn_0 : decode cX6_stepIn 0 = .ok (.aload_n 3, 1) := by decide +kernel
theorem dX6_stepIn_1 : decode cX6_stepIn 1 = .ok (.getfield 63, 3) := by decide +kernel
theorem dX6_stepIn_4 : decode cX6_stepIn 4 = .ok (.iload_n 2, 1) := by decide +kernel
theorem dX6_stepIn_5 : decode cX6_stepIn 5 = .ok (.invokevirtual 69, 3) := by decide +kernel
theorem dX6_stepIn_8 : decode cX6_stepIn 8 = .ok (.istore 4, 2) := by decide +kernel
theorem dX6_stepIn_10 : decode cX6_stepIn 10 = .ok (.aload_n 0, 1) := by decide +kernel
theorem dX6_stepIn_11 : decode cX6_stepIn 11 = .ok (.iload 4, 2) := by decide +kernel
theorem dX6_stepIn_13 : decode cX6_stepIn 13 = .ok (.invokevirtual 40, 3) := by decide +kernel
theorem dX6_stepIn_16 : decode cX6_stepIn 16 = .ok (.ifCond .eq 32, 3) := by decide +kernel
theorem dX6_stepIn_19 : decode cX6_stepIn 19 = .ok (.aload_n 0, 1) := by decide +kernel
theorem dX6_stepIn_20 : decode cX6_stepIn 20 = .ok (.getfield 15, 3) := by decide +kernel
theorem dX6_stepIn_23 : decode cX6_stepIn 23 = .ok (.aload_n 3, 1) := by decide +kernel
theorem dX6_stepIn_24 : decode cX6_stepIn 24 = .ok (.getfield 63, 3) := by decide +kernel
theorem dX6_stepIn_27 : decode cX6_stepIn 27 = .ok (.iload_n 2, 1) := by decide +kernel
theorem dX6_stepIn_28 : decode cX6_stepIn 28 = .ok (.invokevirtual 74, 3) := by decide +kernel
theorem dX6_stepIn_31 : decode cX6_stepIn 31 = .ok (.i2l, 1) := by decide +kernel
theorem dX6_stepIn_32 : decode cX6_stepIn 32 = .ok (.lmul, 1) := by decide +kernel
theorem dX6_stepIn_33 : decode cX6_stepIn 33 = .ok (.aload_n 3, 1) := by decide +kernel
theorem dX6_stepIn_34 : decode cX6_stepIn 34 = .ok (.getfield 77, 3) := by decide +kernel
theorem dX6_stepIn_37 : decode cX6_stepIn 37 = .ok (.iload 4, 2) := by decide +kernel
theorem dX6_stepIn_39 : decode cX6_stepIn 39 = .ok (.iload_n 1, 1) := by decide +kernel
theorem dX6_stepIn_40 : decode cX6_stepIn 40 = .ok (.invokevirtual 57, 3) := by decide +kernel
theorem dX6_stepIn_43 : decode cX6_stepIn 43 = .ok (.i2l, 1) := by decide +kernel
theorem dX6_stepIn_44 : decode cX6_stepIn 44 = .ok (.lmul, 1) := by decide +kernel
theorem dX6_stepIn_45 : decode cX6_stepIn 45 = .ok (.goto 4, 3) := by decide +kernel
theorem dX6_stepIn_48 : decode cX6_stepIn 48 = .ok (.lconst 0, 1) := by decide +kernel
theorem dX6_stepIn_49 : decode cX6_stepIn 49 = .ok (.lreturn, 1) := by decide +kernel
theorem dX6_isSize_0 : decode cX6_isSize 0 = .ok (.iload_n 2, 1) := by decide +kernel
theorem dX6_isSize_1 : decode cX6_isSize 1 = .ok (.i2l, 1) := by decide +kernel
theorem dX6_isSize_2 : decode cX6_isSize 2 = .ok (.lstore 4, 2) := by decide +kernel
theorem dX6_isSize_4 : decode cX6_isSize 4 = .ok (.iload_n 3, 1) := by decide +kernel
theorem dX6_isSize_5 : decode cX6_isSize 5 = .ok (.i2l, 1) := by decide +kernel
theorem dX6_isSize_6 : decode cX6_isSize 6 = .ok (.lstore 6, 2) := by decide +kernel
theorem dX6_isSize_8 : decode cX6_isSize 8 = .ok (.lload 6, 2) := by decide +kernel
theorem dX6_isSize_10 : decode cX6_isSize 10 = .ok (.lconst 0, 1) := by decide +kernel
theorem dX6_isSize_11 : decode cX6_isSize 11 = .ok (.lcmp, 1) := by decide +kernel
theorem dX6_isSize_12 : decode cX6_isSize 12 = .ok (.ifCond .ge 13, 3) := by decide +kernel
theorem dX6_isSize_15 : decode cX6_isSize 15 = .ok (.lload 4, 2) := by decide +kernel
theorem dX6_isSize_17 : decode cX6_isSize 17 = .ok (.lneg, 1) := by decide +kernel
theorem dX6_isSize_18 : decode cX6_isSize 18 = .ok (.lstore 4, 2) := by decide +kernel
theorem dX6_isSize_20 : decode cX6_isSize 20 = .ok (.lload 6, 2) := by decide +kernel
theorem dX6_isSize_22 : decode cX6_isSize 22 = .ok (.lneg, 1) := by decide +kernel
theorem dX6_isSize_23 : decode cX6_isSize 23 = .ok (.lstore 6, 2) := by decide +kernel
theorem dX6_isSize_25 : decode cX6_isSize 25 = .ok (.lload 6, 2) := by decide +kernel
theorem dX6_isSize_27 : decode cX6_isSize 27 = .ok (.lconst 0, 1) := by decide +kernel
theorem dX6_isSize_28 : decode cX6_isSize 28 = .ok (.lcmp, 1) := by decide +kernel
theorem dX6_isSize_29 : decode cX6_isSize 29 = .ok (.ifCond .eq 35, 3) := by decide +kernel
theorem dX6_isSize_32 : decode cX6_isSize 32 = .ok (.aload_n 0, 1) := by decide +kernel
theorem dX6_isSize_33 : decode cX6_isSize 33 = .ok (.iload_n 1, 1) := by decide +kernel
theorem dX6_isSize_34 : decode cX6_isSize 34 = .ok (.invokevirtual 40, 3) := by decide +kernel
theorem dX6_isSize_37 : decode cX6_isSize 37 = .ok (.ifCond .eq 27, 3) := by decide +kernel
theorem dX6_isSize_40 : decode cX6_isSize 40 = .ok (.lload 4, 2) := by decide +kernel
theorem dX6_isSize_42 : decode cX6_isSize 42 = .ok (.lload 6, 2) := by decide +kernel
theorem dX6_isSize_44 : decode cX6_isSize 44 = .ok (.aload_n 0, 1) := by decide +kernel
theorem dX6_isSize_45 : decode cX6_isSize 45 = .ok (.getfield 9, 3) := by decide +kernel
theorem dX6_isSize_48 : decode cX6_isSize 48 = .ok (.iload_n 1, 1) := by decide +kernel
theorem dX6_isSize_49 : decode cX6_isSize 49 = .ok (.laload, 1) := by decide +kernel
theorem dX6_isSize_50 : decode cX6_isSize 50 = .ok (.aload_n 0, 1) := by decide +kernel
theorem dX6_isSize_51 : decode cX6_isSize 51 = .ok (.getfield 15, 3) := by decide +kernel
theorem dX6_isSize_54 : decode cX6_isSize 54 = .ok (.invokestatic 81, 3) := by decide +kernel
theorem dX6_isSize_57 : decode cX6_isSize 57 = .ok (.ifCond .ne 7, 3) := by decide +kernel
theorem dX6_isSize_60 : decode cX6_isSize 60 = .ok (.iconst 1, 1) := by decide +kernel
theorem dX6_isSize_61 : decode cX6_isSize 61 = .ok (.goto 4, 3) := by decide +kernel
theorem dX6_isSize_64 : decode cX6_isSize 64 = .ok (.iconst 0, 1) := by decide +kernel
theorem dX6_isSize_65 : decode cX6_isSize 65 = .ok (.ireturn, 1) := by decide +kernel
theorem dX7_init_0 : decode cX7_init 0 = .ok (.aload_n 0, 1) := by decide +kernel
theorem dX7_init_1 : decode cX7_init 1 = .ok (.invokespecial 3, 3) := by decide +kernel
theorem dX7_init_4 : decode cX7_init 4 = .ok (.aload_n 0, 1) := by decide +kernel
theorem dX7_init_5 : decode cX7_init 5 = .ok (.bipush 36, 2) := by decide +kernel
theorem dX7_init_7 : decode cX7_init 7 = .ok (.newarray .boolean, 2) := by decide +kernel
theorem dX7_init_9 : decode cX7_init 9 = .ok (.putfield 9, 3) := by decide +kernel
theorem dX7_init_12 : decode cX7_init 12 = .ok (.aload_n 0, 1) := by decide +kernel
theorem dX7_init_13 : decode cX7_init 13 = .ok (.bipush 36, 2) := by decide +kernel
theorem dX7_init_15 : decode cX7_init 15 = .ok (.newarray .int, 2) := by decide +kernel
theorem dX7_init_17 : decode cX7_init 17 = .ok (.putfield 15, 3) := by decide +kernel
theorem dX7_init_20 : decode cX7_init 20 = .ok (.aload_n 0, 1) := by decide +kernel
theorem dX7_init_21 : decode cX7_init 21 = .ok (.bipush 36, 2) := by decide +kernel
theorem dX7_init_23 : decode cX7_init 23 = .ok (.newarray .int, 2) := by decide +kernel
theorem dX7_init_25 : decode cX7_init 25 = .ok (.putfield 19, 3) := by decide +kernel
theorem dX7_init_28 : decode cX7_init 28 = .ok (.return_, 1) := by decide +kernel
theorem dX7_has_0 : decode cX7_has 0 = .ok (.iload_n 1, 1) := by decide +kernel
theorem dX7_has_1 : decode cX7_has 1 = .ok (.invokestatic 22, 3) := by decide +kernel
theorem dX7_has_4 : decode cX7_has 4 = .ok (.ifCond .eq 16, 3) := by decide +kernel
theorem dX7_has_7 : decode cX7_has 7 = .ok (.aload_n 0, 1) := by decide +kernel
theorem dX7_has_8 : decode cX7_has 8 = .ok (.getfield 9, 3) := by decide +kernel
theorem dX7_has_11 : decode cX7_has 11 = .ok (.iload_n 1, 1) := by decide +kernel
theorem dX7_has_12 : decode cX7_has 12 = .ok (.baload, 1) := by decide +kernel
theorem dX7_has_13 : decode cX7_has 13 = .ok (.ifCond .eq 7, 3) := by decide +kernel
theorem dX7_has_16 : decode cX7_has 16 = .ok (.iconst 1, 1) := by decide +kernel
theorem dX7_has_17 : decode cX7_has 17 = .ok (.goto 4, 3) := by decide +kernel
theorem dX7_has_20 : decode cX7_has 20 = .ok (.iconst 0, 1) := by decide +kernel
theorem dX7_has_21 : decode cX7_has 21 = .ok (.ireturn, 1) := by decide +kernel
theorem dX7_write_0 : decode cX7_write 0 = .ok (.iload_n 1, 1) := by decide +kernel
theorem dX7_write_1 : decode cX7_write 1 = .ok (.invokestatic 22, 3) := by decide +kernel
theorem dX7_write_4 : decode cX7_write 4 = .ok (.ifCond .eq 33, 3) := by decide +kernel
theorem dX7_write_7 : decode cX7_write 7 = .ok (.aload_n 0, 1) := by decide +kernel
theorem dX7_write_8 : decode cX7_write 8 = .ok (.getfield 9, 3) := by decide +kernel
theorem dX7_write_11 : decode cX7_write 11 = .ok (.iload_n 1, 1) := by decide +kernel
theorem dX7_write_12 : decode cX7_write 12 = .ok (.iload_n 2, 1) := by decide +kernel
theorem dX7_write_13 : decode cX7_write 13 = .ok (.iload_n 3, 1) := by decide +kernel
theorem dX7_write_14 : decode cX7_write 14 = .ok (.if_icmp .gt 7, 3) := by decide +kernel
theorem dX7_write_17 : decode cX7_write 17 = .ok (.iconst 1, 1) := by decide +kernel
theorem dX7_write_18 : decode cX7_write 18 = .ok (.goto 4, 3) := by decide +kernel
theorem dX7_write_21 : decode cX7_write 21 = .ok (.iconst 0, 1) := by decide +kernel
theorem dX7_write_22 : decode cX7_write 22 = .ok (.bastore, 1) := by decide +kernel
theorem dX7_write_23 : decode cX7_write 23 = .ok (.aload_n 0, 1) := by decide +kernel
theorem dX7_write_24 : decode cX7_write 24 = .ok (.getfield 15, 3) := by decide +kernel
theorem dX7_write_27 : decode cX7_write 27 = .ok (.iload_n 1, 1) := by decide +kernel
theorem dX7_write_28 : decode cX7_write 28 = .ok (.iload_n 2, 1) := by decide +kernel
theorem dX7_write_29 : decode cX7_write 29 = .ok (.iastore, 1) := by decide +kernel
theorem dX7_write_30 : decode cX7_write 30 = .ok (.aload_n 0, 1) := by decide +kernel
theorem dX7_write_31 : decode cX7_write 31 = .ok (.getfield 19, 3) := by decide +kernel
theorem dX7_write_34 : decode cX7_write 34 = .ok (.iload_n 1, 1) := by decide +kernel
theorem dX7_write_35 : decode cX7_write 35 = .ok (.iload_n 3, 1) := by decide +kernel
theorem dX7_write_36 : decode cX7_write 36 = .ok (.iastore, 1) := by decide +kernel
theorem dX7_write_37 : decode cX7_write 37 = .ok (.return_, 1) := by decide +kernel
theorem dX7_howMany_0 : decode cX7_howMany 0 = .ok (.iconst 0, 1) := by decide +kernel
theorem dX7_howMany_1 : decode cX7_howMany 1 = .ok (.istore_n 1, 1) := by decide +kernel
theorem dX7_howMany_2 : decode cX7_howMany 2 = .ok (.aload_n 0, 1) := by decide +kernel
theorem dX7_howMany_3 : decode cX7_howMany 3 = .ok (.getfield 9, 3) := by decide +kernel
theorem dX7_howMany_6 : decode cX7_howMany 6 = .ok (.astore_n 2, 1) := by decide +kernel
theorem dX7_howMany_7 : decode cX7_howMany 7 = .ok (.aload_n 2, 1) := by decide +kernel
theorem dX7_howMany_8 : decode cX7_howMany 8 = .ok (.arraylength, 1) := by decide +kernel
theorem dX7_howMany_9 : decode cX7_howMany 9 = .ok (.istore_n 3, 1) := by decide +kernel
theorem dX7_howMany_10 : decode cX7_howMany 10 = .ok (.iconst 0, 1) := by decide +kernel
theorem dX7_howMany_11 : decode cX7_howMany 11 = .ok (.istore 4, 2) := by decide +kernel
theorem dX7_howMany_13 : decode cX7_howMany 13 = .ok (.iload 4, 2) := by decide +kernel
theorem dX7_howMany_15 : decode cX7_howMany 15 = .ok (.iload_n 3, 1) := by decide +kernel
theorem dX7_howMany_16 : decode cX7_howMany 16 = .ok (.if_icmp .ge 23, 3) := by decide +kernel
theorem dX7_howMany_19 : decode cX7_howMany 19 = .ok (.aload_n 2, 1) := by decide +kernel
theorem dX7_howMany_20 : decode cX7_howMany 20 = .ok (.iload 4, 2) := by decide +kernel
theorem dX7_howMany_22 : decode cX7_howMany 22 = .ok (.baload, 1) := by decide +kernel
theorem dX7_howMany_23 : decode cX7_howMany 23 = .ok (.istore 5, 2) := by decide +kernel
theorem dX7_howMany_25 : decode cX7_howMany 25 = .ok (.iload 5, 2) := by decide +kernel
theorem dX7_howMany_27 : decode cX7_howMany 27 = .ok (.ifCond .eq 6, 3) := by decide +kernel
theorem dX7_howMany_30 : decode cX7_howMany 30 = .ok (.iinc 1 1, 3) := by decide +kernel
theorem dX7_howMany_33 : decode cX7_howMany 33 = .ok (.iinc 4 1, 3) := by decide +kernel
theorem dX7_howMany_36 : decode cX7_howMany 36 = .ok (.goto (-23), 3) := by decide +kernel
theorem dX7_howMany_39 : decode cX7_howMany 39 = .ok (.iload_n 1, 1) := by decide +kernel
theorem dX7_howMany_40 : decode cX7_howMany 40 = .ok (.ireturn, 1) := by decide +kernel
theorem dX7_holds_0 : decode cX7_holds 0 = .ok (.aload_n 0, 1) := by decide +kernel
theorem dX7_holds_1 : decode cX7_holds 1 = .ok (.iload_n 1, 1) := by decide +kernel
theorem dX7_holds_2 : decode cX7_holds 2 = .ok (.invokevirtual 26, 3) := by decide +kernel
theorem dX7_holds_5 : decode cX7_holds 5 = .ok (.ifCond .eq 37, 3) := by decide +kernel
theorem dX7_holds_8 : decode cX7_holds 8 = .ok (.aload_n 0, 1) := by decide +kernel
theorem dX7_holds_9 : decode cX7_holds 9 = .ok (.getfield 15, 3) := by decide +kernel
theorem dX7_holds_12 : decode cX7_holds 12 = .ok (.iload_n 1, 1) := by decide +kernel
theorem dX7_holds_13 : decode cX7_holds 13 = .ok (.iaload, 1) := by decide +kernel
theorem dX7_holds_14 : decode cX7_holds 14 = .ok (.i2l, 1) := by decide +kernel
theorem dX7_holds_15 : decode cX7_holds 15 = .ok (.lload 4, 2) := by decide +kernel
theorem dX7_holds_17 : decode cX7_holds 17 = .ok (.lmul, 1) := by decide +kernel
theorem dX7_holds_18 : decode cX7_holds 18 = .ok (.lload_n 2, 1) := by decide +kernel
theorem dX7_holds_19 : decode cX7_holds 19 = .ok (.lcmp, 1) := by decide +kernel
theorem dX7_holds_20 : decode cX7_holds 20 = .ok (.ifCond .gt 22, 3) := by decide +kernel
theorem dX7_holds_23 : decode cX7_holds 23 = .ok (.lload_n 2, 1) := by decide +kernel
theorem dX7_holds_24 : decode cX7_holds 24 = .ok (.aload_n 0, 1) := by decide +kernel
theorem dX7_holds_25 : decode cX7_holds 25 = .ok (.getfield 19, 3) := by decide +kernel
theorem dX7_holds_28 : decode cX7_holds 28 = .ok (.iload_n 1, 1) := by decide +kernel
theorem dX7_holds_29 : decode cX7_holds 29 = .ok (.iaload, 1) := by decide +kernel
theorem dX7_holds_30 : decode cX7_holds 30 = .ok (.i2l, 1) := by decide +kernel
theorem dX7_holds_31 : decode cX7_holds 31 = .ok (.lload 4, 2) := by decide +kernel
theorem dX7_holds_33 : decode cX7_holds 33 = .ok (.lmul, 1) := by decide +kernel
theorem dX7_holds_34 : decode cX7_holds 34 = .ok (.lcmp, 1) := by decide +kernel
theorem dX7_holds_35 : decode cX7_holds 35 = .ok (.ifCond .gt 7, 3) := by decide +kernel
theorem dX7_holds_38 : decode cX7_holds 38 = .ok (.iconst 1, 1) := by decide +kernel
theorem dX7_holds_39 : decode cX7_holds 39 = .ok (.goto 4, 3) := by decide +kernel
theorem dX7_holds_42 : decode cX7_holds 42 = .ok (.iconst 0, 1) := by decide +kernel
theorem dX7_holds_43 : decode cX7_holds 43 = .ok (.ireturn, 1) := by decide +kernel
theorem dX7_copyFrom_0 : decode cX7_copyFrom 0 = .ok (.iconst 0, 1) := by decide +kernel
theorem dX7_copyFrom_1 : decode cX7_copyFrom 1 = .ok (.istore_n 2, 1) := by decide +kernel
theorem dX7_copyFrom_2 : decode cX7_copyFrom 2 = .ok (.iload_n 2, 1) := by decide +kernel
theorem dX7_copyFrom_3 : decode cX7_copyFrom 3 = .ok (.bipush 36, 2) := by decide +kernel
theorem dX7_copyFrom_5 : decode cX7_copyFrom 5 = .ok (.if_icmp .ge 45, 3) := by decide +kernel
theorem dX7_copyFrom_8 : decode cX7_copyFrom 8 = .ok (.aload_n 0, 1) := by decide +kernel
theorem dX7_copyFrom_9 : decode cX7_copyFrom 9 = .ok (.getfield 9, 3) := by decide +kernel
theorem dX7_copyFrom_12 : decode cX7_copyFrom 12 = .ok (.iload_n 2, 1) := by decide +kernel
theorem dX7_copyFrom_13 : decode cX7_copyFrom 13 = .ok (.aload_n 1, 1) := by decide +kernel
theorem dX7_copyFrom_14 : decode cX7_copyFrom 14 = .ok (.getfield 9, 3) := by decide +kernel
theorem dX7_copyFrom_17 : decode cX7_copyFrom 17 = .ok (.iload_n 2, 1) := by decide +kernel
theorem dX7_copyFrom_18 : decode cX7_copyFrom 18 = .ok (.baload, 1) := by decide +kernel
theorem dX7_copyFrom_19 : decode cX7_copyFrom 19 = .ok (.bastore, 1) := by decide +kernel
theorem dX7_copyFrom_20 : decode cX7_copyFrom 20 = .ok (.aload_n 0, 1) := by decide +kernel
theorem dX7_copyFrom_21 : decode cX7_copyFrom 21 = .ok (.getfield 15, 3) := by decide +kernel
theorem dX7_copyFrom_24 : decode cX7_copyFrom 24 = .ok (.iload_n 2, 1) := by decide +kernel
theorem dX7_copyFrom_25 : decode cX7_copyFrom 25 = .ok (.aload_n 1, 1) := by decide +kernel
theorem dX7_copyFrom_26 : decode cX7_copyFrom 26 = .ok (.getfield 15, 3) := by decide +kernel
theorem dX7_copyFrom_29 : decode cX7_copyFrom 29 = .ok (.iload_n 2, 1) := by decide +kernel
theorem dX7_copyFrom_30 : decode cX7_copyFrom 30 = .ok (.iaload, 1) := by decide +kernel
theorem dX7_copyFrom_31 : decode cX7_copyFrom 31 = .ok (.iastore, 1) := by decide +kernel
theorem dX7_copyFrom_32 : decode cX7_copyFrom 32 = .ok (.aload_n 0, 1) := by decide +kernel
theorem dX7_copyFrom_33 : decode cX7_copyFrom 33 = .ok (.getfield 19, 3) := by decide +kernel
theorem dX7_copyFrom_36 : decode cX7_copyFrom 36 = .ok (.iload_n 2, 1) := by decide +kernel
theorem dX7_copyFrom_37 : decode cX7_copyFrom 37 = .ok (.aload_n 1, 1) := by decide +kernel
theorem dX7_copyFrom_38 : decode cX7_copyFrom 38 = .ok (.getfield 19, 3) := by decide +kernel
theorem dX7_copyFrom_41 : decode cX7_copyFrom 41 = .ok (.iload_n 2, 1) := by decide +kernel
theorem dX7_copyFrom_42 : decode cX7_copyFrom 42 = .ok (.iaload, 1) := by decide +kernel
theorem dX7_copyFrom_43 : decode cX7_copyFrom 43 = .ok (.iastore, 1) := by decide +kernel
theorem dX7_copyFrom_44 : decode cX7_copyFrom 44 = .ok (.iinc 2 1, 3) := by decide +kernel
theorem dX7_copyFrom_47 : decode cX7_copyFrom 47 = .ok (.goto (-45), 3) := by decide +kernel
theorem dX7_copyFrom_50 : decode cX7_copyFrom 50 = .ok (.return_, 1) := by decide +kernel
theorem dX8_init_0 : decode cX8_init 0 = .ok (.aload_n 0, 1) := by decide +kernel
theorem dX8_init_1 : decode cX8_init 1 = .ok (.invokespecial 3, 3) := by decide +kernel
theorem dX8_init_4 : decode cX8_init 4 = .ok (.aload_n 0, 1) := by decide +kernel
theorem dX8_init_5 : decode cX8_init 5 = .ok (.new 9, 3) := by decide +kernel
theorem dX8_init_8 : decode cX8_init 8 = .ok (.dup, 1) := by decide +kernel
theorem dX8_init_9 : decode cX8_init 9 = .ok (.invokespecial 11, 3) := by decide +kernel
theorem dX8_init_12 : decode cX8_init 12 = .ok (.putfield 12, 3) := by decide +kernel
theorem dX8_init_15 : decode cX8_init 15 = .ok (.aload_n 0, 1) := by decide +kernel
theorem dX8_init_16 : decode cX8_init 16 = .ok (.new 18, 3) := by decide +kernel
theorem dX8_init_19 : decode cX8_init 19 = .ok (.dup, 1) := by decide +kernel
theorem dX8_init_20 : decode cX8_init 20 = .ok (.bipush 20, 2) := by decide +kernel
theorem dX8_init_22 : decode cX8_init 22 = .ok (.invokespecial 20, 3) := by decide +kernel
theorem dX8_init_25 : decode cX8_init 25 = .ok (.putfield 23, 3) := by decide +kernel
theorem dX8_init_28 : decode cX8_init 28 = .ok (.aload_n 0, 1) := by decide +kernel
theorem dX8_init_29 : decode cX8_init 29 = .ok (.new 18, 3) := by decide +kernel
theorem dX8_init_32 : decode cX8_init 32 = .ok (.dup, 1) := by decide +kernel
theorem dX8_init_33 : decode cX8_init 33 = .ok (.bipush 8, 2) := by decide +kernel
theorem dX8_init_35 : decode cX8_init 35 = .ok (.invokespecial 20, 3) := by decide +kernel
theorem dX8_init_38 : decode cX8_init 38 = .ok (.putfield 27, 3) := by decide +kernel
theorem dX8_init_41 : decode cX8_init 41 = .ok (.aload_n 0, 1) := by decide +kernel
theorem dX8_init_42 : decode cX8_init 42 = .ok (.new 30, 3) := by decide +kernel
theorem dX8_init_45 : decode cX8_init 45 = .ok (.dup, 1) := by decide +kernel
theorem dX8_init_46 : decode cX8_init 46 = .ok (.invokespecial 32, 3) := by decide +kernel
theorem dX8_init_49 : decode cX8_init 49 = .ok (.putfield 33, 3) := by decide +kernel
theorem dX8_init_52 : decode cX8_init 52 = .ok (.return_, 1) := by decide +kernel
theorem dX8_copyFrom_0 : decode cX8_copyFrom 0 = .ok (.aload_n 0, 1) := by decide +kernel
theorem dX8_copyFrom_1 : decode cX8_copyFrom 1 = .ok (.getfield 12, 3) := by decide +kernel
theorem dX8_copyFrom_4 : decode cX8_copyFrom 4 = .ok (.aload_n 1, 1) := by decide +kernel
theorem dX8_copyFrom_5 : decode cX8_copyFrom 5 = .ok (.getfield 12, 3) := by decide +kernel
theorem dX8_copyFrom_8 : decode cX8_copyFrom 8 = .ok (.invokevirtual 37, 3) := by decide +kernel
theorem dX8_copyFrom_11 : decode cX8_copyFrom 11 = .ok (.aload_n 0, 1) := by decide +kernel
theorem dX8_copyFrom_12 : decode cX8_copyFrom 12 = .ok (.getfield 23, 3) := by decide +kernel
theorem dX8_copyFrom_15 : decode cX8_copyFrom 15 = .ok (.aload_n 1, 1) := by decide +kernel
theorem dX8_copyFrom_16 : decode cX8_copyFrom 16 = .ok (.getfield 23, 3) := by decide +kernel
theorem dX8_copyFrom_19 : decode cX8_copyFrom 19 = .ok (.invokevirtual 41, 3) := by decide +kernel
theorem dX8_copyFrom_22 : decode cX8_copyFrom 22 = .ok (.aload_n 0, 1) := by decide +kernel
theorem dX8_copyFrom_23 : decode cX8_copyFrom 23 = .ok (.getfield 27, 3) := by decide +kernel
theorem dX8_copyFrom_26 : decode cX8_copyFrom 26 = .ok (.aload_n 1, 1) := by decide +kernel
theorem dX8_copyFrom_27 : decode cX8_copyFrom 27 = .ok (.getfield 27, 3) := by decide +kernel
theorem dX8_copyFrom_30 : decode cX8_copyFrom 30 = .ok (.invokevirtual 41, 3) := by decide +kernel
theorem dX8_copyFrom_33 : decode cX8_copyFrom 33 = .ok (.aload_n 0, 1) := by decide +kernel
theorem dX8_copyFrom_34 : decode cX8_copyFrom 34 = .ok (.getfield 33, 3) := by decide +kernel
theorem dX8_copyFrom_37 : decode cX8_copyFrom 37 = .ok (.aload_n 1, 1) := by decide +kernel
theorem dX8_copyFrom_38 : decode cX8_copyFrom 38 = .ok (.getfield 33, 3) := by decide +kernel
theorem dX8_copyFrom_41 : decode cX8_copyFrom 41 = .ok (.invokevirtual 44, 3) := by decide +kernel
theorem dX8_copyFrom_44 : decode cX8_copyFrom 44 = .ok (.return_, 1) := by decide +kernel
theorem dX9_init_0 : decode cX9_init 0 = .ok (.aload_n 0, 1) := by decide +kernel
theorem dX9_init_1 : decode cX9_init 1 = .ok (.invokespecial 3, 3) := by decide +kernel
theorem dX9_init_4 : decode cX9_init 4 = .ok (.aload_n 0, 1) := by decide +kernel
theorem dX9_init_5 : decode cX9_init 5 = .ok (.new 9, 3) := by decide +kernel
theorem dX9_init_8 : decode cX9_init 8 = .ok (.dup, 1) := by decide +kernel
theorem dX9_init_9 : decode cX9_init 9 = .ok (.bipush 60, 2) := by decide +kernel
theorem dX9_init_11 : decode cX9_init 11 = .ok (.invokespecial 11, 3) := by decide +kernel
theorem dX9_init_14 : decode cX9_init 14 = .ok (.putfield 14, 3) := by decide +kernel
theorem dX9_init_17 : decode cX9_init 17 = .ok (.return_, 1) := by decide +kernel
theorem dX9_isPlace_0 : decode cX9_isPlace 0 = .ok (.iload_n 0, 1) := by decide +kernel
theorem dX9_isPlace_1 : decode cX9_isPlace 1 = .ok (.iconst (-1), 1) := by decide +kernel
theorem dX9_isPlace_2 : decode cX9_isPlace 2 = .ok (.iconst 5, 1) := by decide +kernel
theorem dX9_isPlace_3 : decode cX9_isPlace 3 = .ok (.invokestatic 20, 3) := by decide +kernel
theorem dX9_isPlace_6 : decode cX9_isPlace 6 = .ok (.ireturn, 1) := by decide +kernel
theorem dX9_isAt_0 : decode cX9_isAt 0 = .ok (.iload_n 2, 1) := by decide +kernel
theorem dX9_isAt_1 : decode cX9_isAt 1 = .ok (.iconst (-1), 1) := by decide +kernel
theorem dX9_isAt_2 : decode cX9_isAt 2 = .ok (.if_icmp .eq 18, 3) := by decide +kernel
theorem dX9_isAt_5 : decode cX9_isAt 5 = .ok (.aload_n 0, 1) := by decide +kernel
theorem dX9_isAt_6 : decode cX9_isAt 6 = .ok (.getfield 14, 3) := by decide +kernel
theorem dX9_isAt_9 : decode cX9_isAt 9 = .ok (.iload_n 1, 1) := by decide +kernel
theorem dX9_isAt_10 : decode cX9_isAt 10 = .ok (.invokevirtual 26, 3) := by decide +kernel
theorem dX9_isAt_13 : decode cX9_isAt 13 = .ok (.bipush 6, 2) := by decide +kernel
theorem dX9_isAt_15 : decode cX9_isAt 15 = .ok (.idiv, 1) := by decide +kernel
theorem dX9_isAt_16 : decode cX9_isAt 16 = .ok (.iload_n 2, 1) := by decide +kernel
theorem dX9_isAt_17 : decode cX9_isAt 17 = .ok (.if_icmp .ne 7, 3) := by decide +kernel
theorem dX9_isAt_20 : decode cX9_isAt 20 = .ok (.iconst 1, 1) := by decide +kernel
theorem dX9_isAt_21 : decode cX9_isAt 21 = .ok (.goto 4, 3) := by decide +kernel
theorem dX9_isAt_24 : decode cX9_isAt 24 = .ok (.iconst 0, 1) := by decide +kernel
theorem dX9_isAt_25 : decode cX9_isAt 25 = .ok (.ireturn, 1) := by decide +kernel
theorem dX9_daysAt_0 : decode cX9_daysAt 0 = .ok (.iconst 0, 1) := by decide +kernel
theorem dX9_daysAt_1 : decode cX9_daysAt 1 = .ok (.istore_n 2, 1) := by decide +kernel
theorem dX9_daysAt_2 : decode cX9_daysAt 2 = .ok (.iconst 0, 1) := by decide +kernel
theorem dX9_daysAt_3 : decode cX9_daysAt 3 = .ok (.istore_n 3, 1) := by decide +kernel
theorem dX9_daysAt_4 : decode cX9_daysAt 4 = .ok (.iload_n 3, 1) := by decide +kernel
theorem dX9_daysAt_5 : decode cX9_daysAt 5 = .ok (.aload_n 0, 1) := by decide +kernel
theorem dX9_daysAt_6 : decode cX9_daysAt 6 = .ok (.getfield 14, 3) := by decide +kernel
theorem dX9_daysAt_9 : decode cX9_daysAt 9 = .ok (.invokevirtual 30, 3) := by decide +kernel
theorem dX9_daysAt_12 : decode cX9_daysAt 12 = .ok (.if_icmp .ge 21, 3) := by decide +kernel
theorem dX9_daysAt_15 : decode cX9_daysAt 15 = .ok (.aload_n 0, 1) := by decide +kernel
theorem dX9_daysAt_16 : decode cX9_daysAt 16 = .ok (.iload_n 3, 1) := by decide +kernel
theorem dX9_daysAt_17 : decode cX9_daysAt 17 = .ok (.iload_n 1, 1) := by decide +kernel
theorem dX9_daysAt_18 : decode cX9_daysAt 18 = .ok (.invokevirtual 34, 3) := by decide +kernel
theorem dX9_daysAt_21 : decode cX9_daysAt 21 = .ok (.ifCond .eq 6, 3) := by decide +kernel
theorem dX9_daysAt_24 : decode cX9_daysAt 24 = .ok (.iinc 2 1, 3) := by decide +kernel
theorem dX9_daysAt_27 : decode cX9_daysAt 27 = .ok (.iinc 3 1, 3) := by decide +kernel
theorem dX9_daysAt_30 : decode cX9_daysAt 30 = .ok (.goto (-26), 3) := by decide +kernel
theorem dX9_daysAt_33 : decode cX9_daysAt 33 = .ok (.iload_n 2, 1) := by decide +kernel
theorem dX9_daysAt_34 : decode cX9_daysAt 34 = .ok (.ireturn, 1) := by decide +kernel
theorem dX9_gainAt_0 : decode cX9_gainAt 0 = .ok (.iconst 0, 1) := by decide +kernel
theorem dX9_gainAt_1 : decode cX9_gainAt 1 = .ok (.istore_n 2, 1) := by decide +kernel
theorem dX9_gainAt_2 : decode cX9_gainAt 2 = .ok (.iconst 0, 1) := by decide +kernel
theorem dX9_gainAt_3 : decode cX9_gainAt 3 = .ok (.istore_n 3, 1) := by decide +kernel
theorem dX9_gainAt_4 : decode cX9_gainAt 4 = .ok (.iload_n 3, 1) := by decide +kernel
theorem dX9_gainAt_5 : decode cX9_gainAt 5 = .ok (.aload_n 0, 1) := by decide +kernel
theorem dX9_gainAt_6 : decode cX9_gainAt 6 = .ok (.getfield 14, 3) := by decide +kernel
theorem dX9_gainAt_9 : decode cX9_gainAt 9 = .ok (.invokevirtual 30, 3) := by decide +kernel
theorem dX9_gainAt_12 : decode cX9_gainAt 12 = .ok (.if_icmp .ge 29, 3) := by decide +kernel
theorem dX9_gainAt_15 : decode cX9_gainAt 15 = .ok (.aload_n 0, 1) := by decide +kernel
theorem dX9_gainAt_16 : decode cX9_gainAt 16 = .ok (.iload_n 3, 1) := by decide +kernel
theorem dX9_gainAt_17 : decode cX9_gainAt 17 = .ok (.iload_n 1, 1) := by decide +kernel
theorem dX9_gainAt_18 : decode cX9_gainAt 18 = .ok (.invokevirtual 34, 3) := by decide +kernel
theorem dX9_gainAt_21 : decode cX9_gainAt 21 = .ok (.ifCond .eq 14, 3) := by decide +kernel
theorem dX9_gainAt_24 : decode cX9_gainAt 24 = .ok (.iload_n 2, 1) := by decide +kernel
theorem dX9_gainAt_25 : decode cX9_gainAt 25 = .ok (.aload_n 0, 1) := by decide +kernel
theorem dX9_gainAt_26 : decode cX9_gainAt 26 = .ok (.getfield 14, 3) := by decide +kernel
theorem dX9_gainAt_29 : decode cX9_gainAt 29 = .ok (.iload_n 3, 1) := by decide +kernel
theorem dX9_gainAt_30 : decode cX9_gainAt 30 = .ok (.invokevirtual 38, 3) := by decide +kernel
theorem dX9_gainAt_33 : decode cX9_gainAt 33 = .ok (.iadd, 1) := by decide +kernel
theorem dX9_gainAt_34 : decode cX9_gainAt 34 = .ok (.istore_n 2, 1) := by decide +kernel
theorem dX9_gainAt_35 : decode cX9_gainAt 35 = .ok (.iinc 3 1, 3) := by decide +kernel
theorem dX9_gainAt_38 : decode cX9_gainAt 38 = .ok (.goto (-34), 3) := by decide +kernel
theorem dX9_gainAt_41 : decode cX9_gainAt 41 = .ok (.iload_n 2, 1) := by decide +kernel
theorem dX9_gainAt_42 : decode cX9_gainAt 42 = .ok (.ireturn, 1) := by decide +kernel
theorem dX9_greatestTurnAt_0 : decode cX9_greatestTurnAt 0 = .ok (.iconst 0, 1) := by decide +kernel
theorem dX9_greatestTurnAt_1 : decode cX9_greatestTurnAt 1 = .ok (.istore_n 2, 1) := by decide +kernel
theorem dX9_greatestTurnAt_2 : decode cX9_greatestTurnAt 2 = .ok (.iconst 0, 1) := by decide +kernel
theorem dX9_greatestTurnAt_3 : decode cX9_greatestTurnAt 3 = .ok (.istore_n 3, 1) := by decide +kernel
theorem dX9_greatestTurnAt_4 : decode cX9_greatestTurnAt 4 = .ok (.iconst 0, 1) := by decide +kernel
theorem dX9_greatestTurnAt_5 : decode cX9_greatestTurnAt 5 = .ok (.istore 4, 2) := by decide +kernel
theorem dX9_greatestTurnAt_7 : decode cX9_greatestTurnAt 7 = .ok (.iconst 0, 1) := by decide +kernel
theorem dX9_greatestTurnAt_8 : decode cX9_greatestTurnAt 8 = .ok (.istore 5, 2) := by decide +kernel
theorem dX9_greatestTurnAt_10 : decode cX9_greatestTurnAt 10 = .ok (.iload 5, 2) := by decide +kernel
theorem dX9_greatestTurnAt_12 : decode cX9_greatestTurnAt 12 = .ok (.aload_n 0, 1) := by decide +kernel
theorem dX9_greatestTurnAt_13 : decode cX9_greatestTurnAt 13 = .ok (.getfield 14, 3) := by decide +kernel
theorem dX9_greatestTurnAt_16 : decode cX9_greatestTurnAt 16 = .ok (.invokevirtual 30, 3) := by decide +kernel
theorem dX9_greatestTurnAt_19 : decode cX9_greatestTurnAt 19 = .ok (.if_icmp .ge 53, 3) := by decide +kernel
theorem dX9_greatestTurnAt_22 : decode cX9_greatestTurnAt 22 = .ok (.aload_n 0, 1) := by decide +kernel
theorem dX9_greatestTurnAt_23 : decode cX9_greatestTurnAt 23 = .ok (.iload 5, 2) := by decide +kernel
theorem dX9_greatestTurnAt_25 : decode cX9_greatestTurnAt 25 = .ok (.iload_n 1, 1) := by decide +kernel
theorem dX9_greatestTurnAt_26 : decode cX9_greatestTurnAt 26 = .ok (.invokevirtual 34, 3) := by decide +kernel
theorem dX9_greatestTurnAt_29 : decode cX9_greatestTurnAt 29 = .ok (.ifCond .eq 37, 3) := by decide +kernel
theorem dX9_greatestTurnAt_32 : decode cX9_greatestTurnAt 32 = .ok (.aload_n 0, 1) := by decide +kernel
theorem dX9_greatestTurnAt_33 : decode cX9_greatestTurnAt 33 = .ok (.getfield 14, 3) := by decide +kernel
theorem dX9_greatestTurnAt_36 : decode cX9_greatestTurnAt 36 = .ok (.iload 5, 2) := by decide +kernel
theorem dX9_greatestTurnAt_38 : decode cX9_greatestTurnAt 38 = .ok (.invokevirtual 38, 3) := by decide +kernel
theorem dX9_greatestTurnAt_41 : decode cX9_greatestTurnAt 41 = .ok (.istore 6, 2) := by decide +kernel
theorem dX9_greatestTurnAt_43 : decode cX9_greatestTurnAt 43 = .ok (.iload_n 3, 1) := by decide +kernel
theorem dX9_greatestTurnAt_44 : decode cX9_greatestTurnAt 44 = .ok (.ifCond .eq 16, 3) := by decide +kernel
theorem dX9_greatestTurnAt_47 : decode cX9_greatestTurnAt 47 = .ok (.iload_n 2, 1) := by decide +kernel
theorem dX9_greatestTurnAt_48 : decode cX9_greatestTurnAt 48 = .ok (.iload 6, 2) := by decide +kernel
theorem dX9_greatestTurnAt_50 : decode cX9_greatestTurnAt 50 = .ok (.iload 4, 2) := by decide +kernel
theorem dX9_greatestTurnAt_52 : decode cX9_greatestTurnAt 52 = .ok (.isub, 1) := by decide +kernel
theorem dX9_greatestTurnAt_53 : decode cX9_greatestTurnAt 53 = .ok (.invokestatic 41, 3) := by decide +kernel
theorem dX9_greatestTurnAt_56 : decode cX9_greatestTurnAt 56 = .ok (.invokestatic 46, 3) := by decide +kernel
theorem dX9_greatestTurnAt_59 : decode cX9_greatestTurnAt 59 = .ok (.istore_n 2, 1) := by decide +kernel
theorem dX9_greatestTurnAt_60 : decode cX9_greatestTurnAt 60 = .ok (.iconst 1, 1) := by decide +kernel
theorem dX9_greatestTurnAt_61 : decode cX9_greatestTurnAt 61 = .ok (.istore_n 3, 1) := by decide +kernel
theorem dX9_greatestTurnAt_62 : decode cX9_greatestTurnAt 62 = .ok (.iload 6, 2) := by decide +kernel
theorem dX9_greatestTurnAt_64 : decode cX9_greatestTurnAt 64 = .ok (.istore 4, 2) := by decide +kernel
theorem dX9_greatestTurnAt_66 : decode cX9_greatestTurnAt 66 = .ok (.iinc 5 1, 3) := by decide +kernel
theorem dX9_greatestTurnAt_69 : decode cX9_greatestTurnAt 69 = .ok (.goto (-59), 3) := by decide +kernel
theorem dX9_greatestTurnAt_72 : decode cX9_greatestTurnAt 72 = .ok (.iload_n 2, 1) := by decide +kernel
theorem dX9_greatestTurnAt_73 : decode cX9_greatestTurnAt 73 = .ok (.ireturn, 1) := by decide +kernel
theorem dX10_init_0 : decode cX10_init 0 = .ok (.aload_n 0, 1) := by decide +kernel
theorem dX10_init_1 : decode cX10_init 1 = .ok (.invokespecial 1, 3) := by decide +kernel
theorem dX10_init_4 : decode cX10_init 4 = .ok (.aload_n 0, 1) := by decide +kernel
theorem dX10_init_5 : decode cX10_init 5 = .ok (.new 7, 3) := by decide +kernel
theorem dX10_init_8 : decode cX10_init 8 = .ok (.dup, 1) := by decide +kernel
theorem dX10_init_9 : decode cX10_init 9 = .ok (.invokespecial 9, 3) := by decide +kernel
theorem dX10_init_12 : decode cX10_init 12 = .ok (.putfield 10, 3) := by decide +kernel
theorem dX10_init_15 : decode cX10_init 15 = .ok (.aload_n 0, 1) := by decide +kernel
theorem dX10_init_16 : decode cX10_init 16 = .ok (.new 7, 3) := by decide +kernel
theorem dX10_init_19 : decode cX10_init 19 = .ok (.dup, 1) := by decide +kernel
theorem dX10_init_20 : decode cX10_init 20 = .ok (.invokespecial 9, 3) := by decide +kernel
theorem dX10_init_23 : decode cX10_init 23 = .ok (.putfield 16, 3) := by decide +kernel
theorem dX10_init_26 : decode cX10_init 26 = .ok (.aload_n 0, 1) := by decide +kernel
theorem dX10_init_27 : decode cX10_init 27 = .ok (.new 19, 3) := by decide +kernel
theorem dX10_init_30 : decode cX10_init 30 = .ok (.dup, 1) := by decide +kernel
theorem dX10_init_31 : decode cX10_init 31 = .ok (.invokespecial 21, 3) := by decide +kernel
theorem dX10_init_34 : decode cX10_init 34 = .ok (.putfield 22, 3) := by decide +kernel
theorem dX10_init_37 : decode cX10_init 37 = .ok (.aload_n 0, 1) := by decide +kernel
theorem dX10_init_38 : decode cX10_init 38 = .ok (.new 26, 3) := by decide +kernel
theorem dX10_init_41 : decode cX10_init 41 = .ok (.dup, 1) := by decide +kernel
theorem dX10_init_42 : decode cX10_init 42 = .ok (.invokespecial 28, 3) := by decide +kernel
theorem dX10_init_45 : decode cX10_init 45 = .ok (.putfield 29, 3) := by decide +kernel
theorem dX10_init_48 : decode cX10_init 48 = .ok (.aload_n 0, 1) := by decide +kernel
theorem dX10_init_49 : decode cX10_init 49 = .ok (.new 33, 3) := by decide +kernel
theorem dX10_init_52 : decode cX10_init 52 = .ok (.dup, 1) := by decide +kernel
theorem dX10_init_53 : decode cX10_init 53 = .ok (.invokespecial 35, 3) := by decide +kernel
theorem dX10_init_56 : decode cX10_init 56 = .ok (.putfield 36, 3) := by decide +kernel
theorem dX10_init_59 : decode cX10_init 59 = .ok (.aload_n 0, 1) := by decide +kernel
theorem dX10_init_60 : decode cX10_init 60 = .ok (.new 40, 3) := by decide +kernel
theorem dX10_init_63 : decode cX10_init 63 = .ok (.dup, 1) := by decide +kernel
theorem dX10_init_64 : decode cX10_init 64 = .ok (.invokespecial 42, 3) := by decide +kernel
theorem dX10_init_67 : decode cX10_init 67 = .ok (.putfield 43, 3) := by decide +kernel
theorem dX10_init_70 : decode cX10_init 70 = .ok (.aload_n 0, 1) := by decide +kernel
theorem dX10_init_71 : decode cX10_init 71 = .ok (.new 47, 3) := by decide +kernel
theorem dX10_init_74 : decode cX10_init 74 = .ok (.dup, 1) := by decide +kernel
theorem dX10_init_75 : decode cX10_init 75 = .ok (.invokespecial 49, 3) := by decide +kernel
theorem dX10_init_78 : decode cX10_init 78 = .ok (.putfield 50, 3) := by decide +kernel
theorem dX10_init_81 : decode cX10_init 81 = .ok (.aload_n 0, 1) := by decide +kernel
theorem dX10_init_82 : decode cX10_init 82 = .ok (.bipush 16, 2) := by decide +kernel
theorem dX10_init_84 : decode cX10_init 84 = .ok (.newarray .int, 2) := by decide +kernel
theorem dX10_init_86 : decode cX10_init 86 = .ok (.putfield 54, 3) := by decide +kernel
theorem dX10_init_89 : decode cX10_init 89 = .ok (.aload_n 0, 1) := by decide +kernel
theorem dX10_init_90 : decode cX10_init 90 = .ok (.bipush 8, 2) := by decide +kernel
theorem dX10_init_92 : decode cX10_init 92 = .ok (.newarray .int, 2) := by decide +kernel
theorem dX10_init_94 : decode cX10_init 94 = .ok (.putfield 58, 3) := by decide +kernel
theorem dX10_init_97 : decode cX10_init 97 = .ok (.return_, 1) := by decide +kernel
theorem dX10_cause_0 : decode cX10_cause 0 = .ok (.iload_n 1, 1) := by decide +kernel
theorem dX10_cause_1 : decode cX10_cause 1 = .ok (.iload_n 2, 1) := by decide +kernel
theorem dX10_cause_2 : decode cX10_cause 2 = .ok (.iload_n 3, 1) := by decide +kernel
theorem dX10_cause_3 : decode cX10_cause 3 = .ok (.invokestatic 61, 3) := by decide +kernel
theorem dX10_cause_6 : decode cX10_cause 6 = .ok (.ifCond .ne 9, 3) := by decide +kernel
theorem dX10_cause_9 : decode cX10_cause 9 = .ok (.aload_n 0, 1) := by decide +kernel
theorem dX10_cause_10 : decode cX10_cause 10 = .ok (.iconst 1, 1) := by decide +kernel
theorem dX10_cause_11 : decode cX10_cause 11 = .ok (.invokevirtual 67, 3) := by decide +kernel
theorem dX10_cause_14 : decode cX10_cause 14 = .ok (.lreturn, 1) := by decide +kernel
theorem dX10_cause_15 : decode cX10_cause 15 = .ok (.aload_n 0, 1) := by decide +kernel
theorem dX10_cause_16 : decode cX10_cause 16 = .ok (.getfield 10, 3) := by decide +kernel
theorem dX10_cause_19 : decode cX10_cause 19 = .ok (.getfield 71, 3) := by decide +kernel
theorem dX10_cause_22 : decode cX10_cause 22 = .ok (.invokevirtual 75, 3) := by decide +kernel
theorem dX10_cause_25 : decode cX10_cause 25 = .ok (.ifCond .eq 9, 3) := by decide +kernel
theorem dX10_cause_28 : decode cX10_cause 28 = .ok (.aload_n 0, 1) := by decide +kernel
theorem dX10_cause_29 : decode cX10_cause 29 = .ok (.iconst 5, 1) := by decide +kernel
theorem dX10_cause_30 : decode cX10_cause 30 = .ok (.invokevirtual 67, 3) := by decide +kernel
theorem dX10_cause_33 : decode cX10_cause 33 = .ok (.lreturn, 1) := by decide +kernel
theorem dX10_cause_34 : decode cX10_cause 34 = .ok (.aload_n 0, 1) := by decide +kernel
theorem dX10_cause_35 : decode cX10_cause 35 = .ok (.getfield 36, 3) := by decide +kernel
theorem dX10_cause_38 : decode cX10_cause 38 = .ok (.invokevirtual 79, 3) := by decide +kernel
theorem dX10_cause_41 : decode cX10_cause 41 = .ok (.aload_n 0, 1) := by decide +kernel
theorem dX10_cause_42 : decode cX10_cause 42 = .ok (.getfield 10, 3) := by decide +kernel
theorem dX10_cause_45 : decode cX10_cause 45 = .ok (.getfield 71, 3) := by decide +kernel
theorem dX10_cause_48 : decode cX10_cause 48 = .ok (.iload_n 1, 1) := by decide +kernel
theorem dX10_cause_49 : decode cX10_cause 49 = .ok (.iload_n 2, 1) := by decide +kernel
theorem dX10_cause_50 : decode cX10_cause 50 = .ok (.iload_n 3, 1) := by decide +kernel
theorem dX10_cause_51 : decode cX10_cause 51 = .ok (.invokevirtual 82, 3) := by decide +kernel
theorem dX10_cause_54 : decode cX10_cause 54 = .ok (.i2l, 1) := by decide +kernel
theorem dX10_cause_55 : decode cX10_cause 55 = .ok (.lreturn, 1) := by decide +kernel
theorem dX10_shows_0 : decode cX10_shows 0 = .ok (.aload_n 0, 1) := by decide +kernel
theorem dX10_shows_1 : decode cX10_shows 1 = .ok (.getfield 10, 3) := by decide +kernel
theorem dX10_shows_4 : decode cX10_shows 4 = .ok (.getfield 71, 3) := by decide +kernel
theorem dX10_shows_7 : decode cX10_shows 7 = .ok (.iload_n 1, 1) := by decide +kernel
theorem dX10_shows_8 : decode cX10_shows 8 = .ok (.invokevirtual 86, 3) := by decide +kernel
theorem dX10_shows_11 : decode cX10_shows 11 = .ok (.ifCond .eq 10, 3) := by decide +kernel
theorem dX10_shows_14 : decode cX10_shows 14 = .ok (.iload_n 2, 1) := by decide +kernel
theorem dX10_shows_15 : decode cX10_shows 15 = .ok (.invokestatic 90, 3) := by decide +kernel
theorem dX10_shows_18 : decode cX10_shows 18 = .ok (.ifCond .ne 9, 3) := by decide +kernel
theorem dX10_shows_21 : decode cX10_shows 21 = .ok (.aload_n 0, 1) := by decide +kernel
theorem dX10_shows_22 : decode cX10_shows 22 = .ok (.iconst 1, 1) := by decide +kernel
theorem dX10_shows_23 : decode cX10_shows 23 = .ok (.invokevirtual 67, 3) := by decide +kernel
theorem dX10_shows_26 : decode cX10_shows 26 = .ok (.lreturn, 1) := by decide +kernel
theorem dX10_shows_27 : decode cX10_shows 27 = .ok (.aload_n 0, 1) := by decide +kernel
theorem dX10_shows_28 : decode cX10_shows 28 = .ok (.getfield 10, 3) := by decide +kernel
theorem dX10_shows_31 : decode cX10_shows 31 = .ok (.getfield 71, 3) := by decide +kernel
theorem dX10_shows_34 : decode cX10_shows 34 = .ok (.iload_n 1, 1) := by decide +kernel
theorem dX10_shows_35 : decode cX10_shows 35 = .ok (.iload_n 2, 1) := by decide +kernel
theorem dX10_shows_36 : decode cX10_shows 36 = .ok (.invokevirtual 93, 3) := by decide +kernel
theorem dX10_shows_39 : decode cX10_shows 39 = .ok (.i2l, 1) := by decide +kernel
theorem dX10_shows_40 : decode cX10_shows 40 = .ok (.lreturn, 1) := by decide +kernel
theorem dX10_as_0 : decode cX10_as 0 = .ok (.aload_n 0, 1) := by decide +kernel
theorem dX10_as_1 : decode cX10_as 1 = .ok (.getfield 10, 3) := by decide +kernel
theorem dX10_as_4 : decode cX10_as 4 = .ok (.getfield 71, 3) := by decide +kernel
theorem dX10_as_7 : decode cX10_as 7 = .ok (.iload_n 1, 1) := by decide +kernel
theorem dX10_as_8 : decode cX10_as 8 = .ok (.invokevirtual 86, 3) := by decide +kernel
theorem dX10_as_11 : decode cX10_as 11 = .ok (.ifCond .eq 10, 3) := by decide +kernel
theorem dX10_as_14 : decode cX10_as 14 = .ok (.iload_n 2, 1) := by decide +kernel
theorem dX10_as_15 : decode cX10_as 15 = .ok (.invokestatic 97, 3) := by decide +kernel
theorem dX10_as_18 : decode cX10_as 18 = .ok (.ifCond .ne 9, 3) := by decide +kernel
theorem dX10_as_21 : decode cX10_as 21 = .ok (.aload_n 0, 1) := by decide +kernel
theorem dX10_as_22 : decode cX10_as 22 = .ok (.iconst 1, 1) := by decide +kernel
theorem dX10_as_23 : decode cX10_as 23 = .ok (.invokevirtual 67, 3) := by decide +kernel
theorem dX10_as_26 : decode cX10_as 26 = .ok (.lreturn, 1) := by decide +kernel
theorem dX10_as_27 : decode cX10_as 27 = .ok (.aload_n 0, 1) := by decide +kernel
theorem dX10_as_28 : decode cX10_as 28 = .ok (.getfield 10, 3) := by decide +kernel
theorem dX10_as_31 : decode cX10_as 31 = .ok (.getfield 71, 3) := by decide +kernel
theorem dX10_as_34 : decode cX10_as 34 = .ok (.iload_n 1, 1) := by decide +kernel
theorem dX10_as_35 : decode cX10_as 35 = .ok (.iload_n 2, 1) := by decide +kernel
theorem dX10_as_36 : decode cX10_as 36 = .ok (.invokevirtual 100, 3) := by decide +kernel
theorem dX10_as_39 : decode cX10_as 39 = .ok (.ifCond .ne 9, 3) := by decide +kernel
theorem dX10_as_42 : decode cX10_as 42 = .ok (.aload_n 0, 1) := by decide +kernel
theorem dX10_as_43 : decode cX10_as 43 = .ok (.iconst 3, 1) := by decide +kernel
theorem dX10_as_44 : decode cX10_as 44 = .ok (.invokevirtual 67, 3) := by decide +kernel
theorem dX10_as_47 : decode cX10_as 47 = .ok (.lreturn, 1) := by decide +kernel
theorem dX10_as_48 : decode cX10_as 48 = .ok (.aload_n 0, 1) := by decide +kernel
theorem dX10_as_49 : decode cX10_as 49 = .ok (.getfield 10, 3) := by decide +kernel
theorem dX10_as_52 : decode cX10_as 52 = .ok (.getfield 71, 3) := by decide +kernel
theorem dX10_as_55 : decode cX10_as 55 = .ok (.iload_n 1, 1) := by decide +kernel
theorem dX10_as_56 : decode cX10_as 56 = .ok (.invokevirtual 104, 3) := by decide +kernel
theorem dX10_as_59 : decode cX10_as 59 = .ok (.i2l, 1) := by decide +kernel
theorem dX10_as_60 : decode cX10_as 60 = .ok (.lreturn, 1) := by decide +kernel
theorem dX10_read_0 : decode cX10_read 0 = .ok (.iload_n 1, 1) := by decide +kernel
theorem dX10_read_1 : decode cX10_read 1 = .ok (.invokestatic 90, 3) := by decide +kernel
theorem dX10_read_4 : decode cX10_read 4 = .ok (.ifCond .eq 10, 3) := by decide +kernel
theorem dX10_read_7 : decode cX10_read 7 = .ok (.iload_n 2, 1) := by decide +kernel
theorem dX10_read_8 : decode cX10_read 8 = .ok (.invokestatic 108, 3) := by decide +kernel
theorem dX10_read_11 : decode cX10_read 11 = .ok (.ifCond .ne 9, 3) := by decide +kernel
theorem dX10_read_14 : decode cX10_read 14 = .ok (.aload_n 0, 1) := by decide +kernel
theorem dX10_read_15 : decode cX10_read 15 = .ok (.iconst 1, 1) := by decide +kernel
theorem dX10_read_16 : decode cX10_read 16 = .ok (.invokevirtual 67, 3) := by decide +kernel
theorem dX10_read_19 : decode cX10_read 19 = .ok (.lreturn, 1) := by decide +kernel
theorem dX10_read_20 : decode cX10_read 20 = .ok (.aload_n 0, 1) := by decide +kernel
theorem dX10_read_21 : decode cX10_read 21 = .ok (.getfield 10, 3) := by decide +kernel
theorem dX10_read_24 : decode cX10_read 24 = .ok (.getfield 111, 3) := by decide +kernel
theorem dX10_read_27 : decode cX10_read 27 = .ok (.invokevirtual 115, 3) := by decide +kernel
theorem dX10_read_30 : decode cX10_read 30 = .ok (.ifCond .eq 9, 3) := by decide +kernel
theorem dX10_read_33 : decode cX10_read 33 = .ok (.aload_n 0, 1) := by decide +kernel
theorem dX10_read_34 : decode cX10_read 34 = .ok (.iconst 5, 1) := by decide +kernel
theorem dX10_read_35 : decode cX10_read 35 = .ok (.invokevirtual 67, 3) := by decide +kernel
theorem dX10_read_38 : decode cX10_read 38 = .ok (.lreturn, 1) := by decide +kernel
theorem dX10_read_39 : decode cX10_read 39 = .ok (.aload_n 0, 1) := by decide +kernel
theorem dX10_read_40 : decode cX10_read 40 = .ok (.getfield 36, 3) := by decide +kernel
theorem dX10_read_43 : decode cX10_read 43 = .ok (.invokevirtual 79, 3) := by decide +kernel
theorem dX10_read_46 : decode cX10_read 46 = .ok (.aload_n 0, 1) := by decide +kernel
theorem dX10_read_47 : decode cX10_read 47 = .ok (.getfield 10, 3) := by decide +kernel
theorem dX10_read_50 : decode cX10_read 50 = .ok (.getfield 111, 3) := by decide +kernel
theorem dX10_read_53 : decode cX10_read 53 = .ok (.iload_n 1, 1) := by decide +kernel
theorem dX10_read_54 : decode cX10_read 54 = .ok (.iload_n 2, 1) := by decide +kernel
theorem dX10_read_55 : decode cX10_read 55 = .ok (.invokevirtual 118, 3) := by decide +kernel
theorem dX10_read_58 : decode cX10_read 58 = .ok (.i2l, 1) := by decide +kernel
theorem dX10_read_59 : decode cX10_read 59 = .ok (.lreturn, 1) := by decide +kernel
theorem dX10_drop_0 : decode cX10_drop 0 = .ok (.aload_n 0, 1) := by decide +kernel
theorem dX10_drop_1 : decode cX10_drop 1 = .ok (.getfield 10, 3) := by decide +kernel
theorem dX10_drop_4 : decode cX10_drop 4 = .ok (.getfield 111, 3) := by decide +kernel
theorem dX10_drop_7 : decode cX10_drop 7 = .ok (.iload_n 1, 1) := by decide +kernel
theorem dX10_drop_8 : decode cX10_drop 8 = .ok (.invokevirtual 120, 3) := by decide +kernel
theorem dX10_drop_11 : decode cX10_drop 11 = .ok (.ifCond .ne 9, 3) := by decide +kernel
theorem dX10_drop_14 : decode cX10_drop 14 = .ok (.aload_n 0, 1) := by decide +kernel
theorem dX10_drop_15 : decode cX10_drop 15 = .ok (.iconst 1, 1) := by decide +kernel
theorem dX10_drop_16 : decode cX10_drop 16 = .ok (.invokevirtual 67, 3) := by decide +kernel
theorem dX10_drop_19 : decode cX10_drop 19 = .ok (.lreturn, 1) := by decide +kernel
theorem dX10_drop_20 : decode cX10_drop 20 = .ok (.aload_n 0, 1) := by decide +kernel
theorem dX10_drop_21 : decode cX10_drop 21 = .ok (.getfield 36, 3) := by decide +kernel
theorem dX10_drop_24 : decode cX10_drop 24 = .ok (.invokevirtual 79, 3) := by decide +kernel
theorem dX10_drop_27 : decode cX10_drop 27 = .ok (.aload_n 0, 1) := by decide +kernel
theorem dX10_drop_28 : decode cX10_drop 28 = .ok (.getfield 10, 3) := by decide +kernel
theorem dX10_drop_31 : decode cX10_drop 31 = .ok (.getfield 111, 3) := by decide +kernel
theorem dX10_drop_34 : decode cX10_drop 34 = .ok (.iload_n 1, 1) := by decide +kernel
theorem dX10_drop_35 : decode cX10_drop 35 = .ok (.invokevirtual 121, 3) := by decide +kernel
theorem dX10_drop_38 : decode cX10_drop 38 = .ok (.aload_n 0, 1) := by decide +kernel
theorem dX10_drop_39 : decode cX10_drop 39 = .ok (.getfield 10, 3) := by decide +kernel
theorem dX10_drop_42 : decode cX10_drop 42 = .ok (.getfield 111, 3) := by decide +kernel
theorem dX10_drop_45 : decode cX10_drop 45 = .ok (.invokevirtual 125, 3) := by decide +kernel
theorem dX10_drop_48 : decode cX10_drop 48 = .ok (.i2l, 1) := by decide +kernel
theorem dX10_drop_49 : decode cX10_drop 49 = .ok (.lreturn, 1) := by decide +kernel
theorem dX10_reading_0 : decode cX10_reading 0 = .ok (.aload_n 0, 1) := by decide +kernel
theorem dX10_reading_1 : decode cX10_reading 1 = .ok (.getfield 10, 3) := by decide +kernel
theorem dX10_reading_4 : decode cX10_reading 4 = .ok (.getfield 111, 3) := by decide +kernel
theorem dX10_reading_7 : decode cX10_reading 7 = .ok (.iload_n 1, 1) := by decide +kernel
theorem dX10_reading_8 : decode cX10_reading 8 = .ok (.invokevirtual 120, 3) := by decide +kernel
theorem dX10_reading_11 : decode cX10_reading 11 = .ok (.ifCond .eq 12, 3) := by decide +kernel
theorem dX10_reading_14 : decode cX10_reading 14 = .ok (.iload_n 2, 1) := by decide +kernel
theorem dX10_reading_15 : decode cX10_reading 15 = .ok (.iconst 0, 1) := by decide +kernel
theorem dX10_reading_16 : decode cX10_reading 16 = .ok (.iconst 1, 1) := by decide +kernel
theorem dX10_reading_17 : decode cX10_reading 17 = .ok (.invokestatic 129, 3) := by decide +kernel
theorem dX10_reading_20 : decode cX10_reading 20 = .ok (.ifCond .ne 9, 3) := by decide +kernel
theorem dX10_reading_23 : decode cX10_reading 23 = .ok (.aload_n 0, 1) := by decide +kernel
theorem dX10_reading_24 : decode cX10_reading 24 = .ok (.iconst 1, 1) := by decide +kernel
theorem dX10_reading_25 : decode cX10_reading 25 = .ok (.invokevirtual 67, 3) := by decide +kernel
theorem dX10_reading_28 : decode cX10_reading 28 = .ok (.lreturn, 1) := by decide +kernel
theorem dX10_reading_29 : decode cX10_reading 29 = .ok (.iload_n 2, 1) := by decide +kernel
theorem dX10_reading_30 : decode cX10_reading 30 = .ok (.ifCond .ne 18, 3) := by decide +kernel
theorem dX10_reading_33 : decode cX10_reading 33 = .ok (.aload_n 0, 1) := by decide +kernel
theorem dX10_reading_34 : decode cX10_reading 34 = .ok (.getfield 10, 3) := by decide +kernel
theorem dX10_reading_37 : decode cX10_reading 37 = .ok (.getfield 111, 3) := by decide +kernel
theorem dX10_reading_40 : decode cX10_reading 40 = .ok (.iload_n 1, 1) := by decide +kernel
theorem dX10_reading_41 : decode cX10_reading 41 = .ok (.invokevirtual 134, 3) := by decide +kernel
theorem dX10_reading_44 : decode cX10_reading 44 = .ok (.i2l, 1) := by decide +kernel
theorem dX10_reading_45 : decode cX10_reading 45 = .ok (.goto 15, 3) := by decide +kernel
theorem dX10_reading_48 : decode cX10_reading 48 = .ok (.aload_n 0, 1) := by decide +kernel
theorem dX10_reading_49 : decode cX10_reading 49 = .ok (.getfield 10, 3) := by decide +kernel
theorem dX10_reading_52 : decode cX10_reading 52 = .ok (.getfield 111, 3) := by decide +kernel
theorem dX10_reading_55 : decode cX10_reading 55 = .ok (.iload_n 1, 1) := by decide +kernel
theorem dX10_reading_56 : decode cX10_reading 56 = .ok (.invokevirtual 137, 3) := by decide +kernel
theorem dX10_reading_59 : decode cX10_reading 59 = .ok (.i2l, 1) := by decide +kernel
theorem dX10_reading_60 : decode cX10_reading 60 = .ok (.lreturn, 1) := by decide +kernel
theorem dX10_sheet_0 : decode cX10_sheet 0 = .ok (.iload_n 1, 1) := by decide +kernel
theorem dX10_sheet_1 : decode cX10_sheet 1 = .ok (.invokestatic 140, 3) := by decide +kernel
theorem dX10_sheet_4 : decode cX10_sheet 4 = .ok (.ifCond .ne 9, 3) := by decide +kernel
theorem dX10_sheet_7 : decode cX10_sheet 7 = .ok (.aload_n 0, 1) := by decide +kernel
theorem dX10_sheet_8 : decode cX10_sheet 8 = .ok (.iconst 1, 1) := by decide +kernel
theorem dX10_sheet_9 : decode cX10_sheet 9 = .ok (.invokevirtual 67, 3) := by decide +kernel
theorem dX10_sheet_12 : decode cX10_sheet 12 = .ok (.lreturn, 1) := by decide +kernel
theorem dX10_sheet_13 : decode cX10_sheet 13 = .ok (.iload_n 2, 1) := by decide +kernel
theorem dX10_sheet_14 : decode cX10_sheet 14 = .ok (.iconst (-1), 1) := by decide +kernel
theorem dX10_sheet_15 : decode cX10_sheet 15 = .ok (.if_icmp .ge 9, 3) := by decide +kernel
theorem dX10_sheet_18 : decode cX10_sheet 18 = .ok (.aload_n 0, 1) := by decide +kernel
theorem dX10_sheet_19 : decode cX10_sheet 19 = .ok (.iconst 4, 1) := by decide +kernel
theorem dX10_sheet_20 : decode cX10_sheet 20 = .ok (.invokevirtual 67, 3) := by decide +kernel
theorem dX10_sheet_23 : decode cX10_sheet 23 = .ok (.lreturn, 1) := by decide +kernel
theorem dX10_sheet_24 : decode cX10_sheet 24 = .ok (.iload_n 2, 1) := by decide +kernel
theorem dX10_sheet_25 : decode cX10_sheet 25 = .ok (.bipush 36, 2) := by decide +kernel
theorem dX10_sheet_27 : decode cX10_sheet 27 = .ok (.if_icmp .le 9, 3) := by decide +kernel
theorem dX10_sheet_30 : decode cX10_sheet 30 = .ok (.aload_n 0, 1) := by decide +kernel
theorem dX10_sheet_31 : decode cX10_sheet 31 = .ok (.iconst 1, 1) := by decide +kernel
end
section
theorem dX10_sheet_32 : decode cX10_sheet 32 = .ok (.invokevirtual 67, 3) := by decide +kernel
theorem dX10_sheet_35 : decode cX10_sheet 35 = .ok (.lreturn, 1) := by decide +kernel
theorem dX10_sheet_36 : decode cX10_sheet 36 = .ok (.aload_n 0, 1) := by decide +kernel
theorem dX10_sheet_37 : decode cX10_sheet 37 = .ok (.getfield 22, 3) := by decide +kernel
theorem dX10_sheet_40 : decode cX10_sheet 40 = .ok (.iload_n 1, 1) := by decide +kernel
theorem dX10_sheet_41 : decode cX10_sheet 41 = .ok (.iload_n 2, 1) := by decide +kernel
theorem dX10_sheet_42 : decode cX10_sheet 42 = .ok (.invokevirtual 143, 3) := by decide +kernel
theorem dX10_sheet_45 : decode cX10_sheet 45 = .ok (.iload_n 2, 1) := by decide +kernel
theorem dX10_sheet_46 : decode cX10_sheet 46 = .ok (.i2l, 1) := by decide +kernel
theorem dX10_sheet_47 : decode cX10_sheet 47 = .ok (.lreturn, 1) := by decide +kernel
theorem dX10_put_0 : decode cX10_put 0 = .ok (.iload_n 1, 1) := by decide +kernel
theorem dX10_put_1 : decode cX10_put 1 = .ok (.invokestatic 140, 3) := by decide +kernel
theorem dX10_put_4 : decode cX10_put 4 = .ok (.ifCond .ne 9, 3) := by decide +kernel
theorem dX10_put_7 : decode cX10_put 7 = .ok (.aload_n 0, 1) := by decide +kernel
theorem dX10_put_8 : decode cX10_put 8 = .ok (.iconst 1, 1) := by decide +kernel
theorem dX10_put_9 : decode cX10_put 9 = .ok (.invokevirtual 67, 3) := by decide +kernel
theorem dX10_put_12 : decode cX10_put 12 = .ok (.lreturn, 1) := by decide +kernel
theorem dX10_put_13 : decode cX10_put 13 = .ok (.aload_n 0, 1) := by decide +kernel
theorem dX10_put_14 : decode cX10_put 14 = .ok (.getfield 22, 3) := by decide +kernel
theorem dX10_put_17 : decode cX10_put 17 = .ok (.iload_n 1, 1) := by decide +kernel
theorem dX10_put_18 : decode cX10_put 18 = .ok (.invokevirtual 147, 3) := by decide +kernel
theorem dX10_put_21 : decode cX10_put 21 = .ok (.ifCond .eq 9, 3) := by decide +kernel
theorem dX10_put_24 : decode cX10_put 24 = .ok (.aload_n 0, 1) := by decide +kernel
theorem dX10_put_25 : decode cX10_put 25 = .ok (.iconst 2, 1) := by decide +kernel
theorem dX10_put_26 : decode cX10_put 26 = .ok (.invokevirtual 67, 3) := by decide +kernel
theorem dX10_put_29 : decode cX10_put 29 = .ok (.lreturn, 1) := by decide +kernel
theorem dX10_put_30 : decode cX10_put 30 = .ok (.aload_n 0, 1) := by decide +kernel
theorem dX10_put_31 : decode cX10_put 31 = .ok (.getfield 22, 3) := by decide +kernel
theorem dX10_put_34 : decode cX10_put 34 = .ok (.iload_n 1, 1) := by decide +kernel
theorem dX10_put_35 : decode cX10_put 35 = .ok (.iload_n 2, 1) := by decide +kernel
theorem dX10_put_36 : decode cX10_put 36 = .ok (.invokevirtual 150, 3) := by decide +kernel
theorem dX10_put_39 : decode cX10_put 39 = .ok (.ifCond .ne 9, 3) := by decide +kernel
theorem dX10_put_42 : decode cX10_put 42 = .ok (.aload_n 0, 1) := by decide +kernel
theorem dX10_put_43 : decode cX10_put 43 = .ok (.iconst 1, 1) := by decide +kernel
theorem dX10_put_44 : decode cX10_put 44 = .ok (.invokevirtual 67, 3) := by decide +kernel
theorem dX10_put_47 : decode cX10_put 47 = .ok (.lreturn, 1) := by decide +kernel
theorem dX10_put_48 : decode cX10_put 48 = .ok (.aload_n 0, 1) := by decide +kernel
theorem dX10_put_49 : decode cX10_put 49 = .ok (.getfield 22, 3) := by decide +kernel
theorem dX10_put_52 : decode cX10_put 52 = .ok (.iload_n 1, 1) := by decide +kernel
theorem dX10_put_53 : decode cX10_put 53 = .ok (.iload_n 2, 1) := by decide +kernel
theorem dX10_put_54 : decode cX10_put 54 = .ok (.iload_n 3, 1) := by decide +kernel
theorem dX10_put_55 : decode cX10_put 55 = .ok (.invokevirtual 153, 3) := by decide +kernel
theorem dX10_put_58 : decode cX10_put 58 = .ok (.i2l, 1) := by decide +kernel
theorem dX10_put_59 : decode cX10_put 59 = .ok (.lreturn, 1) := by decide +kernel
theorem dX10_lay_0 : decode cX10_lay 0 = .ok (.aload_n 0, 1) := by decide +kernel
theorem dX10_lay_1 : decode cX10_lay 1 = .ok (.iload_n 1, 1) := by decide +kernel
theorem dX10_lay_2 : decode cX10_lay 2 = .ok (.iload_n 2, 1) := by decide +kernel
theorem dX10_lay_3 : decode cX10_lay 3 = .ok (.invokevirtual 156, 3) := by decide +kernel
theorem dX10_lay_6 : decode cX10_lay 6 = .ok (.istore_n 3, 1) := by decide +kernel
theorem dX10_lay_7 : decode cX10_lay 7 = .ok (.iload_n 3, 1) := by decide +kernel
theorem dX10_lay_8 : decode cX10_lay 8 = .ok (.ifCond .eq 9, 3) := by decide +kernel
theorem dX10_lay_11 : decode cX10_lay 11 = .ok (.aload_n 0, 1) := by decide +kernel
theorem dX10_lay_12 : decode cX10_lay 12 = .ok (.iload_n 3, 1) := by decide +kernel
theorem dX10_lay_13 : decode cX10_lay 13 = .ok (.invokevirtual 67, 3) := by decide +kernel
theorem dX10_lay_16 : decode cX10_lay 16 = .ok (.lreturn, 1) := by decide +kernel
theorem dX10_lay_17 : decode cX10_lay 17 = .ok (.aload_n 0, 1) := by decide +kernel
theorem dX10_lay_18 : decode cX10_lay 18 = .ok (.getfield 36, 3) := by decide +kernel
theorem dX10_lay_21 : decode cX10_lay 21 = .ok (.invokevirtual 79, 3) := by decide +kernel
theorem dX10_lay_24 : decode cX10_lay 24 = .ok (.iconst 0, 1) := by decide +kernel
theorem dX10_lay_25 : decode cX10_lay 25 = .ok (.istore 4, 2) := by decide +kernel
theorem dX10_lay_27 : decode cX10_lay 27 = .ok (.iload 4, 2) := by decide +kernel
theorem dX10_lay_29 : decode cX10_lay 29 = .ok (.iload_n 2, 1) := by decide +kernel
theorem dX10_lay_30 : decode cX10_lay 30 = .ok (.if_icmp .ge 45, 3) := by decide +kernel
theorem dX10_lay_33 : decode cX10_lay 33 = .ok (.aload_n 0, 1) := by decide +kernel
theorem dX10_lay_34 : decode cX10_lay 34 = .ok (.getfield 22, 3) := by decide +kernel
theorem dX10_lay_37 : decode cX10_lay 37 = .ok (.iload_n 1, 1) := by decide +kernel
theorem dX10_lay_38 : decode cX10_lay 38 = .ok (.iload 4, 2) := by decide +kernel
theorem dX10_lay_40 : decode cX10_lay 40 = .ok (.invokevirtual 159, 3) := by decide +kernel
theorem dX10_lay_43 : decode cX10_lay 43 = .ok (.ifCond .eq 26, 3) := by decide +kernel
theorem dX10_lay_46 : decode cX10_lay 46 = .ok (.aload_n 0, 1) := by decide +kernel
theorem dX10_lay_47 : decode cX10_lay 47 = .ok (.getfield 10, 3) := by decide +kernel
theorem dX10_lay_50 : decode cX10_lay 50 = .ok (.getfield 111, 3) := by decide +kernel
theorem dX10_lay_53 : decode cX10_lay 53 = .ok (.iload 4, 2) := by decide +kernel
theorem dX10_lay_55 : decode cX10_lay 55 = .ok (.aload_n 0, 1) := by decide +kernel
theorem dX10_lay_56 : decode cX10_lay 56 = .ok (.getfield 22, 3) := by decide +kernel
theorem dX10_lay_59 : decode cX10_lay 59 = .ok (.iload_n 1, 1) := by decide +kernel
theorem dX10_lay_60 : decode cX10_lay 60 = .ok (.iload 4, 2) := by decide +kernel
theorem dX10_lay_62 : decode cX10_lay 62 = .ok (.invokevirtual 162, 3) := by decide +kernel
theorem dX10_lay_65 : decode cX10_lay 65 = .ok (.invokevirtual 118, 3) := by decide +kernel
theorem dX10_lay_68 : decode cX10_lay 68 = .ok (.pop, 1) := by decide +kernel
theorem dX10_lay_69 : decode cX10_lay 69 = .ok (.iinc 4 1, 3) := by decide +kernel
theorem dX10_lay_72 : decode cX10_lay 72 = .ok (.goto (-45), 3) := by decide +kernel
theorem dX10_lay_75 : decode cX10_lay 75 = .ok (.aload_n 0, 1) := by decide +kernel
theorem dX10_lay_76 : decode cX10_lay 76 = .ok (.getfield 10, 3) := by decide +kernel
theorem dX10_lay_79 : decode cX10_lay 79 = .ok (.getfield 111, 3) := by decide +kernel
theorem dX10_lay_82 : decode cX10_lay 82 = .ok (.invokevirtual 125, 3) := by decide +kernel
theorem dX10_lay_85 : decode cX10_lay 85 = .ok (.i2l, 1) := by decide +kernel
theorem dX10_lay_86 : decode cX10_lay 86 = .ok (.lreturn, 1) := by decide +kernel
theorem dX10_whyNoLaying_0 : decode cX10_whyNoLaying 0 = .ok (.iload_n 1, 1) := by decide +kernel
theorem dX10_whyNoLaying_1 : decode cX10_whyNoLaying 1 = .ok (.invokestatic 140, 3) := by decide +kernel
theorem dX10_whyNoLaying_4 : decode cX10_whyNoLaying 4 = .ok (.ifCond .ne 5, 3) := by decide +kernel
theorem dX10_whyNoLaying_7 : decode cX10_whyNoLaying 7 = .ok (.iconst 1, 1) := by decide +kernel
theorem dX10_whyNoLaying_8 : decode cX10_whyNoLaying 8 = .ok (.ireturn, 1) := by decide +kernel
theorem dX10_whyNoLaying_9 : decode cX10_whyNoLaying 9 = .ok (.aload_n 0, 1) := by decide +kernel
theorem dX10_whyNoLaying_10 : decode cX10_whyNoLaying 10 = .ok (.getfield 22, 3) := by decide +kernel
theorem dX10_whyNoLaying_13 : decode cX10_whyNoLaying 13 = .ok (.iload_n 1, 1) := by decide +kernel
theorem dX10_whyNoLaying_14 : decode cX10_whyNoLaying 14 = .ok (.invokevirtual 147, 3) := by decide +kernel
theorem dX10_whyNoLaying_17 : decode cX10_whyNoLaying 17 = .ok (.ifCond .eq 5, 3) := by decide +kernel
theorem dX10_whyNoLaying_20 : decode cX10_whyNoLaying 20 = .ok (.iconst 2, 1) := by decide +kernel
theorem dX10_whyNoLaying_21 : decode cX10_whyNoLaying 21 = .ok (.ireturn, 1) := by decide +kernel
theorem dX10_whyNoLaying_22 : decode cX10_whyNoLaying 22 = .ok (.iload_n 2, 1) := by decide +kernel
theorem dX10_whyNoLaying_23 : decode cX10_whyNoLaying 23 = .ok (.ifCond .ge 5, 3) := by decide +kernel
theorem dX10_whyNoLaying_26 : decode cX10_whyNoLaying 26 = .ok (.iconst 4, 1) := by decide +kernel
theorem dX10_whyNoLaying_27 : decode cX10_whyNoLaying 27 = .ok (.ireturn, 1) := by decide +kernel
theorem dX10_whyNoLaying_28 : decode cX10_whyNoLaying 28 = .ok (.iload_n 2, 1) := by decide +kernel
theorem dX10_whyNoLaying_29 : decode cX10_whyNoLaying 29 = .ok (.aload_n 0, 1) := by decide +kernel
theorem dX10_whyNoLaying_30 : decode cX10_whyNoLaying 30 = .ok (.getfield 22, 3) := by decide +kernel
theorem dX10_whyNoLaying_33 : decode cX10_whyNoLaying 33 = .ok (.iload_n 1, 1) := by decide +kernel
theorem dX10_whyNoLaying_34 : decode cX10_whyNoLaying 34 = .ok (.invokevirtual 165, 3) := by decide +kernel
theorem dX10_whyNoLaying_37 : decode cX10_whyNoLaying 37 = .ok (.if_icmp .gt 15, 3) := by decide +kernel
theorem dX10_whyNoLaying_40 : decode cX10_whyNoLaying 40 = .ok (.aload_n 0, 1) := by decide +kernel
theorem dX10_whyNoLaying_41 : decode cX10_whyNoLaying 41 = .ok (.getfield 22, 3) := by decide +kernel
theorem dX10_whyNoLaying_44 : decode cX10_whyNoLaying 44 = .ok (.iload_n 1, 1) := by decide +kernel
theorem dX10_whyNoLaying_45 : decode cX10_whyNoLaying 45 = .ok (.iload_n 2, 1) := by decide +kernel
theorem dX10_whyNoLaying_46 : decode cX10_whyNoLaying 46 = .ok (.invokevirtual 168, 3) := by decide +kernel
theorem dX10_whyNoLaying_49 : decode cX10_whyNoLaying 49 = .ok (.ifCond .ne 5, 3) := by decide +kernel
theorem dX10_whyNoLaying_52 : decode cX10_whyNoLaying 52 = .ok (.iconst 1, 1) := by decide +kernel
theorem dX10_whyNoLaying_53 : decode cX10_whyNoLaying 53 = .ok (.ireturn, 1) := by decide +kernel
theorem dX10_whyNoLaying_54 : decode cX10_whyNoLaying 54 = .ok (.aload_n 0, 1) := by decide +kernel
theorem dX10_whyNoLaying_55 : decode cX10_whyNoLaying 55 = .ok (.getfield 10, 3) := by decide +kernel
theorem dX10_whyNoLaying_58 : decode cX10_whyNoLaying 58 = .ok (.getfield 111, 3) := by decide +kernel
theorem dX10_whyNoLaying_61 : decode cX10_whyNoLaying 61 = .ok (.invokevirtual 125, 3) := by decide +kernel
theorem dX10_whyNoLaying_64 : decode cX10_whyNoLaying 64 = .ok (.aload_n 0, 1) := by decide +kernel
theorem dX10_whyNoLaying_65 : decode cX10_whyNoLaying 65 = .ok (.getfield 22, 3) := by decide +kernel
theorem dX10_whyNoLaying_68 : decode cX10_whyNoLaying 68 = .ok (.iload_n 1, 1) := by decide +kernel
theorem dX10_whyNoLaying_69 : decode cX10_whyNoLaying 69 = .ok (.iload_n 2, 1) := by decide +kernel
theorem dX10_whyNoLaying_70 : decode cX10_whyNoLaying 70 = .ok (.invokevirtual 171, 3) := by decide +kernel
theorem dX10_whyNoLaying_73 : decode cX10_whyNoLaying 73 = .ok (.iadd, 1) := by decide +kernel
theorem dX10_whyNoLaying_74 : decode cX10_whyNoLaying 74 = .ok (.bipush 20, 2) := by decide +kernel
theorem dX10_whyNoLaying_76 : decode cX10_whyNoLaying 76 = .ok (.if_icmp .le 7, 3) := by decide +kernel
theorem dX10_whyNoLaying_79 : decode cX10_whyNoLaying 79 = .ok (.iconst 5, 1) := by decide +kernel
theorem dX10_whyNoLaying_80 : decode cX10_whyNoLaying 80 = .ok (.goto 4, 3) := by decide +kernel
theorem dX10_whyNoLaying_83 : decode cX10_whyNoLaying 83 = .ok (.iconst 0, 1) := by decide +kernel
theorem dX10_whyNoLaying_84 : decode cX10_whyNoLaying 84 = .ok (.ireturn, 1) := by decide +kernel
theorem dX10_find_0 : decode cX10_find 0 = .ok (.aload_n 0, 1) := by decide +kernel
theorem dX10_find_1 : decode cX10_find 1 = .ok (.iload_n 1, 1) := by decide +kernel
theorem dX10_find_2 : decode cX10_find 2 = .ok (.invokevirtual 174, 3) := by decide +kernel
theorem dX10_find_5 : decode cX10_find 5 = .ok (.ifCond .ne 9, 3) := by decide +kernel
theorem dX10_find_8 : decode cX10_find 8 = .ok (.aload_n 0, 1) := by decide +kernel
theorem dX10_find_9 : decode cX10_find 9 = .ok (.iconst 1, 1) := by decide +kernel
theorem dX10_find_10 : decode cX10_find 10 = .ok (.invokevirtual 67, 3) := by decide +kernel
theorem dX10_find_13 : decode cX10_find 13 = .ok (.lreturn, 1) := by decide +kernel
theorem dX10_find_14 : decode cX10_find 14 = .ok (.aload_n 0, 1) := by decide +kernel
theorem dX10_find_15 : decode cX10_find 15 = .ok (.getfield 29, 3) := by decide +kernel
theorem dX10_find_18 : decode cX10_find 18 = .ok (.aload_n 0, 1) := by decide +kernel
theorem dX10_find_19 : decode cX10_find 19 = .ok (.getfield 10, 3) := by decide +kernel
theorem dX10_find_22 : decode cX10_find 22 = .ok (.invokevirtual 177, 3) := by decide +kernel
theorem dX10_find_25 : decode cX10_find 25 = .ok (.aload_n 0, 1) := by decide +kernel
theorem dX10_find_26 : decode cX10_find 26 = .ok (.getfield 29, 3) := by decide +kernel
theorem dX10_find_29 : decode cX10_find 29 = .ok (.iload_n 1, 1) := by decide +kernel
theorem dX10_find_30 : decode cX10_find 30 = .ok (.invokevirtual 181, 3) := by decide +kernel
theorem dX10_find_33 : decode cX10_find 33 = .ok (.ifCond .ne 22, 3) := by decide +kernel
theorem dX10_find_36 : decode cX10_find 36 = .ok (.aload_n 0, 1) := by decide +kernel
theorem dX10_find_37 : decode cX10_find 37 = .ok (.aload_n 0, 1) := by decide +kernel
theorem dX10_find_38 : decode cX10_find 38 = .ok (.getfield 29, 3) := by decide +kernel
theorem dX10_find_41 : decode cX10_find 41 = .ok (.iload_n 1, 1) := by decide +kernel
theorem dX10_find_42 : decode cX10_find 42 = .ok (.invokevirtual 184, 3) := by decide +kernel
theorem dX10_find_45 : decode cX10_find 45 = .ok (.putfield 187, 3) := by decide +kernel
theorem dX10_find_48 : decode cX10_find 48 = .ok (.aload_n 0, 1) := by decide +kernel
theorem dX10_find_49 : decode cX10_find 49 = .ok (.bipush 6, 2) := by decide +kernel
theorem dX10_find_51 : decode cX10_find 51 = .ok (.invokevirtual 67, 3) := by decide +kernel
theorem dX10_find_54 : decode cX10_find 54 = .ok (.lreturn, 1) := by decide +kernel
theorem dX10_find_55 : decode cX10_find 55 = .ok (.aload_n 0, 1) := by decide +kernel
theorem dX10_find_56 : decode cX10_find 56 = .ok (.getfield 36, 3) := by decide +kernel
theorem dX10_find_59 : decode cX10_find 59 = .ok (.iload_n 1, 1) := by decide +kernel
theorem dX10_find_60 : decode cX10_find 60 = .ok (.aload_n 0, 1) := by decide +kernel
theorem dX10_find_61 : decode cX10_find 61 = .ok (.getfield 29, 3) := by decide +kernel
theorem dX10_find_64 : decode cX10_find 64 = .ok (.invokevirtual 191, 3) := by decide +kernel
theorem dX10_find_67 : decode cX10_find 67 = .ok (.iload_n 1, 1) := by decide +kernel
theorem dX10_find_68 : decode cX10_find 68 = .ok (.invokestatic 195, 3) := by decide +kernel
theorem dX10_find_71 : decode cX10_find 71 = .ok (.i2l, 1) := by decide +kernel
theorem dX10_find_72 : decode cX10_find 72 = .ok (.lreturn, 1) := by decide +kernel
theorem dX10_loose_0 : decode cX10_loose 0 = .ok (.aload_n 0, 1) := by decide +kernel
theorem dX10_loose_1 : decode cX10_loose 1 = .ok (.getfield 187, 3) := by decide +kernel
theorem dX10_loose_4 : decode cX10_loose 4 = .ok (.i2l, 1) := by decide +kernel
theorem dX10_loose_5 : decode cX10_loose 5 = .ok (.lreturn, 1) := by decide +kernel
theorem dX10_size_0 : decode cX10_size 0 = .ok (.aload_n 0, 1) := by decide +kernel
theorem dX10_size_1 : decode cX10_size 1 = .ok (.invokevirtual 200, 3) := by decide +kernel
theorem dX10_size_4 : decode cX10_size 4 = .ok (.istore_n 3, 1) := by decide +kernel
theorem dX10_size_5 : decode cX10_size 5 = .ok (.iload_n 3, 1) := by decide +kernel
theorem dX10_size_6 : decode cX10_size 6 = .ok (.ifCond .ne 16, 3) := by decide +kernel
theorem dX10_size_9 : decode cX10_size 9 = .ok (.aload_n 0, 1) := by decide +kernel
theorem dX10_size_10 : decode cX10_size 10 = .ok (.getfield 36, 3) := by decide +kernel
theorem dX10_size_13 : decode cX10_size 13 = .ok (.iload_n 1, 1) := by decide +kernel
theorem dX10_size_14 : decode cX10_size 14 = .ok (.invokevirtual 203, 3) := by decide +kernel
theorem dX10_size_17 : decode cX10_size 17 = .ok (.ifCond .ne 5, 3) := by decide +kernel
theorem dX10_size_20 : decode cX10_size 20 = .ok (.iconst 1, 1) := by decide +kernel
theorem dX10_size_21 : decode cX10_size 21 = .ok (.istore_n 3, 1) := by decide +kernel
theorem dX10_size_22 : decode cX10_size 22 = .ok (.iload_n 3, 1) := by decide +kernel
theorem dX10_size_23 : decode cX10_size 23 = .ok (.ifCond .eq 9, 3) := by decide +kernel
theorem dX10_size_26 : decode cX10_size 26 = .ok (.aload_n 0, 1) := by decide +kernel
theorem dX10_size_27 : decode cX10_size 27 = .ok (.iload_n 3, 1) := by decide +kernel
theorem dX10_size_28 : decode cX10_size 28 = .ok (.invokevirtual 67, 3) := by decide +kernel
theorem dX10_size_31 : decode cX10_size 31 = .ok (.lreturn, 1) := by decide +kernel
theorem dX10_size_32 : decode cX10_size 32 = .ok (.aload_n 0, 1) := by decide +kernel
theorem dX10_size_33 : decode cX10_size 33 = .ok (.getfield 36, 3) := by decide +kernel
theorem dX10_size_36 : decode cX10_size 36 = .ok (.iload_n 1, 1) := by decide +kernel
theorem dX10_size_37 : decode cX10_size 37 = .ok (.invokevirtual 204, 3) := by decide +kernel
theorem dX10_size_40 : decode cX10_size 40 = .ok (.aload_n 0, 1) := by decide +kernel
theorem dX10_size_41 : decode cX10_size 41 = .ok (.getfield 36, 3) := by decide +kernel
theorem dX10_size_44 : decode cX10_size 44 = .ok (.invokevirtual 207, 3) := by decide +kernel
theorem dX10_size_47 : decode cX10_size 47 = .ok (.iload_n 2, 1) := by decide +kernel
theorem dX10_size_48 : decode cX10_size 48 = .ok (.invokestatic 211, 3) := by decide +kernel
theorem dX10_size_51 : decode cX10_size 51 = .ok (.lreturn, 1) := by decide +kernel
theorem dX10_left_0 : decode cX10_left 0 = .ok (.aload_n 0, 1) := by decide +kernel
theorem dX10_left_1 : decode cX10_left 1 = .ok (.invokevirtual 200, 3) := by decide +kernel
theorem dX10_left_4 : decode cX10_left 4 = .ok (.istore_n 3, 1) := by decide +kernel
theorem dX10_left_5 : decode cX10_left 5 = .ok (.iload_n 3, 1) := by decide +kernel
theorem dX10_left_6 : decode cX10_left 6 = .ok (.ifCond .ne 19, 3) := by decide +kernel
theorem dX10_left_9 : decode cX10_left 9 = .ok (.aload_n 0, 1) := by decide +kernel
theorem dX10_left_10 : decode cX10_left 10 = .ok (.getfield 10, 3) := by decide +kernel
theorem dX10_left_13 : decode cX10_left 13 = .ok (.getfield 111, 3) := by decide +kernel
theorem dX10_left_16 : decode cX10_left 16 = .ok (.iload_n 1, 1) := by decide +kernel
theorem dX10_left_17 : decode cX10_left 17 = .ok (.invokevirtual 120, 3) := by decide +kernel
theorem dX10_left_20 : decode cX10_left 20 = .ok (.ifCond .ne 5, 3) := by decide +kernel
theorem dX10_left_23 : decode cX10_left 23 = .ok (.iconst 1, 1) := by decide +kernel
theorem dX10_left_24 : decode cX10_left 24 = .ok (.istore_n 3, 1) := by decide +kernel
theorem dX10_left_25 : decode cX10_left 25 = .ok (.iload_n 3, 1) := by decide +kernel
theorem dX10_left_26 : decode cX10_left 26 = .ok (.ifCond .eq 9, 3) := by decide +kernel
theorem dX10_left_29 : decode cX10_left 29 = .ok (.aload_n 0, 1) := by decide +kernel
theorem dX10_left_30 : decode cX10_left 30 = .ok (.iload_n 3, 1) := by decide +kernel
theorem dX10_left_31 : decode cX10_left 31 = .ok (.invokevirtual 67, 3) := by decide +kernel
theorem dX10_left_34 : decode cX10_left 34 = .ok (.lreturn, 1) := by decide +kernel
theorem dX10_left_35 : decode cX10_left 35 = .ok (.aload_n 0, 1) := by decide +kernel
theorem dX10_left_36 : decode cX10_left 36 = .ok (.getfield 10, 3) := by decide +kernel
theorem dX10_left_39 : decode cX10_left 39 = .ok (.getfield 111, 3) := by decide +kernel
theorem dX10_left_42 : decode cX10_left 42 = .ok (.iload_n 1, 1) := by decide +kernel
theorem dX10_left_43 : decode cX10_left 43 = .ok (.invokevirtual 137, 3) := by decide +kernel
theorem dX10_left_46 : decode cX10_left 46 = .ok (.i2l, 1) := by decide +kernel
theorem dX10_left_47 : decode cX10_left 47 = .ok (.aload_n 0, 1) := by decide +kernel
theorem dX10_left_48 : decode cX10_left 48 = .ok (.getfield 36, 3) := by decide +kernel
theorem dX10_left_51 : decode cX10_left 51 = .ok (.invokevirtual 207, 3) := by decide +kernel
theorem dX10_left_54 : decode cX10_left 54 = .ok (.lmul, 1) := by decide +kernel
theorem dX10_left_55 : decode cX10_left 55 = .ok (.lstore 4, 2) := by decide +kernel
theorem dX10_left_57 : decode cX10_left 57 = .ok (.lload 4, 2) := by decide +kernel
theorem dX10_left_59 : decode cX10_left 59 = .ok (.aload_n 0, 1) := by decide +kernel
theorem dX10_left_60 : decode cX10_left 60 = .ok (.getfield 36, 3) := by decide +kernel
theorem dX10_left_63 : decode cX10_left 63 = .ok (.aload_n 0, 1) := by decide +kernel
theorem dX10_left_64 : decode cX10_left 64 = .ok (.getfield 10, 3) := by decide +kernel
theorem dX10_left_67 : decode cX10_left 67 = .ok (.getfield 111, 3) := by decide +kernel
theorem dX10_left_70 : decode cX10_left 70 = .ok (.iload_n 1, 1) := by decide +kernel
theorem dX10_left_71 : decode cX10_left 71 = .ok (.invokevirtual 134, 3) := by decide +kernel
theorem dX10_left_74 : decode cX10_left 74 = .ok (.aload_n 0, 1) := by decide +kernel
theorem dX10_left_75 : decode cX10_left 75 = .ok (.getfield 10, 3) := by decide +kernel
theorem dX10_left_78 : decode cX10_left 78 = .ok (.getfield 71, 3) := by decide +kernel
theorem dX10_left_81 : decode cX10_left 81 = .ok (.invokevirtual 215, 3) := by decide +kernel
theorem dX10_left_84 : decode cX10_left 84 = .ok (.lsub, 1) := by decide +kernel
theorem dX10_left_85 : decode cX10_left 85 = .ok (.lstore 6, 2) := by decide +kernel
theorem dX10_left_87 : decode cX10_left 87 = .ok (.lload 6, 2) := by decide +kernel
theorem dX10_left_89 : decode cX10_left 89 = .ok (.aload_n 0, 1) := by decide +kernel
theorem dX10_left_90 : decode cX10_left 90 = .ok (.getfield 36, 3) := by decide +kernel
theorem dX10_left_93 : decode cX10_left 93 = .ok (.invokevirtual 207, 3) := by decide +kernel
theorem dX10_left_96 : decode cX10_left 96 = .ok (.iload_n 2, 1) := by decide +kernel
theorem dX10_left_97 : decode cX10_left 97 = .ok (.invokestatic 211, 3) := by decide +kernel
theorem dX10_left_100 : decode cX10_left 100 = .ok (.lreturn, 1) := by decide +kernel
theorem dX10_sum_0 : decode cX10_sum 0 = .ok (.aload_n 0, 1) := by decide +kernel
theorem dX10_sum_1 : decode cX10_sum 1 = .ok (.invokevirtual 200, 3) := by decide +kernel
theorem dX10_sum_4 : decode cX10_sum 4 = .ok (.istore_n 2, 1) := by decide +kernel
theorem dX10_sum_5 : decode cX10_sum 5 = .ok (.iload_n 2, 1) := by decide +kernel
theorem dX10_sum_6 : decode cX10_sum 6 = .ok (.ifCond .eq 9, 3) := by decide +kernel
theorem dX10_sum_9 : decode cX10_sum 9 = .ok (.aload_n 0, 1) := by decide +kernel
theorem dX10_sum_10 : decode cX10_sum 10 = .ok (.iload_n 2, 1) := by decide +kernel
theorem dX10_sum_11 : decode cX10_sum 11 = .ok (.invokevirtual 67, 3) := by decide +kernel
theorem dX10_sum_14 : decode cX10_sum 14 = .ok (.lreturn, 1) := by decide +kernel
theorem dX10_sum_15 : decode cX10_sum 15 = .ok (.aload_n 0, 1) := by decide +kernel
theorem dX10_sum_16 : decode cX10_sum 16 = .ok (.getfield 36, 3) := by decide +kernel
theorem dX10_sum_19 : decode cX10_sum 19 = .ok (.invokevirtual 219, 3) := by decide +kernel
theorem dX10_sum_22 : decode cX10_sum 22 = .ok (.aload_n 0, 1) := by decide +kernel
theorem dX10_sum_23 : decode cX10_sum 23 = .ok (.getfield 36, 3) := by decide +kernel
theorem dX10_sum_26 : decode cX10_sum 26 = .ok (.invokevirtual 207, 3) := by decide +kernel
theorem dX10_sum_29 : decode cX10_sum 29 = .ok (.iload_n 1, 1) := by decide +kernel
theorem dX10_sum_30 : decode cX10_sum 30 = .ok (.invokestatic 211, 3) := by decide +kernel
theorem dX10_sum_33 : decode cX10_sum 33 = .ok (.lreturn, 1) := by decide +kernel
theorem dX10_foretold_0 : decode cX10_foretold 0 = .ok (.aload_n 0, 1) := by decide +kernel
theorem dX10_foretold_1 : decode cX10_foretold 1 = .ok (.invokevirtual 200, 3) := by decide +kernel
theorem dX10_foretold_4 : decode cX10_foretold 4 = .ok (.istore_n 3, 1) := by decide +kernel
theorem dX10_foretold_5 : decode cX10_foretold 5 = .ok (.iload_n 3, 1) := by decide +kernel
theorem dX10_foretold_6 : decode cX10_foretold 6 = .ok (.ifCond .ne 12, 3) := by decide +kernel
theorem dX10_foretold_9 : decode cX10_foretold 9 = .ok (.iload_n 1, 1) := by decide +kernel
theorem dX10_foretold_10 : decode cX10_foretold 10 = .ok (.invokestatic 90, 3) := by decide +kernel
theorem dX10_foretold_13 : decode cX10_foretold 13 = .ok (.ifCond .ne 5, 3) := by decide +kernel
theorem dX10_foretold_16 : decode cX10_foretold 16 = .ok (.iconst 1, 1) := by decide +kernel
theorem dX10_foretold_17 : decode cX10_foretold 17 = .ok (.istore_n 3, 1) := by decide +kernel
theorem dX10_foretold_18 : decode cX10_foretold 18 = .ok (.iload_n 3, 1) := by decide +kernel
theorem dX10_foretold_19 : decode cX10_foretold 19 = .ok (.ifCond .eq 9, 3) := by decide +kernel
theorem dX10_foretold_22 : decode cX10_foretold 22 = .ok (.aload_n 0, 1) := by decide +kernel
theorem dX10_foretold_23 : decode cX10_foretold 23 = .ok (.iload_n 3, 1) := by decide +kernel
theorem dX10_foretold_24 : decode cX10_foretold 24 = .ok (.invokevirtual 67, 3) := by decide +kernel
theorem dX10_foretold_27 : decode cX10_foretold 27 = .ok (.lreturn, 1) := by decide +kernel
theorem dX10_foretold_28 : decode cX10_foretold 28 = .ok (.aload_n 0, 1) := by decide +kernel
theorem dX10_foretold_29 : decode cX10_foretold 29 = .ok (.getfield 36, 3) := by decide +kernel
theorem dX10_foretold_32 : decode cX10_foretold 32 = .ok (.iload_n 1, 1) := by decide +kernel
theorem dX10_foretold_33 : decode cX10_foretold 33 = .ok (.aload_n 0, 1) := by decide +kernel
theorem dX10_foretold_34 : decode cX10_foretold 34 = .ok (.getfield 10, 3) := by decide +kernel
theorem dX10_foretold_37 : decode cX10_foretold 37 = .ok (.getfield 71, 3) := by decide +kernel
theorem dX10_foretold_40 : decode cX10_foretold 40 = .ok (.invokevirtual 215, 3) := by decide +kernel
theorem dX10_foretold_43 : decode cX10_foretold 43 = .ok (.aload_n 0, 1) := by decide +kernel
theorem dX10_foretold_44 : decode cX10_foretold 44 = .ok (.getfield 36, 3) := by decide +kernel
theorem dX10_foretold_47 : decode cX10_foretold 47 = .ok (.invokevirtual 207, 3) := by decide +kernel
theorem dX10_foretold_50 : decode cX10_foretold 50 = .ok (.iload_n 2, 1) := by decide +kernel
theorem dX10_foretold_51 : decode cX10_foretold 51 = .ok (.invokestatic 211, 3) := by decide +kernel
theorem dX10_foretold_54 : decode cX10_foretold 54 = .ok (.lreturn, 1) := by decide +kernel
theorem dX10_model_0 : decode cX10_model 0 = .ok (.aload_n 0, 1) := by decide +kernel
theorem dX10_model_1 : decode cX10_model 1 = .ok (.invokevirtual 200, 3) := by decide +kernel
theorem dX10_model_4 : decode cX10_model 4 = .ok (.istore_n 1, 1) := by decide +kernel
theorem dX10_model_5 : decode cX10_model 5 = .ok (.iload_n 1, 1) := by decide +kernel
theorem dX10_model_6 : decode cX10_model 6 = .ok (.ifCond .eq 9, 3) := by decide +kernel
theorem dX10_model_9 : decode cX10_model 9 = .ok (.aload_n 0, 1) := by decide +kernel
theorem dX10_model_10 : decode cX10_model 10 = .ok (.iload_n 1, 1) := by decide +kernel
theorem dX10_model_11 : decode cX10_model 11 = .ok (.invokevirtual 67, 3) := by decide +kernel
theorem dX10_model_14 : decode cX10_model 14 = .ok (.lreturn, 1) := by decide +kernel
theorem dX10_model_15 : decode cX10_model 15 = .ok (.aload_n 0, 1) := by decide +kernel
theorem dX10_model_16 : decode cX10_model 16 = .ok (.getfield 36, 3) := by decide +kernel
theorem dX10_model_19 : decode cX10_model 19 = .ok (.invokevirtual 222, 3) := by decide +kernel
theorem dX10_model_22 : decode cX10_model 22 = .ok (.i2l, 1) := by decide +kernel
theorem dX10_model_23 : decode cX10_model 23 = .ok (.lreturn, 1) := by decide +kernel
theorem dX10_few_0 : decode cX10_few 0 = .ok (.iload_n 1, 1) := by decide +kernel
theorem dX10_few_1 : decode cX10_few 1 = .ok (.iconst 1, 1) := by decide +kernel
theorem dX10_few_2 : decode cX10_few 2 = .ok (.iconst 3, 1) := by decide +kernel
theorem dX10_few_3 : decode cX10_few 3 = .ok (.invokestatic 129, 3) := by decide +kernel
theorem dX10_few_6 : decode cX10_few 6 = .ok (.ifCond .ne 9, 3) := by decide +kernel
theorem dX10_few_9 : decode cX10_few 9 = .ok (.aload_n 0, 1) := by decide +kernel
theorem dX10_few_10 : decode cX10_few 10 = .ok (.iconst 1, 1) := by decide +kernel
theorem dX10_few_11 : decode cX10_few 11 = .ok (.invokevirtual 67, 3) := by decide +kernel
theorem dX10_few_14 : decode cX10_few 14 = .ok (.lreturn, 1) := by decide +kernel
theorem dX10_few_15 : decode cX10_few 15 = .ok (.aload_n 0, 1) := by decide +kernel
theorem dX10_few_16 : decode cX10_few 16 = .ok (.getfield 10, 3) := by decide +kernel
theorem dX10_few_19 : decode cX10_few 19 = .ok (.getfield 71, 3) := by decide +kernel
theorem dX10_few_22 : decode cX10_few 22 = .ok (.invokevirtual 225, 3) := by decide +kernel
theorem dX10_few_25 : decode cX10_few 25 = .ok (.ifCond .ne 9, 3) := by decide +kernel
theorem dX10_few_28 : decode cX10_few 28 = .ok (.aload_n 0, 1) := by decide +kernel
theorem dX10_few_29 : decode cX10_few 29 = .ok (.iconst 2, 1) := by decide +kernel
theorem dX10_few_30 : decode cX10_few 30 = .ok (.invokevirtual 67, 3) := by decide +kernel
theorem dX10_few_33 : decode cX10_few 33 = .ok (.lreturn, 1) := by decide +kernel
theorem dX10_few_34 : decode cX10_few 34 = .ok (.aload_n 0, 1) := by decide +kernel
theorem dX10_few_35 : decode cX10_few 35 = .ok (.getfield 29, 3) := by decide +kernel
theorem dX10_few_38 : decode cX10_few 38 = .ok (.aload_n 0, 1) := by decide +kernel
theorem dX10_few_39 : decode cX10_few 39 = .ok (.getfield 10, 3) := by decide +kernel
theorem dX10_few_42 : decode cX10_few 42 = .ok (.invokevirtual 177, 3) := by decide +kernel
theorem dX10_few_45 : decode cX10_few 45 = .ok (.iconst 1, 1) := by decide +kernel
theorem dX10_few_46 : decode cX10_few 46 = .ok (.aload_n 0, 1) := by decide +kernel
theorem dX10_few_47 : decode cX10_few 47 = .ok (.getfield 10, 3) := by decide +kernel
theorem dX10_few_50 : decode cX10_few 50 = .ok (.getfield 71, 3) := by decide +kernel
theorem dX10_few_53 : decode cX10_few 53 = .ok (.invokevirtual 225, 3) := by decide +kernel
theorem dX10_few_56 : decode cX10_few 56 = .ok (.ishl, 1) := by decide +kernel
theorem dX10_few_57 : decode cX10_few 57 = .ok (.iconst 1, 1) := by decide +kernel
theorem dX10_few_58 : decode cX10_few 58 = .ok (.isub, 1) := by decide +kernel
theorem dX10_few_59 : decode cX10_few 59 = .ok (.istore_n 2, 1) := by decide +kernel
theorem dX10_few_60 : decode cX10_few 60 = .ok (.aload_n 0, 1) := by decide +kernel
theorem dX10_few_61 : decode cX10_few 61 = .ok (.getfield 29, 3) := by decide +kernel
theorem dX10_few_64 : decode cX10_few 64 = .ok (.iload_n 2, 1) := by decide +kernel
theorem dX10_few_65 : decode cX10_few 65 = .ok (.iload_n 1, 1) := by decide +kernel
theorem dX10_few_66 : decode cX10_few 66 = .ok (.invokevirtual 226, 3) := by decide +kernel
theorem dX10_few_69 : decode cX10_few 69 = .ok (.istore_n 3, 1) := by decide +kernel
theorem dX10_few_70 : decode cX10_few 70 = .ok (.iload_n 3, 1) := by decide +kernel
theorem dX10_few_71 : decode cX10_few 71 = .ok (.ifCond .eq 14, 3) := by decide +kernel
theorem dX10_few_74 : decode cX10_few 74 = .ok (.aload_n 0, 1) := by decide +kernel
theorem dX10_few_75 : decode cX10_few 75 = .ok (.getfield 29, 3) := by decide +kernel
theorem dX10_few_78 : decode cX10_few 78 = .ok (.iload_n 3, 1) := by decide +kernel
theorem dX10_few_79 : decode cX10_few 79 = .ok (.invokevirtual 181, 3) := by decide +kernel
theorem dX10_few_82 : decode cX10_few 82 = .ok (.ifCond .ne 15, 3) := by decide +kernel
theorem dX10_few_85 : decode cX10_few 85 = .ok (.aload_n 0, 1) := by decide +kernel
theorem dX10_few_86 : decode cX10_few 86 = .ok (.iload_n 2, 1) := by decide +kernel
theorem dX10_few_87 : decode cX10_few 87 = .ok (.putfield 187, 3) := by decide +kernel
theorem dX10_few_90 : decode cX10_few 90 = .ok (.aload_n 0, 1) := by decide +kernel
theorem dX10_few_91 : decode cX10_few 91 = .ok (.bipush 6, 2) := by decide +kernel
theorem dX10_few_93 : decode cX10_few 93 = .ok (.invokevirtual 67, 3) := by decide +kernel
theorem dX10_few_96 : decode cX10_few 96 = .ok (.lreturn, 1) := by decide +kernel
theorem dX10_few_97 : decode cX10_few 97 = .ok (.aload_n 0, 1) := by decide +kernel
theorem dX10_few_98 : decode cX10_few 98 = .ok (.getfield 36, 3) := by decide +kernel
theorem dX10_few_101 : decode cX10_few 101 = .ok (.iload_n 3, 1) := by decide +kernel
theorem dX10_few_102 : decode cX10_few 102 = .ok (.aload_n 0, 1) := by decide +kernel
theorem dX10_few_103 : decode cX10_few 103 = .ok (.getfield 29, 3) := by decide +kernel
theorem dX10_few_106 : decode cX10_few 106 = .ok (.invokevirtual 191, 3) := by decide +kernel
theorem dX10_few_109 : decode cX10_few 109 = .ok (.iload_n 3, 1) := by decide +kernel
theorem dX10_few_110 : decode cX10_few 110 = .ok (.i2l, 1) := by decide +kernel
theorem dX10_few_111 : decode cX10_few 111 = .ok (.lreturn, 1) := by decide +kernel
theorem dX10_doubt_0 : decode cX10_doubt 0 = .ok (.aload_n 0, 1) := by decide +kernel
theorem dX10_doubt_1 : decode cX10_doubt 1 = .ok (.invokevirtual 200, 3) := by decide +kernel
theorem dX10_doubt_4 : decode cX10_doubt 4 = .ok (.istore 4, 2) := by decide +kernel
theorem dX10_doubt_6 : decode cX10_doubt 6 = .ok (.iload 4, 2) := by decide +kernel
theorem dX10_doubt_8 : decode cX10_doubt 8 = .ok (.ifCond .ne 17, 3) := by decide +kernel
theorem dX10_doubt_11 : decode cX10_doubt 11 = .ok (.aload_n 0, 1) := by decide +kernel
theorem dX10_doubt_12 : decode cX10_doubt 12 = .ok (.getfield 36, 3) := by decide +kernel
theorem dX10_doubt_15 : decode cX10_doubt 15 = .ok (.iload_n 1, 1) := by decide +kernel
theorem dX10_doubt_16 : decode cX10_doubt 16 = .ok (.invokevirtual 203, 3) := by decide +kernel
theorem dX10_doubt_19 : decode cX10_doubt 19 = .ok (.ifCond .ne 6, 3) := by decide +kernel
theorem dX10_doubt_22 : decode cX10_doubt 22 = .ok (.iconst 1, 1) := by decide +kernel
theorem dX10_doubt_23 : decode cX10_doubt 23 = .ok (.istore 4, 2) := by decide +kernel
theorem dX10_doubt_25 : decode cX10_doubt 25 = .ok (.iload 4, 2) := by decide +kernel
theorem dX10_doubt_27 : decode cX10_doubt 27 = .ok (.ifCond .eq 10, 3) := by decide +kernel
theorem dX10_doubt_30 : decode cX10_doubt 30 = .ok (.aload_n 0, 1) := by decide +kernel
theorem dX10_doubt_31 : decode cX10_doubt 31 = .ok (.iload 4, 2) := by decide +kernel
theorem dX10_doubt_33 : decode cX10_doubt 33 = .ok (.invokevirtual 67, 3) := by decide +kernel
theorem dX10_doubt_36 : decode cX10_doubt 36 = .ok (.lreturn, 1) := by decide +kernel
theorem dX10_doubt_37 : decode cX10_doubt 37 = .ok (.aload_n 0, 1) := by decide +kernel
theorem dX10_doubt_38 : decode cX10_doubt 38 = .ok (.getfield 29, 3) := by decide +kernel
theorem dX10_doubt_41 : decode cX10_doubt 41 = .ok (.aload_n 0, 1) := by decide +kernel
theorem dX10_doubt_42 : decode cX10_doubt 42 = .ok (.getfield 10, 3) := by decide +kernel
theorem dX10_doubt_45 : decode cX10_doubt 45 = .ok (.invokevirtual 177, 3) := by decide +kernel
theorem dX10_doubt_48 : decode cX10_doubt 48 = .ok (.iconst 0, 1) := by decide +kernel
theorem dX10_doubt_49 : decode cX10_doubt 49 = .ok (.istore 5, 2) := by decide +kernel
theorem dX10_doubt_51 : decode cX10_doubt 51 = .ok (.lconst 0, 1) := by decide +kernel
theorem dX10_doubt_52 : decode cX10_doubt 52 = .ok (.lstore 6, 2) := by decide +kernel
theorem dX10_doubt_54 : decode cX10_doubt 54 = .ok (.lconst 1, 1) := by decide +kernel
theorem dX10_doubt_55 : decode cX10_doubt 55 = .ok (.lstore 8, 2) := by decide +kernel
theorem dX10_doubt_57 : decode cX10_doubt 57 = .ok (.iconst 0, 1) := by decide +kernel
theorem dX10_doubt_58 : decode cX10_doubt 58 = .ok (.istore 10, 2) := by decide +kernel
theorem dX10_doubt_60 : decode cX10_doubt 60 = .ok (.iload 10, 2) := by decide +kernel
theorem dX10_doubt_62 : decode cX10_doubt 62 = .ok (.aload_n 0, 1) := by decide +kernel
theorem dX10_doubt_63 : decode cX10_doubt 63 = .ok (.getfield 10, 3) := by decide +kernel
theorem dX10_doubt_66 : decode cX10_doubt 66 = .ok (.getfield 111, 3) := by decide +kernel
theorem dX10_doubt_69 : decode cX10_doubt 69 = .ok (.invokevirtual 125, 3) := by decide +kernel
theorem dX10_doubt_72 : decode cX10_doubt 72 = .ok (.if_icmp .ge 104, 3) := by decide +kernel
theorem dX10_doubt_75 : decode cX10_doubt 75 = .ok (.aload_n 0, 1) := by decide +kernel
theorem dX10_doubt_76 : decode cX10_doubt 76 = .ok (.getfield 29, 3) := by decide +kernel
theorem dX10_doubt_79 : decode cX10_doubt 79 = .ok (.iload 10, 2) := by decide +kernel
theorem dX10_doubt_81 : decode cX10_doubt 81 = .ok (.aload_n 0, 1) := by decide +kernel
theorem dX10_doubt_82 : decode cX10_doubt 82 = .ok (.getfield 36, 3) := by decide +kernel
theorem dX10_doubt_85 : decode cX10_doubt 85 = .ok (.invokevirtual 222, 3) := by decide +kernel
theorem dX10_doubt_88 : decode cX10_doubt 88 = .ok (.aload_n 0, 1) := by decide +kernel
theorem dX10_doubt_89 : decode cX10_doubt 89 = .ok (.getfield 10, 3) := by decide +kernel
theorem dX10_doubt_92 : decode cX10_doubt 92 = .ok (.invokevirtual 229, 3) := by decide +kernel
theorem dX10_doubt_95 : decode cX10_doubt 95 = .ok (.ifCond .eq 75, 3) := by decide +kernel
theorem dX10_doubt_98 : decode cX10_doubt 98 = .ok (.aload_n 0, 1) := by decide +kernel
theorem dX10_doubt_99 : decode cX10_doubt 99 = .ok (.getfield 29, 3) := by decide +kernel
theorem dX10_doubt_102 : decode cX10_doubt 102 = .ok (.aload_n 0, 1) := by decide +kernel
theorem dX10_doubt_103 : decode cX10_doubt 103 = .ok (.getfield 36, 3) := by decide +kernel
theorem dX10_doubt_106 : decode cX10_doubt 106 = .ok (.iload_n 1, 1) := by decide +kernel
theorem dX10_doubt_107 : decode cX10_doubt 107 = .ok (.invokevirtual 233, 3) := by decide +kernel
theorem dX10_doubt_110 : decode cX10_doubt 110 = .ok (.invokevirtual 236, 3) := by decide +kernel
theorem dX10_doubt_113 : decode cX10_doubt 113 = .ok (.lstore 11, 2) := by decide +kernel
theorem dX10_doubt_115 : decode cX10_doubt 115 = .ok (.aload_n 0, 1) := by decide +kernel
theorem dX10_doubt_116 : decode cX10_doubt 116 = .ok (.getfield 29, 3) := by decide +kernel
theorem dX10_doubt_119 : decode cX10_doubt 119 = .ok (.invokevirtual 237, 3) := by decide +kernel
theorem dX10_doubt_122 : decode cX10_doubt 122 = .ok (.lstore 13, 2) := by decide +kernel
theorem dX10_doubt_124 : decode cX10_doubt 124 = .ok (.lload 11, 2) := by decide +kernel
theorem dX10_doubt_126 : decode cX10_doubt 126 = .ok (.lload 13, 2) := by decide +kernel
theorem dX10_doubt_128 : decode cX10_doubt 128 = .ok (.lload 6, 2) := by decide +kernel
theorem dX10_doubt_130 : decode cX10_doubt 130 = .ok (.lload 8, 2) := by decide +kernel
theorem dX10_doubt_132 : decode cX10_doubt 132 = .ok (.invokestatic 238, 3) := by decide +kernel
theorem dX10_doubt_135 : decode cX10_doubt 135 = .ok (.istore 15, 2) := by decide +kernel
theorem dX10_doubt_137 : decode cX10_doubt 137 = .ok (.iload 5, 2) := by decide +kernel
theorem dX10_doubt_139 : decode cX10_doubt 139 = .ok (.ifCond .eq 20, 3) := by decide +kernel
theorem dX10_doubt_142 : decode cX10_doubt 142 = .ok (.iload_n 2, 1) := by decide +kernel
theorem dX10_doubt_143 : decode cX10_doubt 143 = .ok (.ifCond .eq 11, 3) := by decide +kernel
theorem dX10_doubt_146 : decode cX10_doubt 146 = .ok (.iload 15, 2) := by decide +kernel
theorem dX10_doubt_148 : decode cX10_doubt 148 = .ok (.ifCond .le 19, 3) := by decide +kernel
theorem dX10_doubt_151 : decode cX10_doubt 151 = .ok (.goto 8, 3) := by decide +kernel
theorem dX10_doubt_154 : decode cX10_doubt 154 = .ok (.iload 15, 2) := by decide +kernel
theorem dX10_doubt_156 : decode cX10_doubt 156 = .ok (.ifCond .ge 11, 3) := by decide +kernel
theorem dX10_doubt_159 : decode cX10_doubt 159 = .ok (.lload 11, 2) := by decide +kernel
theorem dX10_doubt_161 : decode cX10_doubt 161 = .ok (.lstore 6, 2) := by decide +kernel
theorem dX10_doubt_163 : decode cX10_doubt 163 = .ok (.lload 13, 2) := by decide +kernel
theorem dX10_doubt_165 : decode cX10_doubt 165 = .ok (.lstore 8, 2) := by decide +kernel
theorem dX10_doubt_167 : decode cX10_doubt 167 = .ok (.iconst 1, 1) := by decide +kernel
theorem dX10_doubt_168 : decode cX10_doubt 168 = .ok (.istore 5, 2) := by decide +kernel
theorem dX10_doubt_170 : decode cX10_doubt 170 = .ok (.iinc 10 1, 3) := by decide +kernel
theorem dX10_doubt_173 : decode cX10_doubt 173 = .ok (.goto (-113), 3) := by decide +kernel
theorem dX10_doubt_176 : decode cX10_doubt 176 = .ok (.iload 5, 2) := by decide +kernel
theorem dX10_doubt_178 : decode cX10_doubt 178 = .ok (.ifCond .eq 14, 3) := by decide +kernel
theorem dX10_doubt_181 : decode cX10_doubt 181 = .ok (.lload 6, 2) := by decide +kernel
theorem dX10_doubt_183 : decode cX10_doubt 183 = .ok (.lload 8, 2) := by decide +kernel
theorem dX10_doubt_185 : decode cX10_doubt 185 = .ok (.iload_n 3, 1) := by decide +kernel
theorem dX10_doubt_186 : decode cX10_doubt 186 = .ok (.invokestatic 211, 3) := by decide +kernel
theorem dX10_doubt_189 : decode cX10_doubt 189 = .ok (.goto 9, 3) := by decide +kernel
theorem dX10_doubt_192 : decode cX10_doubt 192 = .ok (.aload_n 0, 1) := by decide +kernel
theorem dX10_doubt_193 : decode cX10_doubt 193 = .ok (.bipush 6, 2) := by decide +kernel
theorem dX10_doubt_195 : decode cX10_doubt 195 = .ok (.invokevirtual 67, 3) := by decide +kernel
theorem dX10_doubt_198 : decode cX10_doubt 198 = .ok (.lreturn, 1) := by decide +kernel
theorem dX10_spare_0 : decode cX10_spare 0 = .ok (.aload_n 0, 1) := by decide +kernel
theorem dX10_spare_1 : decode cX10_spare 1 = .ok (.invokevirtual 200, 3) := by decide +kernel
theorem dX10_spare_4 : decode cX10_spare 4 = .ok (.istore_n 1, 1) := by decide +kernel
theorem dX10_spare_5 : decode cX10_spare 5 = .ok (.iload_n 1, 1) := by decide +kernel
theorem dX10_spare_6 : decode cX10_spare 6 = .ok (.ifCond .eq 9, 3) := by decide +kernel
theorem dX10_spare_9 : decode cX10_spare 9 = .ok (.aload_n 0, 1) := by decide +kernel
theorem dX10_spare_10 : decode cX10_spare 10 = .ok (.iload_n 1, 1) := by decide +kernel
theorem dX10_spare_11 : decode cX10_spare 11 = .ok (.invokevirtual 67, 3) := by decide +kernel
theorem dX10_spare_14 : decode cX10_spare 14 = .ok (.lreturn, 1) := by decide +kernel
theorem dX10_spare_15 : decode cX10_spare 15 = .ok (.aload_n 0, 1) := by decide +kernel
theorem dX10_spare_16 : decode cX10_spare 16 = .ok (.getfield 29, 3) := by decide +kernel
theorem dX10_spare_19 : decode cX10_spare 19 = .ok (.aload_n 0, 1) := by decide +kernel
theorem dX10_spare_20 : decode cX10_spare 20 = .ok (.getfield 10, 3) := by decide +kernel
theorem dX10_spare_23 : decode cX10_spare 23 = .ok (.invokevirtual 177, 3) := by decide +kernel
theorem dX10_spare_26 : decode cX10_spare 26 = .ok (.iconst 0, 1) := by decide +kernel
theorem dX10_spare_27 : decode cX10_spare 27 = .ok (.istore_n 2, 1) := by decide +kernel
theorem dX10_spare_28 : decode cX10_spare 28 = .ok (.iconst 0, 1) := by decide +kernel
theorem dX10_spare_29 : decode cX10_spare 29 = .ok (.istore_n 3, 1) := by decide +kernel
theorem dX10_spare_30 : decode cX10_spare 30 = .ok (.iload_n 3, 1) := by decide +kernel
theorem dX10_spare_31 : decode cX10_spare 31 = .ok (.aload_n 0, 1) := by decide +kernel
theorem dX10_spare_32 : decode cX10_spare 32 = .ok (.getfield 10, 3) := by decide +kernel
theorem dX10_spare_35 : decode cX10_spare 35 = .ok (.getfield 111, 3) := by decide +kernel
theorem dX10_spare_38 : decode cX10_spare 38 = .ok (.invokevirtual 125, 3) := by decide +kernel
theorem dX10_spare_41 : decode cX10_spare 41 = .ok (.if_icmp .ge 34, 3) := by decide +kernel
theorem dX10_spare_44 : decode cX10_spare 44 = .ok (.aload_n 0, 1) := by decide +kernel
theorem dX10_spare_45 : decode cX10_spare 45 = .ok (.getfield 29, 3) := by decide +kernel
theorem dX10_spare_48 : decode cX10_spare 48 = .ok (.iload_n 3, 1) := by decide +kernel
theorem dX10_spare_49 : decode cX10_spare 49 = .ok (.aload_n 0, 1) := by decide +kernel
theorem dX10_spare_50 : decode cX10_spare 50 = .ok (.getfield 36, 3) := by decide +kernel
theorem dX10_spare_53 : decode cX10_spare 53 = .ok (.invokevirtual 222, 3) := by decide +kernel
theorem dX10_spare_56 : decode cX10_spare 56 = .ok (.aload_n 0, 1) := by decide +kernel
theorem dX10_spare_57 : decode cX10_spare 57 = .ok (.getfield 10, 3) := by decide +kernel
theorem dX10_spare_60 : decode cX10_spare 60 = .ok (.invokevirtual 229, 3) := by decide +kernel
theorem dX10_spare_63 : decode cX10_spare 63 = .ok (.ifCond .eq 6, 3) := by decide +kernel
theorem dX10_spare_66 : decode cX10_spare 66 = .ok (.iinc 2 1, 3) := by decide +kernel
theorem dX10_spare_69 : decode cX10_spare 69 = .ok (.iinc 3 1, 3) := by decide +kernel
theorem dX10_spare_72 : decode cX10_spare 72 = .ok (.goto (-42), 3) := by decide +kernel
theorem dX10_spare_75 : decode cX10_spare 75 = .ok (.iload_n 2, 1) := by decide +kernel
theorem dX10_spare_76 : decode cX10_spare 76 = .ok (.i2l, 1) := by decide +kernel
theorem dX10_spare_77 : decode cX10_spare 77 = .ok (.lreturn, 1) := by decide +kernel
theorem dX10_mend_0 : decode cX10_mend 0 = .ok (.aload_n 0, 1) := by decide +kernel
theorem dX10_mend_1 : decode cX10_mend 1 = .ok (.getfield 10, 3) := by decide +kernel
theorem dX10_mend_4 : decode cX10_mend 4 = .ok (.getfield 71, 3) := by decide +kernel
theorem dX10_mend_7 : decode cX10_mend 7 = .ok (.iload_n 1, 1) := by decide +kernel
theorem dX10_mend_8 : decode cX10_mend 8 = .ok (.invokevirtual 86, 3) := by decide +kernel
theorem dX10_mend_11 : decode cX10_mend 11 = .ok (.ifCond .eq 16, 3) := by decide +kernel
theorem dX10_mend_14 : decode cX10_mend 14 = .ok (.iload_n 2, 1) := by decide +kernel
theorem dX10_mend_15 : decode cX10_mend 15 = .ok (.sipush (-200), 3) := by decide +kernel
theorem dX10_mend_18 : decode cX10_mend 18 = .ok (.sipush 200, 3) := by decide +kernel
theorem dX10_mend_21 : decode cX10_mend 21 = .ok (.invokestatic 129, 3) := by decide +kernel
theorem dX10_mend_24 : decode cX10_mend 24 = .ok (.ifCond .ne 9, 3) := by decide +kernel
theorem dX10_mend_27 : decode cX10_mend 27 = .ok (.aload_n 0, 1) := by decide +kernel
theorem dX10_mend_28 : decode cX10_mend 28 = .ok (.iconst 1, 1) := by decide +kernel
theorem dX10_mend_29 : decode cX10_mend 29 = .ok (.invokevirtual 67, 3) := by decide +kernel
theorem dX10_mend_32 : decode cX10_mend 32 = .ok (.lreturn, 1) := by decide +kernel
theorem dX10_mend_33 : decode cX10_mend 33 = .ok (.aload_n 0, 1) := by decide +kernel
theorem dX10_mend_34 : decode cX10_mend 34 = .ok (.getfield 10, 3) := by decide +kernel
theorem dX10_mend_37 : decode cX10_mend 37 = .ok (.getfield 242, 3) := by decide +kernel
theorem dX10_mend_40 : decode cX10_mend 40 = .ok (.invokevirtual 115, 3) := by decide +kernel
theorem dX10_mend_43 : decode cX10_mend 43 = .ok (.ifCond .eq 9, 3) := by decide +kernel
theorem dX10_mend_46 : decode cX10_mend 46 = .ok (.aload_n 0, 1) := by decide +kernel
theorem dX10_mend_47 : decode cX10_mend 47 = .ok (.iconst 5, 1) := by decide +kernel
theorem dX10_mend_48 : decode cX10_mend 48 = .ok (.invokevirtual 67, 3) := by decide +kernel
theorem dX10_mend_51 : decode cX10_mend 51 = .ok (.lreturn, 1) := by decide +kernel
theorem dX10_mend_52 : decode cX10_mend 52 = .ok (.aload_n 0, 1) := by decide +kernel
theorem dX10_mend_53 : decode cX10_mend 53 = .ok (.getfield 10, 3) := by decide +kernel
theorem dX10_mend_56 : decode cX10_mend 56 = .ok (.getfield 242, 3) := by decide +kernel
theorem dX10_mend_59 : decode cX10_mend 59 = .ok (.iload_n 1, 1) := by decide +kernel
theorem dX10_mend_60 : decode cX10_mend 60 = .ok (.iload_n 2, 1) := by decide +kernel
theorem dX10_mend_61 : decode cX10_mend 61 = .ok (.invokevirtual 118, 3) := by decide +kernel
theorem dX10_mend_64 : decode cX10_mend 64 = .ok (.i2l, 1) := by decide +kernel
theorem dX10_mend_65 : decode cX10_mend 65 = .ok (.lreturn, 1) := by decide +kernel
theorem dX10_span_0 : decode cX10_span 0 = .ok (.iload_n 2, 1) := by decide +kernel
theorem dX10_span_1 : decode cX10_span 1 = .ok (.sipush (-1000), 3) := by decide +kernel
theorem dX10_span_4 : decode cX10_span 4 = .ok (.sipush 1000, 3) := by decide +kernel
theorem dX10_span_7 : decode cX10_span 7 = .ok (.invokestatic 129, 3) := by decide +kernel
theorem dX10_span_10 : decode cX10_span 10 = .ok (.ifCond .eq 20, 3) := by decide +kernel
theorem dX10_span_13 : decode cX10_span 13 = .ok (.iload_n 3, 1) := by decide +kernel
theorem dX10_span_14 : decode cX10_span 14 = .ok (.sipush (-1000), 3) := by decide +kernel
theorem dX10_span_17 : decode cX10_span 17 = .ok (.sipush 1000, 3) := by decide +kernel
theorem dX10_span_20 : decode cX10_span 20 = .ok (.invokestatic 129, 3) := by decide +kernel
theorem dX10_span_23 : decode cX10_span 23 = .ok (.ifCond .eq 7, 3) := by decide +kernel
theorem dX10_span_26 : decode cX10_span 26 = .ok (.iconst 1, 1) := by decide +kernel
theorem dX10_span_27 : decode cX10_span 27 = .ok (.goto 4, 3) := by decide +kernel
theorem dX10_span_30 : decode cX10_span 30 = .ok (.iconst 0, 1) := by decide +kernel
theorem dX10_span_31 : decode cX10_span 31 = .ok (.istore 4, 2) := by decide +kernel
theorem dX10_span_33 : decode cX10_span 33 = .ok (.iload_n 1, 1) := by decide +kernel
theorem dX10_span_34 : decode cX10_span 34 = .ok (.invokestatic 90, 3) := by decide +kernel
theorem dX10_span_37 : decode cX10_span 37 = .ok (.ifCond .eq 8, 3) := by decide +kernel
theorem dX10_span_40 : decode cX10_span 40 = .ok (.iload 4, 2) := by decide +kernel
theorem dX10_span_42 : decode cX10_span 42 = .ok (.ifCond .ne 9, 3) := by decide +kernel
theorem dX10_span_45 : decode cX10_span 45 = .ok (.aload_n 0, 1) := by decide +kernel
theorem dX10_span_46 : decode cX10_span 46 = .ok (.iconst 1, 1) := by decide +kernel
theorem dX10_span_47 : decode cX10_span 47 = .ok (.invokevirtual 67, 3) := by decide +kernel
theorem dX10_span_50 : decode cX10_span 50 = .ok (.lreturn, 1) := by decide +kernel
theorem dX10_span_51 : decode cX10_span 51 = .ok (.aload_n 0, 1) := by decide +kernel
theorem dX10_span_52 : decode cX10_span 52 = .ok (.getfield 10, 3) := by decide +kernel
theorem dX10_span_55 : decode cX10_span 55 = .ok (.getfield 245, 3) := by decide +kernel
theorem dX10_span_58 : decode cX10_span 58 = .ok (.iload_n 1, 1) := by decide +kernel
theorem dX10_span_59 : decode cX10_span 59 = .ok (.iload_n 2, 1) := by decide +kernel
theorem dX10_span_60 : decode cX10_span 60 = .ok (.iload_n 3, 1) := by decide +kernel
theorem dX10_span_61 : decode cX10_span 61 = .ok (.invokevirtual 249, 3) := by decide +kernel
theorem dX10_span_64 : decode cX10_span 64 = .ok (.aload_n 0, 1) := by decide +kernel
theorem dX10_span_65 : decode cX10_span 65 = .ok (.getfield 10, 3) := by decide +kernel
theorem dX10_span_68 : decode cX10_span 68 = .ok (.getfield 245, 3) := by decide +kernel
theorem dX10_span_71 : decode cX10_span 71 = .ok (.iload_n 1, 1) := by decide +kernel
theorem dX10_span_72 : decode cX10_span 72 = .ok (.invokevirtual 254, 3) := by decide +kernel
theorem dX10_span_75 : decode cX10_span 75 = .ok (.ifCond .eq 7, 3) := by decide +kernel
theorem dX10_span_78 : decode cX10_span 78 = .ok (.lconst 1, 1) := by decide +kernel
theorem dX10_span_79 : decode cX10_span 79 = .ok (.goto 4, 3) := by decide +kernel
theorem dX10_span_82 : decode cX10_span 82 = .ok (.lconst 0, 1) := by decide +kernel
theorem dX10_span_83 : decode cX10_span 83 = .ok (.lreturn, 1) := by decide +kernel
theorem dX10_behind_0 : decode cX10_behind 0 = .ok (.aload_n 0, 1) := by decide +kernel
theorem dX10_behind_1 : decode cX10_behind 1 = .ok (.invokevirtual 200, 3) := by decide +kernel
theorem dX10_behind_4 : decode cX10_behind 4 = .ok (.istore 7, 2) := by decide +kernel
theorem dX10_behind_6 : decode cX10_behind 6 = .ok (.aload_n 0, 1) := by decide +kernel
theorem dX10_behind_7 : decode cX10_behind 7 = .ok (.getfield 10, 3) := by decide +kernel
theorem dX10_behind_10 : decode cX10_behind 10 = .ok (.getfield 242, 3) := by decide +kernel
theorem dX10_behind_13 : decode cX10_behind 13 = .ok (.iload_n 2, 1) := by decide +kernel
theorem dX10_behind_14 : decode cX10_behind 14 = .ok (.invokevirtual 120, 3) := by decide +kernel
theorem dX10_behind_17 : decode cX10_behind 17 = .ok (.ifCond .eq 22, 3) := by decide +kernel
theorem dX10_behind_20 : decode cX10_behind 20 = .ok (.aload_n 0, 1) := by decide +kernel
theorem dX10_behind_21 : decode cX10_behind 21 = .ok (.getfield 10, 3) := by decide +kernel
theorem dX10_behind_24 : decode cX10_behind 24 = .ok (.getfield 242, 3) := by decide +kernel
theorem dX10_behind_27 : decode cX10_behind 27 = .ok (.iload 4, 2) := by decide +kernel
theorem dX10_behind_29 : decode cX10_behind 29 = .ok (.invokevirtual 120, 3) := by decide +kernel
theorem dX10_behind_32 : decode cX10_behind 32 = .ok (.ifCond .eq 7, 3) := by decide +kernel
theorem dX10_behind_35 : decode cX10_behind 35 = .ok (.iconst 1, 1) := by decide +kernel
theorem dX10_behind_36 : decode cX10_behind 36 = .ok (.goto 4, 3) := by decide +kernel
theorem dX10_behind_39 : decode cX10_behind 39 = .ok (.iconst 0, 1) := by decide +kernel
theorem dX10_behind_40 : decode cX10_behind 40 = .ok (.istore 8, 2) := by decide +kernel
theorem dX10_behind_42 : decode cX10_behind 42 = .ok (.iload 7, 2) := by decide +kernel
theorem dX10_behind_44 : decode cX10_behind 44 = .ok (.ifCond .ne 33, 3) := by decide +kernel
theorem dX10_behind_47 : decode cX10_behind 47 = .ok (.iload_n 1, 1) := by decide +kernel
theorem dX10_behind_48 : decode cX10_behind 48 = .ok (.invokestatic 90, 3) := by decide +kernel
theorem dX10_behind_51 : decode cX10_behind 51 = .ok (.ifCond .eq 23, 3) := by decide +kernel
theorem dX10_behind_54 : decode cX10_behind 54 = .ok (.iload 8, 2) := by decide +kernel
theorem dX10_behind_56 : decode cX10_behind 56 = .ok (.ifCond .eq 18, 3) := by decide +kernel
theorem dX10_behind_59 : decode cX10_behind 59 = .ok (.iload_n 3, 1) := by decide +kernel
theorem dX10_behind_60 : decode cX10_behind 60 = .ok (.invokestatic 255, 3) := by decide +kernel
theorem dX10_behind_63 : decode cX10_behind 63 = .ok (.ifCond .eq 11, 3) := by decide +kernel
theorem dX10_behind_66 : decode cX10_behind 66 = .ok (.iload 5, 2) := by decide +kernel
theorem dX10_behind_68 : decode cX10_behind 68 = .ok (.invokestatic 255, 3) := by decide +kernel
theorem dX10_behind_71 : decode cX10_behind 71 = .ok (.ifCond .ne 6, 3) := by decide +kernel
theorem dX10_behind_74 : decode cX10_behind 74 = .ok (.iconst 1, 1) := by decide +kernel
theorem dX10_behind_75 : decode cX10_behind 75 = .ok (.istore 7, 2) := by decide +kernel
theorem dX10_behind_77 : decode cX10_behind 77 = .ok (.iload 7, 2) := by decide +kernel
theorem dX10_behind_79 : decode cX10_behind 79 = .ok (.ifCond .eq 10, 3) := by decide +kernel
theorem dX10_behind_82 : decode cX10_behind 82 = .ok (.aload_n 0, 1) := by decide +kernel
theorem dX10_behind_83 : decode cX10_behind 83 = .ok (.iload 7, 2) := by decide +kernel
theorem dX10_behind_85 : decode cX10_behind 85 = .ok (.invokevirtual 67, 3) := by decide +kernel
theorem dX10_behind_88 : decode cX10_behind 88 = .ok (.lreturn, 1) := by decide +kernel
theorem dX10_behind_89 : decode cX10_behind 89 = .ok (.aload_n 0, 1) := by decide +kernel
theorem dX10_behind_90 : decode cX10_behind 90 = .ok (.getfield 36, 3) := by decide +kernel
theorem dX10_behind_93 : decode cX10_behind 93 = .ok (.iload_n 1, 1) := by decide +kernel
theorem dX10_behind_94 : decode cX10_behind 94 = .ok (.aload_n 0, 1) := by decide +kernel
theorem dX10_behind_95 : decode cX10_behind 95 = .ok (.getfield 10, 3) := by decide +kernel
theorem dX10_behind_98 : decode cX10_behind 98 = .ok (.getfield 71, 3) := by decide +kernel
theorem dX10_behind_101 : decode cX10_behind 101 = .ok (.invokevirtual 215, 3) := by decide +kernel
theorem dX10_behind_104 : decode cX10_behind 104 = .ok (.lstore 9, 2) := by decide +kernel
theorem dX10_behind_106 : decode cX10_behind 106 = .ok (.lload 9, 2) := by decide +kernel
theorem dX10_behind_108 : decode cX10_behind 108 = .ok (.iload_n 3, 1) := by decide +kernel
theorem dX10_behind_109 : decode cX10_behind 109 = .ok (.i2l, 1) := by decide +kernel
theorem dX10_behind_110 : decode cX10_behind 110 = .ok (.aload_n 0, 1) := by decide +kernel
theorem dX10_behind_111 : decode cX10_behind 111 = .ok (.getfield 36, 3) := by decide +kernel
theorem dX10_behind_114 : decode cX10_behind 114 = .ok (.iload_n 1, 1) := by decide +kernel
theorem dX10_behind_115 : decode cX10_behind 115 = .ok (.iload_n 2, 1) := by decide +kernel
theorem dX10_behind_116 : decode cX10_behind 116 = .ok (.aload_n 0, 1) := by decide +kernel
theorem dX10_behind_117 : decode cX10_behind 117 = .ok (.getfield 10, 3) := by decide +kernel
theorem dX10_behind_120 : decode cX10_behind 120 = .ok (.invokevirtual 258, 3) := by decide +kernel
theorem dX10_behind_123 : decode cX10_behind 123 = .ok (.lmul, 1) := by decide +kernel
theorem dX10_behind_124 : decode cX10_behind 124 = .ok (.ladd, 1) := by decide +kernel
theorem dX10_behind_125 : decode cX10_behind 125 = .ok (.lstore 9, 2) := by decide +kernel
theorem dX10_behind_127 : decode cX10_behind 127 = .ok (.lload 9, 2) := by decide +kernel
theorem dX10_behind_129 : decode cX10_behind 129 = .ok (.iload 5, 2) := by decide +kernel
theorem dX10_behind_131 : decode cX10_behind 131 = .ok (.i2l, 1) := by decide +kernel
theorem dX10_behind_132 : decode cX10_behind 132 = .ok (.aload_n 0, 1) := by decide +kernel
theorem dX10_behind_133 : decode cX10_behind 133 = .ok (.getfield 36, 3) := by decide +kernel
theorem dX10_behind_136 : decode cX10_behind 136 = .ok (.iload_n 1, 1) := by decide +kernel
theorem dX10_behind_137 : decode cX10_behind 137 = .ok (.iload 4, 2) := by decide +kernel
theorem dX10_behind_139 : decode cX10_behind 139 = .ok (.aload_n 0, 1) := by decide +kernel
theorem dX10_behind_140 : decode cX10_behind 140 = .ok (.getfield 10, 3) := by decide +kernel
theorem dX10_behind_143 : decode cX10_behind 143 = .ok (.invokevirtual 258, 3) := by decide +kernel
theorem dX10_behind_146 : decode cX10_behind 146 = .ok (.lmul, 1) := by decide +kernel
theorem dX10_behind_147 : decode cX10_behind 147 = .ok (.ladd, 1) := by decide +kernel
theorem dX10_behind_148 : decode cX10_behind 148 = .ok (.lstore 9, 2) := by decide +kernel
theorem dX10_behind_150 : decode cX10_behind 150 = .ok (.lload 9, 2) := by decide +kernel
theorem dX10_behind_152 : decode cX10_behind 152 = .ok (.aload_n 0, 1) := by decide +kernel
theorem dX10_behind_153 : decode cX10_behind 153 = .ok (.getfield 36, 3) := by decide +kernel
theorem dX10_behind_156 : decode cX10_behind 156 = .ok (.invokevirtual 207, 3) := by decide +kernel
theorem dX10_behind_159 : decode cX10_behind 159 = .ok (.iload 6, 2) := by decide +kernel
theorem dX10_behind_161 : decode cX10_behind 161 = .ok (.invokestatic 211, 3) := by decide +kernel
theorem dX10_behind_164 : decode cX10_behind 164 = .ok (.lreturn, 1) := by decide +kernel
theorem dX10_worst_0 : decode cX10_worst 0 = .ok (.aload_n 0, 1) := by decide +kernel
theorem dX10_worst_1 : decode cX10_worst 1 = .ok (.invokevirtual 262, 3) := by decide +kernel
theorem dX10_worst_4 : decode cX10_worst 4 = .ok (.istore_n 2, 1) := by decide +kernel
theorem dX10_worst_5 : decode cX10_worst 5 = .ok (.iload_n 2, 1) := by decide +kernel
theorem dX10_worst_6 : decode cX10_worst 6 = .ok (.ifCond .eq 9, 3) := by decide +kernel
theorem dX10_worst_9 : decode cX10_worst 9 = .ok (.aload_n 0, 1) := by decide +kernel
theorem dX10_worst_10 : decode cX10_worst 10 = .ok (.iload_n 2, 1) := by decide +kernel
theorem dX10_worst_11 : decode cX10_worst 11 = .ok (.invokevirtual 67, 3) := by decide +kernel
theorem dX10_worst_14 : decode cX10_worst 14 = .ok (.lreturn, 1) := by decide +kernel
theorem dX10_worst_15 : decode cX10_worst 15 = .ok (.lconst 0, 1) := by decide +kernel
theorem dX10_worst_16 : decode cX10_worst 16 = .ok (.lstore_n 3, 1) := by decide +kernel
theorem dX10_worst_17 : decode cX10_worst 17 = .ok (.iconst 0, 1) := by decide +kernel
theorem dX10_worst_18 : decode cX10_worst 18 = .ok (.istore 5, 2) := by decide +kernel
theorem dX10_worst_20 : decode cX10_worst 20 = .ok (.iload 5, 2) := by decide +kernel
theorem dX10_worst_22 : decode cX10_worst 22 = .ok (.bipush 36, 2) := by decide +kernel
theorem dX10_worst_24 : decode cX10_worst 24 = .ok (.if_icmp .ge 48, 3) := by decide +kernel
theorem dX10_worst_27 : decode cX10_worst 27 = .ok (.aload_n 0, 1) := by decide +kernel
theorem dX10_worst_28 : decode cX10_worst 28 = .ok (.getfield 10, 3) := by decide +kernel
theorem dX10_worst_31 : decode cX10_worst 31 = .ok (.getfield 245, 3) := by decide +kernel
theorem dX10_worst_34 : decode cX10_worst 34 = .ok (.iload 5, 2) := by decide +kernel
theorem dX10_worst_36 : decode cX10_worst 36 = .ok (.invokevirtual 254, 3) := by decide +kernel
theorem dX10_worst_39 : decode cX10_worst 39 = .ok (.ifCond .eq 27, 3) := by decide +kernel
theorem dX10_worst_42 : decode cX10_worst 42 = .ok (.lload_n 3, 1) := by decide +kernel
theorem dX10_worst_43 : decode cX10_worst 43 = .ok (.aload_n 0, 1) := by decide +kernel
theorem dX10_worst_44 : decode cX10_worst 44 = .ok (.getfield 36, 3) := by decide +kernel
theorem dX10_worst_47 : decode cX10_worst 47 = .ok (.iload 5, 2) := by decide +kernel
theorem dX10_worst_49 : decode cX10_worst 49 = .ok (.aload_n 0, 1) := by decide +kernel
theorem dX10_worst_50 : decode cX10_worst 50 = .ok (.getfield 10, 3) := by decide +kernel
theorem dX10_worst_53 : decode cX10_worst 53 = .ok (.getfield 71, 3) := by decide +kernel
theorem dX10_worst_56 : decode cX10_worst 56 = .ok (.invokevirtual 215, 3) := by decide +kernel
theorem dX10_worst_59 : decode cX10_worst 59 = .ok (.invokestatic 265, 3) := by decide +kernel
theorem dX10_worst_62 : decode cX10_worst 62 = .ok (.invokestatic 271, 3) := by decide +kernel
theorem dX10_worst_65 : decode cX10_worst 65 = .ok (.lstore_n 3, 1) := by decide +kernel
theorem dX10_worst_66 : decode cX10_worst 66 = .ok (.iinc 5 1, 3) := by decide +kernel
theorem dX10_worst_69 : decode cX10_worst 69 = .ok (.goto (-49), 3) := by decide +kernel
theorem dX10_worst_72 : decode cX10_worst 72 = .ok (.lload_n 3, 1) := by decide +kernel
theorem dX10_worst_73 : decode cX10_worst 73 = .ok (.aload_n 0, 1) := by decide +kernel
end
section
theorem dX10_worst_74 : decode cX10_worst 74 = .ok (.getfield 36, 3) := by decide +kernel
theorem dX10_worst_77 : decode cX10_worst 77 = .ok (.invokevirtual 207, 3) := by decide +kernel
theorem dX10_worst_80 : decode cX10_worst 80 = .ok (.iload_n 1, 1) := by decide +kernel
theorem dX10_worst_81 : decode cX10_worst 81 = .ok (.invokestatic 211, 3) := by decide +kernel
theorem dX10_worst_84 : decode cX10_worst 84 = .ok (.lreturn, 1) := by decide +kernel
theorem dX10_best_0 : decode cX10_best 0 = .ok (.aload_n 0, 1) := by decide +kernel
theorem dX10_best_1 : decode cX10_best 1 = .ok (.invokevirtual 262, 3) := by decide +kernel
theorem dX10_best_4 : decode cX10_best 4 = .ok (.istore_n 1, 1) := by decide +kernel
theorem dX10_best_5 : decode cX10_best 5 = .ok (.iload_n 1, 1) := by decide +kernel
theorem dX10_best_6 : decode cX10_best 6 = .ok (.ifCond .eq 9, 3) := by decide +kernel
theorem dX10_best_9 : decode cX10_best 9 = .ok (.aload_n 0, 1) := by decide +kernel
theorem dX10_best_10 : decode cX10_best 10 = .ok (.iload_n 1, 1) := by decide +kernel
theorem dX10_best_11 : decode cX10_best 11 = .ok (.invokevirtual 67, 3) := by decide +kernel
theorem dX10_best_14 : decode cX10_best 14 = .ok (.lreturn, 1) := by decide +kernel
theorem dX10_best_15 : decode cX10_best 15 = .ok (.aload_n 0, 1) := by decide +kernel
theorem dX10_best_16 : decode cX10_best 16 = .ok (.getfield 43, 3) := by decide +kernel
theorem dX10_best_19 : decode cX10_best 19 = .ok (.aload_n 0, 1) := by decide +kernel
theorem dX10_best_20 : decode cX10_best 20 = .ok (.getfield 10, 3) := by decide +kernel
theorem dX10_best_23 : decode cX10_best 23 = .ok (.aload_n 0, 1) := by decide +kernel
theorem dX10_best_24 : decode cX10_best 24 = .ok (.getfield 36, 3) := by decide +kernel
theorem dX10_best_27 : decode cX10_best 27 = .ok (.invokevirtual 275, 3) := by decide +kernel
theorem dX10_best_30 : decode cX10_best 30 = .ok (.aload_n 0, 1) := by decide +kernel
theorem dX10_best_31 : decode cX10_best 31 = .ok (.getfield 43, 3) := by decide +kernel
theorem dX10_best_34 : decode cX10_best 34 = .ok (.invokevirtual 279, 3) := by decide +kernel
theorem dX10_best_37 : decode cX10_best 37 = .ok (.lreturn, 1) := by decide +kernel
theorem dX10_paper_0 : decode cX10_paper 0 = .ok (.aload_n 0, 1) := by decide +kernel
theorem dX10_paper_1 : decode cX10_paper 1 = .ok (.invokevirtual 262, 3) := by decide +kernel
theorem dX10_paper_4 : decode cX10_paper 4 = .ok (.istore_n 1, 1) := by decide +kernel
theorem dX10_paper_5 : decode cX10_paper 5 = .ok (.iload_n 1, 1) := by decide +kernel
theorem dX10_paper_6 : decode cX10_paper 6 = .ok (.ifCond .eq 9, 3) := by decide +kernel
theorem dX10_paper_9 : decode cX10_paper 9 = .ok (.aload_n 0, 1) := by decide +kernel
theorem dX10_paper_10 : decode cX10_paper 10 = .ok (.iload_n 1, 1) := by decide +kernel
theorem dX10_paper_11 : decode cX10_paper 11 = .ok (.invokevirtual 67, 3) := by decide +kernel
theorem dX10_paper_14 : decode cX10_paper 14 = .ok (.lreturn, 1) := by decide +kernel
theorem dX10_paper_15 : decode cX10_paper 15 = .ok (.iconst 0, 1) := by decide +kernel
theorem dX10_paper_16 : decode cX10_paper 16 = .ok (.istore_n 2, 1) := by decide +kernel
theorem dX10_paper_17 : decode cX10_paper 17 = .ok (.iload_n 2, 1) := by decide +kernel
theorem dX10_paper_18 : decode cX10_paper 18 = .ok (.bipush 36, 2) := by decide +kernel
theorem dX10_paper_20 : decode cX10_paper 20 = .ok (.if_icmp .ge 68, 3) := by decide +kernel
theorem dX10_paper_23 : decode cX10_paper 23 = .ok (.aload_n 0, 1) := by decide +kernel
theorem dX10_paper_24 : decode cX10_paper 24 = .ok (.getfield 10, 3) := by decide +kernel
theorem dX10_paper_27 : decode cX10_paper 27 = .ok (.getfield 245, 3) := by decide +kernel
theorem dX10_paper_30 : decode cX10_paper 30 = .ok (.iload_n 2, 1) := by decide +kernel
theorem dX10_paper_31 : decode cX10_paper 31 = .ok (.invokevirtual 254, 3) := by decide +kernel
theorem dX10_paper_34 : decode cX10_paper 34 = .ok (.ifCond .eq 48, 3) := by decide +kernel
theorem dX10_paper_37 : decode cX10_paper 37 = .ok (.aload_n 0, 1) := by decide +kernel
theorem dX10_paper_38 : decode cX10_paper 38 = .ok (.getfield 36, 3) := by decide +kernel
theorem dX10_paper_41 : decode cX10_paper 41 = .ok (.iload_n 2, 1) := by decide +kernel
theorem dX10_paper_42 : decode cX10_paper 42 = .ok (.aload_n 0, 1) := by decide +kernel
theorem dX10_paper_43 : decode cX10_paper 43 = .ok (.getfield 10, 3) := by decide +kernel
theorem dX10_paper_46 : decode cX10_paper 46 = .ok (.getfield 71, 3) := by decide +kernel
theorem dX10_paper_49 : decode cX10_paper 49 = .ok (.invokevirtual 215, 3) := by decide +kernel
theorem dX10_paper_52 : decode cX10_paper 52 = .ok (.lstore_n 3, 1) := by decide +kernel
theorem dX10_paper_53 : decode cX10_paper 53 = .ok (.aload_n 0, 1) := by decide +kernel
theorem dX10_paper_54 : decode cX10_paper 54 = .ok (.getfield 10, 3) := by decide +kernel
theorem dX10_paper_57 : decode cX10_paper 57 = .ok (.getfield 245, 3) := by decide +kernel
theorem dX10_paper_60 : decode cX10_paper 60 = .ok (.iload_n 2, 1) := by decide +kernel
theorem dX10_paper_61 : decode cX10_paper 61 = .ok (.lload_n 3, 1) := by decide +kernel
theorem dX10_paper_62 : decode cX10_paper 62 = .ok (.aload_n 0, 1) := by decide +kernel
theorem dX10_paper_63 : decode cX10_paper 63 = .ok (.getfield 36, 3) := by decide +kernel
theorem dX10_paper_66 : decode cX10_paper 66 = .ok (.invokevirtual 207, 3) := by decide +kernel
theorem dX10_paper_69 : decode cX10_paper 69 = .ok (.invokevirtual 282, 3) := by decide +kernel
theorem dX10_paper_72 : decode cX10_paper 72 = .ok (.ifCond .ne 10, 3) := by decide +kernel
theorem dX10_paper_75 : decode cX10_paper 75 = .ok (.iload_n 2, 1) := by decide +kernel
theorem dX10_paper_76 : decode cX10_paper 76 = .ok (.sipush 1000, 3) := by decide +kernel
theorem dX10_paper_79 : decode cX10_paper 79 = .ok (.isub, 1) := by decide +kernel
theorem dX10_paper_80 : decode cX10_paper 80 = .ok (.i2l, 1) := by decide +kernel
theorem dX10_paper_81 : decode cX10_paper 81 = .ok (.lreturn, 1) := by decide +kernel
theorem dX10_paper_82 : decode cX10_paper 82 = .ok (.iinc 2 1, 3) := by decide +kernel
theorem dX10_paper_85 : decode cX10_paper 85 = .ok (.goto (-68), 3) := by decide +kernel
theorem dX10_paper_88 : decode cX10_paper 88 = .ok (.lconst 1, 1) := by decide +kernel
theorem dX10_paper_89 : decode cX10_paper 89 = .ok (.lreturn, 1) := by decide +kernel
theorem dX10_day_0 : decode cX10_day 0 = .ok (.iload_n 1, 1) := by decide +kernel
theorem dX10_day_1 : decode cX10_day 1 = .ok (.invokestatic 90, 3) := by decide +kernel
theorem dX10_day_4 : decode cX10_day 4 = .ok (.ifCond .eq 16, 3) := by decide +kernel
theorem dX10_day_7 : decode cX10_day 7 = .ok (.iload_n 2, 1) := by decide +kernel
theorem dX10_day_8 : decode cX10_day 8 = .ok (.sipush (-1000), 3) := by decide +kernel
theorem dX10_day_11 : decode cX10_day 11 = .ok (.sipush 1000, 3) := by decide +kernel
theorem dX10_day_14 : decode cX10_day 14 = .ok (.invokestatic 129, 3) := by decide +kernel
theorem dX10_day_17 : decode cX10_day 17 = .ok (.ifCond .ne 9, 3) := by decide +kernel
theorem dX10_day_20 : decode cX10_day 20 = .ok (.aload_n 0, 1) := by decide +kernel
theorem dX10_day_21 : decode cX10_day 21 = .ok (.iconst 1, 1) := by decide +kernel
theorem dX10_day_22 : decode cX10_day 22 = .ok (.invokevirtual 67, 3) := by decide +kernel
theorem dX10_day_25 : decode cX10_day 25 = .ok (.lreturn, 1) := by decide +kernel
theorem dX10_day_26 : decode cX10_day 26 = .ok (.aload_n 0, 1) := by decide +kernel
theorem dX10_day_27 : decode cX10_day 27 = .ok (.getfield 50, 3) := by decide +kernel
theorem dX10_day_30 : decode cX10_day 30 = .ok (.getfield 286, 3) := by decide +kernel
theorem dX10_day_33 : decode cX10_day 33 = .ok (.invokevirtual 115, 3) := by decide +kernel
theorem dX10_day_36 : decode cX10_day 36 = .ok (.ifCond .eq 9, 3) := by decide +kernel
theorem dX10_day_39 : decode cX10_day 39 = .ok (.aload_n 0, 1) := by decide +kernel
theorem dX10_day_40 : decode cX10_day 40 = .ok (.iconst 5, 1) := by decide +kernel
theorem dX10_day_41 : decode cX10_day 41 = .ok (.invokevirtual 67, 3) := by decide +kernel
theorem dX10_day_44 : decode cX10_day 44 = .ok (.lreturn, 1) := by decide +kernel
theorem dX10_day_45 : decode cX10_day 45 = .ok (.aload_n 0, 1) := by decide +kernel
theorem dX10_day_46 : decode cX10_day 46 = .ok (.getfield 50, 3) := by decide +kernel
theorem dX10_day_49 : decode cX10_day 49 = .ok (.getfield 286, 3) := by decide +kernel
theorem dX10_day_52 : decode cX10_day 52 = .ok (.iload_n 1, 1) := by decide +kernel
theorem dX10_day_53 : decode cX10_day 53 = .ok (.iload_n 2, 1) := by decide +kernel
theorem dX10_day_54 : decode cX10_day 54 = .ok (.invokevirtual 118, 3) := by decide +kernel
theorem dX10_day_57 : decode cX10_day 57 = .ok (.iconst 1, 1) := by decide +kernel
theorem dX10_day_58 : decode cX10_day 58 = .ok (.iadd, 1) := by decide +kernel
theorem dX10_day_59 : decode cX10_day 59 = .ok (.i2l, 1) := by decide +kernel
theorem dX10_day_60 : decode cX10_day 60 = .ok (.lreturn, 1) := by decide +kernel
theorem dX10_anew_0 : decode cX10_anew 0 = .ok (.aload_n 0, 1) := by decide +kernel
theorem dX10_anew_1 : decode cX10_anew 1 = .ok (.getfield 50, 3) := by decide +kernel
theorem dX10_anew_4 : decode cX10_anew 4 = .ok (.getfield 286, 3) := by decide +kernel
theorem dX10_anew_7 : decode cX10_anew 7 = .ok (.invokevirtual 125, 3) := by decide +kernel
theorem dX10_anew_10 : decode cX10_anew 10 = .ok (.istore_n 1, 1) := by decide +kernel
theorem dX10_anew_11 : decode cX10_anew 11 = .ok (.aload_n 0, 1) := by decide +kernel
theorem dX10_anew_12 : decode cX10_anew 12 = .ok (.getfield 50, 3) := by decide +kernel
theorem dX10_anew_15 : decode cX10_anew 15 = .ok (.getfield 286, 3) := by decide +kernel
theorem dX10_anew_18 : decode cX10_anew 18 = .ok (.invokevirtual 289, 3) := by decide +kernel
theorem dX10_anew_21 : decode cX10_anew 21 = .ok (.iload_n 1, 1) := by decide +kernel
theorem dX10_anew_22 : decode cX10_anew 22 = .ok (.i2l, 1) := by decide +kernel
theorem dX10_anew_23 : decode cX10_anew 23 = .ok (.lreturn, 1) := by decide +kernel
theorem dX10_mean_0 : decode cX10_mean 0 = .ok (.iload_n 1, 1) := by decide +kernel
theorem dX10_mean_1 : decode cX10_mean 1 = .ok (.invokestatic 292, 3) := by decide +kernel
theorem dX10_mean_4 : decode cX10_mean 4 = .ok (.ifCond .ne 9, 3) := by decide +kernel
theorem dX10_mean_7 : decode cX10_mean 7 = .ok (.aload_n 0, 1) := by decide +kernel
theorem dX10_mean_8 : decode cX10_mean 8 = .ok (.iconst 1, 1) := by decide +kernel
theorem dX10_mean_9 : decode cX10_mean 9 = .ok (.invokevirtual 67, 3) := by decide +kernel
theorem dX10_mean_12 : decode cX10_mean 12 = .ok (.lreturn, 1) := by decide +kernel
theorem dX10_mean_13 : decode cX10_mean 13 = .ok (.aload_n 0, 1) := by decide +kernel
theorem dX10_mean_14 : decode cX10_mean 14 = .ok (.getfield 50, 3) := by decide +kernel
theorem dX10_mean_17 : decode cX10_mean 17 = .ok (.iload_n 1, 1) := by decide +kernel
theorem dX10_mean_18 : decode cX10_mean 18 = .ok (.invokevirtual 295, 3) := by decide +kernel
theorem dX10_mean_21 : decode cX10_mean 21 = .ok (.istore_n 3, 1) := by decide +kernel
theorem dX10_mean_22 : decode cX10_mean 22 = .ok (.iload_n 3, 1) := by decide +kernel
theorem dX10_mean_23 : decode cX10_mean 23 = .ok (.ifCond .ne 10, 3) := by decide +kernel
theorem dX10_mean_26 : decode cX10_mean 26 = .ok (.aload_n 0, 1) := by decide +kernel
theorem dX10_mean_27 : decode cX10_mean 27 = .ok (.bipush 6, 2) := by decide +kernel
theorem dX10_mean_29 : decode cX10_mean 29 = .ok (.invokevirtual 67, 3) := by decide +kernel
theorem dX10_mean_32 : decode cX10_mean 32 = .ok (.lreturn, 1) := by decide +kernel
theorem dX10_mean_33 : decode cX10_mean 33 = .ok (.aload_n 0, 1) := by decide +kernel
theorem dX10_mean_34 : decode cX10_mean 34 = .ok (.getfield 50, 3) := by decide +kernel
theorem dX10_mean_37 : decode cX10_mean 37 = .ok (.iload_n 1, 1) := by decide +kernel
theorem dX10_mean_38 : decode cX10_mean 38 = .ok (.invokevirtual 298, 3) := by decide +kernel
theorem dX10_mean_41 : decode cX10_mean 41 = .ok (.i2l, 1) := by decide +kernel
theorem dX10_mean_42 : decode cX10_mean 42 = .ok (.iload_n 3, 1) := by decide +kernel
theorem dX10_mean_43 : decode cX10_mean 43 = .ok (.i2l, 1) := by decide +kernel
theorem dX10_mean_44 : decode cX10_mean 44 = .ok (.iload_n 2, 1) := by decide +kernel
theorem dX10_mean_45 : decode cX10_mean 45 = .ok (.invokestatic 211, 3) := by decide +kernel
theorem dX10_mean_48 : decode cX10_mean 48 = .ok (.lreturn, 1) := by decide +kernel
theorem dX10_change_0 : decode cX10_change 0 = .ok (.iload_n 1, 1) := by decide +kernel
theorem dX10_change_1 : decode cX10_change 1 = .ok (.invokestatic 292, 3) := by decide +kernel
theorem dX10_change_4 : decode cX10_change 4 = .ok (.ifCond .ne 9, 3) := by decide +kernel
theorem dX10_change_7 : decode cX10_change 7 = .ok (.aload_n 0, 1) := by decide +kernel
theorem dX10_change_8 : decode cX10_change 8 = .ok (.iconst 1, 1) := by decide +kernel
theorem dX10_change_9 : decode cX10_change 9 = .ok (.invokevirtual 67, 3) := by decide +kernel
theorem dX10_change_12 : decode cX10_change 12 = .ok (.lreturn, 1) := by decide +kernel
theorem dX10_change_13 : decode cX10_change 13 = .ok (.aload_n 0, 1) := by decide +kernel
theorem dX10_change_14 : decode cX10_change 14 = .ok (.getfield 50, 3) := by decide +kernel
theorem dX10_change_17 : decode cX10_change 17 = .ok (.iload_n 1, 1) := by decide +kernel
theorem dX10_change_18 : decode cX10_change 18 = .ok (.invokevirtual 295, 3) := by decide +kernel
theorem dX10_change_21 : decode cX10_change 21 = .ok (.iconst 2, 1) := by decide +kernel
theorem dX10_change_22 : decode cX10_change 22 = .ok (.if_icmp .ge 10, 3) := by decide +kernel
theorem dX10_change_25 : decode cX10_change 25 = .ok (.aload_n 0, 1) := by decide +kernel
theorem dX10_change_26 : decode cX10_change 26 = .ok (.bipush 6, 2) := by decide +kernel
theorem dX10_change_28 : decode cX10_change 28 = .ok (.invokevirtual 67, 3) := by decide +kernel
theorem dX10_change_31 : decode cX10_change 31 = .ok (.lreturn, 1) := by decide +kernel
theorem dX10_change_32 : decode cX10_change 32 = .ok (.aload_n 0, 1) := by decide +kernel
theorem dX10_change_33 : decode cX10_change 33 = .ok (.getfield 50, 3) := by decide +kernel
theorem dX10_change_36 : decode cX10_change 36 = .ok (.iload_n 1, 1) := by decide +kernel
theorem dX10_change_37 : decode cX10_change 37 = .ok (.invokevirtual 301, 3) := by decide +kernel
theorem dX10_change_40 : decode cX10_change 40 = .ok (.i2l, 1) := by decide +kernel
theorem dX10_change_41 : decode cX10_change 41 = .ok (.lreturn, 1) := by decide +kernel
theorem dX10_tell_0 : decode cX10_tell 0 = .ok (.aload_n 0, 1) := by decide +kernel
theorem dX10_tell_1 : decode cX10_tell 1 = .ok (.getfield 304, 3) := by decide +kernel
theorem dX10_tell_4 : decode cX10_tell 4 = .ok (.bipush 16, 2) := by decide +kernel
theorem dX10_tell_6 : decode cX10_tell 6 = .ok (.if_icmp .lt 9, 3) := by decide +kernel
theorem dX10_tell_9 : decode cX10_tell 9 = .ok (.aload_n 0, 1) := by decide +kernel
theorem dX10_tell_10 : decode cX10_tell 10 = .ok (.iconst 5, 1) := by decide +kernel
theorem dX10_tell_11 : decode cX10_tell 11 = .ok (.invokevirtual 67, 3) := by decide +kernel
theorem dX10_tell_14 : decode cX10_tell 14 = .ok (.lreturn, 1) := by decide +kernel
theorem dX10_tell_15 : decode cX10_tell 15 = .ok (.aload_n 0, 1) := by decide +kernel
theorem dX10_tell_16 : decode cX10_tell 16 = .ok (.getfield 54, 3) := by decide +kernel
theorem dX10_tell_19 : decode cX10_tell 19 = .ok (.aload_n 0, 1) := by decide +kernel
theorem dX10_tell_20 : decode cX10_tell 20 = .ok (.getfield 304, 3) := by decide +kernel
theorem dX10_tell_23 : decode cX10_tell 23 = .ok (.iload_n 1, 1) := by decide +kernel
theorem dX10_tell_24 : decode cX10_tell 24 = .ok (.iastore, 1) := by decide +kernel
theorem dX10_tell_25 : decode cX10_tell 25 = .ok (.aload_n 0, 1) := by decide +kernel
theorem dX10_tell_26 : decode cX10_tell 26 = .ok (.dup, 1) := by decide +kernel
theorem dX10_tell_27 : decode cX10_tell 27 = .ok (.getfield 304, 3) := by decide +kernel
theorem dX10_tell_30 : decode cX10_tell 30 = .ok (.iconst 1, 1) := by decide +kernel
theorem dX10_tell_31 : decode cX10_tell 31 = .ok (.iadd, 1) := by decide +kernel
theorem dX10_tell_32 : decode cX10_tell 32 = .ok (.putfield 304, 3) := by decide +kernel
theorem dX10_tell_35 : decode cX10_tell 35 = .ok (.aload_n 0, 1) := by decide +kernel
theorem dX10_tell_36 : decode cX10_tell 36 = .ok (.getfield 304, 3) := by decide +kernel
theorem dX10_tell_39 : decode cX10_tell 39 = .ok (.i2l, 1) := by decide +kernel
theorem dX10_tell_40 : decode cX10_tell 40 = .ok (.lreturn, 1) := by decide +kernel
theorem dX10_check_0 : decode cX10_check 0 = .ok (.aload_n 0, 1) := by decide +kernel
theorem dX10_check_1 : decode cX10_check 1 = .ok (.getfield 304, 3) := by decide +kernel
theorem dX10_check_4 : decode cX10_check 4 = .ok (.istore_n 1, 1) := by decide +kernel
theorem dX10_check_5 : decode cX10_check 5 = .ok (.aload_n 0, 1) := by decide +kernel
theorem dX10_check_6 : decode cX10_check 6 = .ok (.iconst 0, 1) := by decide +kernel
theorem dX10_check_7 : decode cX10_check 7 = .ok (.putfield 304, 3) := by decide +kernel
theorem dX10_check_10 : decode cX10_check 10 = .ok (.aload_n 0, 1) := by decide +kernel
theorem dX10_check_11 : decode cX10_check 11 = .ok (.invokevirtual 200, 3) := by decide +kernel
theorem dX10_check_14 : decode cX10_check 14 = .ok (.istore_n 2, 1) := by decide +kernel
theorem dX10_check_15 : decode cX10_check 15 = .ok (.iload_n 2, 1) := by decide +kernel
theorem dX10_check_16 : decode cX10_check 16 = .ok (.ifCond .eq 9, 3) := by decide +kernel
theorem dX10_check_19 : decode cX10_check 19 = .ok (.aload_n 0, 1) := by decide +kernel
theorem dX10_check_20 : decode cX10_check 20 = .ok (.iload_n 2, 1) := by decide +kernel
theorem dX10_check_21 : decode cX10_check 21 = .ok (.invokevirtual 67, 3) := by decide +kernel
theorem dX10_check_24 : decode cX10_check 24 = .ok (.lreturn, 1) := by decide +kernel
theorem dX10_check_25 : decode cX10_check 25 = .ok (.aload_n 0, 1) := by decide +kernel
theorem dX10_check_26 : decode cX10_check 26 = .ok (.iload_n 1, 1) := by decide +kernel
theorem dX10_check_27 : decode cX10_check 27 = .ok (.invokevirtual 307, 3) := by decide +kernel
theorem dX10_check_30 : decode cX10_check 30 = .ok (.i2l, 1) := by decide +kernel
theorem dX10_check_31 : decode cX10_check 31 = .ok (.lreturn, 1) := by decide +kernel
theorem dX10_judge_0 : decode cX10_judge 0 = .ok (.iconst 0, 1) := by decide +kernel
theorem dX10_judge_1 : decode cX10_judge 1 = .ok (.istore_n 2, 1) := by decide +kernel
theorem dX10_judge_2 : decode cX10_judge 2 = .ok (.iconst 0, 1) := by decide +kernel
theorem dX10_judge_3 : decode cX10_judge 3 = .ok (.istore_n 3, 1) := by decide +kernel
theorem dX10_judge_4 : decode cX10_judge 4 = .ok (.iconst 0, 1) := by decide +kernel
theorem dX10_judge_5 : decode cX10_judge 5 = .ok (.istore 4, 2) := by decide +kernel
theorem dX10_judge_7 : decode cX10_judge 7 = .ok (.iload 4, 2) := by decide +kernel
theorem dX10_judge_9 : decode cX10_judge 9 = .ok (.bipush 8, 2) := by decide +kernel
theorem dX10_judge_11 : decode cX10_judge 11 = .ok (.if_icmp .ge 72, 3) := by decide +kernel
theorem dX10_judge_14 : decode cX10_judge 14 = .ok (.aload_n 0, 1) := by decide +kernel
theorem dX10_judge_15 : decode cX10_judge 15 = .ok (.getfield 36, 3) := by decide +kernel
theorem dX10_judge_18 : decode cX10_judge 18 = .ok (.iload 4, 2) := by decide +kernel
theorem dX10_judge_20 : decode cX10_judge 20 = .ok (.invokevirtual 203, 3) := by decide +kernel
theorem dX10_judge_23 : decode cX10_judge 23 = .ok (.ifCond .eq 54, 3) := by decide +kernel
theorem dX10_judge_26 : decode cX10_judge 26 = .ok (.iload_n 3, 1) := by decide +kernel
theorem dX10_judge_27 : decode cX10_judge 27 = .ok (.iconst 1, 1) := by decide +kernel
theorem dX10_judge_28 : decode cX10_judge 28 = .ok (.iadd, 1) := by decide +kernel
theorem dX10_judge_29 : decode cX10_judge 29 = .ok (.iload_n 1, 1) := by decide +kernel
theorem dX10_judge_30 : decode cX10_judge 30 = .ok (.if_icmp .ge 37, 3) := by decide +kernel
theorem dX10_judge_33 : decode cX10_judge 33 = .ok (.iload_n 3, 1) := by decide +kernel
theorem dX10_judge_34 : decode cX10_judge 34 = .ok (.iconst 1, 1) := by decide +kernel
theorem dX10_judge_35 : decode cX10_judge 35 = .ok (.iadd, 1) := by decide +kernel
theorem dX10_judge_36 : decode cX10_judge 36 = .ok (.bipush 16, 2) := by decide +kernel
theorem dX10_judge_38 : decode cX10_judge 38 = .ok (.if_icmp .ge 29, 3) := by decide +kernel
theorem dX10_judge_41 : decode cX10_judge 41 = .ok (.aload_n 0, 1) := by decide +kernel
theorem dX10_judge_42 : decode cX10_judge 42 = .ok (.getfield 36, 3) := by decide +kernel
theorem dX10_judge_45 : decode cX10_judge 45 = .ok (.iload 4, 2) := by decide +kernel
theorem dX10_judge_47 : decode cX10_judge 47 = .ok (.aload_n 0, 1) := by decide +kernel
theorem dX10_judge_48 : decode cX10_judge 48 = .ok (.getfield 54, 3) := by decide +kernel
theorem dX10_judge_51 : decode cX10_judge 51 = .ok (.iload_n 3, 1) := by decide +kernel
theorem dX10_judge_52 : decode cX10_judge 52 = .ok (.iaload, 1) := by decide +kernel
theorem dX10_judge_53 : decode cX10_judge 53 = .ok (.aload_n 0, 1) := by decide +kernel
theorem dX10_judge_54 : decode cX10_judge 54 = .ok (.getfield 54, 3) := by decide +kernel
theorem dX10_judge_57 : decode cX10_judge 57 = .ok (.iload_n 3, 1) := by decide +kernel
theorem dX10_judge_58 : decode cX10_judge 58 = .ok (.iconst 1, 1) := by decide +kernel
theorem dX10_judge_59 : decode cX10_judge 59 = .ok (.iadd, 1) := by decide +kernel
theorem dX10_judge_60 : decode cX10_judge 60 = .ok (.iaload, 1) := by decide +kernel
theorem dX10_judge_61 : decode cX10_judge 61 = .ok (.invokevirtual 310, 3) := by decide +kernel
theorem dX10_judge_64 : decode cX10_judge 64 = .ok (.ifCond .ne 7, 3) := by decide +kernel
theorem dX10_judge_67 : decode cX10_judge 67 = .ok (.iconst 1, 1) := by decide +kernel
theorem dX10_judge_68 : decode cX10_judge 68 = .ok (.iload_n 2, 1) := by decide +kernel
theorem dX10_judge_69 : decode cX10_judge 69 = .ok (.iadd, 1) := by decide +kernel
theorem dX10_judge_70 : decode cX10_judge 70 = .ok (.ireturn, 1) := by decide +kernel
theorem dX10_judge_71 : decode cX10_judge 71 = .ok (.iinc 2 1, 3) := by decide +kernel
theorem dX10_judge_74 : decode cX10_judge 74 = .ok (.iinc 3 2, 3) := by decide +kernel
theorem dX10_judge_77 : decode cX10_judge 77 = .ok (.iinc 4 1, 3) := by decide +kernel
theorem dX10_judge_80 : decode cX10_judge 80 = .ok (.goto (-73), 3) := by decide +kernel
theorem dX10_judge_83 : decode cX10_judge 83 = .ok (.iload_n 3, 1) := by decide +kernel
theorem dX10_judge_84 : decode cX10_judge 84 = .ok (.iload_n 1, 1) := by decide +kernel
theorem dX10_judge_85 : decode cX10_judge 85 = .ok (.if_icmp .ge 8, 3) := by decide +kernel
theorem dX10_judge_88 : decode cX10_judge 88 = .ok (.bipush 100, 2) := by decide +kernel
theorem dX10_judge_90 : decode cX10_judge 90 = .ok (.goto 4, 3) := by decide +kernel
theorem dX10_judge_93 : decode cX10_judge 93 = .ok (.iconst 0, 1) := by decide +kernel
theorem dX10_judge_94 : decode cX10_judge 94 = .ok (.ireturn, 1) := by decide +kernel
theorem dX10_keep_0 : decode cX10_keep 0 = .ok (.aload_n 0, 1) := by decide +kernel
theorem dX10_keep_1 : decode cX10_keep 1 = .ok (.getfield 16, 3) := by decide +kernel
theorem dX10_keep_4 : decode cX10_keep 4 = .ok (.aload_n 0, 1) := by decide +kernel
theorem dX10_keep_5 : decode cX10_keep 5 = .ok (.getfield 10, 3) := by decide +kernel
theorem dX10_keep_8 : decode cX10_keep 8 = .ok (.invokevirtual 313, 3) := by decide +kernel
theorem dX10_keep_11 : decode cX10_keep 11 = .ok (.aload_n 0, 1) := by decide +kernel
theorem dX10_keep_12 : decode cX10_keep 12 = .ok (.iconst 1, 1) := by decide +kernel
theorem dX10_keep_13 : decode cX10_keep 13 = .ok (.putfield 316, 3) := by decide +kernel
theorem dX10_keep_16 : decode cX10_keep 16 = .ok (.lconst 1, 1) := by decide +kernel
theorem dX10_keep_17 : decode cX10_keep 17 = .ok (.lreturn, 1) := by decide +kernel
theorem dX10_back_0 : decode cX10_back 0 = .ok (.aload_n 0, 1) := by decide +kernel
theorem dX10_back_1 : decode cX10_back 1 = .ok (.getfield 316, 3) := by decide +kernel
theorem dX10_back_4 : decode cX10_back 4 = .ok (.ifCond .ne 9, 3) := by decide +kernel
theorem dX10_back_7 : decode cX10_back 7 = .ok (.aload_n 0, 1) := by decide +kernel
theorem dX10_back_8 : decode cX10_back 8 = .ok (.iconst 2, 1) := by decide +kernel
theorem dX10_back_9 : decode cX10_back 9 = .ok (.invokevirtual 67, 3) := by decide +kernel
theorem dX10_back_12 : decode cX10_back 12 = .ok (.lreturn, 1) := by decide +kernel
theorem dX10_back_13 : decode cX10_back 13 = .ok (.aload_n 0, 1) := by decide +kernel
theorem dX10_back_14 : decode cX10_back 14 = .ok (.getfield 10, 3) := by decide +kernel
theorem dX10_back_17 : decode cX10_back 17 = .ok (.aload_n 0, 1) := by decide +kernel
theorem dX10_back_18 : decode cX10_back 18 = .ok (.getfield 16, 3) := by decide +kernel
theorem dX10_back_21 : decode cX10_back 21 = .ok (.invokevirtual 313, 3) := by decide +kernel
theorem dX10_back_24 : decode cX10_back 24 = .ok (.aload_n 0, 1) := by decide +kernel
theorem dX10_back_25 : decode cX10_back 25 = .ok (.getfield 36, 3) := by decide +kernel
theorem dX10_back_28 : decode cX10_back 28 = .ok (.invokevirtual 320, 3) := by decide +kernel
theorem dX10_back_31 : decode cX10_back 31 = .ok (.lconst 1, 1) := by decide +kernel
theorem dX10_back_32 : decode cX10_back 32 = .ok (.lreturn, 1) := by decide +kernel
theorem dX10_count_0 : decode cX10_count 0 = .ok (.iload_n 1, 1) := by decide +kernel
theorem dX10_count_1 : decode cX10_count 1 = .ok (.tableswitch 105 0 5 #[39, 51, 63, 75, 87, 99], 39) := by decide +kernel
theorem dX10_count_40 : decode cX10_count 40 = .ok (.aload_n 0, 1) := by decide +kernel
theorem dX10_count_41 : decode cX10_count 41 = .ok (.getfield 10, 3) := by decide +kernel
theorem dX10_count_44 : decode cX10_count 44 = .ok (.getfield 71, 3) := by decide +kernel
theorem dX10_count_47 : decode cX10_count 47 = .ok (.invokevirtual 225, 3) := by decide +kernel
theorem dX10_count_50 : decode cX10_count 50 = .ok (.i2l, 1) := by decide +kernel
theorem dX10_count_51 : decode cX10_count 51 = .ok (.lreturn, 1) := by decide +kernel
theorem dX10_count_52 : decode cX10_count 52 = .ok (.aload_n 0, 1) := by decide +kernel
theorem dX10_count_53 : decode cX10_count 53 = .ok (.getfield 10, 3) := by decide +kernel
theorem dX10_count_56 : decode cX10_count 56 = .ok (.getfield 111, 3) := by decide +kernel
theorem dX10_count_59 : decode cX10_count 59 = .ok (.invokevirtual 125, 3) := by decide +kernel
theorem dX10_count_62 : decode cX10_count 62 = .ok (.i2l, 1) := by decide +kernel
theorem dX10_count_63 : decode cX10_count 63 = .ok (.lreturn, 1) := by decide +kernel
theorem dX10_count_64 : decode cX10_count 64 = .ok (.aload_n 0, 1) := by decide +kernel
theorem dX10_count_65 : decode cX10_count 65 = .ok (.getfield 10, 3) := by decide +kernel
theorem dX10_count_68 : decode cX10_count 68 = .ok (.getfield 242, 3) := by decide +kernel
theorem dX10_count_71 : decode cX10_count 71 = .ok (.invokevirtual 125, 3) := by decide +kernel
theorem dX10_count_74 : decode cX10_count 74 = .ok (.i2l, 1) := by decide +kernel
theorem dX10_count_75 : decode cX10_count 75 = .ok (.lreturn, 1) := by decide +kernel
theorem dX10_count_76 : decode cX10_count 76 = .ok (.aload_n 0, 1) := by decide +kernel
theorem dX10_count_77 : decode cX10_count 77 = .ok (.getfield 10, 3) := by decide +kernel
theorem dX10_count_80 : decode cX10_count 80 = .ok (.getfield 245, 3) := by decide +kernel
theorem dX10_count_83 : decode cX10_count 83 = .ok (.invokevirtual 323, 3) := by decide +kernel
theorem dX10_count_86 : decode cX10_count 86 = .ok (.i2l, 1) := by decide +kernel
theorem dX10_count_87 : decode cX10_count 87 = .ok (.lreturn, 1) := by decide +kernel
theorem dX10_count_88 : decode cX10_count 88 = .ok (.aload_n 0, 1) := by decide +kernel
theorem dX10_count_89 : decode cX10_count 89 = .ok (.getfield 50, 3) := by decide +kernel
theorem dX10_count_92 : decode cX10_count 92 = .ok (.getfield 286, 3) := by decide +kernel
theorem dX10_count_95 : decode cX10_count 95 = .ok (.invokevirtual 125, 3) := by decide +kernel
theorem dX10_count_98 : decode cX10_count 98 = .ok (.i2l, 1) := by decide +kernel
theorem dX10_count_99 : decode cX10_count 99 = .ok (.lreturn, 1) := by decide +kernel
theorem dX10_count_100 : decode cX10_count 100 = .ok (.aload_n 0, 1) := by decide +kernel
theorem dX10_count_101 : decode cX10_count 101 = .ok (.getfield 304, 3) := by decide +kernel
theorem dX10_count_104 : decode cX10_count 104 = .ok (.i2l, 1) := by decide +kernel
theorem dX10_count_105 : decode cX10_count 105 = .ok (.lreturn, 1) := by decide +kernel
theorem dX10_count_106 : decode cX10_count 106 = .ok (.aload_n 0, 1) := by decide +kernel
theorem dX10_count_107 : decode cX10_count 107 = .ok (.iconst 1, 1) := by decide +kernel
theorem dX10_count_108 : decode cX10_count 108 = .ok (.invokevirtual 67, 3) := by decide +kernel
theorem dX10_count_111 : decode cX10_count 111 = .ok (.lreturn, 1) := by decide +kernel
theorem dX10_found_0 : decode cX10_found 0 = .ok (.iload_n 1, 1) := by decide +kernel
theorem dX10_found_1 : decode cX10_found 1 = .ok (.iconst 1, 1) := by decide +kernel
theorem dX10_found_2 : decode cX10_found 2 = .ok (.bipush 7, 2) := by decide +kernel
theorem dX10_found_4 : decode cX10_found 4 = .ok (.invokestatic 129, 3) := by decide +kernel
theorem dX10_found_7 : decode cX10_found 7 = .ok (.ifCond .ne 9, 3) := by decide +kernel
theorem dX10_found_10 : decode cX10_found 10 = .ok (.aload_n 0, 1) := by decide +kernel
theorem dX10_found_11 : decode cX10_found 11 = .ok (.iconst 1, 1) := by decide +kernel
theorem dX10_found_12 : decode cX10_found 12 = .ok (.invokevirtual 67, 3) := by decide +kernel
theorem dX10_found_15 : decode cX10_found 15 = .ok (.lreturn, 1) := by decide +kernel
theorem dX10_found_16 : decode cX10_found 16 = .ok (.aload_n 0, 1) := by decide +kernel
theorem dX10_found_17 : decode cX10_found 17 = .ok (.getfield 58, 3) := by decide +kernel
theorem dX10_found_20 : decode cX10_found 20 = .ok (.iload_n 1, 1) := by decide +kernel
theorem dX10_found_21 : decode cX10_found 21 = .ok (.iaload, 1) := by decide +kernel
theorem dX10_found_22 : decode cX10_found 22 = .ok (.i2l, 1) := by decide +kernel
theorem dX10_found_23 : decode cX10_found 23 = .ok (.lreturn, 1) := by decide +kernel
theorem dX10_refuse_0 : decode cX10_refuse 0 = .ok (.iload_n 1, 1) := by decide +kernel
theorem dX10_refuse_1 : decode cX10_refuse 1 = .ok (.iconst 1, 1) := by decide +kernel
theorem dX10_refuse_2 : decode cX10_refuse 2 = .ok (.bipush 7, 2) := by decide +kernel
theorem dX10_refuse_4 : decode cX10_refuse 4 = .ok (.invokestatic 129, 3) := by decide +kernel
theorem dX10_refuse_7 : decode cX10_refuse 7 = .ok (.ifCond .eq 13, 3) := by decide +kernel
theorem dX10_refuse_10 : decode cX10_refuse 10 = .ok (.aload_n 0, 1) := by decide +kernel
theorem dX10_refuse_11 : decode cX10_refuse 11 = .ok (.getfield 58, 3) := by decide +kernel
theorem dX10_refuse_14 : decode cX10_refuse 14 = .ok (.iload_n 1, 1) := by decide +kernel
theorem dX10_refuse_15 : decode cX10_refuse 15 = .ok (.dup2, 1) := by decide +kernel
theorem dX10_refuse_16 : decode cX10_refuse 16 = .ok (.iaload, 1) := by decide +kernel
theorem dX10_refuse_17 : decode cX10_refuse 17 = .ok (.iconst 1, 1) := by decide +kernel
theorem dX10_refuse_18 : decode cX10_refuse 18 = .ok (.iadd, 1) := by decide +kernel
theorem dX10_refuse_19 : decode cX10_refuse 19 = .ok (.iastore, 1) := by decide +kernel
theorem dX10_refuse_20 : decode cX10_refuse 20 = .ok (.ldc2_w 326, 3) := by decide +kernel
theorem dX10_refuse_23 : decode cX10_refuse 23 = .ok (.iload_n 1, 1) := by decide +kernel
theorem dX10_refuse_24 : decode cX10_refuse 24 = .ok (.i2l, 1) := by decide +kernel
theorem dX10_refuse_25 : decode cX10_refuse 25 = .ok (.lsub, 1) := by decide +kernel
theorem dX10_refuse_26 : decode cX10_refuse 26 = .ok (.lreturn, 1) := by decide +kernel
theorem dX10_whyNoSizes_0 : decode cX10_whyNoSizes 0 = .ok (.aload_n 0, 1) := by decide +kernel
theorem dX10_whyNoSizes_1 : decode cX10_whyNoSizes 1 = .ok (.getfield 36, 3) := by decide +kernel
theorem dX10_whyNoSizes_4 : decode cX10_whyNoSizes 4 = .ok (.invokevirtual 328, 3) := by decide +kernel
theorem dX10_whyNoSizes_7 : decode cX10_whyNoSizes 7 = .ok (.ifCond .ne 5, 3) := by decide +kernel
theorem dX10_whyNoSizes_10 : decode cX10_whyNoSizes 10 = .ok (.iconst 2, 1) := by decide +kernel
theorem dX10_whyNoSizes_11 : decode cX10_whyNoSizes 11 = .ok (.ireturn, 1) := by decide +kernel
theorem dX10_whyNoSizes_12 : decode cX10_whyNoSizes 12 = .ok (.aload_n 0, 1) := by decide +kernel
theorem dX10_whyNoSizes_13 : decode cX10_whyNoSizes 13 = .ok (.getfield 36, 3) := by decide +kernel
theorem dX10_whyNoSizes_16 : decode cX10_whyNoSizes 16 = .ok (.invokevirtual 331, 3) := by decide +kernel
theorem dX10_whyNoSizes_19 : decode cX10_whyNoSizes 19 = .ok (.ifCond .eq 8, 3) := by decide +kernel
theorem dX10_whyNoSizes_22 : decode cX10_whyNoSizes 22 = .ok (.bipush 7, 2) := by decide +kernel
theorem dX10_whyNoSizes_24 : decode cX10_whyNoSizes 24 = .ok (.goto 4, 3) := by decide +kernel
theorem dX10_whyNoSizes_27 : decode cX10_whyNoSizes 27 = .ok (.iconst 0, 1) := by decide +kernel
theorem dX10_whyNoSizes_28 : decode cX10_whyNoSizes 28 = .ok (.ireturn, 1) := by decide +kernel
theorem dX10_whyNoPaper_0 : decode cX10_whyNoPaper 0 = .ok (.aload_n 0, 1) := by decide +kernel
theorem dX10_whyNoPaper_1 : decode cX10_whyNoPaper 1 = .ok (.invokevirtual 200, 3) := by decide +kernel
theorem dX10_whyNoPaper_4 : decode cX10_whyNoPaper 4 = .ok (.istore_n 1, 1) := by decide +kernel
theorem dX10_whyNoPaper_5 : decode cX10_whyNoPaper 5 = .ok (.iload_n 1, 1) := by decide +kernel
theorem dX10_whyNoPaper_6 : decode cX10_whyNoPaper 6 = .ok (.ifCond .ne 21, 3) := by decide +kernel
theorem dX10_whyNoPaper_9 : decode cX10_whyNoPaper 9 = .ok (.aload_n 0, 1) := by decide +kernel
theorem dX10_whyNoPaper_10 : decode cX10_whyNoPaper 10 = .ok (.getfield 10, 3) := by decide +kernel
theorem dX10_whyNoPaper_13 : decode cX10_whyNoPaper 13 = .ok (.getfield 245, 3) := by decide +kernel
theorem dX10_whyNoPaper_16 : decode cX10_whyNoPaper 16 = .ok (.invokevirtual 323, 3) := by decide +kernel
theorem dX10_whyNoPaper_19 : decode cX10_whyNoPaper 19 = .ok (.ifCond .ne 8, 3) := by decide +kernel
theorem dX10_whyNoPaper_22 : decode cX10_whyNoPaper 22 = .ok (.bipush 6, 2) := by decide +kernel
theorem dX10_whyNoPaper_24 : decode cX10_whyNoPaper 24 = .ok (.goto 4, 3) := by decide +kernel
theorem dX10_whyNoPaper_27 : decode cX10_whyNoPaper 27 = .ok (.iload_n 1, 1) := by decide +kernel
theorem dX10_whyNoPaper_28 : decode cX10_whyNoPaper 28 = .ok (.ireturn, 1) := by decide +kernel
theorem dX10_isModel_0 : decode cX10_isModel 0 = .ok (.iconst 1, 1) := by decide +kernel
theorem dX10_isModel_1 : decode cX10_isModel 1 = .ok (.aload_n 0, 1) := by decide +kernel
theorem dX10_isModel_2 : decode cX10_isModel 2 = .ok (.getfield 10, 3) := by decide +kernel
theorem dX10_isModel_5 : decode cX10_isModel 5 = .ok (.getfield 71, 3) := by decide +kernel
theorem dX10_isModel_8 : decode cX10_isModel 8 = .ok (.invokevirtual 225, 3) := by decide +kernel
theorem dX10_isModel_11 : decode cX10_isModel 11 = .ok (.ishl, 1) := by decide +kernel
theorem dX10_isModel_12 : decode cX10_isModel 12 = .ok (.iconst 1, 1) := by decide +kernel
theorem dX10_isModel_13 : decode cX10_isModel 13 = .ok (.isub, 1) := by decide +kernel
theorem dX10_isModel_14 : decode cX10_isModel 14 = .ok (.istore_n 2, 1) := by decide +kernel
theorem dX10_isModel_15 : decode cX10_isModel 15 = .ok (.iload_n 1, 1) := by decide +kernel
theorem dX10_isModel_16 : decode cX10_isModel 16 = .ok (.iload_n 2, 1) := by decide +kernel
theorem dX10_isModel_17 : decode cX10_isModel 17 = .ok (.iconst (-1), 1) := by decide +kernel
theorem dX10_isModel_18 : decode cX10_isModel 18 = .ok (.ixor, 1) := by decide +kernel
theorem dX10_isModel_19 : decode cX10_isModel 19 = .ok (.iand, 1) := by decide +kernel
theorem dX10_isModel_20 : decode cX10_isModel 20 = .ok (.ifCond .ne 19, 3) := by decide +kernel
theorem dX10_isModel_23 : decode cX10_isModel 23 = .ok (.iload_n 1, 1) := by decide +kernel
theorem dX10_isModel_24 : decode cX10_isModel 24 = .ok (.invokestatic 195, 3) := by decide +kernel
theorem dX10_isModel_27 : decode cX10_isModel 27 = .ok (.iconst 1, 1) := by decide +kernel
theorem dX10_isModel_28 : decode cX10_isModel 28 = .ok (.iconst 4, 1) := by decide +kernel
theorem dX10_isModel_29 : decode cX10_isModel 29 = .ok (.invokestatic 129, 3) := by decide +kernel
theorem dX10_isModel_32 : decode cX10_isModel 32 = .ok (.ifCond .eq 7, 3) := by decide +kernel
theorem dX10_isModel_35 : decode cX10_isModel 35 = .ok (.iconst 1, 1) := by decide +kernel
theorem dX10_isModel_36 : decode cX10_isModel 36 = .ok (.goto 4, 3) := by decide +kernel
theorem dX10_isModel_39 : decode cX10_isModel 39 = .ok (.iconst 0, 1) := by decide +kernel
theorem dX10_isModel_40 : decode cX10_isModel 40 = .ok (.ireturn, 1) := by decide +kernel
theorem dX10_isState_0 : decode cX10_isState 0 = .ok (.iload_n 0, 1) := by decide +kernel
theorem dX10_isState_1 : decode cX10_isState 1 = .ok (.iconst 0, 1) := by decide +kernel
theorem dX10_isState_2 : decode cX10_isState 2 = .ok (.bipush 35, 2) := by decide +kernel
theorem dX10_isState_4 : decode cX10_isState 4 = .ok (.invokestatic 129, 3) := by decide +kernel
theorem dX10_isState_7 : decode cX10_isState 7 = .ok (.ireturn, 1) := by decide +kernel
theorem dX10_isRate_0 : decode cX10_isRate 0 = .ok (.iload_n 0, 1) := by decide +kernel
theorem dX10_isRate_1 : decode cX10_isRate 1 = .ok (.sipush (-300), 3) := by decide +kernel
theorem dX10_isRate_4 : decode cX10_isRate 4 = .ok (.sipush 300, 3) := by decide +kernel
theorem dX10_isRate_7 : decode cX10_isRate 7 = .ok (.invokestatic 129, 3) := by decide +kernel
theorem dX10_isRate_10 : decode cX10_isRate 10 = .ok (.ireturn, 1) := by decide +kernel
theorem dX10_isSteps_0 : decode cX10_isSteps 0 = .ok (.iload_n 0, 1) := by decide +kernel
theorem dX10_isSteps_1 : decode cX10_isSteps 1 = .ok (.bipush (-3), 2) := by decide +kernel
theorem dX10_isSteps_3 : decode cX10_isSteps 3 = .ok (.iconst 3, 1) := by decide +kernel
theorem dX10_isSteps_4 : decode cX10_isSteps 4 = .ok (.invokestatic 129, 3) := by decide +kernel
theorem dX10_isSteps_7 : decode cX10_isSteps 7 = .ok (.ireturn, 1) := by decide +kernel
theorem dX11_init_0 : decode cX11_init 0 = .ok (.aload_n 0, 1) := by decide +kernel
theorem dX11_init_1 : decode cX11_init 1 = .ok (.invokespecial 3, 3) := by decide +kernel
theorem dX11_init_4 : decode cX11_init 4 = .ok (.aload_n 0, 1) := by decide +kernel
theorem dX11_init_5 : decode cX11_init 5 = .ok (.sipush 160, 3) := by decide +kernel
theorem dX11_init_8 : decode cX11_init 8 = .ok (.newarray .int, 2) := by decide +kernel
theorem dX11_init_10 : decode cX11_init 10 = .ok (.putfield 9, 3) := by decide +kernel
theorem dX11_init_13 : decode cX11_init 13 = .ok (.aload_n 0, 1) := by decide +kernel
theorem dX11_init_14 : decode cX11_init 14 = .ok (.sipush 160, 3) := by decide +kernel
theorem dX11_init_17 : decode cX11_init 17 = .ok (.newarray .int, 2) := by decide +kernel
theorem dX11_init_19 : decode cX11_init 19 = .ok (.putfield 13, 3) := by decide +kernel
theorem dX11_init_22 : decode cX11_init 22 = .ok (.aload_n 0, 1) := by decide +kernel
theorem dX11_init_23 : decode cX11_init 23 = .ok (.bipush 108, 2) := by decide +kernel
theorem dX11_init_25 : decode cX11_init 25 = .ok (.newarray .int, 2) := by decide +kernel
theorem dX11_init_27 : decode cX11_init 27 = .ok (.putfield 16, 3) := by decide +kernel
theorem dX11_init_30 : decode cX11_init 30 = .ok (.aload_n 0, 1) := by decide +kernel
theorem dX11_init_31 : decode cX11_init 31 = .ok (.iconst 3, 1) := by decide +kernel
theorem dX11_init_32 : decode cX11_init 32 = .ok (.newarray .int, 2) := by decide +kernel
theorem dX11_init_34 : decode cX11_init 34 = .ok (.putfield 19, 3) := by decide +kernel
theorem dX11_init_37 : decode cX11_init 37 = .ok (.aload_n 0, 1) := by decide +kernel
theorem dX11_init_38 : decode cX11_init 38 = .ok (.bipush 60, 2) := by decide +kernel
theorem dX11_init_40 : decode cX11_init 40 = .ok (.newarray .int, 2) := by decide +kernel
theorem dX11_init_42 : decode cX11_init 42 = .ok (.putfield 22, 3) := by decide +kernel
theorem dX11_init_45 : decode cX11_init 45 = .ok (.aload_n 0, 1) := by decide +kernel
theorem dX11_init_46 : decode cX11_init 46 = .ok (.bipush 60, 2) := by decide +kernel
theorem dX11_init_48 : decode cX11_init 48 = .ok (.newarray .int, 2) := by decide +kernel
theorem dX11_init_50 : decode cX11_init 50 = .ok (.putfield 25, 3) := by decide +kernel
theorem dX11_init_53 : decode cX11_init 53 = .ok (.aload_n 0, 1) := by decide +kernel
theorem dX11_init_54 : decode cX11_init 54 = .ok (.bipush 16, 2) := by decide +kernel
theorem dX11_init_56 : decode cX11_init 56 = .ok (.newarray .int, 2) := by decide +kernel
theorem dX11_init_58 : decode cX11_init 58 = .ok (.putfield 28, 3) := by decide +kernel
theorem dX11_init_61 : decode cX11_init 61 = .ok (.aload_n 0, 1) := by decide +kernel
theorem dX11_init_62 : decode cX11_init 62 = .ok (.bipush 8, 2) := by decide +kernel
theorem dX11_init_64 : decode cX11_init 64 = .ok (.newarray .long, 2) := by decide +kernel
theorem dX11_init_66 : decode cX11_init 66 = .ok (.putfield 31, 3) := by decide +kernel
theorem dX11_init_69 : decode cX11_init 69 = .ok (.aload_n 0, 1) := by decide +kernel
theorem dX11_init_70 : decode cX11_init 70 = .ok (.iconst 4, 1) := by decide +kernel
theorem dX11_init_71 : decode cX11_init 71 = .ok (.newarray .int, 2) := by decide +kernel
theorem dX11_init_73 : decode cX11_init 73 = .ok (.putfield 35, 3) := by decide +kernel
theorem dX11_init_76 : decode cX11_init 76 = .ok (.aload_n 0, 1) := by decide +kernel
theorem dX11_init_77 : decode cX11_init 77 = .ok (.iconst 4, 1) := by decide +kernel
theorem dX11_init_78 : decode cX11_init 78 = .ok (.newarray .long, 2) := by decide +kernel
theorem dX11_init_80 : decode cX11_init 80 = .ok (.putfield 38, 3) := by decide +kernel
theorem dX11_init_83 : decode cX11_init 83 = .ok (.aload_n 0, 1) := by decide +kernel
theorem dX11_init_84 : decode cX11_init 84 = .ok (.iconst 4, 1) := by decide +kernel
theorem dX11_init_85 : decode cX11_init 85 = .ok (.newarray .int, 2) := by decide +kernel
theorem dX11_init_87 : decode cX11_init 87 = .ok (.putfield 41, 3) := by decide +kernel
theorem dX11_init_90 : decode cX11_init 90 = .ok (.aload_n 0, 1) := by decide +kernel
theorem dX11_init_91 : decode cX11_init 91 = .ok (.bipush 16, 2) := by decide +kernel
theorem dX11_init_93 : decode cX11_init 93 = .ok (.newarray .long, 2) := by decide +kernel
theorem dX11_init_95 : decode cX11_init 95 = .ok (.putfield 44, 3) := by decide +kernel
theorem dX11_init_98 : decode cX11_init 98 = .ok (.aload_n 0, 1) := by decide +kernel
theorem dX11_init_99 : decode cX11_init 99 = .ok (.iconst 4, 1) := by decide +kernel
theorem dX11_init_100 : decode cX11_init 100 = .ok (.newarray .long, 2) := by decide +kernel
theorem dX11_init_102 : decode cX11_init 102 = .ok (.putfield 47, 3) := by decide +kernel
theorem dX11_init_105 : decode cX11_init 105 = .ok (.aload_n 0, 1) := by decide +kernel
theorem dX11_init_106 : decode cX11_init 106 = .ok (.iconst 4, 1) := by decide +kernel
theorem dX11_init_107 : decode cX11_init 107 = .ok (.newarray .long, 2) := by decide +kernel
theorem dX11_init_109 : decode cX11_init 109 = .ok (.putfield 50, 3) := by decide +kernel
theorem dX11_init_112 : decode cX11_init 112 = .ok (.aload_n 0, 1) := by decide +kernel
theorem dX11_init_113 : decode cX11_init 113 = .ok (.bipush 80, 2) := by decide +kernel
theorem dX11_init_115 : decode cX11_init 115 = .ok (.newarray .long, 2) := by decide +kernel
theorem dX11_init_117 : decode cX11_init 117 = .ok (.putfield 53, 3) := by decide +kernel
theorem dX11_init_120 : decode cX11_init 120 = .ok (.iconst 0, 1) := by decide +kernel
theorem dX11_init_121 : decode cX11_init 121 = .ok (.istore_n 1, 1) := by decide +kernel
theorem dX11_init_122 : decode cX11_init 122 = .ok (.iload_n 1, 1) := by decide +kernel
theorem dX11_init_123 : decode cX11_init 123 = .ok (.iconst 3, 1) := by decide +kernel
theorem dX11_init_124 : decode cX11_init 124 = .ok (.if_icmp .ge 16, 3) := by decide +kernel
theorem dX11_init_127 : decode cX11_init 127 = .ok (.aload_n 0, 1) := by decide +kernel
theorem dX11_init_128 : decode cX11_init 128 = .ok (.getfield 19, 3) := by decide +kernel
theorem dX11_init_131 : decode cX11_init 131 = .ok (.iload_n 1, 1) := by decide +kernel
theorem dX11_init_132 : decode cX11_init 132 = .ok (.iconst (-1), 1) := by decide +kernel
theorem dX11_init_133 : decode cX11_init 133 = .ok (.iastore, 1) := by decide +kernel
theorem dX11_init_134 : decode cX11_init 134 = .ok (.iinc 1 1, 3) := by decide +kernel
theorem dX11_init_137 : decode cX11_init 137 = .ok (.goto (-15), 3) := by decide +kernel
theorem dX11_init_140 : decode cX11_init 140 = .ok (.iconst 0, 1) := by decide +kernel
theorem dX11_init_141 : decode cX11_init 141 = .ok (.istore_n 1, 1) := by decide +kernel
theorem dX11_init_142 : decode cX11_init 142 = .ok (.iload_n 1, 1) := by decide +kernel
theorem dX11_init_143 : decode cX11_init 143 = .ok (.bipush 36, 2) := by decide +kernel
theorem dX11_init_145 : decode cX11_init 145 = .ok (.if_icmp .ge 29, 3) := by decide +kernel
theorem dX11_init_148 : decode cX11_init 148 = .ok (.aload_n 0, 1) := by decide +kernel
theorem dX11_init_149 : decode cX11_init 149 = .ok (.getfield 9, 3) := by decide +kernel
theorem dX11_init_152 : decode cX11_init 152 = .ok (.bipush 88, 2) := by decide +kernel
theorem dX11_init_154 : decode cX11_init 154 = .ok (.iload_n 1, 1) := by decide +kernel
theorem dX11_init_155 : decode cX11_init 155 = .ok (.iadd, 1) := by decide +kernel
theorem dX11_init_156 : decode cX11_init 156 = .ok (.iconst 1, 1) := by decide +kernel
theorem dX11_init_157 : decode cX11_init 157 = .ok (.iastore, 1) := by decide +kernel
theorem dX11_init_158 : decode cX11_init 158 = .ok (.aload_n 0, 1) := by decide +kernel
theorem dX11_init_159 : decode cX11_init 159 = .ok (.getfield 9, 3) := by decide +kernel
theorem dX11_init_162 : decode cX11_init 162 = .ok (.bipush 124, 2) := by decide +kernel
theorem dX11_init_164 : decode cX11_init 164 = .ok (.iload_n 1, 1) := by decide +kernel
theorem dX11_init_165 : decode cX11_init 165 = .ok (.iadd, 1) := by decide +kernel
theorem dX11_init_166 : decode cX11_init 166 = .ok (.iconst 0, 1) := by decide +kernel
theorem dX11_init_167 : decode cX11_init 167 = .ok (.iastore, 1) := by decide +kernel
theorem dX11_init_168 : decode cX11_init 168 = .ok (.iinc 1 1, 3) := by decide +kernel
theorem dX11_init_171 : decode cX11_init 171 = .ok (.goto (-29), 3) := by decide +kernel
theorem dX11_init_174 : decode cX11_init 174 = .ok (.return_, 1) := by decide +kernel
theorem dX11_tellFinding_0 : decode cX11_tellFinding 0 = .ok (.aload_n 0, 1) := by decide +kernel
theorem dX11_tellFinding_1 : decode cX11_tellFinding 1 = .ok (.getfield 31, 3) := by decide +kernel
theorem dX11_tellFinding_4 : decode cX11_tellFinding 4 = .ok (.ldc2_w 56, 3) := by decide +kernel
theorem dX11_tellFinding_7 : decode cX11_tellFinding 7 = .ok (.lload_n 1, 1) := by decide +kernel
theorem dX11_tellFinding_8 : decode cX11_tellFinding 8 = .ok (.lsub, 1) := by decide +kernel
theorem dX11_tellFinding_9 : decode cX11_tellFinding 9 = .ok (.l2i, 1) := by decide +kernel
theorem dX11_tellFinding_10 : decode cX11_tellFinding 10 = .ok (.dup2, 1) := by decide +kernel
theorem dX11_tellFinding_11 : decode cX11_tellFinding 11 = .ok (.laload, 1) := by decide +kernel
theorem dX11_tellFinding_12 : decode cX11_tellFinding 12 = .ok (.lconst 1, 1) := by decide +kernel
theorem dX11_tellFinding_13 : decode cX11_tellFinding 13 = .ok (.ladd, 1) := by decide +kernel
theorem dX11_tellFinding_14 : decode cX11_tellFinding 14 = .ok (.lastore, 1) := by decide +kernel
theorem dX11_tellFinding_15 : decode cX11_tellFinding 15 = .ok (.lload_n 1, 1) := by decide +kernel
theorem dX11_tellFinding_16 : decode cX11_tellFinding 16 = .ok (.lreturn, 1) := by decide +kernel
theorem dX11_in_0 : decode cX11_in 0 = .ok (.iload_n 0, 1) := by decide +kernel
theorem dX11_in_1 : decode cX11_in 1 = .ok (.iload_n 1, 1) := by decide +kernel
theorem dX11_in_2 : decode cX11_in 2 = .ok (.if_icmp .lt 12, 3) := by decide +kernel
theorem dX11_in_5 : decode cX11_in 5 = .ok (.iload_n 0, 1) := by decide +kernel
theorem dX11_in_6 : decode cX11_in 6 = .ok (.iload_n 2, 1) := by decide +kernel
theorem dX11_in_7 : decode cX11_in 7 = .ok (.if_icmp .gt 7, 3) := by decide +kernel
theorem dX11_in_10 : decode cX11_in 10 = .ok (.iconst 1, 1) := by decide +kernel
theorem dX11_in_11 : decode cX11_in 11 = .ok (.goto 4, 3) := by decide +kernel
theorem dX11_in_14 : decode cX11_in 14 = .ok (.iconst 0, 1) := by decide +kernel
theorem dX11_in_15 : decode cX11_in 15 = .ok (.ireturn, 1) := by decide +kernel
theorem dX11_isCause_0 : decode cX11_isCause 0 = .ok (.iload_n 1, 1) := by decide +kernel
theorem dX11_isCause_1 : decode cX11_isCause 1 = .ok (.iconst 0, 1) := by decide +kernel
theorem dX11_isCause_2 : decode cX11_isCause 2 = .ok (.aload_n 0, 1) := by decide +kernel
theorem dX11_isCause_3 : decode cX11_isCause 3 = .ok (.getfield 9, 3) := by decide +kernel
theorem dX11_isCause_6 : decode cX11_isCause 6 = .ok (.iconst 0, 1) := by decide +kernel
theorem dX11_isCause_7 : decode cX11_isCause 7 = .ok (.iaload, 1) := by decide +kernel
theorem dX11_isCause_8 : decode cX11_isCause 8 = .ok (.iconst 1, 1) := by decide +kernel
theorem dX11_isCause_9 : decode cX11_isCause 9 = .ok (.isub, 1) := by decide +kernel
theorem dX11_isCause_10 : decode cX11_isCause 10 = .ok (.invokestatic 58, 3) := by decide +kernel
theorem dX11_isCause_13 : decode cX11_isCause 13 = .ok (.ireturn, 1) := by decide +kernel
theorem dX11_isState_0 : decode cX11_isState 0 = .ok (.iload_n 0, 1) := by decide +kernel
theorem dX11_isState_1 : decode cX11_isState 1 = .ok (.iconst 0, 1) := by decide +kernel
theorem dX11_isState_2 : decode cX11_isState 2 = .ok (.bipush 35, 2) := by decide +kernel
theorem dX11_isState_4 : decode cX11_isState 4 = .ok (.invokestatic 58, 3) := by decide +kernel
theorem dX11_isState_7 : decode cX11_isState 7 = .ok (.ireturn, 1) := by decide +kernel
theorem dX11_cause_0 : decode cX11_cause 0 = .ok (.iload_n 1, 1) := by decide +kernel
theorem dX11_cause_1 : decode cX11_cause 1 = .ok (.tableswitch 103 0 5 #[39, 45, 73, 73, 73, 45], 39) := by decide +kernel
theorem dX11_cause_40 : decode cX11_cause 40 = .ok (.iconst 1, 1) := by decide +kernel
theorem dX11_cause_41 : decode cX11_cause 41 = .ok (.istore 4, 2) := by decide +kernel
theorem dX11_cause_43 : decode cX11_cause 43 = .ok (.goto 64, 3) := by decide +kernel
theorem dX11_cause_46 : decode cX11_cause 46 = .ok (.iload_n 2, 1) := by decide +kernel
theorem dX11_cause_47 : decode cX11_cause 47 = .ok (.iconst 0, 1) := by decide +kernel
theorem dX11_cause_48 : decode cX11_cause 48 = .ok (.iconst 3, 1) := by decide +kernel
theorem dX11_cause_49 : decode cX11_cause 49 = .ok (.invokestatic 58, 3) := by decide +kernel
theorem dX11_cause_52 : decode cX11_cause 52 = .ok (.ifCond .eq 16, 3) := by decide +kernel
theorem dX11_cause_55 : decode cX11_cause 55 = .ok (.iload_n 3, 1) := by decide +kernel
theorem dX11_cause_56 : decode cX11_cause 56 = .ok (.iconst 1, 1) := by decide +kernel
theorem dX11_cause_57 : decode cX11_cause 57 = .ok (.iconst 3, 1) := by decide +kernel
theorem dX11_cause_58 : decode cX11_cause 58 = .ok (.invokestatic 58, 3) := by decide +kernel
theorem dX11_cause_61 : decode cX11_cause 61 = .ok (.ifCond .eq 7, 3) := by decide +kernel
theorem dX11_cause_64 : decode cX11_cause 64 = .ok (.iconst 1, 1) := by decide +kernel
theorem dX11_cause_65 : decode cX11_cause 65 = .ok (.goto 4, 3) := by decide +kernel
theorem dX11_cause_68 : decode cX11_cause 68 = .ok (.iconst 0, 1) := by decide +kernel
theorem dX11_cause_69 : decode cX11_cause 69 = .ok (.istore 4, 2) := by decide +kernel
theorem dX11_cause_71 : decode cX11_cause 71 = .ok (.goto 36, 3) := by decide +kernel
theorem dX11_cause_74 : decode cX11_cause 74 = .ok (.iload_n 2, 1) := by decide +kernel
theorem dX11_cause_75 : decode cX11_cause 75 = .ok (.bipush (-2), 2) := by decide +kernel
theorem dX11_cause_77 : decode cX11_cause 77 = .ok (.iconst 2, 1) := by decide +kernel
theorem dX11_cause_78 : decode cX11_cause 78 = .ok (.invokestatic 58, 3) := by decide +kernel
theorem dX11_cause_81 : decode cX11_cause 81 = .ok (.ifCond .eq 17, 3) := by decide +kernel
theorem dX11_cause_84 : decode cX11_cause 84 = .ok (.iload_n 3, 1) := by decide +kernel
theorem dX11_cause_85 : decode cX11_cause 85 = .ok (.bipush (-2), 2) := by decide +kernel
theorem dX11_cause_87 : decode cX11_cause 87 = .ok (.iconst 2, 1) := by decide +kernel
theorem dX11_cause_88 : decode cX11_cause 88 = .ok (.invokestatic 58, 3) := by decide +kernel
theorem dX11_cause_91 : decode cX11_cause 91 = .ok (.ifCond .eq 7, 3) := by decide +kernel
theorem dX11_cause_94 : decode cX11_cause 94 = .ok (.iconst 1, 1) := by decide +kernel
theorem dX11_cause_95 : decode cX11_cause 95 = .ok (.goto 4, 3) := by decide +kernel
theorem dX11_cause_98 : decode cX11_cause 98 = .ok (.iconst 0, 1) := by decide +kernel
theorem dX11_cause_99 : decode cX11_cause 99 = .ok (.istore 4, 2) := by decide +kernel
theorem dX11_cause_101 : decode cX11_cause 101 = .ok (.goto 6, 3) := by decide +kernel
theorem dX11_cause_104 : decode cX11_cause 104 = .ok (.iconst 0, 1) := by decide +kernel
theorem dX11_cause_105 : decode cX11_cause 105 = .ok (.istore 4, 2) := by decide +kernel
theorem dX11_cause_107 : decode cX11_cause 107 = .ok (.iload 4, 2) := by decide +kernel
theorem dX11_cause_109 : decode cX11_cause 109 = .ok (.ifCond .ne 11, 3) := by decide +kernel
theorem dX11_cause_112 : decode cX11_cause 112 = .ok (.aload_n 0, 1) := by decide +kernel
theorem dX11_cause_113 : decode cX11_cause 113 = .ok (.ldc2_w 62, 3) := by decide +kernel
theorem dX11_cause_116 : decode cX11_cause 116 = .ok (.invokevirtual 64, 3) := by decide +kernel
theorem dX11_cause_119 : decode cX11_cause 119 = .ok (.lreturn, 1) := by decide +kernel
theorem dX11_cause_120 : decode cX11_cause 120 = .ok (.aload_n 0, 1) := by decide +kernel
theorem dX11_cause_121 : decode cX11_cause 121 = .ok (.getfield 9, 3) := by decide +kernel
theorem dX11_cause_124 : decode cX11_cause 124 = .ok (.iconst 0, 1) := by decide +kernel
theorem dX11_cause_125 : decode cX11_cause 125 = .ok (.iaload, 1) := by decide +kernel
theorem dX11_cause_126 : decode cX11_cause 126 = .ok (.istore 5, 2) := by decide +kernel
theorem dX11_cause_128 : decode cX11_cause 128 = .ok (.iload 5, 2) := by decide +kernel
theorem dX11_cause_130 : decode cX11_cause 130 = .ok (.bipush 8, 2) := by decide +kernel
theorem dX11_cause_132 : decode cX11_cause 132 = .ok (.if_icmp .ne 11, 3) := by decide +kernel
theorem dX11_cause_135 : decode cX11_cause 135 = .ok (.aload_n 0, 1) := by decide +kernel
theorem dX11_cause_136 : decode cX11_cause 136 = .ok (.ldc2_w 68, 3) := by decide +kernel
theorem dX11_cause_139 : decode cX11_cause 139 = .ok (.invokevirtual 64, 3) := by decide +kernel
theorem dX11_cause_142 : decode cX11_cause 142 = .ok (.lreturn, 1) := by decide +kernel
theorem dX11_cause_143 : decode cX11_cause 143 = .ok (.aload_n 0, 1) := by decide +kernel
theorem dX11_cause_144 : decode cX11_cause 144 = .ok (.getfield 9, 3) := by decide +kernel
theorem dX11_cause_147 : decode cX11_cause 147 = .ok (.bipush 8, 2) := by decide +kernel
theorem dX11_cause_149 : decode cX11_cause 149 = .ok (.iload 5, 2) := by decide +kernel
theorem dX11_cause_151 : decode cX11_cause 151 = .ok (.iadd, 1) := by decide +kernel
theorem dX11_cause_152 : decode cX11_cause 152 = .ok (.iload_n 1, 1) := by decide +kernel
theorem dX11_cause_153 : decode cX11_cause 153 = .ok (.iastore, 1) := by decide +kernel
theorem dX11_cause_154 : decode cX11_cause 154 = .ok (.aload_n 0, 1) := by decide +kernel
theorem dX11_cause_155 : decode cX11_cause 155 = .ok (.getfield 9, 3) := by decide +kernel
theorem dX11_cause_158 : decode cX11_cause 158 = .ok (.bipush 16, 2) := by decide +kernel
theorem dX11_cause_160 : decode cX11_cause 160 = .ok (.iload 5, 2) := by decide +kernel
theorem dX11_cause_162 : decode cX11_cause 162 = .ok (.iadd, 1) := by decide +kernel
theorem dX11_cause_163 : decode cX11_cause 163 = .ok (.iload_n 1, 1) := by decide +kernel
theorem dX11_cause_164 : decode cX11_cause 164 = .ok (.ifCond .ne 7, 3) := by decide +kernel
theorem dX11_cause_167 : decode cX11_cause 167 = .ok (.iconst 0, 1) := by decide +kernel
theorem dX11_cause_168 : decode cX11_cause 168 = .ok (.goto 4, 3) := by decide +kernel
theorem dX11_cause_171 : decode cX11_cause 171 = .ok (.iload_n 2, 1) := by decide +kernel
theorem dX11_cause_172 : decode cX11_cause 172 = .ok (.iastore, 1) := by decide +kernel
theorem dX11_cause_173 : decode cX11_cause 173 = .ok (.aload_n 0, 1) := by decide +kernel
theorem dX11_cause_174 : decode cX11_cause 174 = .ok (.getfield 9, 3) := by decide +kernel
theorem dX11_cause_177 : decode cX11_cause 177 = .ok (.bipush 24, 2) := by decide +kernel
theorem dX11_cause_179 : decode cX11_cause 179 = .ok (.iload 5, 2) := by decide +kernel
theorem dX11_cause_181 : decode cX11_cause 181 = .ok (.iadd, 1) := by decide +kernel
theorem dX11_cause_182 : decode cX11_cause 182 = .ok (.iload_n 1, 1) := by decide +kernel
theorem dX11_cause_183 : decode cX11_cause 183 = .ok (.ifCond .ne 7, 3) := by decide +kernel
theorem dX11_cause_186 : decode cX11_cause 186 = .ok (.iconst 0, 1) := by decide +kernel
theorem dX11_cause_187 : decode cX11_cause 187 = .ok (.goto 4, 3) := by decide +kernel
theorem dX11_cause_190 : decode cX11_cause 190 = .ok (.iload_n 3, 1) := by decide +kernel
theorem dX11_cause_191 : decode cX11_cause 191 = .ok (.iastore, 1) := by decide +kernel
theorem dX11_cause_192 : decode cX11_cause 192 = .ok (.aload_n 0, 1) := by decide +kernel
theorem dX11_cause_193 : decode cX11_cause 193 = .ok (.getfield 9, 3) := by decide +kernel
theorem dX11_cause_196 : decode cX11_cause 196 = .ok (.iconst 0, 1) := by decide +kernel
theorem dX11_cause_197 : decode cX11_cause 197 = .ok (.dup2, 1) := by decide +kernel
theorem dX11_cause_198 : decode cX11_cause 198 = .ok (.iaload, 1) := by decide +kernel
theorem dX11_cause_199 : decode cX11_cause 199 = .ok (.iconst 1, 1) := by decide +kernel
theorem dX11_cause_200 : decode cX11_cause 200 = .ok (.iadd, 1) := by decide +kernel
theorem dX11_cause_201 : decode cX11_cause 201 = .ok (.iastore, 1) := by decide +kernel
theorem dX11_cause_202 : decode cX11_cause 202 = .ok (.aload_n 0, 1) := by decide +kernel
theorem dX11_cause_203 : decode cX11_cause 203 = .ok (.iconst 1, 1) := by decide +kernel
theorem dX11_cause_204 : decode cX11_cause 204 = .ok (.putfield 70, 3) := by decide +kernel
theorem dX11_cause_207 : decode cX11_cause 207 = .ok (.iload 5, 2) := by decide +kernel
theorem dX11_cause_209 : decode cX11_cause 209 = .ok (.i2l, 1) := by decide +kernel
theorem dX11_cause_210 : decode cX11_cause 210 = .ok (.lreturn, 1) := by decide +kernel
theorem dX11_shown_0 : decode cX11_shown 0 = .ok (.iload_n 2, 1) := by decide +kernel
theorem dX11_shown_1 : decode cX11_shown 1 = .ok (.bipush 6, 2) := by decide +kernel
theorem dX11_shown_3 : decode cX11_shown 3 = .ok (.idiv, 1) := by decide +kernel
theorem dX11_shown_4 : decode cX11_shown 4 = .ok (.istore_n 3, 1) := by decide +kernel
theorem dX11_shown_5 : decode cX11_shown 5 = .ok (.iload_n 2, 1) := by decide +kernel
theorem dX11_shown_6 : decode cX11_shown 6 = .ok (.iconst 3, 1) := by decide +kernel
theorem dX11_shown_7 : decode cX11_shown 7 = .ok (.idiv, 1) := by decide +kernel
theorem dX11_shown_8 : decode cX11_shown 8 = .ok (.iconst 2, 1) := by decide +kernel
theorem dX11_shown_9 : decode cX11_shown 9 = .ok (.irem, 1) := by decide +kernel
theorem dX11_shown_10 : decode cX11_shown 10 = .ok (.istore 4, 2) := by decide +kernel
theorem dX11_shown_12 : decode cX11_shown 12 = .ok (.iload_n 2, 1) := by decide +kernel
theorem dX11_shown_13 : decode cX11_shown 13 = .ok (.iconst 3, 1) := by decide +kernel
theorem dX11_shown_14 : decode cX11_shown 14 = .ok (.irem, 1) := by decide +kernel
theorem dX11_shown_15 : decode cX11_shown 15 = .ok (.istore 5, 2) := by decide +kernel
theorem dX11_shown_17 : decode cX11_shown 17 = .ok (.aload_n 0, 1) := by decide +kernel
theorem dX11_shown_18 : decode cX11_shown 18 = .ok (.getfield 9, 3) := by decide +kernel
theorem dX11_shown_21 : decode cX11_shown 21 = .ok (.bipush 16, 2) := by decide +kernel
theorem dX11_shown_23 : decode cX11_shown 23 = .ok (.iload_n 1, 1) := by decide +kernel
theorem dX11_shown_24 : decode cX11_shown 24 = .ok (.iadd, 1) := by decide +kernel
theorem dX11_shown_25 : decode cX11_shown 25 = .ok (.iaload, 1) := by decide +kernel
theorem dX11_shown_26 : decode cX11_shown 26 = .ok (.istore 6, 2) := by decide +kernel
theorem dX11_shown_28 : decode cX11_shown 28 = .ok (.aload_n 0, 1) := by decide +kernel
theorem dX11_shown_29 : decode cX11_shown 29 = .ok (.getfield 9, 3) := by decide +kernel
theorem dX11_shown_32 : decode cX11_shown 32 = .ok (.bipush 24, 2) := by decide +kernel
theorem dX11_shown_34 : decode cX11_shown 34 = .ok (.iload_n 1, 1) := by decide +kernel
theorem dX11_shown_35 : decode cX11_shown 35 = .ok (.iadd, 1) := by decide +kernel
theorem dX11_shown_36 : decode cX11_shown 36 = .ok (.iaload, 1) := by decide +kernel
theorem dX11_shown_37 : decode cX11_shown 37 = .ok (.istore 7, 2) := by decide +kernel
theorem dX11_shown_39 : decode cX11_shown 39 = .ok (.iload_n 3, 1) := by decide +kernel
theorem dX11_shown_40 : decode cX11_shown 40 = .ok (.iconst 2, 1) := by decide +kernel
theorem dX11_shown_41 : decode cX11_shown 41 = .ok (.if_icmp .ge 7, 3) := by decide +kernel
theorem dX11_shown_44 : decode cX11_shown 44 = .ok (.iconst (-1), 1) := by decide +kernel
theorem dX11_shown_45 : decode cX11_shown 45 = .ok (.goto 14, 3) := by decide +kernel
theorem dX11_shown_48 : decode cX11_shown 48 = .ok (.iload_n 3, 1) := by decide +kernel
theorem dX11_shown_49 : decode cX11_shown 49 = .ok (.iconst 2, 1) := by decide +kernel
theorem dX11_shown_50 : decode cX11_shown 50 = .ok (.isub, 1) := by decide +kernel
end
section
theorem dX11_shown_51 : decode cX11_shown 51 = .ok (.iload 6, 2) := by decide +kernel
theorem dX11_shown_53 : decode cX11_shown 53 = .ok (.isub, 1) := by decide +kernel
theorem dX11_shown_54 : decode cX11_shown 54 = .ok (.bipush 8, 2) := by decide +kernel
theorem dX11_shown_56 : decode cX11_shown 56 = .ok (.iadd, 1) := by decide +kernel
theorem dX11_shown_57 : decode cX11_shown 57 = .ok (.iconst 4, 1) := by decide +kernel
theorem dX11_shown_58 : decode cX11_shown 58 = .ok (.irem, 1) := by decide +kernel
theorem dX11_shown_59 : decode cX11_shown 59 = .ok (.istore 8, 2) := by decide +kernel
theorem dX11_shown_61 : decode cX11_shown 61 = .ok (.aload_n 0, 1) := by decide +kernel
theorem dX11_shown_62 : decode cX11_shown 62 = .ok (.getfield 9, 3) := by decide +kernel
theorem dX11_shown_65 : decode cX11_shown 65 = .ok (.bipush 8, 2) := by decide +kernel
theorem dX11_shown_67 : decode cX11_shown 67 = .ok (.iload_n 1, 1) := by decide +kernel
theorem dX11_shown_68 : decode cX11_shown 68 = .ok (.iadd, 1) := by decide +kernel
theorem dX11_shown_69 : decode cX11_shown 69 = .ok (.iaload, 1) := by decide +kernel
theorem dX11_shown_70 : decode cX11_shown 70 = .ok (.tableswitch 124 0 4 #[34, 36, 62, 77, 102], 34) := by decide +kernel
theorem dX11_shown_104 : decode cX11_shown 104 = .ok (.lconst 1, 1) := by decide +kernel
theorem dX11_shown_105 : decode cX11_shown 105 = .ok (.lreturn, 1) := by decide +kernel
theorem dX11_shown_106 : decode cX11_shown 106 = .ok (.iload 8, 2) := by decide +kernel
theorem dX11_shown_108 : decode cX11_shown 108 = .ok (.ifCond .ne 9, 3) := by decide +kernel
theorem dX11_shown_111 : decode cX11_shown 111 = .ok (.iload 7, 2) := by decide +kernel
theorem dX11_shown_113 : decode cX11_shown 113 = .ok (.i2l, 1) := by decide +kernel
theorem dX11_shown_114 : decode cX11_shown 114 = .ok (.goto 17, 3) := by decide +kernel
theorem dX11_shown_117 : decode cX11_shown 117 = .ok (.iload 8, 2) := by decide +kernel
theorem dX11_shown_119 : decode cX11_shown 119 = .ok (.iconst 2, 1) := by decide +kernel
theorem dX11_shown_120 : decode cX11_shown 120 = .ok (.if_icmp .ne 10, 3) := by decide +kernel
theorem dX11_shown_123 : decode cX11_shown 123 = .ok (.iload 7, 2) := by decide +kernel
theorem dX11_shown_125 : decode cX11_shown 125 = .ok (.ineg, 1) := by decide +kernel
theorem dX11_shown_126 : decode cX11_shown 126 = .ok (.i2l, 1) := by decide +kernel
theorem dX11_shown_127 : decode cX11_shown 127 = .ok (.goto 4, 3) := by decide +kernel
theorem dX11_shown_130 : decode cX11_shown 130 = .ok (.lconst 0, 1) := by decide +kernel
theorem dX11_shown_131 : decode cX11_shown 131 = .ok (.lreturn, 1) := by decide +kernel
theorem dX11_shown_132 : decode cX11_shown 132 = .ok (.iload 4, 2) := by decide +kernel
theorem dX11_shown_134 : decode cX11_shown 134 = .ok (.ifCond .ne 9, 3) := by decide +kernel
theorem dX11_shown_137 : decode cX11_shown 137 = .ok (.iload 6, 2) := by decide +kernel
theorem dX11_shown_139 : decode cX11_shown 139 = .ok (.i2l, 1) := by decide +kernel
theorem dX11_shown_140 : decode cX11_shown 140 = .ok (.goto 6, 3) := by decide +kernel
theorem dX11_shown_143 : decode cX11_shown 143 = .ok (.iload 7, 2) := by decide +kernel
theorem dX11_shown_145 : decode cX11_shown 145 = .ok (.i2l, 1) := by decide +kernel
theorem dX11_shown_146 : decode cX11_shown 146 = .ok (.lreturn, 1) := by decide +kernel
theorem dX11_shown_147 : decode cX11_shown 147 = .ok (.iload 4, 2) := by decide +kernel
theorem dX11_shown_149 : decode cX11_shown 149 = .ok (.ifCond .ne 8, 3) := by decide +kernel
theorem dX11_shown_152 : decode cX11_shown 152 = .ok (.iload 6, 2) := by decide +kernel
theorem dX11_shown_154 : decode cX11_shown 154 = .ok (.goto 5, 3) := by decide +kernel
theorem dX11_shown_157 : decode cX11_shown 157 = .ok (.iload 7, 2) := by decide +kernel
theorem dX11_shown_159 : decode cX11_shown 159 = .ok (.iload 5, 2) := by decide +kernel
theorem dX11_shown_161 : decode cX11_shown 161 = .ok (.ifCond .ne 7, 3) := by decide +kernel
theorem dX11_shown_164 : decode cX11_shown 164 = .ok (.iconst 1, 1) := by decide +kernel
theorem dX11_shown_165 : decode cX11_shown 165 = .ok (.goto 4, 3) := by decide +kernel
theorem dX11_shown_168 : decode cX11_shown 168 = .ok (.iconst 0, 1) := by decide +kernel
theorem dX11_shown_169 : decode cX11_shown 169 = .ok (.iadd, 1) := by decide +kernel
theorem dX11_shown_170 : decode cX11_shown 170 = .ok (.i2l, 1) := by decide +kernel
theorem dX11_shown_171 : decode cX11_shown 171 = .ok (.lreturn, 1) := by decide +kernel
theorem dX11_shown_172 : decode cX11_shown 172 = .ok (.iload 6, 2) := by decide +kernel
theorem dX11_shown_174 : decode cX11_shown 174 = .ok (.iload 5, 2) := by decide +kernel
theorem dX11_shown_176 : decode cX11_shown 176 = .ok (.iconst 1, 1) := by decide +kernel
theorem dX11_shown_177 : decode cX11_shown 177 = .ok (.isub, 1) := by decide +kernel
theorem dX11_shown_178 : decode cX11_shown 178 = .ok (.imul, 1) := by decide +kernel
theorem dX11_shown_179 : decode cX11_shown 179 = .ok (.iload 5, 2) := by decide +kernel
theorem dX11_shown_181 : decode cX11_shown 181 = .ok (.iconst 1, 1) := by decide +kernel
theorem dX11_shown_182 : decode cX11_shown 182 = .ok (.if_icmp .ne 8, 3) := by decide +kernel
theorem dX11_shown_185 : decode cX11_shown 185 = .ok (.iload 7, 2) := by decide +kernel
theorem dX11_shown_187 : decode cX11_shown 187 = .ok (.goto 4, 3) := by decide +kernel
theorem dX11_shown_190 : decode cX11_shown 190 = .ok (.iconst 0, 1) := by decide +kernel
theorem dX11_shown_191 : decode cX11_shown 191 = .ok (.iadd, 1) := by decide +kernel
theorem dX11_shown_192 : decode cX11_shown 192 = .ok (.i2l, 1) := by decide +kernel
theorem dX11_shown_193 : decode cX11_shown 193 = .ok (.lreturn, 1) := by decide +kernel
theorem dX11_shown_194 : decode cX11_shown 194 = .ok (.iload 8, 2) := by decide +kernel
theorem dX11_shown_196 : decode cX11_shown 196 = .ok (.ifCond .ne 9, 3) := by decide +kernel
theorem dX11_shown_199 : decode cX11_shown 199 = .ok (.iload 7, 2) := by decide +kernel
theorem dX11_shown_201 : decode cX11_shown 201 = .ok (.i2l, 1) := by decide +kernel
theorem dX11_shown_202 : decode cX11_shown 202 = .ok (.goto 26, 3) := by decide +kernel
theorem dX11_shown_205 : decode cX11_shown 205 = .ok (.iload 8, 2) := by decide +kernel
theorem dX11_shown_207 : decode cX11_shown 207 = .ok (.iconst 2, 1) := by decide +kernel
theorem dX11_shown_208 : decode cX11_shown 208 = .ok (.if_icmp .ne 10, 3) := by decide +kernel
theorem dX11_shown_211 : decode cX11_shown 211 = .ok (.iload 7, 2) := by decide +kernel
theorem dX11_shown_213 : decode cX11_shown 213 = .ok (.ineg, 1) := by decide +kernel
theorem dX11_shown_214 : decode cX11_shown 214 = .ok (.i2l, 1) := by decide +kernel
theorem dX11_shown_215 : decode cX11_shown 215 = .ok (.goto 13, 3) := by decide +kernel
theorem dX11_shown_218 : decode cX11_shown 218 = .ok (.iload 8, 2) := by decide +kernel
theorem dX11_shown_220 : decode cX11_shown 220 = .ok (.ifCond .ge 7, 3) := by decide +kernel
theorem dX11_shown_223 : decode cX11_shown 223 = .ok (.lconst 0, 1) := by decide +kernel
theorem dX11_shown_224 : decode cX11_shown 224 = .ok (.goto 4, 3) := by decide +kernel
theorem dX11_shown_227 : decode cX11_shown 227 = .ok (.lconst 1, 1) := by decide +kernel
theorem dX11_shown_228 : decode cX11_shown 228 = .ok (.lreturn, 1) := by decide +kernel
theorem dX11_shows_0 : decode cX11_shows 0 = .ok (.aload_n 0, 1) := by decide +kernel
theorem dX11_shows_1 : decode cX11_shows 1 = .ok (.iload_n 1, 1) := by decide +kernel
theorem dX11_shows_2 : decode cX11_shows 2 = .ok (.invokevirtual 74, 3) := by decide +kernel
theorem dX11_shows_5 : decode cX11_shows 5 = .ok (.ifCond .eq 19, 3) := by decide +kernel
theorem dX11_shows_8 : decode cX11_shows 8 = .ok (.iload_n 2, 1) := by decide +kernel
theorem dX11_shows_9 : decode cX11_shows 9 = .ok (.invokestatic 78, 3) := by decide +kernel
theorem dX11_shows_12 : decode cX11_shows 12 = .ok (.ifCond .eq 12, 3) := by decide +kernel
theorem dX11_shows_15 : decode cX11_shows 15 = .ok (.aload_n 0, 1) := by decide +kernel
theorem dX11_shows_16 : decode cX11_shows 16 = .ok (.iload_n 1, 1) := by decide +kernel
theorem dX11_shows_17 : decode cX11_shows 17 = .ok (.iload_n 2, 1) := by decide +kernel
theorem dX11_shows_18 : decode cX11_shows 18 = .ok (.invokevirtual 81, 3) := by decide +kernel
theorem dX11_shows_21 : decode cX11_shows 21 = .ok (.goto 10, 3) := by decide +kernel
theorem dX11_shows_24 : decode cX11_shows 24 = .ok (.aload_n 0, 1) := by decide +kernel
theorem dX11_shows_25 : decode cX11_shows 25 = .ok (.ldc2_w 62, 3) := by decide +kernel
theorem dX11_shows_28 : decode cX11_shows 28 = .ok (.invokevirtual 64, 3) := by decide +kernel
theorem dX11_shows_31 : decode cX11_shows 31 = .ok (.lreturn, 1) := by decide +kernel
theorem dX11_as_0 : decode cX11_as 0 = .ok (.aload_n 0, 1) := by decide +kernel
theorem dX11_as_1 : decode cX11_as 1 = .ok (.iload_n 1, 1) := by decide +kernel
theorem dX11_as_2 : decode cX11_as 2 = .ok (.invokevirtual 74, 3) := by decide +kernel
theorem dX11_as_5 : decode cX11_as 5 = .ok (.ifCond .eq 12, 3) := by decide +kernel
theorem dX11_as_8 : decode cX11_as 8 = .ok (.iload_n 2, 1) := by decide +kernel
theorem dX11_as_9 : decode cX11_as 9 = .ok (.iconst 0, 1) := by decide +kernel
theorem dX11_as_10 : decode cX11_as 10 = .ok (.iconst 5, 1) := by decide +kernel
theorem dX11_as_11 : decode cX11_as 11 = .ok (.invokestatic 58, 3) := by decide +kernel
theorem dX11_as_14 : decode cX11_as 14 = .ok (.ifCond .ne 11, 3) := by decide +kernel
theorem dX11_as_17 : decode cX11_as 17 = .ok (.aload_n 0, 1) := by decide +kernel
theorem dX11_as_18 : decode cX11_as 18 = .ok (.ldc2_w 62, 3) := by decide +kernel
theorem dX11_as_21 : decode cX11_as 21 = .ok (.invokevirtual 64, 3) := by decide +kernel
theorem dX11_as_24 : decode cX11_as 24 = .ok (.lreturn, 1) := by decide +kernel
theorem dX11_as_25 : decode cX11_as 25 = .ok (.aload_n 0, 1) := by decide +kernel
theorem dX11_as_26 : decode cX11_as 26 = .ok (.getfield 9, 3) := by decide +kernel
theorem dX11_as_29 : decode cX11_as 29 = .ok (.bipush 8, 2) := by decide +kernel
theorem dX11_as_31 : decode cX11_as 31 = .ok (.iload_n 1, 1) := by decide +kernel
theorem dX11_as_32 : decode cX11_as 32 = .ok (.iadd, 1) := by decide +kernel
theorem dX11_as_33 : decode cX11_as 33 = .ok (.iaload, 1) := by decide +kernel
theorem dX11_as_34 : decode cX11_as 34 = .ok (.istore_n 3, 1) := by decide +kernel
theorem dX11_as_35 : decode cX11_as 35 = .ok (.iload_n 2, 1) := by decide +kernel
theorem dX11_as_36 : decode cX11_as 36 = .ok (.ifCond .eq 28, 3) := by decide +kernel
theorem dX11_as_39 : decode cX11_as 39 = .ok (.iload_n 3, 1) := by decide +kernel
theorem dX11_as_40 : decode cX11_as 40 = .ok (.iload_n 2, 1) := by decide +kernel
theorem dX11_as_41 : decode cX11_as 41 = .ok (.if_icmp .eq 23, 3) := by decide +kernel
theorem dX11_as_44 : decode cX11_as 44 = .ok (.iload_n 3, 1) := by decide +kernel
theorem dX11_as_45 : decode cX11_as 45 = .ok (.iconst 5, 1) := by decide +kernel
theorem dX11_as_46 : decode cX11_as 46 = .ok (.if_icmp .ne 8, 3) := by decide +kernel
theorem dX11_as_49 : decode cX11_as 49 = .ok (.iload_n 2, 1) := by decide +kernel
theorem dX11_as_50 : decode cX11_as 50 = .ok (.iconst 1, 1) := by decide +kernel
theorem dX11_as_51 : decode cX11_as 51 = .ok (.if_icmp .eq 13, 3) := by decide +kernel
theorem dX11_as_54 : decode cX11_as 54 = .ok (.iload_n 3, 1) := by decide +kernel
theorem dX11_as_55 : decode cX11_as 55 = .ok (.iconst 3, 1) := by decide +kernel
theorem dX11_as_56 : decode cX11_as 56 = .ok (.if_icmp .ne 12, 3) := by decide +kernel
theorem dX11_as_59 : decode cX11_as 59 = .ok (.iload_n 2, 1) := by decide +kernel
theorem dX11_as_60 : decode cX11_as 60 = .ok (.iconst 2, 1) := by decide +kernel
theorem dX11_as_61 : decode cX11_as 61 = .ok (.if_icmp .ne 7, 3) := by decide +kernel
theorem dX11_as_64 : decode cX11_as 64 = .ok (.iconst 1, 1) := by decide +kernel
theorem dX11_as_65 : decode cX11_as 65 = .ok (.goto 4, 3) := by decide +kernel
theorem dX11_as_68 : decode cX11_as 68 = .ok (.iconst 0, 1) := by decide +kernel
theorem dX11_as_69 : decode cX11_as 69 = .ok (.istore 4, 2) := by decide +kernel
theorem dX11_as_71 : decode cX11_as 71 = .ok (.iload 4, 2) := by decide +kernel
theorem dX11_as_73 : decode cX11_as 73 = .ok (.ifCond .eq 16, 3) := by decide +kernel
theorem dX11_as_76 : decode cX11_as 76 = .ok (.aload_n 0, 1) := by decide +kernel
theorem dX11_as_77 : decode cX11_as 77 = .ok (.getfield 9, 3) := by decide +kernel
theorem dX11_as_80 : decode cX11_as 80 = .ok (.bipush 16, 2) := by decide +kernel
theorem dX11_as_82 : decode cX11_as 82 = .ok (.iload_n 1, 1) := by decide +kernel
theorem dX11_as_83 : decode cX11_as 83 = .ok (.iadd, 1) := by decide +kernel
theorem dX11_as_84 : decode cX11_as 84 = .ok (.iaload, 1) := by decide +kernel
theorem dX11_as_85 : decode cX11_as 85 = .ok (.i2l, 1) := by decide +kernel
theorem dX11_as_86 : decode cX11_as 86 = .ok (.goto 10, 3) := by decide +kernel
theorem dX11_as_89 : decode cX11_as 89 = .ok (.aload_n 0, 1) := by decide +kernel
theorem dX11_as_90 : decode cX11_as 90 = .ok (.ldc2_w 85, 3) := by decide +kernel
theorem dX11_as_93 : decode cX11_as 93 = .ok (.invokevirtual 64, 3) := by decide +kernel
theorem dX11_as_96 : decode cX11_as 96 = .ok (.lreturn, 1) := by decide +kernel
theorem dX11_addReading_0 : decode cX11_addReading 0 = .ok (.aload_n 0, 1) := by decide +kernel
theorem dX11_addReading_1 : decode cX11_addReading 1 = .ok (.getfield 9, 3) := by decide +kernel
theorem dX11_addReading_4 : decode cX11_addReading 4 = .ok (.iconst 1, 1) := by decide +kernel
theorem dX11_addReading_5 : decode cX11_addReading 5 = .ok (.iaload, 1) := by decide +kernel
theorem dX11_addReading_6 : decode cX11_addReading 6 = .ok (.istore_n 3, 1) := by decide +kernel
theorem dX11_addReading_7 : decode cX11_addReading 7 = .ok (.aload_n 0, 1) := by decide +kernel
theorem dX11_addReading_8 : decode cX11_addReading 8 = .ok (.getfield 9, 3) := by decide +kernel
theorem dX11_addReading_11 : decode cX11_addReading 11 = .ok (.bipush 32, 2) := by decide +kernel
theorem dX11_addReading_13 : decode cX11_addReading 13 = .ok (.iload_n 3, 1) := by decide +kernel
theorem dX11_addReading_14 : decode cX11_addReading 14 = .ok (.iadd, 1) := by decide +kernel
theorem dX11_addReading_15 : decode cX11_addReading 15 = .ok (.iload_n 1, 1) := by decide +kernel
theorem dX11_addReading_16 : decode cX11_addReading 16 = .ok (.iastore, 1) := by decide +kernel
theorem dX11_addReading_17 : decode cX11_addReading 17 = .ok (.aload_n 0, 1) := by decide +kernel
theorem dX11_addReading_18 : decode cX11_addReading 18 = .ok (.getfield 9, 3) := by decide +kernel
theorem dX11_addReading_21 : decode cX11_addReading 21 = .ok (.bipush 52, 2) := by decide +kernel
theorem dX11_addReading_23 : decode cX11_addReading 23 = .ok (.iload_n 3, 1) := by decide +kernel
theorem dX11_addReading_24 : decode cX11_addReading 24 = .ok (.iadd, 1) := by decide +kernel
theorem dX11_addReading_25 : decode cX11_addReading 25 = .ok (.iload_n 2, 1) := by decide +kernel
theorem dX11_addReading_26 : decode cX11_addReading 26 = .ok (.iastore, 1) := by decide +kernel
theorem dX11_addReading_27 : decode cX11_addReading 27 = .ok (.aload_n 0, 1) := by decide +kernel
theorem dX11_addReading_28 : decode cX11_addReading 28 = .ok (.getfield 9, 3) := by decide +kernel
theorem dX11_addReading_31 : decode cX11_addReading 31 = .ok (.iconst 1, 1) := by decide +kernel
theorem dX11_addReading_32 : decode cX11_addReading 32 = .ok (.dup2, 1) := by decide +kernel
theorem dX11_addReading_33 : decode cX11_addReading 33 = .ok (.iaload, 1) := by decide +kernel
theorem dX11_addReading_34 : decode cX11_addReading 34 = .ok (.iconst 1, 1) := by decide +kernel
theorem dX11_addReading_35 : decode cX11_addReading 35 = .ok (.iadd, 1) := by decide +kernel
theorem dX11_addReading_36 : decode cX11_addReading 36 = .ok (.iastore, 1) := by decide +kernel
theorem dX11_addReading_37 : decode cX11_addReading 37 = .ok (.return_, 1) := by decide +kernel
theorem dX11_read_0 : decode cX11_read 0 = .ok (.iload_n 1, 1) := by decide +kernel
theorem dX11_read_1 : decode cX11_read 1 = .ok (.invokestatic 78, 3) := by decide +kernel
theorem dX11_read_4 : decode cX11_read 4 = .ok (.ifCond .eq 16, 3) := by decide +kernel
theorem dX11_read_7 : decode cX11_read 7 = .ok (.iload_n 2, 1) := by decide +kernel
theorem dX11_read_8 : decode cX11_read 8 = .ok (.sipush (-300), 3) := by decide +kernel
theorem dX11_read_11 : decode cX11_read 11 = .ok (.sipush 300, 3) := by decide +kernel
theorem dX11_read_14 : decode cX11_read 14 = .ok (.invokestatic 58, 3) := by decide +kernel
theorem dX11_read_17 : decode cX11_read 17 = .ok (.ifCond .ne 11, 3) := by decide +kernel
theorem dX11_read_20 : decode cX11_read 20 = .ok (.aload_n 0, 1) := by decide +kernel
theorem dX11_read_21 : decode cX11_read 21 = .ok (.ldc2_w 62, 3) := by decide +kernel
theorem dX11_read_24 : decode cX11_read 24 = .ok (.invokevirtual 64, 3) := by decide +kernel
theorem dX11_read_27 : decode cX11_read 27 = .ok (.lreturn, 1) := by decide +kernel
theorem dX11_read_28 : decode cX11_read 28 = .ok (.aload_n 0, 1) := by decide +kernel
theorem dX11_read_29 : decode cX11_read 29 = .ok (.getfield 9, 3) := by decide +kernel
theorem dX11_read_32 : decode cX11_read 32 = .ok (.iconst 1, 1) := by decide +kernel
theorem dX11_read_33 : decode cX11_read 33 = .ok (.iaload, 1) := by decide +kernel
theorem dX11_read_34 : decode cX11_read 34 = .ok (.bipush 20, 2) := by decide +kernel
theorem dX11_read_36 : decode cX11_read 36 = .ok (.if_icmp .ne 11, 3) := by decide +kernel
theorem dX11_read_39 : decode cX11_read 39 = .ok (.aload_n 0, 1) := by decide +kernel
theorem dX11_read_40 : decode cX11_read 40 = .ok (.ldc2_w 68, 3) := by decide +kernel
theorem dX11_read_43 : decode cX11_read 43 = .ok (.invokevirtual 64, 3) := by decide +kernel
theorem dX11_read_46 : decode cX11_read 46 = .ok (.lreturn, 1) := by decide +kernel
theorem dX11_read_47 : decode cX11_read 47 = .ok (.aload_n 0, 1) := by decide +kernel
theorem dX11_read_48 : decode cX11_read 48 = .ok (.iload_n 1, 1) := by decide +kernel
theorem dX11_read_49 : decode cX11_read 49 = .ok (.iload_n 2, 1) := by decide +kernel
theorem dX11_read_50 : decode cX11_read 50 = .ok (.invokevirtual 87, 3) := by decide +kernel
theorem dX11_read_53 : decode cX11_read 53 = .ok (.aload_n 0, 1) := by decide +kernel
theorem dX11_read_54 : decode cX11_read 54 = .ok (.iconst 1, 1) := by decide +kernel
theorem dX11_read_55 : decode cX11_read 55 = .ok (.putfield 70, 3) := by decide +kernel
theorem dX11_read_58 : decode cX11_read 58 = .ok (.aload_n 0, 1) := by decide +kernel
theorem dX11_read_59 : decode cX11_read 59 = .ok (.getfield 9, 3) := by decide +kernel
theorem dX11_read_62 : decode cX11_read 62 = .ok (.iconst 1, 1) := by decide +kernel
theorem dX11_read_63 : decode cX11_read 63 = .ok (.iaload, 1) := by decide +kernel
theorem dX11_read_64 : decode cX11_read 64 = .ok (.iconst 1, 1) := by decide +kernel
theorem dX11_read_65 : decode cX11_read 65 = .ok (.isub, 1) := by decide +kernel
theorem dX11_read_66 : decode cX11_read 66 = .ok (.i2l, 1) := by decide +kernel
theorem dX11_read_67 : decode cX11_read 67 = .ok (.lreturn, 1) := by decide +kernel
theorem dX11_isReading_0 : decode cX11_isReading 0 = .ok (.iload_n 1, 1) := by decide +kernel
theorem dX11_isReading_1 : decode cX11_isReading 1 = .ok (.iconst 0, 1) := by decide +kernel
theorem dX11_isReading_2 : decode cX11_isReading 2 = .ok (.aload_n 0, 1) := by decide +kernel
theorem dX11_isReading_3 : decode cX11_isReading 3 = .ok (.getfield 9, 3) := by decide +kernel
theorem dX11_isReading_6 : decode cX11_isReading 6 = .ok (.iconst 1, 1) := by decide +kernel
theorem dX11_isReading_7 : decode cX11_isReading 7 = .ok (.iaload, 1) := by decide +kernel
theorem dX11_isReading_8 : decode cX11_isReading 8 = .ok (.iconst 1, 1) := by decide +kernel
theorem dX11_isReading_9 : decode cX11_isReading 9 = .ok (.isub, 1) := by decide +kernel
theorem dX11_isReading_10 : decode cX11_isReading 10 = .ok (.invokestatic 58, 3) := by decide +kernel
theorem dX11_isReading_13 : decode cX11_isReading 13 = .ok (.ireturn, 1) := by decide +kernel
theorem dX11_drop_0 : decode cX11_drop 0 = .ok (.aload_n 0, 1) := by decide +kernel
theorem dX11_drop_1 : decode cX11_drop 1 = .ok (.iload_n 1, 1) := by decide +kernel
theorem dX11_drop_2 : decode cX11_drop 2 = .ok (.invokevirtual 91, 3) := by decide +kernel
theorem dX11_drop_5 : decode cX11_drop 5 = .ok (.ifCond .ne 11, 3) := by decide +kernel
theorem dX11_drop_8 : decode cX11_drop 8 = .ok (.aload_n 0, 1) := by decide +kernel
theorem dX11_drop_9 : decode cX11_drop 9 = .ok (.ldc2_w 62, 3) := by decide +kernel
theorem dX11_drop_12 : decode cX11_drop 12 = .ok (.invokevirtual 64, 3) := by decide +kernel
theorem dX11_drop_15 : decode cX11_drop 15 = .ok (.lreturn, 1) := by decide +kernel
theorem dX11_drop_16 : decode cX11_drop 16 = .ok (.aload_n 0, 1) := by decide +kernel
theorem dX11_drop_17 : decode cX11_drop 17 = .ok (.getfield 9, 3) := by decide +kernel
theorem dX11_drop_20 : decode cX11_drop 20 = .ok (.iconst 1, 1) := by decide +kernel
theorem dX11_drop_21 : decode cX11_drop 21 = .ok (.dup2, 1) := by decide +kernel
theorem dX11_drop_22 : decode cX11_drop 22 = .ok (.iaload, 1) := by decide +kernel
theorem dX11_drop_23 : decode cX11_drop 23 = .ok (.iconst 1, 1) := by decide +kernel
theorem dX11_drop_24 : decode cX11_drop 24 = .ok (.isub, 1) := by decide +kernel
theorem dX11_drop_25 : decode cX11_drop 25 = .ok (.iastore, 1) := by decide +kernel
theorem dX11_drop_26 : decode cX11_drop 26 = .ok (.iload_n 1, 1) := by decide +kernel
theorem dX11_drop_27 : decode cX11_drop 27 = .ok (.istore_n 2, 1) := by decide +kernel
theorem dX11_drop_28 : decode cX11_drop 28 = .ok (.iload_n 2, 1) := by decide +kernel
theorem dX11_drop_29 : decode cX11_drop 29 = .ok (.aload_n 0, 1) := by decide +kernel
theorem dX11_drop_30 : decode cX11_drop 30 = .ok (.getfield 9, 3) := by decide +kernel
theorem dX11_drop_33 : decode cX11_drop 33 = .ok (.iconst 1, 1) := by decide +kernel
theorem dX11_drop_34 : decode cX11_drop 34 = .ok (.iaload, 1) := by decide +kernel
theorem dX11_drop_35 : decode cX11_drop 35 = .ok (.if_icmp .ge 49, 3) := by decide +kernel
theorem dX11_drop_38 : decode cX11_drop 38 = .ok (.aload_n 0, 1) := by decide +kernel
theorem dX11_drop_39 : decode cX11_drop 39 = .ok (.getfield 9, 3) := by decide +kernel
theorem dX11_drop_42 : decode cX11_drop 42 = .ok (.bipush 32, 2) := by decide +kernel
theorem dX11_drop_44 : decode cX11_drop 44 = .ok (.iload_n 2, 1) := by decide +kernel
theorem dX11_drop_45 : decode cX11_drop 45 = .ok (.iadd, 1) := by decide +kernel
theorem dX11_drop_46 : decode cX11_drop 46 = .ok (.aload_n 0, 1) := by decide +kernel
theorem dX11_drop_47 : decode cX11_drop 47 = .ok (.getfield 9, 3) := by decide +kernel
theorem dX11_drop_50 : decode cX11_drop 50 = .ok (.bipush 32, 2) := by decide +kernel
theorem dX11_drop_52 : decode cX11_drop 52 = .ok (.iload_n 2, 1) := by decide +kernel
theorem dX11_drop_53 : decode cX11_drop 53 = .ok (.iadd, 1) := by decide +kernel
theorem dX11_drop_54 : decode cX11_drop 54 = .ok (.iconst 1, 1) := by decide +kernel
theorem dX11_drop_55 : decode cX11_drop 55 = .ok (.iadd, 1) := by decide +kernel
theorem dX11_drop_56 : decode cX11_drop 56 = .ok (.iaload, 1) := by decide +kernel
theorem dX11_drop_57 : decode cX11_drop 57 = .ok (.iastore, 1) := by decide +kernel
theorem dX11_drop_58 : decode cX11_drop 58 = .ok (.aload_n 0, 1) := by decide +kernel
theorem dX11_drop_59 : decode cX11_drop 59 = .ok (.getfield 9, 3) := by decide +kernel
theorem dX11_drop_62 : decode cX11_drop 62 = .ok (.bipush 52, 2) := by decide +kernel
theorem dX11_drop_64 : decode cX11_drop 64 = .ok (.iload_n 2, 1) := by decide +kernel
theorem dX11_drop_65 : decode cX11_drop 65 = .ok (.iadd, 1) := by decide +kernel
theorem dX11_drop_66 : decode cX11_drop 66 = .ok (.aload_n 0, 1) := by decide +kernel
theorem dX11_drop_67 : decode cX11_drop 67 = .ok (.getfield 9, 3) := by decide +kernel
theorem dX11_drop_70 : decode cX11_drop 70 = .ok (.bipush 52, 2) := by decide +kernel
theorem dX11_drop_72 : decode cX11_drop 72 = .ok (.iload_n 2, 1) := by decide +kernel
theorem dX11_drop_73 : decode cX11_drop 73 = .ok (.iadd, 1) := by decide +kernel
theorem dX11_drop_74 : decode cX11_drop 74 = .ok (.iconst 1, 1) := by decide +kernel
theorem dX11_drop_75 : decode cX11_drop 75 = .ok (.iadd, 1) := by decide +kernel
theorem dX11_drop_76 : decode cX11_drop 76 = .ok (.iaload, 1) := by decide +kernel
theorem dX11_drop_77 : decode cX11_drop 77 = .ok (.iastore, 1) := by decide +kernel
theorem dX11_drop_78 : decode cX11_drop 78 = .ok (.iinc 2 1, 3) := by decide +kernel
theorem dX11_drop_81 : decode cX11_drop 81 = .ok (.goto (-53), 3) := by decide +kernel
theorem dX11_drop_84 : decode cX11_drop 84 = .ok (.aload_n 0, 1) := by decide +kernel
theorem dX11_drop_85 : decode cX11_drop 85 = .ok (.iconst 1, 1) := by decide +kernel
theorem dX11_drop_86 : decode cX11_drop 86 = .ok (.putfield 70, 3) := by decide +kernel
theorem dX11_drop_89 : decode cX11_drop 89 = .ok (.aload_n 0, 1) := by decide +kernel
theorem dX11_drop_90 : decode cX11_drop 90 = .ok (.getfield 9, 3) := by decide +kernel
theorem dX11_drop_93 : decode cX11_drop 93 = .ok (.iconst 1, 1) := by decide +kernel
theorem dX11_drop_94 : decode cX11_drop 94 = .ok (.iaload, 1) := by decide +kernel
theorem dX11_drop_95 : decode cX11_drop 95 = .ok (.i2l, 1) := by decide +kernel
theorem dX11_drop_96 : decode cX11_drop 96 = .ok (.lreturn, 1) := by decide +kernel
theorem dX11_reading_0 : decode cX11_reading 0 = .ok (.aload_n 0, 1) := by decide +kernel
theorem dX11_reading_1 : decode cX11_reading 1 = .ok (.iload_n 1, 1) := by decide +kernel
theorem dX11_reading_2 : decode cX11_reading 2 = .ok (.invokevirtual 91, 3) := by decide +kernel
theorem dX11_reading_5 : decode cX11_reading 5 = .ok (.ifCond .eq 12, 3) := by decide +kernel
theorem dX11_reading_8 : decode cX11_reading 8 = .ok (.iload_n 2, 1) := by decide +kernel
theorem dX11_reading_9 : decode cX11_reading 9 = .ok (.iconst 0, 1) := by decide +kernel
theorem dX11_reading_10 : decode cX11_reading 10 = .ok (.iconst 1, 1) := by decide +kernel
theorem dX11_reading_11 : decode cX11_reading 11 = .ok (.invokestatic 58, 3) := by decide +kernel
theorem dX11_reading_14 : decode cX11_reading 14 = .ok (.ifCond .ne 11, 3) := by decide +kernel
theorem dX11_reading_17 : decode cX11_reading 17 = .ok (.aload_n 0, 1) := by decide +kernel
theorem dX11_reading_18 : decode cX11_reading 18 = .ok (.ldc2_w 62, 3) := by decide +kernel
theorem dX11_reading_21 : decode cX11_reading 21 = .ok (.invokevirtual 64, 3) := by decide +kernel
theorem dX11_reading_24 : decode cX11_reading 24 = .ok (.lreturn, 1) := by decide +kernel
theorem dX11_reading_25 : decode cX11_reading 25 = .ok (.iload_n 2, 1) := by decide +kernel
theorem dX11_reading_26 : decode cX11_reading 26 = .ok (.ifCond .ne 16, 3) := by decide +kernel
theorem dX11_reading_29 : decode cX11_reading 29 = .ok (.aload_n 0, 1) := by decide +kernel
theorem dX11_reading_30 : decode cX11_reading 30 = .ok (.getfield 9, 3) := by decide +kernel
theorem dX11_reading_33 : decode cX11_reading 33 = .ok (.bipush 32, 2) := by decide +kernel
theorem dX11_reading_35 : decode cX11_reading 35 = .ok (.iload_n 1, 1) := by decide +kernel
theorem dX11_reading_36 : decode cX11_reading 36 = .ok (.iadd, 1) := by decide +kernel
theorem dX11_reading_37 : decode cX11_reading 37 = .ok (.iaload, 1) := by decide +kernel
theorem dX11_reading_38 : decode cX11_reading 38 = .ok (.i2l, 1) := by decide +kernel
theorem dX11_reading_39 : decode cX11_reading 39 = .ok (.goto 13, 3) := by decide +kernel
theorem dX11_reading_42 : decode cX11_reading 42 = .ok (.aload_n 0, 1) := by decide +kernel
theorem dX11_reading_43 : decode cX11_reading 43 = .ok (.getfield 9, 3) := by decide +kernel
theorem dX11_reading_46 : decode cX11_reading 46 = .ok (.bipush 52, 2) := by decide +kernel
theorem dX11_reading_48 : decode cX11_reading 48 = .ok (.iload_n 1, 1) := by decide +kernel
theorem dX11_reading_49 : decode cX11_reading 49 = .ok (.iadd, 1) := by decide +kernel
theorem dX11_reading_50 : decode cX11_reading 50 = .ok (.iaload, 1) := by decide +kernel
theorem dX11_reading_51 : decode cX11_reading 51 = .ok (.i2l, 1) := by decide +kernel
theorem dX11_reading_52 : decode cX11_reading 52 = .ok (.lreturn, 1) := by decide +kernel
theorem dX11_sheet_0 : decode cX11_sheet 0 = .ok (.iload_n 1, 1) := by decide +kernel
theorem dX11_sheet_1 : decode cX11_sheet 1 = .ok (.iconst 0, 1) := by decide +kernel
theorem dX11_sheet_2 : decode cX11_sheet 2 = .ok (.iconst 2, 1) := by decide +kernel
theorem dX11_sheet_3 : decode cX11_sheet 3 = .ok (.invokestatic 58, 3) := by decide +kernel
theorem dX11_sheet_6 : decode cX11_sheet 6 = .ok (.ifCond .ne 11, 3) := by decide +kernel
theorem dX11_sheet_9 : decode cX11_sheet 9 = .ok (.aload_n 0, 1) := by decide +kernel
theorem dX11_sheet_10 : decode cX11_sheet 10 = .ok (.ldc2_w 62, 3) := by decide +kernel
theorem dX11_sheet_13 : decode cX11_sheet 13 = .ok (.invokevirtual 64, 3) := by decide +kernel
theorem dX11_sheet_16 : decode cX11_sheet 16 = .ok (.lreturn, 1) := by decide +kernel
theorem dX11_sheet_17 : decode cX11_sheet 17 = .ok (.iload_n 2, 1) := by decide +kernel
theorem dX11_sheet_18 : decode cX11_sheet 18 = .ok (.iconst (-1), 1) := by decide +kernel
theorem dX11_sheet_19 : decode cX11_sheet 19 = .ok (.if_icmp .ge 11, 3) := by decide +kernel
theorem dX11_sheet_22 : decode cX11_sheet 22 = .ok (.aload_n 0, 1) := by decide +kernel
theorem dX11_sheet_23 : decode cX11_sheet 23 = .ok (.ldc2_w 94, 3) := by decide +kernel
theorem dX11_sheet_26 : decode cX11_sheet 26 = .ok (.invokevirtual 64, 3) := by decide +kernel
theorem dX11_sheet_29 : decode cX11_sheet 29 = .ok (.lreturn, 1) := by decide +kernel
theorem dX11_sheet_30 : decode cX11_sheet 30 = .ok (.iload_n 2, 1) := by decide +kernel
theorem dX11_sheet_31 : decode cX11_sheet 31 = .ok (.bipush 36, 2) := by decide +kernel
theorem dX11_sheet_33 : decode cX11_sheet 33 = .ok (.if_icmp .le 11, 3) := by decide +kernel
theorem dX11_sheet_36 : decode cX11_sheet 36 = .ok (.aload_n 0, 1) := by decide +kernel
theorem dX11_sheet_37 : decode cX11_sheet 37 = .ok (.ldc2_w 62, 3) := by decide +kernel
theorem dX11_sheet_40 : decode cX11_sheet 40 = .ok (.invokevirtual 64, 3) := by decide +kernel
theorem dX11_sheet_43 : decode cX11_sheet 43 = .ok (.lreturn, 1) := by decide +kernel
theorem dX11_sheet_44 : decode cX11_sheet 44 = .ok (.aload_n 0, 1) := by decide +kernel
theorem dX11_sheet_45 : decode cX11_sheet 45 = .ok (.getfield 19, 3) := by decide +kernel
theorem dX11_sheet_48 : decode cX11_sheet 48 = .ok (.iload_n 1, 1) := by decide +kernel
theorem dX11_sheet_49 : decode cX11_sheet 49 = .ok (.iload_n 2, 1) := by decide +kernel
theorem dX11_sheet_50 : decode cX11_sheet 50 = .ok (.iastore, 1) := by decide +kernel
theorem dX11_sheet_51 : decode cX11_sheet 51 = .ok (.iconst 0, 1) := by decide +kernel
theorem dX11_sheet_52 : decode cX11_sheet 52 = .ok (.istore_n 3, 1) := by decide +kernel
theorem dX11_sheet_53 : decode cX11_sheet 53 = .ok (.iload_n 3, 1) := by decide +kernel
theorem dX11_sheet_54 : decode cX11_sheet 54 = .ok (.iload_n 2, 1) := by decide +kernel
theorem dX11_sheet_55 : decode cX11_sheet 55 = .ok (.if_icmp .ge 23, 3) := by decide +kernel
theorem dX11_sheet_58 : decode cX11_sheet 58 = .ok (.aload_n 0, 1) := by decide +kernel
theorem dX11_sheet_59 : decode cX11_sheet 59 = .ok (.getfield 16, 3) := by decide +kernel
theorem dX11_sheet_62 : decode cX11_sheet 62 = .ok (.bipush 36, 2) := by decide +kernel
theorem dX11_sheet_64 : decode cX11_sheet 64 = .ok (.iload_n 1, 1) := by decide +kernel
theorem dX11_sheet_65 : decode cX11_sheet 65 = .ok (.imul, 1) := by decide +kernel
theorem dX11_sheet_66 : decode cX11_sheet 66 = .ok (.iload_n 3, 1) := by decide +kernel
theorem dX11_sheet_67 : decode cX11_sheet 67 = .ok (.iadd, 1) := by decide +kernel
theorem dX11_sheet_68 : decode cX11_sheet 68 = .ok (.sipush (-32768), 3) := by decide +kernel
theorem dX11_sheet_71 : decode cX11_sheet 71 = .ok (.iastore, 1) := by decide +kernel
theorem dX11_sheet_72 : decode cX11_sheet 72 = .ok (.iinc 3 1, 3) := by decide +kernel
theorem dX11_sheet_75 : decode cX11_sheet 75 = .ok (.goto (-22), 3) := by decide +kernel
theorem dX11_sheet_78 : decode cX11_sheet 78 = .ok (.iload_n 2, 1) := by decide +kernel
theorem dX11_sheet_79 : decode cX11_sheet 79 = .ok (.i2l, 1) := by decide +kernel
theorem dX11_sheet_80 : decode cX11_sheet 80 = .ok (.lreturn, 1) := by decide +kernel
theorem dX11_put_0 : decode cX11_put 0 = .ok (.iload_n 1, 1) := by decide +kernel
theorem dX11_put_1 : decode cX11_put 1 = .ok (.iconst 0, 1) := by decide +kernel
theorem dX11_put_2 : decode cX11_put 2 = .ok (.iconst 2, 1) := by decide +kernel
theorem dX11_put_3 : decode cX11_put 3 = .ok (.invokestatic 58, 3) := by decide +kernel
theorem dX11_put_6 : decode cX11_put 6 = .ok (.ifCond .ne 11, 3) := by decide +kernel
theorem dX11_put_9 : decode cX11_put 9 = .ok (.aload_n 0, 1) := by decide +kernel
theorem dX11_put_10 : decode cX11_put 10 = .ok (.ldc2_w 62, 3) := by decide +kernel
theorem dX11_put_13 : decode cX11_put 13 = .ok (.invokevirtual 64, 3) := by decide +kernel
theorem dX11_put_16 : decode cX11_put 16 = .ok (.lreturn, 1) := by decide +kernel
theorem dX11_put_17 : decode cX11_put 17 = .ok (.aload_n 0, 1) := by decide +kernel
theorem dX11_put_18 : decode cX11_put 18 = .ok (.getfield 19, 3) := by decide +kernel
theorem dX11_put_21 : decode cX11_put 21 = .ok (.iload_n 1, 1) := by decide +kernel
theorem dX11_put_22 : decode cX11_put 22 = .ok (.iaload, 1) := by decide +kernel
theorem dX11_put_23 : decode cX11_put 23 = .ok (.ifCond .ge 11, 3) := by decide +kernel
theorem dX11_put_26 : decode cX11_put 26 = .ok (.aload_n 0, 1) := by decide +kernel
theorem dX11_put_27 : decode cX11_put 27 = .ok (.ldc2_w 96, 3) := by decide +kernel
theorem dX11_put_30 : decode cX11_put 30 = .ok (.invokevirtual 64, 3) := by decide +kernel
theorem dX11_put_33 : decode cX11_put 33 = .ok (.lreturn, 1) := by decide +kernel
theorem dX11_put_34 : decode cX11_put 34 = .ok (.iload_n 2, 1) := by decide +kernel
theorem dX11_put_35 : decode cX11_put 35 = .ok (.iconst 0, 1) := by decide +kernel
theorem dX11_put_36 : decode cX11_put 36 = .ok (.aload_n 0, 1) := by decide +kernel
theorem dX11_put_37 : decode cX11_put 37 = .ok (.getfield 19, 3) := by decide +kernel
theorem dX11_put_40 : decode cX11_put 40 = .ok (.iload_n 1, 1) := by decide +kernel
theorem dX11_put_41 : decode cX11_put 41 = .ok (.iaload, 1) := by decide +kernel
theorem dX11_put_42 : decode cX11_put 42 = .ok (.iconst 1, 1) := by decide +kernel
theorem dX11_put_43 : decode cX11_put 43 = .ok (.isub, 1) := by decide +kernel
theorem dX11_put_44 : decode cX11_put 44 = .ok (.invokestatic 58, 3) := by decide +kernel
theorem dX11_put_47 : decode cX11_put 47 = .ok (.ifCond .ne 11, 3) := by decide +kernel
theorem dX11_put_50 : decode cX11_put 50 = .ok (.aload_n 0, 1) := by decide +kernel
theorem dX11_put_51 : decode cX11_put 51 = .ok (.ldc2_w 62, 3) := by decide +kernel
theorem dX11_put_54 : decode cX11_put 54 = .ok (.invokevirtual 64, 3) := by decide +kernel
theorem dX11_put_57 : decode cX11_put 57 = .ok (.lreturn, 1) := by decide +kernel
theorem dX11_put_58 : decode cX11_put 58 = .ok (.iload_n 3, 1) := by decide +kernel
theorem dX11_put_59 : decode cX11_put 59 = .ok (.ldc 98, 2) := by decide +kernel
theorem dX11_put_61 : decode cX11_put 61 = .ok (.iand, 1) := by decide +kernel
theorem dX11_put_62 : decode cX11_put 62 = .ok (.istore 4, 2) := by decide +kernel
theorem dX11_put_64 : decode cX11_put 64 = .ok (.aload_n 0, 1) := by decide +kernel
theorem dX11_put_65 : decode cX11_put 65 = .ok (.getfield 16, 3) := by decide +kernel
theorem dX11_put_68 : decode cX11_put 68 = .ok (.bipush 36, 2) := by decide +kernel
theorem dX11_put_70 : decode cX11_put 70 = .ok (.iload_n 1, 1) := by decide +kernel
theorem dX11_put_71 : decode cX11_put 71 = .ok (.imul, 1) := by decide +kernel
theorem dX11_put_72 : decode cX11_put 72 = .ok (.iload_n 2, 1) := by decide +kernel
theorem dX11_put_73 : decode cX11_put 73 = .ok (.iadd, 1) := by decide +kernel
theorem dX11_put_74 : decode cX11_put 74 = .ok (.iload 4, 2) := by decide +kernel
theorem dX11_put_76 : decode cX11_put 76 = .ok (.ldc 99, 2) := by decide +kernel
theorem dX11_put_78 : decode cX11_put 78 = .ok (.if_icmp .ge 8, 3) := by decide +kernel
theorem dX11_put_81 : decode cX11_put 81 = .ok (.iload 4, 2) := by decide +kernel
theorem dX11_put_83 : decode cX11_put 83 = .ok (.goto 8, 3) := by decide +kernel
theorem dX11_put_86 : decode cX11_put 86 = .ok (.iload 4, 2) := by decide +kernel
theorem dX11_put_88 : decode cX11_put 88 = .ok (.ldc 100, 2) := by decide +kernel
theorem dX11_put_90 : decode cX11_put 90 = .ok (.isub, 1) := by decide +kernel
theorem dX11_put_91 : decode cX11_put 91 = .ok (.iastore, 1) := by decide +kernel
theorem dX11_put_92 : decode cX11_put 92 = .ok (.aload_n 0, 1) := by decide +kernel
theorem dX11_put_93 : decode cX11_put 93 = .ok (.getfield 16, 3) := by decide +kernel
theorem dX11_put_96 : decode cX11_put 96 = .ok (.bipush 36, 2) := by decide +kernel
theorem dX11_put_98 : decode cX11_put 98 = .ok (.iload_n 1, 1) := by decide +kernel
theorem dX11_put_99 : decode cX11_put 99 = .ok (.imul, 1) := by decide +kernel
theorem dX11_put_100 : decode cX11_put 100 = .ok (.iload_n 2, 1) := by decide +kernel
theorem dX11_put_101 : decode cX11_put 101 = .ok (.iadd, 1) := by decide +kernel
theorem dX11_put_102 : decode cX11_put 102 = .ok (.iaload, 1) := by decide +kernel
theorem dX11_put_103 : decode cX11_put 103 = .ok (.i2l, 1) := by decide +kernel
theorem dX11_put_104 : decode cX11_put 104 = .ok (.lreturn, 1) := by decide +kernel
theorem dX11_lay_0 : decode cX11_lay 0 = .ok (.iload_n 1, 1) := by decide +kernel
theorem dX11_lay_1 : decode cX11_lay 1 = .ok (.iconst 0, 1) := by decide +kernel
theorem dX11_lay_2 : decode cX11_lay 2 = .ok (.iconst 2, 1) := by decide +kernel
theorem dX11_lay_3 : decode cX11_lay 3 = .ok (.invokestatic 58, 3) := by decide +kernel
theorem dX11_lay_6 : decode cX11_lay 6 = .ok (.ifCond .ne 11, 3) := by decide +kernel
theorem dX11_lay_9 : decode cX11_lay 9 = .ok (.aload_n 0, 1) := by decide +kernel
theorem dX11_lay_10 : decode cX11_lay 10 = .ok (.ldc2_w 62, 3) := by decide +kernel
theorem dX11_lay_13 : decode cX11_lay 13 = .ok (.invokevirtual 64, 3) := by decide +kernel
theorem dX11_lay_16 : decode cX11_lay 16 = .ok (.lreturn, 1) := by decide +kernel
theorem dX11_lay_17 : decode cX11_lay 17 = .ok (.aload_n 0, 1) := by decide +kernel
theorem dX11_lay_18 : decode cX11_lay 18 = .ok (.getfield 19, 3) := by decide +kernel
theorem dX11_lay_21 : decode cX11_lay 21 = .ok (.iload_n 1, 1) := by decide +kernel
theorem dX11_lay_22 : decode cX11_lay 22 = .ok (.iaload, 1) := by decide +kernel
theorem dX11_lay_23 : decode cX11_lay 23 = .ok (.ifCond .ge 11, 3) := by decide +kernel
theorem dX11_lay_26 : decode cX11_lay 26 = .ok (.aload_n 0, 1) := by decide +kernel
theorem dX11_lay_27 : decode cX11_lay 27 = .ok (.ldc2_w 96, 3) := by decide +kernel
theorem dX11_lay_30 : decode cX11_lay 30 = .ok (.invokevirtual 64, 3) := by decide +kernel
theorem dX11_lay_33 : decode cX11_lay 33 = .ok (.lreturn, 1) := by decide +kernel
theorem dX11_lay_34 : decode cX11_lay 34 = .ok (.iload_n 2, 1) := by decide +kernel
theorem dX11_lay_35 : decode cX11_lay 35 = .ok (.ifCond .ge 11, 3) := by decide +kernel
theorem dX11_lay_38 : decode cX11_lay 38 = .ok (.aload_n 0, 1) := by decide +kernel
theorem dX11_lay_39 : decode cX11_lay 39 = .ok (.ldc2_w 94, 3) := by decide +kernel
theorem dX11_lay_42 : decode cX11_lay 42 = .ok (.invokevirtual 64, 3) := by decide +kernel
theorem dX11_lay_45 : decode cX11_lay 45 = .ok (.lreturn, 1) := by decide +kernel
theorem dX11_lay_46 : decode cX11_lay 46 = .ok (.iload_n 2, 1) := by decide +kernel
theorem dX11_lay_47 : decode cX11_lay 47 = .ok (.aload_n 0, 1) := by decide +kernel
theorem dX11_lay_48 : decode cX11_lay 48 = .ok (.getfield 19, 3) := by decide +kernel
theorem dX11_lay_51 : decode cX11_lay 51 = .ok (.iload_n 1, 1) := by decide +kernel
theorem dX11_lay_52 : decode cX11_lay 52 = .ok (.iaload, 1) := by decide +kernel
theorem dX11_lay_53 : decode cX11_lay 53 = .ok (.if_icmp .le 11, 3) := by decide +kernel
theorem dX11_lay_56 : decode cX11_lay 56 = .ok (.aload_n 0, 1) := by decide +kernel
theorem dX11_lay_57 : decode cX11_lay 57 = .ok (.ldc2_w 62, 3) := by decide +kernel
theorem dX11_lay_60 : decode cX11_lay 60 = .ok (.invokevirtual 64, 3) := by decide +kernel
theorem dX11_lay_63 : decode cX11_lay 63 = .ok (.lreturn, 1) := by decide +kernel
theorem dX11_lay_64 : decode cX11_lay 64 = .ok (.iconst 0, 1) := by decide +kernel
theorem dX11_lay_65 : decode cX11_lay 65 = .ok (.istore_n 3, 1) := by decide +kernel
theorem dX11_lay_66 : decode cX11_lay 66 = .ok (.iconst 1, 1) := by decide +kernel
theorem dX11_lay_67 : decode cX11_lay 67 = .ok (.istore 4, 2) := by decide +kernel
theorem dX11_lay_69 : decode cX11_lay 69 = .ok (.iconst 0, 1) := by decide +kernel
theorem dX11_lay_70 : decode cX11_lay 70 = .ok (.istore 5, 2) := by decide +kernel
theorem dX11_lay_72 : decode cX11_lay 72 = .ok (.iload 5, 2) := by decide +kernel
theorem dX11_lay_74 : decode cX11_lay 74 = .ok (.iload_n 2, 1) := by decide +kernel
theorem dX11_lay_75 : decode cX11_lay 75 = .ok (.if_icmp .ge 73, 3) := by decide +kernel
theorem dX11_lay_78 : decode cX11_lay 78 = .ok (.aload_n 0, 1) := by decide +kernel
theorem dX11_lay_79 : decode cX11_lay 79 = .ok (.getfield 16, 3) := by decide +kernel
theorem dX11_lay_82 : decode cX11_lay 82 = .ok (.bipush 36, 2) := by decide +kernel
theorem dX11_lay_84 : decode cX11_lay 84 = .ok (.iload_n 1, 1) := by decide +kernel
theorem dX11_lay_85 : decode cX11_lay 85 = .ok (.imul, 1) := by decide +kernel
theorem dX11_lay_86 : decode cX11_lay 86 = .ok (.iload 5, 2) := by decide +kernel
theorem dX11_lay_88 : decode cX11_lay 88 = .ok (.iadd, 1) := by decide +kernel
theorem dX11_lay_89 : decode cX11_lay 89 = .ok (.iaload, 1) := by decide +kernel
theorem dX11_lay_90 : decode cX11_lay 90 = .ok (.istore 6, 2) := by decide +kernel
theorem dX11_lay_92 : decode cX11_lay 92 = .ok (.iload_n 3, 1) := by decide +kernel
theorem dX11_lay_93 : decode cX11_lay 93 = .ok (.iload 6, 2) := by decide +kernel
theorem dX11_lay_95 : decode cX11_lay 95 = .ok (.sipush (-32768), 3) := by decide +kernel
theorem dX11_lay_98 : decode cX11_lay 98 = .ok (.if_icmp .ne 7, 3) := by decide +kernel
theorem dX11_lay_101 : decode cX11_lay 101 = .ok (.iconst 0, 1) := by decide +kernel
theorem dX11_lay_102 : decode cX11_lay 102 = .ok (.goto 4, 3) := by decide +kernel
theorem dX11_lay_105 : decode cX11_lay 105 = .ok (.iconst 1, 1) := by decide +kernel
theorem dX11_lay_106 : decode cX11_lay 106 = .ok (.iadd, 1) := by decide +kernel
theorem dX11_lay_107 : decode cX11_lay 107 = .ok (.istore_n 3, 1) := by decide +kernel
theorem dX11_lay_108 : decode cX11_lay 108 = .ok (.iload 4, 2) := by decide +kernel
theorem dX11_lay_110 : decode cX11_lay 110 = .ok (.ifCond .eq 29, 3) := by decide +kernel
theorem dX11_lay_113 : decode cX11_lay 113 = .ok (.iload 6, 2) := by decide +kernel
theorem dX11_lay_115 : decode cX11_lay 115 = .ok (.sipush (-32768), 3) := by decide +kernel
theorem dX11_lay_118 : decode cX11_lay 118 = .ok (.if_icmp .eq 17, 3) := by decide +kernel
theorem dX11_lay_121 : decode cX11_lay 121 = .ok (.iload 6, 2) := by decide +kernel
theorem dX11_lay_123 : decode cX11_lay 123 = .ok (.sipush (-300), 3) := by decide +kernel
theorem dX11_lay_126 : decode cX11_lay 126 = .ok (.sipush 300, 3) := by decide +kernel
theorem dX11_lay_129 : decode cX11_lay 129 = .ok (.invokestatic 58, 3) := by decide +kernel
theorem dX11_lay_132 : decode cX11_lay 132 = .ok (.ifCond .eq 7, 3) := by decide +kernel
theorem dX11_lay_135 : decode cX11_lay 135 = .ok (.iconst 1, 1) := by decide +kernel
theorem dX11_lay_136 : decode cX11_lay 136 = .ok (.goto 4, 3) := by decide +kernel
theorem dX11_lay_139 : decode cX11_lay 139 = .ok (.iconst 0, 1) := by decide +kernel
theorem dX11_lay_140 : decode cX11_lay 140 = .ok (.istore 4, 2) := by decide +kernel
theorem dX11_lay_142 : decode cX11_lay 142 = .ok (.iinc 5 1, 3) := by decide +kernel
theorem dX11_lay_145 : decode cX11_lay 145 = .ok (.goto (-73), 3) := by decide +kernel
theorem dX11_lay_148 : decode cX11_lay 148 = .ok (.iload 4, 2) := by decide +kernel
theorem dX11_lay_150 : decode cX11_lay 150 = .ok (.ifCond .ne 11, 3) := by decide +kernel
theorem dX11_lay_153 : decode cX11_lay 153 = .ok (.aload_n 0, 1) := by decide +kernel
theorem dX11_lay_154 : decode cX11_lay 154 = .ok (.ldc2_w 62, 3) := by decide +kernel
theorem dX11_lay_157 : decode cX11_lay 157 = .ok (.invokevirtual 64, 3) := by decide +kernel
theorem dX11_lay_160 : decode cX11_lay 160 = .ok (.lreturn, 1) := by decide +kernel
theorem dX11_lay_161 : decode cX11_lay 161 = .ok (.aload_n 0, 1) := by decide +kernel
theorem dX11_lay_162 : decode cX11_lay 162 = .ok (.getfield 9, 3) := by decide +kernel
theorem dX11_lay_165 : decode cX11_lay 165 = .ok (.iconst 1, 1) := by decide +kernel
theorem dX11_lay_166 : decode cX11_lay 166 = .ok (.iaload, 1) := by decide +kernel
theorem dX11_lay_167 : decode cX11_lay 167 = .ok (.iload_n 3, 1) := by decide +kernel
theorem dX11_lay_168 : decode cX11_lay 168 = .ok (.iadd, 1) := by decide +kernel
theorem dX11_lay_169 : decode cX11_lay 169 = .ok (.bipush 20, 2) := by decide +kernel
theorem dX11_lay_171 : decode cX11_lay 171 = .ok (.if_icmp .le 11, 3) := by decide +kernel
theorem dX11_lay_174 : decode cX11_lay 174 = .ok (.aload_n 0, 1) := by decide +kernel
theorem dX11_lay_175 : decode cX11_lay 175 = .ok (.ldc2_w 68, 3) := by decide +kernel
theorem dX11_lay_178 : decode cX11_lay 178 = .ok (.invokevirtual 64, 3) := by decide +kernel
theorem dX11_lay_181 : decode cX11_lay 181 = .ok (.lreturn, 1) := by decide +kernel
theorem dX11_lay_182 : decode cX11_lay 182 = .ok (.iconst 0, 1) := by decide +kernel
theorem dX11_lay_183 : decode cX11_lay 183 = .ok (.istore 5, 2) := by decide +kernel
theorem dX11_lay_185 : decode cX11_lay 185 = .ok (.iload 5, 2) := by decide +kernel
theorem dX11_lay_187 : decode cX11_lay 187 = .ok (.iload_n 2, 1) := by decide +kernel
theorem dX11_lay_188 : decode cX11_lay 188 = .ok (.if_icmp .ge 39, 3) := by decide +kernel
theorem dX11_lay_191 : decode cX11_lay 191 = .ok (.aload_n 0, 1) := by decide +kernel
theorem dX11_lay_192 : decode cX11_lay 192 = .ok (.getfield 16, 3) := by decide +kernel
theorem dX11_lay_195 : decode cX11_lay 195 = .ok (.bipush 36, 2) := by decide +kernel
theorem dX11_lay_197 : decode cX11_lay 197 = .ok (.iload_n 1, 1) := by decide +kernel
theorem dX11_lay_198 : decode cX11_lay 198 = .ok (.imul, 1) := by decide +kernel
theorem dX11_lay_199 : decode cX11_lay 199 = .ok (.iload 5, 2) := by decide +kernel
theorem dX11_lay_201 : decode cX11_lay 201 = .ok (.iadd, 1) := by decide +kernel
theorem dX11_lay_202 : decode cX11_lay 202 = .ok (.iaload, 1) := by decide +kernel
theorem dX11_lay_203 : decode cX11_lay 203 = .ok (.istore 6, 2) := by decide +kernel
theorem dX11_lay_205 : decode cX11_lay 205 = .ok (.iload 6, 2) := by decide +kernel
theorem dX11_lay_207 : decode cX11_lay 207 = .ok (.sipush (-32768), 3) := by decide +kernel
theorem dX11_lay_210 : decode cX11_lay 210 = .ok (.if_icmp .eq 11, 3) := by decide +kernel
theorem dX11_lay_213 : decode cX11_lay 213 = .ok (.aload_n 0, 1) := by decide +kernel
theorem dX11_lay_214 : decode cX11_lay 214 = .ok (.iload 5, 2) := by decide +kernel
theorem dX11_lay_216 : decode cX11_lay 216 = .ok (.iload 6, 2) := by decide +kernel
theorem dX11_lay_218 : decode cX11_lay 218 = .ok (.invokevirtual 87, 3) := by decide +kernel
theorem dX11_lay_221 : decode cX11_lay 221 = .ok (.iinc 5 1, 3) := by decide +kernel
theorem dX11_lay_224 : decode cX11_lay 224 = .ok (.goto (-39), 3) := by decide +kernel
theorem dX11_lay_227 : decode cX11_lay 227 = .ok (.aload_n 0, 1) := by decide +kernel
theorem dX11_lay_228 : decode cX11_lay 228 = .ok (.iconst 1, 1) := by decide +kernel
theorem dX11_lay_229 : decode cX11_lay 229 = .ok (.putfield 70, 3) := by decide +kernel
theorem dX11_lay_232 : decode cX11_lay 232 = .ok (.aload_n 0, 1) := by decide +kernel
theorem dX11_lay_233 : decode cX11_lay 233 = .ok (.getfield 9, 3) := by decide +kernel
theorem dX11_lay_236 : decode cX11_lay 236 = .ok (.iconst 1, 1) := by decide +kernel
theorem dX11_lay_237 : decode cX11_lay 237 = .ok (.iaload, 1) := by decide +kernel
theorem dX11_lay_238 : decode cX11_lay 238 = .ok (.i2l, 1) := by decide +kernel
theorem dX11_lay_239 : decode cX11_lay 239 = .ok (.lreturn, 1) := by decide +kernel
theorem dX11_takeModel_0 : decode cX11_takeModel 0 = .ok (.aload_n 0, 1) := by decide +kernel
theorem dX11_takeModel_1 : decode cX11_takeModel 1 = .ok (.iconst 0, 1) := by decide +kernel
theorem dX11_takeModel_2 : decode cX11_takeModel 2 = .ok (.putfield 101, 3) := by decide +kernel
theorem dX11_takeModel_5 : decode cX11_takeModel 5 = .ok (.iconst 0, 1) := by decide +kernel
theorem dX11_takeModel_6 : decode cX11_takeModel 6 = .ok (.istore_n 2, 1) := by decide +kernel
theorem dX11_takeModel_7 : decode cX11_takeModel 7 = .ok (.iload_n 2, 1) := by decide +kernel
theorem dX11_takeModel_8 : decode cX11_takeModel 8 = .ok (.bipush 8, 2) := by decide +kernel
theorem dX11_takeModel_10 : decode cX11_takeModel 10 = .ok (.if_icmp .ge 38, 3) := by decide +kernel
theorem dX11_takeModel_13 : decode cX11_takeModel 13 = .ok (.iload_n 1, 1) := by decide +kernel
theorem dX11_takeModel_14 : decode cX11_takeModel 14 = .ok (.iload_n 2, 1) := by decide +kernel
theorem dX11_takeModel_15 : decode cX11_takeModel 15 = .ok (.ishr, 1) := by decide +kernel
theorem dX11_takeModel_16 : decode cX11_takeModel 16 = .ok (.iconst 1, 1) := by decide +kernel
theorem dX11_takeModel_17 : decode cX11_takeModel 17 = .ok (.iand, 1) := by decide +kernel
theorem dX11_takeModel_18 : decode cX11_takeModel 18 = .ok (.iconst 1, 1) := by decide +kernel
theorem dX11_takeModel_19 : decode cX11_takeModel 19 = .ok (.if_icmp .ne 23, 3) := by decide +kernel
theorem dX11_takeModel_22 : decode cX11_takeModel 22 = .ok (.aload_n 0, 1) := by decide +kernel
theorem dX11_takeModel_23 : decode cX11_takeModel 23 = .ok (.getfield 41, 3) := by decide +kernel
theorem dX11_takeModel_26 : decode cX11_takeModel 26 = .ok (.aload_n 0, 1) := by decide +kernel
theorem dX11_takeModel_27 : decode cX11_takeModel 27 = .ok (.getfield 101, 3) := by decide +kernel
theorem dX11_takeModel_30 : decode cX11_takeModel 30 = .ok (.iload_n 2, 1) := by decide +kernel
theorem dX11_takeModel_31 : decode cX11_takeModel 31 = .ok (.iastore, 1) := by decide +kernel
theorem dX11_takeModel_32 : decode cX11_takeModel 32 = .ok (.aload_n 0, 1) := by decide +kernel
theorem dX11_takeModel_33 : decode cX11_takeModel 33 = .ok (.dup, 1) := by decide +kernel
theorem dX11_takeModel_34 : decode cX11_takeModel 34 = .ok (.getfield 101, 3) := by decide +kernel
theorem dX11_takeModel_37 : decode cX11_takeModel 37 = .ok (.iconst 1, 1) := by decide +kernel
theorem dX11_takeModel_38 : decode cX11_takeModel 38 = .ok (.iadd, 1) := by decide +kernel
theorem dX11_takeModel_39 : decode cX11_takeModel 39 = .ok (.putfield 101, 3) := by decide +kernel
theorem dX11_takeModel_42 : decode cX11_takeModel 42 = .ok (.iinc 2 1, 3) := by decide +kernel
theorem dX11_takeModel_45 : decode cX11_takeModel 45 = .ok (.goto (-38), 3) := by decide +kernel
theorem dX11_takeModel_48 : decode cX11_takeModel 48 = .ok (.return_, 1) := by decide +kernel
theorem dX11_entry_0 : decode cX11_entry 0 = .ok (.iload_n 2, 1) := by decide +kernel
theorem dX11_entry_1 : decode cX11_entry 1 = .ok (.iload_n 3, 1) := by decide +kernel
theorem dX11_entry_2 : decode cX11_entry 2 = .ok (.if_icmp .ne 12, 3) := by decide +kernel
theorem dX11_entry_5 : decode cX11_entry 5 = .ok (.aload_n 0, 1) := by decide +kernel
theorem dX11_entry_6 : decode cX11_entry 6 = .ok (.getfield 47, 3) := by decide +kernel
theorem dX11_entry_9 : decode cX11_entry 9 = .ok (.iload_n 1, 1) := by decide +kernel
theorem dX11_entry_10 : decode cX11_entry 10 = .ok (.laload, 1) := by decide +kernel
theorem dX11_entry_11 : decode cX11_entry 11 = .ok (.goto 13, 3) := by decide +kernel
theorem dX11_entry_14 : decode cX11_entry 14 = .ok (.aload_n 0, 1) := by decide +kernel
theorem dX11_entry_15 : decode cX11_entry 15 = .ok (.getfield 44, 3) := by decide +kernel
theorem dX11_entry_18 : decode cX11_entry 18 = .ok (.iconst 4, 1) := by decide +kernel
theorem dX11_entry_19 : decode cX11_entry 19 = .ok (.iload_n 1, 1) := by decide +kernel
theorem dX11_entry_20 : decode cX11_entry 20 = .ok (.imul, 1) := by decide +kernel
theorem dX11_entry_21 : decode cX11_entry 21 = .ok (.iload_n 2, 1) := by decide +kernel
theorem dX11_entry_22 : decode cX11_entry 22 = .ok (.iadd, 1) := by decide +kernel
theorem dX11_entry_23 : decode cX11_entry 23 = .ok (.laload, 1) := by decide +kernel
theorem dX11_entry_24 : decode cX11_entry 24 = .ok (.lreturn, 1) := by decide +kernel
theorem dX11_two_0 : decode cX11_two 0 = .ok (.aload_n 0, 1) := by decide +kernel
theorem dX11_two_1 : decode cX11_two 1 = .ok (.iload_n 1, 1) := by decide +kernel
theorem dX11_two_2 : decode cX11_two 2 = .ok (.iload_n 3, 1) := by decide +kernel
theorem dX11_two_3 : decode cX11_two 3 = .ok (.iload 5, 2) := by decide +kernel
theorem dX11_two_5 : decode cX11_two 5 = .ok (.invokevirtual 105, 3) := by decide +kernel
theorem dX11_two_8 : decode cX11_two 8 = .ok (.aload_n 0, 1) := by decide +kernel
theorem dX11_two_9 : decode cX11_two 9 = .ok (.iload_n 2, 1) := by decide +kernel
theorem dX11_two_10 : decode cX11_two 10 = .ok (.iload 4, 2) := by decide +kernel
theorem dX11_two_12 : decode cX11_two 12 = .ok (.iload 5, 2) := by decide +kernel
theorem dX11_two_14 : decode cX11_two 14 = .ok (.invokevirtual 105, 3) := by decide +kernel
theorem dX11_two_17 : decode cX11_two 17 = .ok (.lmul, 1) := by decide +kernel
theorem dX11_two_18 : decode cX11_two 18 = .ok (.aload_n 0, 1) := by decide +kernel
theorem dX11_two_19 : decode cX11_two 19 = .ok (.iload_n 1, 1) := by decide +kernel
theorem dX11_two_20 : decode cX11_two 20 = .ok (.iload 4, 2) := by decide +kernel
theorem dX11_two_22 : decode cX11_two 22 = .ok (.iload 5, 2) := by decide +kernel
theorem dX11_two_24 : decode cX11_two 24 = .ok (.invokevirtual 105, 3) := by decide +kernel
theorem dX11_two_27 : decode cX11_two 27 = .ok (.aload_n 0, 1) := by decide +kernel
theorem dX11_two_28 : decode cX11_two 28 = .ok (.iload_n 2, 1) := by decide +kernel
theorem dX11_two_29 : decode cX11_two 29 = .ok (.iload_n 3, 1) := by decide +kernel
theorem dX11_two_30 : decode cX11_two 30 = .ok (.iload 5, 2) := by decide +kernel
theorem dX11_two_32 : decode cX11_two 32 = .ok (.invokevirtual 105, 3) := by decide +kernel
theorem dX11_two_35 : decode cX11_two 35 = .ok (.lmul, 1) := by decide +kernel
theorem dX11_two_36 : decode cX11_two 36 = .ok (.lsub, 1) := by decide +kernel
theorem dX11_two_37 : decode cX11_two 37 = .ok (.lreturn, 1) := by decide +kernel
theorem dX11_three_0 : decode cX11_three 0 = .ok (.aload_n 0, 1) := by decide +kernel
theorem dX11_three_1 : decode cX11_three 1 = .ok (.iload_n 1, 1) := by decide +kernel
theorem dX11_three_2 : decode cX11_three 2 = .ok (.iload 4, 2) := by decide +kernel
theorem dX11_three_4 : decode cX11_three 4 = .ok (.iload 7, 2) := by decide +kernel
theorem dX11_three_6 : decode cX11_three 6 = .ok (.invokevirtual 105, 3) := by decide +kernel
theorem dX11_three_9 : decode cX11_three 9 = .ok (.aload_n 0, 1) := by decide +kernel
theorem dX11_three_10 : decode cX11_three 10 = .ok (.iload_n 2, 1) := by decide +kernel
theorem dX11_three_11 : decode cX11_three 11 = .ok (.iload_n 3, 1) := by decide +kernel
theorem dX11_three_12 : decode cX11_three 12 = .ok (.iload 5, 2) := by decide +kernel
theorem dX11_three_14 : decode cX11_three 14 = .ok (.iload 6, 2) := by decide +kernel
theorem dX11_three_16 : decode cX11_three 16 = .ok (.iload 7, 2) := by decide +kernel
theorem dX11_three_18 : decode cX11_three 18 = .ok (.invokevirtual 109, 3) := by decide +kernel
theorem dX11_three_21 : decode cX11_three 21 = .ok (.lmul, 1) := by decide +kernel
theorem dX11_three_22 : decode cX11_three 22 = .ok (.aload_n 0, 1) := by decide +kernel
theorem dX11_three_23 : decode cX11_three 23 = .ok (.iload_n 1, 1) := by decide +kernel
theorem dX11_three_24 : decode cX11_three 24 = .ok (.iload 5, 2) := by decide +kernel
theorem dX11_three_26 : decode cX11_three 26 = .ok (.iload 7, 2) := by decide +kernel
theorem dX11_three_28 : decode cX11_three 28 = .ok (.invokevirtual 105, 3) := by decide +kernel
theorem dX11_three_31 : decode cX11_three 31 = .ok (.aload_n 0, 1) := by decide +kernel
theorem dX11_three_32 : decode cX11_three 32 = .ok (.iload_n 2, 1) := by decide +kernel
theorem dX11_three_33 : decode cX11_three 33 = .ok (.iload_n 3, 1) := by decide +kernel
theorem dX11_three_34 : decode cX11_three 34 = .ok (.iload 4, 2) := by decide +kernel
theorem dX11_three_36 : decode cX11_three 36 = .ok (.iload 6, 2) := by decide +kernel
theorem dX11_three_38 : decode cX11_three 38 = .ok (.iload 7, 2) := by decide +kernel
theorem dX11_three_40 : decode cX11_three 40 = .ok (.invokevirtual 109, 3) := by decide +kernel
theorem dX11_three_43 : decode cX11_three 43 = .ok (.lmul, 1) := by decide +kernel
theorem dX11_three_44 : decode cX11_three 44 = .ok (.lsub, 1) := by decide +kernel
theorem dX11_three_45 : decode cX11_three 45 = .ok (.aload_n 0, 1) := by decide +kernel
theorem dX11_three_46 : decode cX11_three 46 = .ok (.iload_n 1, 1) := by decide +kernel
theorem dX11_three_47 : decode cX11_three 47 = .ok (.iload 6, 2) := by decide +kernel
theorem dX11_three_49 : decode cX11_three 49 = .ok (.iload 7, 2) := by decide +kernel
theorem dX11_three_51 : decode cX11_three 51 = .ok (.invokevirtual 105, 3) := by decide +kernel
theorem dX11_three_54 : decode cX11_three 54 = .ok (.aload_n 0, 1) := by decide +kernel
theorem dX11_three_55 : decode cX11_three 55 = .ok (.iload_n 2, 1) := by decide +kernel
theorem dX11_three_56 : decode cX11_three 56 = .ok (.iload_n 3, 1) := by decide +kernel
theorem dX11_three_57 : decode cX11_three 57 = .ok (.iload 4, 2) := by decide +kernel
theorem dX11_three_59 : decode cX11_three 59 = .ok (.iload 5, 2) := by decide +kernel
theorem dX11_three_61 : decode cX11_three 61 = .ok (.iload 7, 2) := by decide +kernel
theorem dX11_three_63 : decode cX11_three 63 = .ok (.invokevirtual 109, 3) := by decide +kernel
theorem dX11_three_66 : decode cX11_three 66 = .ok (.lmul, 1) := by decide +kernel
theorem dX11_three_67 : decode cX11_three 67 = .ok (.ladd, 1) := by decide +kernel
theorem dX11_three_68 : decode cX11_three 68 = .ok (.lreturn, 1) := by decide +kernel
theorem dX11_whole_0 : decode cX11_whole 0 = .ok (.aload_n 0, 1) := by decide +kernel
theorem dX11_whole_1 : decode cX11_whole 1 = .ok (.getfield 101, 3) := by decide +kernel
theorem dX11_whole_4 : decode cX11_whole 4 = .ok (.tableswitch 58 1 3 #[28, 36, 46], 28) := by decide +kernel
theorem dX11_whole_32 : decode cX11_whole 32 = .ok (.aload_n 0, 1) := by decide +kernel
theorem dX11_whole_33 : decode cX11_whole 33 = .ok (.iconst 0, 1) := by decide +kernel
theorem dX11_whole_34 : decode cX11_whole 34 = .ok (.iconst 0, 1) := by decide +kernel
theorem dX11_whole_35 : decode cX11_whole 35 = .ok (.iload_n 1, 1) := by decide +kernel
theorem dX11_whole_36 : decode cX11_whole 36 = .ok (.invokevirtual 105, 3) := by decide +kernel
theorem dX11_whole_39 : decode cX11_whole 39 = .ok (.lreturn, 1) := by decide +kernel
theorem dX11_whole_40 : decode cX11_whole 40 = .ok (.aload_n 0, 1) := by decide +kernel
theorem dX11_whole_41 : decode cX11_whole 41 = .ok (.iconst 0, 1) := by decide +kernel
theorem dX11_whole_42 : decode cX11_whole 42 = .ok (.iconst 1, 1) := by decide +kernel
theorem dX11_whole_43 : decode cX11_whole 43 = .ok (.iconst 0, 1) := by decide +kernel
theorem dX11_whole_44 : decode cX11_whole 44 = .ok (.iconst 1, 1) := by decide +kernel
theorem dX11_whole_45 : decode cX11_whole 45 = .ok (.iload_n 1, 1) := by decide +kernel
theorem dX11_whole_46 : decode cX11_whole 46 = .ok (.invokevirtual 109, 3) := by decide +kernel
theorem dX11_whole_49 : decode cX11_whole 49 = .ok (.lreturn, 1) := by decide +kernel
theorem dX11_whole_50 : decode cX11_whole 50 = .ok (.aload_n 0, 1) := by decide +kernel
theorem dX11_whole_51 : decode cX11_whole 51 = .ok (.iconst 0, 1) := by decide +kernel
theorem dX11_whole_52 : decode cX11_whole 52 = .ok (.iconst 1, 1) := by decide +kernel
theorem dX11_whole_53 : decode cX11_whole 53 = .ok (.iconst 2, 1) := by decide +kernel
theorem dX11_whole_54 : decode cX11_whole 54 = .ok (.iconst 0, 1) := by decide +kernel
theorem dX11_whole_55 : decode cX11_whole 55 = .ok (.iconst 1, 1) := by decide +kernel
theorem dX11_whole_56 : decode cX11_whole 56 = .ok (.iconst 2, 1) := by decide +kernel
theorem dX11_whole_57 : decode cX11_whole 57 = .ok (.iload_n 1, 1) := by decide +kernel
theorem dX11_whole_58 : decode cX11_whole 58 = .ok (.invokevirtual 113, 3) := by decide +kernel
theorem dX11_whole_61 : decode cX11_whole 61 = .ok (.lreturn, 1) := by decide +kernel
theorem dX11_whole_62 : decode cX11_whole 62 = .ok (.aload_n 0, 1) := by decide +kernel
end
section
theorem dX11_whole_63 : decode cX11_whole 63 = .ok (.iconst 0, 1) := by decide +kernel
theorem dX11_whole_64 : decode cX11_whole 64 = .ok (.iconst 0, 1) := by decide +kernel
theorem dX11_whole_65 : decode cX11_whole 65 = .ok (.iload_n 1, 1) := by decide +kernel
theorem dX11_whole_66 : decode cX11_whole 66 = .ok (.invokevirtual 105, 3) := by decide +kernel
theorem dX11_whole_69 : decode cX11_whole 69 = .ok (.aload_n 0, 1) := by decide +kernel
theorem dX11_whole_70 : decode cX11_whole 70 = .ok (.iconst 1, 1) := by decide +kernel
theorem dX11_whole_71 : decode cX11_whole 71 = .ok (.iconst 2, 1) := by decide +kernel
theorem dX11_whole_72 : decode cX11_whole 72 = .ok (.iconst 3, 1) := by decide +kernel
theorem dX11_whole_73 : decode cX11_whole 73 = .ok (.iconst 1, 1) := by decide +kernel
theorem dX11_whole_74 : decode cX11_whole 74 = .ok (.iconst 2, 1) := by decide +kernel
theorem dX11_whole_75 : decode cX11_whole 75 = .ok (.iconst 3, 1) := by decide +kernel
theorem dX11_whole_76 : decode cX11_whole 76 = .ok (.iload_n 1, 1) := by decide +kernel
theorem dX11_whole_77 : decode cX11_whole 77 = .ok (.invokevirtual 113, 3) := by decide +kernel
theorem dX11_whole_80 : decode cX11_whole 80 = .ok (.lmul, 1) := by decide +kernel
theorem dX11_whole_81 : decode cX11_whole 81 = .ok (.aload_n 0, 1) := by decide +kernel
theorem dX11_whole_82 : decode cX11_whole 82 = .ok (.iconst 0, 1) := by decide +kernel
theorem dX11_whole_83 : decode cX11_whole 83 = .ok (.iconst 1, 1) := by decide +kernel
theorem dX11_whole_84 : decode cX11_whole 84 = .ok (.iload_n 1, 1) := by decide +kernel
theorem dX11_whole_85 : decode cX11_whole 85 = .ok (.invokevirtual 105, 3) := by decide +kernel
theorem dX11_whole_88 : decode cX11_whole 88 = .ok (.aload_n 0, 1) := by decide +kernel
theorem dX11_whole_89 : decode cX11_whole 89 = .ok (.iconst 1, 1) := by decide +kernel
theorem dX11_whole_90 : decode cX11_whole 90 = .ok (.iconst 2, 1) := by decide +kernel
theorem dX11_whole_91 : decode cX11_whole 91 = .ok (.iconst 3, 1) := by decide +kernel
theorem dX11_whole_92 : decode cX11_whole 92 = .ok (.iconst 0, 1) := by decide +kernel
theorem dX11_whole_93 : decode cX11_whole 93 = .ok (.iconst 2, 1) := by decide +kernel
theorem dX11_whole_94 : decode cX11_whole 94 = .ok (.iconst 3, 1) := by decide +kernel
theorem dX11_whole_95 : decode cX11_whole 95 = .ok (.iload_n 1, 1) := by decide +kernel
theorem dX11_whole_96 : decode cX11_whole 96 = .ok (.invokevirtual 113, 3) := by decide +kernel
theorem dX11_whole_99 : decode cX11_whole 99 = .ok (.lmul, 1) := by decide +kernel
theorem dX11_whole_100 : decode cX11_whole 100 = .ok (.lsub, 1) := by decide +kernel
theorem dX11_whole_101 : decode cX11_whole 101 = .ok (.aload_n 0, 1) := by decide +kernel
theorem dX11_whole_102 : decode cX11_whole 102 = .ok (.iconst 0, 1) := by decide +kernel
theorem dX11_whole_103 : decode cX11_whole 103 = .ok (.iconst 2, 1) := by decide +kernel
theorem dX11_whole_104 : decode cX11_whole 104 = .ok (.iload_n 1, 1) := by decide +kernel
theorem dX11_whole_105 : decode cX11_whole 105 = .ok (.invokevirtual 105, 3) := by decide +kernel
theorem dX11_whole_108 : decode cX11_whole 108 = .ok (.aload_n 0, 1) := by decide +kernel
theorem dX11_whole_109 : decode cX11_whole 109 = .ok (.iconst 1, 1) := by decide +kernel
theorem dX11_whole_110 : decode cX11_whole 110 = .ok (.iconst 2, 1) := by decide +kernel
theorem dX11_whole_111 : decode cX11_whole 111 = .ok (.iconst 3, 1) := by decide +kernel
theorem dX11_whole_112 : decode cX11_whole 112 = .ok (.iconst 0, 1) := by decide +kernel
theorem dX11_whole_113 : decode cX11_whole 113 = .ok (.iconst 1, 1) := by decide +kernel
theorem dX11_whole_114 : decode cX11_whole 114 = .ok (.iconst 3, 1) := by decide +kernel
theorem dX11_whole_115 : decode cX11_whole 115 = .ok (.iload_n 1, 1) := by decide +kernel
theorem dX11_whole_116 : decode cX11_whole 116 = .ok (.invokevirtual 113, 3) := by decide +kernel
theorem dX11_whole_119 : decode cX11_whole 119 = .ok (.lmul, 1) := by decide +kernel
theorem dX11_whole_120 : decode cX11_whole 120 = .ok (.ladd, 1) := by decide +kernel
theorem dX11_whole_121 : decode cX11_whole 121 = .ok (.aload_n 0, 1) := by decide +kernel
theorem dX11_whole_122 : decode cX11_whole 122 = .ok (.iconst 0, 1) := by decide +kernel
theorem dX11_whole_123 : decode cX11_whole 123 = .ok (.iconst 3, 1) := by decide +kernel
theorem dX11_whole_124 : decode cX11_whole 124 = .ok (.iload_n 1, 1) := by decide +kernel
theorem dX11_whole_125 : decode cX11_whole 125 = .ok (.invokevirtual 105, 3) := by decide +kernel
theorem dX11_whole_128 : decode cX11_whole 128 = .ok (.aload_n 0, 1) := by decide +kernel
theorem dX11_whole_129 : decode cX11_whole 129 = .ok (.iconst 1, 1) := by decide +kernel
theorem dX11_whole_130 : decode cX11_whole 130 = .ok (.iconst 2, 1) := by decide +kernel
theorem dX11_whole_131 : decode cX11_whole 131 = .ok (.iconst 3, 1) := by decide +kernel
theorem dX11_whole_132 : decode cX11_whole 132 = .ok (.iconst 0, 1) := by decide +kernel
theorem dX11_whole_133 : decode cX11_whole 133 = .ok (.iconst 1, 1) := by decide +kernel
theorem dX11_whole_134 : decode cX11_whole 134 = .ok (.iconst 2, 1) := by decide +kernel
theorem dX11_whole_135 : decode cX11_whole 135 = .ok (.iload_n 1, 1) := by decide +kernel
theorem dX11_whole_136 : decode cX11_whole 136 = .ok (.invokevirtual 113, 3) := by decide +kernel
theorem dX11_whole_139 : decode cX11_whole 139 = .ok (.lmul, 1) := by decide +kernel
theorem dX11_whole_140 : decode cX11_whole 140 = .ok (.lsub, 1) := by decide +kernel
theorem dX11_whole_141 : decode cX11_whole 141 = .ok (.lreturn, 1) := by decide +kernel
theorem dX11_solve_0 : decode cX11_solve 0 = .ok (.iconst 0, 1) := by decide +kernel
theorem dX11_solve_1 : decode cX11_solve 1 = .ok (.istore_n 2, 1) := by decide +kernel
theorem dX11_solve_2 : decode cX11_solve 2 = .ok (.iload_n 2, 1) := by decide +kernel
theorem dX11_solve_3 : decode cX11_solve 3 = .ok (.aload_n 0, 1) := by decide +kernel
theorem dX11_solve_4 : decode cX11_solve 4 = .ok (.getfield 101, 3) := by decide +kernel
theorem dX11_solve_7 : decode cX11_solve 7 = .ok (.if_icmp .ge 43, 3) := by decide +kernel
theorem dX11_solve_10 : decode cX11_solve 10 = .ok (.aload_n 0, 1) := by decide +kernel
theorem dX11_solve_11 : decode cX11_solve 11 = .ok (.getfield 47, 3) := by decide +kernel
theorem dX11_solve_14 : decode cX11_solve 14 = .ok (.iload_n 2, 1) := by decide +kernel
theorem dX11_solve_15 : decode cX11_solve 15 = .ok (.lconst 0, 1) := by decide +kernel
theorem dX11_solve_16 : decode cX11_solve 16 = .ok (.lastore, 1) := by decide +kernel
theorem dX11_solve_17 : decode cX11_solve 17 = .ok (.iconst 0, 1) := by decide +kernel
theorem dX11_solve_18 : decode cX11_solve 18 = .ok (.istore_n 3, 1) := by decide +kernel
theorem dX11_solve_19 : decode cX11_solve 19 = .ok (.iload_n 3, 1) := by decide +kernel
theorem dX11_solve_20 : decode cX11_solve 20 = .ok (.aload_n 0, 1) := by decide +kernel
theorem dX11_solve_21 : decode cX11_solve 21 = .ok (.getfield 101, 3) := by decide +kernel
theorem dX11_solve_24 : decode cX11_solve 24 = .ok (.if_icmp .ge 20, 3) := by decide +kernel
theorem dX11_solve_27 : decode cX11_solve 27 = .ok (.aload_n 0, 1) := by decide +kernel
theorem dX11_solve_28 : decode cX11_solve 28 = .ok (.getfield 44, 3) := by decide +kernel
theorem dX11_solve_31 : decode cX11_solve 31 = .ok (.iconst 4, 1) := by decide +kernel
theorem dX11_solve_32 : decode cX11_solve 32 = .ok (.iload_n 2, 1) := by decide +kernel
theorem dX11_solve_33 : decode cX11_solve 33 = .ok (.imul, 1) := by decide +kernel
theorem dX11_solve_34 : decode cX11_solve 34 = .ok (.iload_n 3, 1) := by decide +kernel
theorem dX11_solve_35 : decode cX11_solve 35 = .ok (.iadd, 1) := by decide +kernel
theorem dX11_solve_36 : decode cX11_solve 36 = .ok (.lconst 0, 1) := by decide +kernel
theorem dX11_solve_37 : decode cX11_solve 37 = .ok (.lastore, 1) := by decide +kernel
theorem dX11_solve_38 : decode cX11_solve 38 = .ok (.iinc 3 1, 3) := by decide +kernel
theorem dX11_solve_41 : decode cX11_solve 41 = .ok (.goto (-22), 3) := by decide +kernel
theorem dX11_solve_44 : decode cX11_solve 44 = .ok (.iinc 2 1, 3) := by decide +kernel
theorem dX11_solve_47 : decode cX11_solve 47 = .ok (.goto (-45), 3) := by decide +kernel
theorem dX11_solve_50 : decode cX11_solve 50 = .ok (.iconst 0, 1) := by decide +kernel
theorem dX11_solve_51 : decode cX11_solve 51 = .ok (.istore_n 2, 1) := by decide +kernel
theorem dX11_solve_52 : decode cX11_solve 52 = .ok (.iload_n 2, 1) := by decide +kernel
theorem dX11_solve_53 : decode cX11_solve 53 = .ok (.aload_n 0, 1) := by decide +kernel
theorem dX11_solve_54 : decode cX11_solve 54 = .ok (.getfield 9, 3) := by decide +kernel
theorem dX11_solve_57 : decode cX11_solve 57 = .ok (.iconst 1, 1) := by decide +kernel
theorem dX11_solve_58 : decode cX11_solve 58 = .ok (.iaload, 1) := by decide +kernel
theorem dX11_solve_59 : decode cX11_solve 59 = .ok (.if_icmp .ge 130, 3) := by decide +kernel
theorem dX11_solve_62 : decode cX11_solve 62 = .ok (.iload_n 2, 1) := by decide +kernel
theorem dX11_solve_63 : decode cX11_solve 63 = .ok (.iload_n 1, 1) := by decide +kernel
theorem dX11_solve_64 : decode cX11_solve 64 = .ok (.if_icmp .ne 6, 3) := by decide +kernel
theorem dX11_solve_67 : decode cX11_solve 67 = .ok (.goto 116, 3) := by decide +kernel
theorem dX11_solve_70 : decode cX11_solve 70 = .ok (.aload_n 0, 1) := by decide +kernel
theorem dX11_solve_71 : decode cX11_solve 71 = .ok (.getfield 9, 3) := by decide +kernel
theorem dX11_solve_74 : decode cX11_solve 74 = .ok (.bipush 32, 2) := by decide +kernel
theorem dX11_solve_76 : decode cX11_solve 76 = .ok (.iload_n 2, 1) := by decide +kernel
theorem dX11_solve_77 : decode cX11_solve 77 = .ok (.iadd, 1) := by decide +kernel
theorem dX11_solve_78 : decode cX11_solve 78 = .ok (.iaload, 1) := by decide +kernel
theorem dX11_solve_79 : decode cX11_solve 79 = .ok (.istore_n 3, 1) := by decide +kernel
theorem dX11_solve_80 : decode cX11_solve 80 = .ok (.iconst 0, 1) := by decide +kernel
theorem dX11_solve_81 : decode cX11_solve 81 = .ok (.istore 4, 2) := by decide +kernel
theorem dX11_solve_83 : decode cX11_solve 83 = .ok (.iload 4, 2) := by decide +kernel
theorem dX11_solve_85 : decode cX11_solve 85 = .ok (.aload_n 0, 1) := by decide +kernel
theorem dX11_solve_86 : decode cX11_solve 86 = .ok (.getfield 101, 3) := by decide +kernel
theorem dX11_solve_89 : decode cX11_solve 89 = .ok (.if_icmp .ge 94, 3) := by decide +kernel
theorem dX11_solve_92 : decode cX11_solve 92 = .ok (.aload_n 0, 1) := by decide +kernel
theorem dX11_solve_93 : decode cX11_solve 93 = .ok (.aload_n 0, 1) := by decide +kernel
theorem dX11_solve_94 : decode cX11_solve 94 = .ok (.getfield 41, 3) := by decide +kernel
theorem dX11_solve_97 : decode cX11_solve 97 = .ok (.iload 4, 2) := by decide +kernel
theorem dX11_solve_99 : decode cX11_solve 99 = .ok (.iaload, 1) := by decide +kernel
theorem dX11_solve_100 : decode cX11_solve 100 = .ok (.iload_n 3, 1) := by decide +kernel
theorem dX11_solve_101 : decode cX11_solve 101 = .ok (.invokevirtual 81, 3) := by decide +kernel
theorem dX11_solve_104 : decode cX11_solve 104 = .ok (.lstore 5, 2) := by decide +kernel
theorem dX11_solve_106 : decode cX11_solve 106 = .ok (.aload_n 0, 1) := by decide +kernel
theorem dX11_solve_107 : decode cX11_solve 107 = .ok (.getfield 47, 3) := by decide +kernel
theorem dX11_solve_110 : decode cX11_solve 110 = .ok (.iload 4, 2) := by decide +kernel
theorem dX11_solve_112 : decode cX11_solve 112 = .ok (.dup2, 1) := by decide +kernel
theorem dX11_solve_113 : decode cX11_solve 113 = .ok (.laload, 1) := by decide +kernel
theorem dX11_solve_114 : decode cX11_solve 114 = .ok (.lload 5, 2) := by decide +kernel
theorem dX11_solve_116 : decode cX11_solve 116 = .ok (.aload_n 0, 1) := by decide +kernel
theorem dX11_solve_117 : decode cX11_solve 117 = .ok (.getfield 9, 3) := by decide +kernel
theorem dX11_solve_120 : decode cX11_solve 120 = .ok (.bipush 52, 2) := by decide +kernel
theorem dX11_solve_122 : decode cX11_solve 122 = .ok (.iload_n 2, 1) := by decide +kernel
theorem dX11_solve_123 : decode cX11_solve 123 = .ok (.iadd, 1) := by decide +kernel
theorem dX11_solve_124 : decode cX11_solve 124 = .ok (.iaload, 1) := by decide +kernel
theorem dX11_solve_125 : decode cX11_solve 125 = .ok (.i2l, 1) := by decide +kernel
theorem dX11_solve_126 : decode cX11_solve 126 = .ok (.lmul, 1) := by decide +kernel
theorem dX11_solve_127 : decode cX11_solve 127 = .ok (.ladd, 1) := by decide +kernel
theorem dX11_solve_128 : decode cX11_solve 128 = .ok (.lastore, 1) := by decide +kernel
theorem dX11_solve_129 : decode cX11_solve 129 = .ok (.iconst 0, 1) := by decide +kernel
theorem dX11_solve_130 : decode cX11_solve 130 = .ok (.istore 7, 2) := by decide +kernel
theorem dX11_solve_132 : decode cX11_solve 132 = .ok (.iload 7, 2) := by decide +kernel
theorem dX11_solve_134 : decode cX11_solve 134 = .ok (.aload_n 0, 1) := by decide +kernel
theorem dX11_solve_135 : decode cX11_solve 135 = .ok (.getfield 101, 3) := by decide +kernel
theorem dX11_solve_138 : decode cX11_solve 138 = .ok (.if_icmp .ge 39, 3) := by decide +kernel
theorem dX11_solve_141 : decode cX11_solve 141 = .ok (.aload_n 0, 1) := by decide +kernel
theorem dX11_solve_142 : decode cX11_solve 142 = .ok (.getfield 44, 3) := by decide +kernel
theorem dX11_solve_145 : decode cX11_solve 145 = .ok (.iconst 4, 1) := by decide +kernel
theorem dX11_solve_146 : decode cX11_solve 146 = .ok (.iload 4, 2) := by decide +kernel
theorem dX11_solve_148 : decode cX11_solve 148 = .ok (.imul, 1) := by decide +kernel
theorem dX11_solve_149 : decode cX11_solve 149 = .ok (.iload 7, 2) := by decide +kernel
theorem dX11_solve_151 : decode cX11_solve 151 = .ok (.iadd, 1) := by decide +kernel
theorem dX11_solve_152 : decode cX11_solve 152 = .ok (.dup2, 1) := by decide +kernel
theorem dX11_solve_153 : decode cX11_solve 153 = .ok (.laload, 1) := by decide +kernel
theorem dX11_solve_154 : decode cX11_solve 154 = .ok (.lload 5, 2) := by decide +kernel
theorem dX11_solve_156 : decode cX11_solve 156 = .ok (.aload_n 0, 1) := by decide +kernel
theorem dX11_solve_157 : decode cX11_solve 157 = .ok (.aload_n 0, 1) := by decide +kernel
theorem dX11_solve_158 : decode cX11_solve 158 = .ok (.getfield 41, 3) := by decide +kernel
theorem dX11_solve_161 : decode cX11_solve 161 = .ok (.iload 7, 2) := by decide +kernel
theorem dX11_solve_163 : decode cX11_solve 163 = .ok (.iaload, 1) := by decide +kernel
theorem dX11_solve_164 : decode cX11_solve 164 = .ok (.iload_n 3, 1) := by decide +kernel
theorem dX11_solve_165 : decode cX11_solve 165 = .ok (.invokevirtual 81, 3) := by decide +kernel
theorem dX11_solve_168 : decode cX11_solve 168 = .ok (.lmul, 1) := by decide +kernel
theorem dX11_solve_169 : decode cX11_solve 169 = .ok (.ladd, 1) := by decide +kernel
theorem dX11_solve_170 : decode cX11_solve 170 = .ok (.lastore, 1) := by decide +kernel
theorem dX11_solve_171 : decode cX11_solve 171 = .ok (.iinc 7 1, 3) := by decide +kernel
theorem dX11_solve_174 : decode cX11_solve 174 = .ok (.goto (-42), 3) := by decide +kernel
theorem dX11_solve_177 : decode cX11_solve 177 = .ok (.iinc 4 1, 3) := by decide +kernel
theorem dX11_solve_180 : decode cX11_solve 180 = .ok (.goto (-97), 3) := by decide +kernel
theorem dX11_solve_183 : decode cX11_solve 183 = .ok (.iinc 2 1, 3) := by decide +kernel
theorem dX11_solve_186 : decode cX11_solve 186 = .ok (.goto (-134), 3) := by decide +kernel
theorem dX11_solve_189 : decode cX11_solve 189 = .ok (.aload_n 0, 1) := by decide +kernel
theorem dX11_solve_190 : decode cX11_solve 190 = .ok (.aload_n 0, 1) := by decide +kernel
theorem dX11_solve_191 : decode cX11_solve 191 = .ok (.iconst (-1), 1) := by decide +kernel
theorem dX11_solve_192 : decode cX11_solve 192 = .ok (.invokevirtual 117, 3) := by decide +kernel
theorem dX11_solve_195 : decode cX11_solve 195 = .ok (.putfield 121, 3) := by decide +kernel
theorem dX11_solve_198 : decode cX11_solve 198 = .ok (.aload_n 0, 1) := by decide +kernel
theorem dX11_solve_199 : decode cX11_solve 199 = .ok (.getfield 121, 3) := by decide +kernel
theorem dX11_solve_202 : decode cX11_solve 202 = .ok (.lconst 0, 1) := by decide +kernel
theorem dX11_solve_203 : decode cX11_solve 203 = .ok (.lcmp, 1) := by decide +kernel
theorem dX11_solve_204 : decode cX11_solve 204 = .ok (.ifCond .ne 5, 3) := by decide +kernel
theorem dX11_solve_207 : decode cX11_solve 207 = .ok (.iconst 0, 1) := by decide +kernel
theorem dX11_solve_208 : decode cX11_solve 208 = .ok (.ireturn, 1) := by decide +kernel
theorem dX11_solve_209 : decode cX11_solve 209 = .ok (.iconst 0, 1) := by decide +kernel
theorem dX11_solve_210 : decode cX11_solve 210 = .ok (.istore_n 2, 1) := by decide +kernel
theorem dX11_solve_211 : decode cX11_solve 211 = .ok (.iload_n 2, 1) := by decide +kernel
theorem dX11_solve_212 : decode cX11_solve 212 = .ok (.aload_n 0, 1) := by decide +kernel
theorem dX11_solve_213 : decode cX11_solve 213 = .ok (.getfield 101, 3) := by decide +kernel
theorem dX11_solve_216 : decode cX11_solve 216 = .ok (.if_icmp .ge 20, 3) := by decide +kernel
theorem dX11_solve_219 : decode cX11_solve 219 = .ok (.aload_n 0, 1) := by decide +kernel
theorem dX11_solve_220 : decode cX11_solve 220 = .ok (.getfield 50, 3) := by decide +kernel
theorem dX11_solve_223 : decode cX11_solve 223 = .ok (.iload_n 2, 1) := by decide +kernel
theorem dX11_solve_224 : decode cX11_solve 224 = .ok (.aload_n 0, 1) := by decide +kernel
theorem dX11_solve_225 : decode cX11_solve 225 = .ok (.iload_n 2, 1) := by decide +kernel
theorem dX11_solve_226 : decode cX11_solve 226 = .ok (.invokevirtual 117, 3) := by decide +kernel
theorem dX11_solve_229 : decode cX11_solve 229 = .ok (.lastore, 1) := by decide +kernel
theorem dX11_solve_230 : decode cX11_solve 230 = .ok (.iinc 2 1, 3) := by decide +kernel
theorem dX11_solve_233 : decode cX11_solve 233 = .ok (.goto (-22), 3) := by decide +kernel
theorem dX11_solve_236 : decode cX11_solve 236 = .ok (.iconst 1, 1) := by decide +kernel
theorem dX11_solve_237 : decode cX11_solve 237 = .ok (.ireturn, 1) := by decide +kernel
theorem dX11_sumLeft_0 : decode cX11_sumLeft 0 = .ok (.lconst 0, 1) := by decide +kernel
theorem dX11_sumLeft_1 : decode cX11_sumLeft 1 = .ok (.lstore_n 1, 1) := by decide +kernel
theorem dX11_sumLeft_2 : decode cX11_sumLeft 2 = .ok (.iconst 0, 1) := by decide +kernel
theorem dX11_sumLeft_3 : decode cX11_sumLeft 3 = .ok (.istore_n 3, 1) := by decide +kernel
theorem dX11_sumLeft_4 : decode cX11_sumLeft 4 = .ok (.iload_n 3, 1) := by decide +kernel
theorem dX11_sumLeft_5 : decode cX11_sumLeft 5 = .ok (.aload_n 0, 1) := by decide +kernel
theorem dX11_sumLeft_6 : decode cX11_sumLeft 6 = .ok (.getfield 9, 3) := by decide +kernel
theorem dX11_sumLeft_9 : decode cX11_sumLeft 9 = .ok (.iconst 1, 1) := by decide +kernel
theorem dX11_sumLeft_10 : decode cX11_sumLeft 10 = .ok (.iaload, 1) := by decide +kernel
theorem dX11_sumLeft_11 : decode cX11_sumLeft 11 = .ok (.if_icmp .ge 33, 3) := by decide +kernel
theorem dX11_sumLeft_14 : decode cX11_sumLeft 14 = .ok (.lload_n 1, 1) := by decide +kernel
theorem dX11_sumLeft_15 : decode cX11_sumLeft 15 = .ok (.aload_n 0, 1) := by decide +kernel
theorem dX11_sumLeft_16 : decode cX11_sumLeft 16 = .ok (.getfield 9, 3) := by decide +kernel
theorem dX11_sumLeft_19 : decode cX11_sumLeft 19 = .ok (.bipush 52, 2) := by decide +kernel
theorem dX11_sumLeft_21 : decode cX11_sumLeft 21 = .ok (.iload_n 3, 1) := by decide +kernel
theorem dX11_sumLeft_22 : decode cX11_sumLeft 22 = .ok (.iadd, 1) := by decide +kernel
theorem dX11_sumLeft_23 : decode cX11_sumLeft 23 = .ok (.iaload, 1) := by decide +kernel
theorem dX11_sumLeft_24 : decode cX11_sumLeft 24 = .ok (.i2l, 1) := by decide +kernel
theorem dX11_sumLeft_25 : decode cX11_sumLeft 25 = .ok (.aload_n 0, 1) := by decide +kernel
theorem dX11_sumLeft_26 : decode cX11_sumLeft 26 = .ok (.getfield 9, 3) := by decide +kernel
theorem dX11_sumLeft_29 : decode cX11_sumLeft 29 = .ok (.bipush 52, 2) := by decide +kernel
theorem dX11_sumLeft_31 : decode cX11_sumLeft 31 = .ok (.iload_n 3, 1) := by decide +kernel
theorem dX11_sumLeft_32 : decode cX11_sumLeft 32 = .ok (.iadd, 1) := by decide +kernel
theorem dX11_sumLeft_33 : decode cX11_sumLeft 33 = .ok (.iaload, 1) := by decide +kernel
theorem dX11_sumLeft_34 : decode cX11_sumLeft 34 = .ok (.i2l, 1) := by decide +kernel
theorem dX11_sumLeft_35 : decode cX11_sumLeft 35 = .ok (.lmul, 1) := by decide +kernel
theorem dX11_sumLeft_36 : decode cX11_sumLeft 36 = .ok (.ladd, 1) := by decide +kernel
theorem dX11_sumLeft_37 : decode cX11_sumLeft 37 = .ok (.lstore_n 1, 1) := by decide +kernel
theorem dX11_sumLeft_38 : decode cX11_sumLeft 38 = .ok (.iinc 3 1, 3) := by decide +kernel
theorem dX11_sumLeft_41 : decode cX11_sumLeft 41 = .ok (.goto (-37), 3) := by decide +kernel
theorem dX11_sumLeft_44 : decode cX11_sumLeft 44 = .ok (.lload_n 1, 1) := by decide +kernel
theorem dX11_sumLeft_45 : decode cX11_sumLeft 45 = .ok (.aload_n 0, 1) := by decide +kernel
theorem dX11_sumLeft_46 : decode cX11_sumLeft 46 = .ok (.getfield 121, 3) := by decide +kernel
theorem dX11_sumLeft_49 : decode cX11_sumLeft 49 = .ok (.lmul, 1) := by decide +kernel
theorem dX11_sumLeft_50 : decode cX11_sumLeft 50 = .ok (.lstore_n 3, 1) := by decide +kernel
theorem dX11_sumLeft_51 : decode cX11_sumLeft 51 = .ok (.iconst 0, 1) := by decide +kernel
theorem dX11_sumLeft_52 : decode cX11_sumLeft 52 = .ok (.istore 5, 2) := by decide +kernel
theorem dX11_sumLeft_54 : decode cX11_sumLeft 54 = .ok (.iload 5, 2) := by decide +kernel
theorem dX11_sumLeft_56 : decode cX11_sumLeft 56 = .ok (.aload_n 0, 1) := by decide +kernel
theorem dX11_sumLeft_57 : decode cX11_sumLeft 57 = .ok (.getfield 101, 3) := by decide +kernel
theorem dX11_sumLeft_60 : decode cX11_sumLeft 60 = .ok (.if_icmp .ge 27, 3) := by decide +kernel
theorem dX11_sumLeft_63 : decode cX11_sumLeft 63 = .ok (.lload_n 3, 1) := by decide +kernel
theorem dX11_sumLeft_64 : decode cX11_sumLeft 64 = .ok (.aload_n 0, 1) := by decide +kernel
theorem dX11_sumLeft_65 : decode cX11_sumLeft 65 = .ok (.getfield 50, 3) := by decide +kernel
theorem dX11_sumLeft_68 : decode cX11_sumLeft 68 = .ok (.iload 5, 2) := by decide +kernel
theorem dX11_sumLeft_70 : decode cX11_sumLeft 70 = .ok (.laload, 1) := by decide +kernel
theorem dX11_sumLeft_71 : decode cX11_sumLeft 71 = .ok (.aload_n 0, 1) := by decide +kernel
theorem dX11_sumLeft_72 : decode cX11_sumLeft 72 = .ok (.getfield 47, 3) := by decide +kernel
theorem dX11_sumLeft_75 : decode cX11_sumLeft 75 = .ok (.iload 5, 2) := by decide +kernel
theorem dX11_sumLeft_77 : decode cX11_sumLeft 77 = .ok (.laload, 1) := by decide +kernel
theorem dX11_sumLeft_78 : decode cX11_sumLeft 78 = .ok (.lmul, 1) := by decide +kernel
theorem dX11_sumLeft_79 : decode cX11_sumLeft 79 = .ok (.lsub, 1) := by decide +kernel
theorem dX11_sumLeft_80 : decode cX11_sumLeft 80 = .ok (.lstore_n 3, 1) := by decide +kernel
theorem dX11_sumLeft_81 : decode cX11_sumLeft 81 = .ok (.iinc 5 1, 3) := by decide +kernel
theorem dX11_sumLeft_84 : decode cX11_sumLeft 84 = .ok (.goto (-30), 3) := by decide +kernel
theorem dX11_sumLeft_87 : decode cX11_sumLeft 87 = .ok (.lload_n 3, 1) := by decide +kernel
theorem dX11_sumLeft_88 : decode cX11_sumLeft 88 = .ok (.lreturn, 1) := by decide +kernel
theorem dX11_rank_0 : decode cX11_rank 0 = .ok (.iconst 0, 1) := by decide +kernel
theorem dX11_rank_1 : decode cX11_rank 1 = .ok (.istore_n 2, 1) := by decide +kernel
theorem dX11_rank_2 : decode cX11_rank 2 = .ok (.iconst 0, 1) := by decide +kernel
theorem dX11_rank_3 : decode cX11_rank 3 = .ok (.istore_n 3, 1) := by decide +kernel
theorem dX11_rank_4 : decode cX11_rank 4 = .ok (.iload_n 3, 1) := by decide +kernel
theorem dX11_rank_5 : decode cX11_rank 5 = .ok (.aload_n 0, 1) := by decide +kernel
theorem dX11_rank_6 : decode cX11_rank 6 = .ok (.getfield 101, 3) := by decide +kernel
theorem dX11_rank_9 : decode cX11_rank 9 = .ok (.if_icmp .ge 71, 3) := by decide +kernel
theorem dX11_rank_12 : decode cX11_rank 12 = .ok (.iload_n 3, 1) := by decide +kernel
theorem dX11_rank_13 : decode cX11_rank 13 = .ok (.iload_n 1, 1) := by decide +kernel
theorem dX11_rank_14 : decode cX11_rank 14 = .ok (.if_icmp .ne 6, 3) := by decide +kernel
theorem dX11_rank_17 : decode cX11_rank 17 = .ok (.goto 57, 3) := by decide +kernel
theorem dX11_rank_20 : decode cX11_rank 20 = .ok (.iconst 0, 1) := by decide +kernel
theorem dX11_rank_21 : decode cX11_rank 21 = .ok (.istore 4, 2) := by decide +kernel
theorem dX11_rank_23 : decode cX11_rank 23 = .ok (.iload 4, 2) := by decide +kernel
theorem dX11_rank_25 : decode cX11_rank 25 = .ok (.aload_n 0, 1) := by decide +kernel
theorem dX11_rank_26 : decode cX11_rank 26 = .ok (.getfield 9, 3) := by decide +kernel
theorem dX11_rank_29 : decode cX11_rank 29 = .ok (.iconst 1, 1) := by decide +kernel
theorem dX11_rank_30 : decode cX11_rank 30 = .ok (.iaload, 1) := by decide +kernel
theorem dX11_rank_31 : decode cX11_rank 31 = .ok (.if_icmp .ge 40, 3) := by decide +kernel
theorem dX11_rank_34 : decode cX11_rank 34 = .ok (.aload_n 0, 1) := by decide +kernel
theorem dX11_rank_35 : decode cX11_rank 35 = .ok (.getfield 53, 3) := by decide +kernel
theorem dX11_rank_38 : decode cX11_rank 38 = .ok (.iconst 4, 1) := by decide +kernel
theorem dX11_rank_39 : decode cX11_rank 39 = .ok (.iload 4, 2) := by decide +kernel
theorem dX11_rank_41 : decode cX11_rank 41 = .ok (.imul, 1) := by decide +kernel
theorem dX11_rank_42 : decode cX11_rank 42 = .ok (.iload_n 2, 1) := by decide +kernel
theorem dX11_rank_43 : decode cX11_rank 43 = .ok (.iadd, 1) := by decide +kernel
theorem dX11_rank_44 : decode cX11_rank 44 = .ok (.aload_n 0, 1) := by decide +kernel
theorem dX11_rank_45 : decode cX11_rank 45 = .ok (.aload_n 0, 1) := by decide +kernel
theorem dX11_rank_46 : decode cX11_rank 46 = .ok (.getfield 41, 3) := by decide +kernel
theorem dX11_rank_49 : decode cX11_rank 49 = .ok (.iload_n 3, 1) := by decide +kernel
theorem dX11_rank_50 : decode cX11_rank 50 = .ok (.iaload, 1) := by decide +kernel
theorem dX11_rank_51 : decode cX11_rank 51 = .ok (.aload_n 0, 1) := by decide +kernel
theorem dX11_rank_52 : decode cX11_rank 52 = .ok (.getfield 9, 3) := by decide +kernel
theorem dX11_rank_55 : decode cX11_rank 55 = .ok (.bipush 32, 2) := by decide +kernel
theorem dX11_rank_57 : decode cX11_rank 57 = .ok (.iload 4, 2) := by decide +kernel
theorem dX11_rank_59 : decode cX11_rank 59 = .ok (.iadd, 1) := by decide +kernel
theorem dX11_rank_60 : decode cX11_rank 60 = .ok (.iaload, 1) := by decide +kernel
theorem dX11_rank_61 : decode cX11_rank 61 = .ok (.invokevirtual 81, 3) := by decide +kernel
theorem dX11_rank_64 : decode cX11_rank 64 = .ok (.lastore, 1) := by decide +kernel
theorem dX11_rank_65 : decode cX11_rank 65 = .ok (.iinc 4 1, 3) := by decide +kernel
theorem dX11_rank_68 : decode cX11_rank 68 = .ok (.goto (-45), 3) := by decide +kernel
theorem dX11_rank_71 : decode cX11_rank 71 = .ok (.iinc 2 1, 3) := by decide +kernel
theorem dX11_rank_74 : decode cX11_rank 74 = .ok (.iinc 3 1, 3) := by decide +kernel
theorem dX11_rank_77 : decode cX11_rank 77 = .ok (.goto (-73), 3) := by decide +kernel
theorem dX11_rank_80 : decode cX11_rank 80 = .ok (.iconst 0, 1) := by decide +kernel
theorem dX11_rank_81 : decode cX11_rank 81 = .ok (.istore_n 3, 1) := by decide +kernel
theorem dX11_rank_82 : decode cX11_rank 82 = .ok (.iconst 0, 1) := by decide +kernel
theorem dX11_rank_83 : decode cX11_rank 83 = .ok (.istore 4, 2) := by decide +kernel
theorem dX11_rank_85 : decode cX11_rank 85 = .ok (.iload 4, 2) := by decide +kernel
theorem dX11_rank_87 : decode cX11_rank 87 = .ok (.iload_n 2, 1) := by decide +kernel
theorem dX11_rank_88 : decode cX11_rank 88 = .ok (.if_icmp .ge 230, 3) := by decide +kernel
theorem dX11_rank_91 : decode cX11_rank 91 = .ok (.iload_n 3, 1) := by decide +kernel
theorem dX11_rank_92 : decode cX11_rank 92 = .ok (.istore 5, 2) := by decide +kernel
theorem dX11_rank_94 : decode cX11_rank 94 = .ok (.iload 5, 2) := by decide +kernel
theorem dX11_rank_96 : decode cX11_rank 96 = .ok (.aload_n 0, 1) := by decide +kernel
theorem dX11_rank_97 : decode cX11_rank 97 = .ok (.getfield 9, 3) := by decide +kernel
theorem dX11_rank_100 : decode cX11_rank 100 = .ok (.iconst 1, 1) := by decide +kernel
theorem dX11_rank_101 : decode cX11_rank 101 = .ok (.iaload, 1) := by decide +kernel
theorem dX11_rank_102 : decode cX11_rank 102 = .ok (.if_icmp .ge 26, 3) := by decide +kernel
theorem dX11_rank_105 : decode cX11_rank 105 = .ok (.aload_n 0, 1) := by decide +kernel
theorem dX11_rank_106 : decode cX11_rank 106 = .ok (.getfield 53, 3) := by decide +kernel
theorem dX11_rank_109 : decode cX11_rank 109 = .ok (.iconst 4, 1) := by decide +kernel
theorem dX11_rank_110 : decode cX11_rank 110 = .ok (.iload 5, 2) := by decide +kernel
theorem dX11_rank_112 : decode cX11_rank 112 = .ok (.imul, 1) := by decide +kernel
theorem dX11_rank_113 : decode cX11_rank 113 = .ok (.iload 4, 2) := by decide +kernel
theorem dX11_rank_115 : decode cX11_rank 115 = .ok (.iadd, 1) := by decide +kernel
theorem dX11_rank_116 : decode cX11_rank 116 = .ok (.laload, 1) := by decide +kernel
theorem dX11_rank_117 : decode cX11_rank 117 = .ok (.lconst 0, 1) := by decide +kernel
theorem dX11_rank_118 : decode cX11_rank 118 = .ok (.lcmp, 1) := by decide +kernel
theorem dX11_rank_119 : decode cX11_rank 119 = .ok (.ifCond .ne 9, 3) := by decide +kernel
theorem dX11_rank_122 : decode cX11_rank 122 = .ok (.iinc 5 1, 3) := by decide +kernel
theorem dX11_rank_125 : decode cX11_rank 125 = .ok (.goto (-31), 3) := by decide +kernel
theorem dX11_rank_128 : decode cX11_rank 128 = .ok (.iload 5, 2) := by decide +kernel
theorem dX11_rank_130 : decode cX11_rank 130 = .ok (.aload_n 0, 1) := by decide +kernel
theorem dX11_rank_131 : decode cX11_rank 131 = .ok (.getfield 9, 3) := by decide +kernel
theorem dX11_rank_134 : decode cX11_rank 134 = .ok (.iconst 1, 1) := by decide +kernel
theorem dX11_rank_135 : decode cX11_rank 135 = .ok (.iaload, 1) := by decide +kernel
theorem dX11_rank_136 : decode cX11_rank 136 = .ok (.if_icmp .ne 6, 3) := by decide +kernel
theorem dX11_rank_139 : decode cX11_rank 139 = .ok (.goto 173, 3) := by decide +kernel
theorem dX11_rank_142 : decode cX11_rank 142 = .ok (.iconst 0, 1) := by decide +kernel
theorem dX11_rank_143 : decode cX11_rank 143 = .ok (.istore 6, 2) := by decide +kernel
theorem dX11_rank_145 : decode cX11_rank 145 = .ok (.iload 6, 2) := by decide +kernel
theorem dX11_rank_147 : decode cX11_rank 147 = .ok (.iload_n 2, 1) := by decide +kernel
theorem dX11_rank_148 : decode cX11_rank 148 = .ok (.if_icmp .ge 59, 3) := by decide +kernel
theorem dX11_rank_151 : decode cX11_rank 151 = .ok (.aload_n 0, 1) := by decide +kernel
theorem dX11_rank_152 : decode cX11_rank 152 = .ok (.getfield 53, 3) := by decide +kernel
theorem dX11_rank_155 : decode cX11_rank 155 = .ok (.iconst 4, 1) := by decide +kernel
theorem dX11_rank_156 : decode cX11_rank 156 = .ok (.iload 5, 2) := by decide +kernel
theorem dX11_rank_158 : decode cX11_rank 158 = .ok (.imul, 1) := by decide +kernel
theorem dX11_rank_159 : decode cX11_rank 159 = .ok (.iload 6, 2) := by decide +kernel
theorem dX11_rank_161 : decode cX11_rank 161 = .ok (.iadd, 1) := by decide +kernel
theorem dX11_rank_162 : decode cX11_rank 162 = .ok (.laload, 1) := by decide +kernel
theorem dX11_rank_163 : decode cX11_rank 163 = .ok (.lstore 7, 2) := by decide +kernel
theorem dX11_rank_165 : decode cX11_rank 165 = .ok (.aload_n 0, 1) := by decide +kernel
theorem dX11_rank_166 : decode cX11_rank 166 = .ok (.getfield 53, 3) := by decide +kernel
theorem dX11_rank_169 : decode cX11_rank 169 = .ok (.iconst 4, 1) := by decide +kernel
theorem dX11_rank_170 : decode cX11_rank 170 = .ok (.iload 5, 2) := by decide +kernel
theorem dX11_rank_172 : decode cX11_rank 172 = .ok (.imul, 1) := by decide +kernel
theorem dX11_rank_173 : decode cX11_rank 173 = .ok (.iload 6, 2) := by decide +kernel
theorem dX11_rank_175 : decode cX11_rank 175 = .ok (.iadd, 1) := by decide +kernel
theorem dX11_rank_176 : decode cX11_rank 176 = .ok (.aload_n 0, 1) := by decide +kernel
theorem dX11_rank_177 : decode cX11_rank 177 = .ok (.getfield 53, 3) := by decide +kernel
theorem dX11_rank_180 : decode cX11_rank 180 = .ok (.iconst 4, 1) := by decide +kernel
theorem dX11_rank_181 : decode cX11_rank 181 = .ok (.iload_n 3, 1) := by decide +kernel
theorem dX11_rank_182 : decode cX11_rank 182 = .ok (.imul, 1) := by decide +kernel
theorem dX11_rank_183 : decode cX11_rank 183 = .ok (.iload 6, 2) := by decide +kernel
theorem dX11_rank_185 : decode cX11_rank 185 = .ok (.iadd, 1) := by decide +kernel
theorem dX11_rank_186 : decode cX11_rank 186 = .ok (.laload, 1) := by decide +kernel
theorem dX11_rank_187 : decode cX11_rank 187 = .ok (.lastore, 1) := by decide +kernel
theorem dX11_rank_188 : decode cX11_rank 188 = .ok (.aload_n 0, 1) := by decide +kernel
theorem dX11_rank_189 : decode cX11_rank 189 = .ok (.getfield 53, 3) := by decide +kernel
theorem dX11_rank_192 : decode cX11_rank 192 = .ok (.iconst 4, 1) := by decide +kernel
theorem dX11_rank_193 : decode cX11_rank 193 = .ok (.iload_n 3, 1) := by decide +kernel
theorem dX11_rank_194 : decode cX11_rank 194 = .ok (.imul, 1) := by decide +kernel
theorem dX11_rank_195 : decode cX11_rank 195 = .ok (.iload 6, 2) := by decide +kernel
theorem dX11_rank_197 : decode cX11_rank 197 = .ok (.iadd, 1) := by decide +kernel
theorem dX11_rank_198 : decode cX11_rank 198 = .ok (.lload 7, 2) := by decide +kernel
theorem dX11_rank_200 : decode cX11_rank 200 = .ok (.lastore, 1) := by decide +kernel
theorem dX11_rank_201 : decode cX11_rank 201 = .ok (.iinc 6 1, 3) := by decide +kernel
theorem dX11_rank_204 : decode cX11_rank 204 = .ok (.goto (-59), 3) := by decide +kernel
theorem dX11_rank_207 : decode cX11_rank 207 = .ok (.iload_n 3, 1) := by decide +kernel
theorem dX11_rank_208 : decode cX11_rank 208 = .ok (.iconst 1, 1) := by decide +kernel
theorem dX11_rank_209 : decode cX11_rank 209 = .ok (.iadd, 1) := by decide +kernel
theorem dX11_rank_210 : decode cX11_rank 210 = .ok (.istore 6, 2) := by decide +kernel
theorem dX11_rank_212 : decode cX11_rank 212 = .ok (.iload 6, 2) := by decide +kernel
theorem dX11_rank_214 : decode cX11_rank 214 = .ok (.aload_n 0, 1) := by decide +kernel
theorem dX11_rank_215 : decode cX11_rank 215 = .ok (.getfield 9, 3) := by decide +kernel
theorem dX11_rank_218 : decode cX11_rank 218 = .ok (.iconst 1, 1) := by decide +kernel
theorem dX11_rank_219 : decode cX11_rank 219 = .ok (.iaload, 1) := by decide +kernel
theorem dX11_rank_220 : decode cX11_rank 220 = .ok (.if_icmp .ge 89, 3) := by decide +kernel
theorem dX11_rank_223 : decode cX11_rank 223 = .ok (.aload_n 0, 1) := by decide +kernel
theorem dX11_rank_224 : decode cX11_rank 224 = .ok (.getfield 53, 3) := by decide +kernel
theorem dX11_rank_227 : decode cX11_rank 227 = .ok (.iconst 4, 1) := by decide +kernel
theorem dX11_rank_228 : decode cX11_rank 228 = .ok (.iload 6, 2) := by decide +kernel
theorem dX11_rank_230 : decode cX11_rank 230 = .ok (.imul, 1) := by decide +kernel
theorem dX11_rank_231 : decode cX11_rank 231 = .ok (.iload 4, 2) := by decide +kernel
theorem dX11_rank_233 : decode cX11_rank 233 = .ok (.iadd, 1) := by decide +kernel
theorem dX11_rank_234 : decode cX11_rank 234 = .ok (.laload, 1) := by decide +kernel
theorem dX11_rank_235 : decode cX11_rank 235 = .ok (.lstore 7, 2) := by decide +kernel
theorem dX11_rank_237 : decode cX11_rank 237 = .ok (.iconst 0, 1) := by decide +kernel
theorem dX11_rank_238 : decode cX11_rank 238 = .ok (.istore 9, 2) := by decide +kernel
theorem dX11_rank_240 : decode cX11_rank 240 = .ok (.iload 9, 2) := by decide +kernel
theorem dX11_rank_242 : decode cX11_rank 242 = .ok (.iload_n 2, 1) := by decide +kernel
theorem dX11_rank_243 : decode cX11_rank 243 = .ok (.if_icmp .ge 60, 3) := by decide +kernel
theorem dX11_rank_246 : decode cX11_rank 246 = .ok (.aload_n 0, 1) := by decide +kernel
theorem dX11_rank_247 : decode cX11_rank 247 = .ok (.getfield 53, 3) := by decide +kernel
theorem dX11_rank_250 : decode cX11_rank 250 = .ok (.iconst 4, 1) := by decide +kernel
theorem dX11_rank_251 : decode cX11_rank 251 = .ok (.iload 6, 2) := by decide +kernel
theorem dX11_rank_253 : decode cX11_rank 253 = .ok (.imul, 1) := by decide +kernel
theorem dX11_rank_254 : decode cX11_rank 254 = .ok (.iload 9, 2) := by decide +kernel
theorem dX11_rank_256 : decode cX11_rank 256 = .ok (.iadd, 1) := by decide +kernel
theorem dX11_rank_257 : decode cX11_rank 257 = .ok (.aload_n 0, 1) := by decide +kernel
theorem dX11_rank_258 : decode cX11_rank 258 = .ok (.getfield 53, 3) := by decide +kernel
theorem dX11_rank_261 : decode cX11_rank 261 = .ok (.iconst 4, 1) := by decide +kernel
theorem dX11_rank_262 : decode cX11_rank 262 = .ok (.iload 6, 2) := by decide +kernel
theorem dX11_rank_264 : decode cX11_rank 264 = .ok (.imul, 1) := by decide +kernel
theorem dX11_rank_265 : decode cX11_rank 265 = .ok (.iload 9, 2) := by decide +kernel
theorem dX11_rank_267 : decode cX11_rank 267 = .ok (.iadd, 1) := by decide +kernel
theorem dX11_rank_268 : decode cX11_rank 268 = .ok (.laload, 1) := by decide +kernel
theorem dX11_rank_269 : decode cX11_rank 269 = .ok (.aload_n 0, 1) := by decide +kernel
theorem dX11_rank_270 : decode cX11_rank 270 = .ok (.getfield 53, 3) := by decide +kernel
theorem dX11_rank_273 : decode cX11_rank 273 = .ok (.iconst 4, 1) := by decide +kernel
theorem dX11_rank_274 : decode cX11_rank 274 = .ok (.iload_n 3, 1) := by decide +kernel
theorem dX11_rank_275 : decode cX11_rank 275 = .ok (.imul, 1) := by decide +kernel
theorem dX11_rank_276 : decode cX11_rank 276 = .ok (.iload 4, 2) := by decide +kernel
theorem dX11_rank_278 : decode cX11_rank 278 = .ok (.iadd, 1) := by decide +kernel
theorem dX11_rank_279 : decode cX11_rank 279 = .ok (.laload, 1) := by decide +kernel
theorem dX11_rank_280 : decode cX11_rank 280 = .ok (.lmul, 1) := by decide +kernel
theorem dX11_rank_281 : decode cX11_rank 281 = .ok (.aload_n 0, 1) := by decide +kernel
theorem dX11_rank_282 : decode cX11_rank 282 = .ok (.getfield 53, 3) := by decide +kernel
theorem dX11_rank_285 : decode cX11_rank 285 = .ok (.iconst 4, 1) := by decide +kernel
theorem dX11_rank_286 : decode cX11_rank 286 = .ok (.iload_n 3, 1) := by decide +kernel
theorem dX11_rank_287 : decode cX11_rank 287 = .ok (.imul, 1) := by decide +kernel
theorem dX11_rank_288 : decode cX11_rank 288 = .ok (.iload 9, 2) := by decide +kernel
theorem dX11_rank_290 : decode cX11_rank 290 = .ok (.iadd, 1) := by decide +kernel
theorem dX11_rank_291 : decode cX11_rank 291 = .ok (.laload, 1) := by decide +kernel
theorem dX11_rank_292 : decode cX11_rank 292 = .ok (.lload 7, 2) := by decide +kernel
theorem dX11_rank_294 : decode cX11_rank 294 = .ok (.lmul, 1) := by decide +kernel
theorem dX11_rank_295 : decode cX11_rank 295 = .ok (.lsub, 1) := by decide +kernel
theorem dX11_rank_296 : decode cX11_rank 296 = .ok (.lastore, 1) := by decide +kernel
theorem dX11_rank_297 : decode cX11_rank 297 = .ok (.iinc 9 1, 3) := by decide +kernel
theorem dX11_rank_300 : decode cX11_rank 300 = .ok (.goto (-60), 3) := by decide +kernel
theorem dX11_rank_303 : decode cX11_rank 303 = .ok (.iinc 6 1, 3) := by decide +kernel
theorem dX11_rank_306 : decode cX11_rank 306 = .ok (.goto (-94), 3) := by decide +kernel
theorem dX11_rank_309 : decode cX11_rank 309 = .ok (.iinc 3 1, 3) := by decide +kernel
theorem dX11_rank_312 : decode cX11_rank 312 = .ok (.iinc 4 1, 3) := by decide +kernel
theorem dX11_rank_315 : decode cX11_rank 315 = .ok (.goto (-230), 3) := by decide +kernel
theorem dX11_rank_318 : decode cX11_rank 318 = .ok (.iload_n 3, 1) := by decide +kernel
theorem dX11_rank_319 : decode cX11_rank 319 = .ok (.ireturn, 1) := by decide +kernel
theorem dX11_common_0 : decode cX11_common 0 = .ok (.lload_n 0, 1) := by decide +kernel
theorem dX11_common_1 : decode cX11_common 1 = .ok (.lconst 0, 1) := by decide +kernel
theorem dX11_common_2 : decode cX11_common 2 = .ok (.lcmp, 1) := by decide +kernel
theorem dX11_common_3 : decode cX11_common 3 = .ok (.ifCond .ge 8, 3) := by decide +kernel
theorem dX11_common_6 : decode cX11_common 6 = .ok (.lload_n 0, 1) := by decide +kernel
theorem dX11_common_7 : decode cX11_common 7 = .ok (.lneg, 1) := by decide +kernel
theorem dX11_common_8 : decode cX11_common 8 = .ok (.goto 4, 3) := by decide +kernel
theorem dX11_common_11 : decode cX11_common 11 = .ok (.lload_n 0, 1) := by decide +kernel
theorem dX11_common_12 : decode cX11_common 12 = .ok (.lstore 4, 2) := by decide +kernel
theorem dX11_common_14 : decode cX11_common 14 = .ok (.lload_n 2, 1) := by decide +kernel
theorem dX11_common_15 : decode cX11_common 15 = .ok (.lconst 0, 1) := by decide +kernel
theorem dX11_common_16 : decode cX11_common 16 = .ok (.lcmp, 1) := by decide +kernel
theorem dX11_common_17 : decode cX11_common 17 = .ok (.ifCond .ge 8, 3) := by decide +kernel
theorem dX11_common_20 : decode cX11_common 20 = .ok (.lload_n 2, 1) := by decide +kernel
theorem dX11_common_21 : decode cX11_common 21 = .ok (.lneg, 1) := by decide +kernel
theorem dX11_common_22 : decode cX11_common 22 = .ok (.goto 4, 3) := by decide +kernel
theorem dX11_common_25 : decode cX11_common 25 = .ok (.lload_n 2, 1) := by decide +kernel
theorem dX11_common_26 : decode cX11_common 26 = .ok (.lstore 6, 2) := by decide +kernel
theorem dX11_common_28 : decode cX11_common 28 = .ok (.lload 6, 2) := by decide +kernel
theorem dX11_common_30 : decode cX11_common 30 = .ok (.lconst 0, 1) := by decide +kernel
theorem dX11_common_31 : decode cX11_common 31 = .ok (.lcmp, 1) := by decide +kernel
theorem dX11_common_32 : decode cX11_common 32 = .ok (.ifCond .eq 21, 3) := by decide +kernel
theorem dX11_common_35 : decode cX11_common 35 = .ok (.lload 4, 2) := by decide +kernel
theorem dX11_common_37 : decode cX11_common 37 = .ok (.lload 6, 2) := by decide +kernel
theorem dX11_common_39 : decode cX11_common 39 = .ok (.lrem, 1) := by decide +kernel
theorem dX11_common_40 : decode cX11_common 40 = .ok (.lstore 8, 2) := by decide +kernel
theorem dX11_common_42 : decode cX11_common 42 = .ok (.lload 6, 2) := by decide +kernel
theorem dX11_common_44 : decode cX11_common 44 = .ok (.lstore 4, 2) := by decide +kernel
theorem dX11_common_46 : decode cX11_common 46 = .ok (.lload 8, 2) := by decide +kernel
theorem dX11_common_48 : decode cX11_common 48 = .ok (.lstore 6, 2) := by decide +kernel
theorem dX11_common_50 : decode cX11_common 50 = .ok (.goto (-22), 3) := by decide +kernel
theorem dX11_common_53 : decode cX11_common 53 = .ok (.lload 4, 2) := by decide +kernel
theorem dX11_common_55 : decode cX11_common 55 = .ok (.lreturn, 1) := by decide +kernel
theorem dX11_part_0 : decode cX11_part 0 = .ok (.lload_n 0, 1) := by decide +kernel
theorem dX11_part_1 : decode cX11_part 1 = .ok (.lload_n 2, 1) := by decide +kernel
theorem dX11_part_2 : decode cX11_part 2 = .ok (.invokestatic 125, 3) := by decide +kernel
theorem dX11_part_5 : decode cX11_part 5 = .ok (.lstore 5, 2) := by decide +kernel
theorem dX11_part_7 : decode cX11_part 7 = .ok (.iload 4, 2) := by decide +kernel
theorem dX11_part_9 : decode cX11_part 9 = .ok (.ifCond .eq 10, 3) := by decide +kernel
theorem dX11_part_12 : decode cX11_part 12 = .ok (.lload_n 2, 1) := by decide +kernel
theorem dX11_part_13 : decode cX11_part 13 = .ok (.lload 5, 2) := by decide +kernel
theorem dX11_part_15 : decode cX11_part 15 = .ok (.ldiv, 1) := by decide +kernel
theorem dX11_part_16 : decode cX11_part 16 = .ok (.goto 7, 3) := by decide +kernel
theorem dX11_part_19 : decode cX11_part 19 = .ok (.lload_n 0, 1) := by decide +kernel
theorem dX11_part_20 : decode cX11_part 20 = .ok (.lload 5, 2) := by decide +kernel
theorem dX11_part_22 : decode cX11_part 22 = .ok (.ldiv, 1) := by decide +kernel
theorem dX11_part_23 : decode cX11_part 23 = .ok (.lreturn, 1) := by decide +kernel
theorem dX11_compare_0 : decode cX11_compare 0 = .ok (.lload_n 0, 1) := by decide +kernel
theorem dX11_compare_1 : decode cX11_compare 1 = .ok (.lstore 8, 2) := by decide +kernel
theorem dX11_compare_3 : decode cX11_compare 3 = .ok (.lload_n 2, 1) := by decide +kernel
theorem dX11_compare_4 : decode cX11_compare 4 = .ok (.lstore 10, 2) := by decide +kernel
theorem dX11_compare_6 : decode cX11_compare 6 = .ok (.lload 4, 2) := by decide +kernel
theorem dX11_compare_8 : decode cX11_compare 8 = .ok (.lstore 12, 2) := by decide +kernel
theorem dX11_compare_10 : decode cX11_compare 10 = .ok (.lload 6, 2) := by decide +kernel
theorem dX11_compare_12 : decode cX11_compare 12 = .ok (.lstore 14, 2) := by decide +kernel
theorem dX11_compare_14 : decode cX11_compare 14 = .ok (.lload 8, 2) := by decide +kernel
theorem dX11_compare_16 : decode cX11_compare 16 = .ok (.lload 10, 2) := by decide +kernel
theorem dX11_compare_18 : decode cX11_compare 18 = .ok (.invokestatic 129, 3) := by decide +kernel
theorem dX11_compare_21 : decode cX11_compare 21 = .ok (.lstore 16, 2) := by decide +kernel
theorem dX11_compare_23 : decode cX11_compare 23 = .ok (.lload 12, 2) := by decide +kernel
theorem dX11_compare_25 : decode cX11_compare 25 = .ok (.lload 14, 2) := by decide +kernel
theorem dX11_compare_27 : decode cX11_compare 27 = .ok (.invokestatic 129, 3) := by decide +kernel
theorem dX11_compare_30 : decode cX11_compare 30 = .ok (.lstore 18, 2) := by decide +kernel
theorem dX11_compare_32 : decode cX11_compare 32 = .ok (.lload 16, 2) := by decide +kernel
theorem dX11_compare_34 : decode cX11_compare 34 = .ok (.lload 18, 2) := by decide +kernel
theorem dX11_compare_36 : decode cX11_compare 36 = .ok (.lcmp, 1) := by decide +kernel
theorem dX11_compare_37 : decode cX11_compare 37 = .ok (.ifCond .eq 17, 3) := by decide +kernel
theorem dX11_compare_40 : decode cX11_compare 40 = .ok (.lload 16, 2) := by decide +kernel
theorem dX11_compare_42 : decode cX11_compare 42 = .ok (.lload 18, 2) := by decide +kernel
theorem dX11_compare_44 : decode cX11_compare 44 = .ok (.lcmp, 1) := by decide +kernel
theorem dX11_compare_45 : decode cX11_compare 45 = .ok (.ifCond .ge 7, 3) := by decide +kernel
theorem dX11_compare_48 : decode cX11_compare 48 = .ok (.iconst (-1), 1) := by decide +kernel
theorem dX11_compare_49 : decode cX11_compare 49 = .ok (.goto 4, 3) := by decide +kernel
theorem dX11_compare_52 : decode cX11_compare 52 = .ok (.iconst 1, 1) := by decide +kernel
theorem dX11_compare_53 : decode cX11_compare 53 = .ok (.ireturn, 1) := by decide +kernel
theorem dX11_compare_54 : decode cX11_compare 54 = .ok (.lload 8, 2) := by decide +kernel
theorem dX11_compare_56 : decode cX11_compare 56 = .ok (.lload 10, 2) := by decide +kernel
theorem dX11_compare_58 : decode cX11_compare 58 = .ok (.invokestatic 134, 3) := by decide +kernel
theorem dX11_compare_61 : decode cX11_compare 61 = .ok (.lstore 20, 2) := by decide +kernel
theorem dX11_compare_63 : decode cX11_compare 63 = .ok (.lload 12, 2) := by decide +kernel
theorem dX11_compare_65 : decode cX11_compare 65 = .ok (.lload 14, 2) := by decide +kernel
theorem dX11_compare_67 : decode cX11_compare 67 = .ok (.invokestatic 134, 3) := by decide +kernel
theorem dX11_compare_70 : decode cX11_compare 70 = .ok (.lstore 22, 2) := by decide +kernel
theorem dX11_compare_72 : decode cX11_compare 72 = .ok (.lload 20, 2) := by decide +kernel
theorem dX11_compare_74 : decode cX11_compare 74 = .ok (.lconst 0, 1) := by decide +kernel
theorem dX11_compare_75 : decode cX11_compare 75 = .ok (.lcmp, 1) := by decide +kernel
theorem dX11_compare_76 : decode cX11_compare 76 = .ok (.ifCond .eq 10, 3) := by decide +kernel
theorem dX11_compare_79 : decode cX11_compare 79 = .ok (.lload 22, 2) := by decide +kernel
theorem dX11_compare_81 : decode cX11_compare 81 = .ok (.lconst 0, 1) := by decide +kernel
theorem dX11_compare_82 : decode cX11_compare 82 = .ok (.lcmp, 1) := by decide +kernel
theorem dX11_compare_83 : decode cX11_compare 83 = .ok (.ifCond .ne 28, 3) := by decide +kernel
theorem dX11_compare_86 : decode cX11_compare 86 = .ok (.lload 20, 2) := by decide +kernel
theorem dX11_compare_88 : decode cX11_compare 88 = .ok (.lload 22, 2) := by decide +kernel
theorem dX11_compare_90 : decode cX11_compare 90 = .ok (.lcmp, 1) := by decide +kernel
theorem dX11_compare_91 : decode cX11_compare 91 = .ok (.ifCond .ne 7, 3) := by decide +kernel
theorem dX11_compare_94 : decode cX11_compare 94 = .ok (.iconst 0, 1) := by decide +kernel
theorem dX11_compare_95 : decode cX11_compare 95 = .ok (.goto 15, 3) := by decide +kernel
theorem dX11_compare_98 : decode cX11_compare 98 = .ok (.lload 20, 2) := by decide +kernel
theorem dX11_compare_100 : decode cX11_compare 100 = .ok (.lconst 0, 1) := by decide +kernel
theorem dX11_compare_101 : decode cX11_compare 101 = .ok (.lcmp, 1) := by decide +kernel
theorem dX11_compare_102 : decode cX11_compare 102 = .ok (.ifCond .ne 7, 3) := by decide +kernel
theorem dX11_compare_105 : decode cX11_compare 105 = .ok (.iconst (-1), 1) := by decide +kernel
theorem dX11_compare_106 : decode cX11_compare 106 = .ok (.goto 4, 3) := by decide +kernel
theorem dX11_compare_109 : decode cX11_compare 109 = .ok (.iconst 1, 1) := by decide +kernel
theorem dX11_compare_110 : decode cX11_compare 110 = .ok (.ireturn, 1) := by decide +kernel
theorem dX11_compare_111 : decode cX11_compare 111 = .ok (.lload 14, 2) := by decide +kernel
theorem dX11_compare_113 : decode cX11_compare 113 = .ok (.lstore 8, 2) := by decide +kernel
theorem dX11_compare_115 : decode cX11_compare 115 = .ok (.lload 20, 2) := by decide +kernel
theorem dX11_compare_117 : decode cX11_compare 117 = .ok (.lstore 14, 2) := by decide +kernel
theorem dX11_compare_119 : decode cX11_compare 119 = .ok (.lload 10, 2) := by decide +kernel
theorem dX11_compare_121 : decode cX11_compare 121 = .ok (.lstore 12, 2) := by decide +kernel
theorem dX11_compare_123 : decode cX11_compare 123 = .ok (.lload 22, 2) := by decide +kernel
theorem dX11_compare_125 : decode cX11_compare 125 = .ok (.lstore 10, 2) := by decide +kernel
theorem dX11_compare_127 : decode cX11_compare 127 = .ok (.goto (-113), 3) := by decide +kernel
theorem dX11_becomesFound_0 : decode cX11_becomesFound 0 = .ok (.aload_n 0, 1) := by decide +kernel
theorem dX11_becomesFound_1 : decode cX11_becomesFound 1 = .ok (.iconst 1, 1) := by decide +kernel
theorem dX11_becomesFound_2 : decode cX11_becomesFound 2 = .ok (.putfield 137, 3) := by decide +kernel
theorem dX11_becomesFound_5 : decode cX11_becomesFound 5 = .ok (.aload_n 0, 1) := by decide +kernel
theorem dX11_becomesFound_6 : decode cX11_becomesFound 6 = .ok (.iconst 0, 1) := by decide +kernel
theorem dX11_becomesFound_7 : decode cX11_becomesFound 7 = .ok (.putfield 70, 3) := by decide +kernel
theorem dX11_becomesFound_10 : decode cX11_becomesFound 10 = .ok (.aload_n 0, 1) := by decide +kernel
theorem dX11_becomesFound_11 : decode cX11_becomesFound 11 = .ok (.iload_n 1, 1) := by decide +kernel
theorem dX11_becomesFound_12 : decode cX11_becomesFound 12 = .ok (.putfield 140, 3) := by decide +kernel
theorem dX11_becomesFound_15 : decode cX11_becomesFound 15 = .ok (.aload_n 0, 1) := by decide +kernel
theorem dX11_becomesFound_16 : decode cX11_becomesFound 16 = .ok (.aload_n 0, 1) := by decide +kernel
theorem dX11_becomesFound_17 : decode cX11_becomesFound 17 = .ok (.getfield 101, 3) := by decide +kernel
theorem dX11_becomesFound_20 : decode cX11_becomesFound 20 = .ok (.putfield 143, 3) := by decide +kernel
theorem dX11_becomesFound_23 : decode cX11_becomesFound 23 = .ok (.aload_n 0, 1) := by decide +kernel
theorem dX11_becomesFound_24 : decode cX11_becomesFound 24 = .ok (.aload_n 0, 1) := by decide +kernel
theorem dX11_becomesFound_25 : decode cX11_becomesFound 25 = .ok (.getfield 121, 3) := by decide +kernel
theorem dX11_becomesFound_28 : decode cX11_becomesFound 28 = .ok (.putfield 146, 3) := by decide +kernel
theorem dX11_becomesFound_31 : decode cX11_becomesFound 31 = .ok (.iconst 0, 1) := by decide +kernel
theorem dX11_becomesFound_32 : decode cX11_becomesFound 32 = .ok (.istore_n 2, 1) := by decide +kernel
theorem dX11_becomesFound_33 : decode cX11_becomesFound 33 = .ok (.iload_n 2, 1) := by decide +kernel
theorem dX11_becomesFound_34 : decode cX11_becomesFound 34 = .ok (.aload_n 0, 1) := by decide +kernel
theorem dX11_becomesFound_35 : decode cX11_becomesFound 35 = .ok (.getfield 101, 3) := by decide +kernel
theorem dX11_becomesFound_38 : decode cX11_becomesFound 38 = .ok (.if_icmp .ge 33, 3) := by decide +kernel
theorem dX11_becomesFound_41 : decode cX11_becomesFound 41 = .ok (.aload_n 0, 1) := by decide +kernel
theorem dX11_becomesFound_42 : decode cX11_becomesFound 42 = .ok (.getfield 35, 3) := by decide +kernel
theorem dX11_becomesFound_45 : decode cX11_becomesFound 45 = .ok (.iload_n 2, 1) := by decide +kernel
theorem dX11_becomesFound_46 : decode cX11_becomesFound 46 = .ok (.aload_n 0, 1) := by decide +kernel
theorem dX11_becomesFound_47 : decode cX11_becomesFound 47 = .ok (.getfield 41, 3) := by decide +kernel
theorem dX11_becomesFound_50 : decode cX11_becomesFound 50 = .ok (.iload_n 2, 1) := by decide +kernel
theorem dX11_becomesFound_51 : decode cX11_becomesFound 51 = .ok (.iaload, 1) := by decide +kernel
theorem dX11_becomesFound_52 : decode cX11_becomesFound 52 = .ok (.iastore, 1) := by decide +kernel
theorem dX11_becomesFound_53 : decode cX11_becomesFound 53 = .ok (.aload_n 0, 1) := by decide +kernel
theorem dX11_becomesFound_54 : decode cX11_becomesFound 54 = .ok (.getfield 38, 3) := by decide +kernel
theorem dX11_becomesFound_57 : decode cX11_becomesFound 57 = .ok (.iload_n 2, 1) := by decide +kernel
theorem dX11_becomesFound_58 : decode cX11_becomesFound 58 = .ok (.aload_n 0, 1) := by decide +kernel
theorem dX11_becomesFound_59 : decode cX11_becomesFound 59 = .ok (.getfield 50, 3) := by decide +kernel
theorem dX11_becomesFound_62 : decode cX11_becomesFound 62 = .ok (.iload_n 2, 1) := by decide +kernel
theorem dX11_becomesFound_63 : decode cX11_becomesFound 63 = .ok (.laload, 1) := by decide +kernel
theorem dX11_becomesFound_64 : decode cX11_becomesFound 64 = .ok (.lastore, 1) := by decide +kernel
theorem dX11_becomesFound_65 : decode cX11_becomesFound 65 = .ok (.iinc 2 1, 3) := by decide +kernel
theorem dX11_becomesFound_68 : decode cX11_becomesFound 68 = .ok (.goto (-35), 3) := by decide +kernel
theorem dX11_becomesFound_71 : decode cX11_becomesFound 71 = .ok (.aload_n 0, 1) := by decide +kernel
theorem dX11_becomesFound_72 : decode cX11_becomesFound 72 = .ok (.aload_n 0, 1) := by decide +kernel
theorem dX11_becomesFound_73 : decode cX11_becomesFound 73 = .ok (.invokevirtual 149, 3) := by decide +kernel
theorem dX11_becomesFound_76 : decode cX11_becomesFound 76 = .ok (.putfield 153, 3) := by decide +kernel
theorem dX11_becomesFound_79 : decode cX11_becomesFound 79 = .ok (.return_, 1) := by decide +kernel
theorem dX11_bits_0 : decode cX11_bits 0 = .ok (.iconst 0, 1) := by decide +kernel
theorem dX11_bits_1 : decode cX11_bits 1 = .ok (.istore_n 1, 1) := by decide +kernel
theorem dX11_bits_2 : decode cX11_bits 2 = .ok (.iconst 0, 1) := by decide +kernel
theorem dX11_bits_3 : decode cX11_bits 3 = .ok (.istore_n 2, 1) := by decide +kernel
theorem dX11_bits_4 : decode cX11_bits 4 = .ok (.iload_n 2, 1) := by decide +kernel
theorem dX11_bits_5 : decode cX11_bits 5 = .ok (.bipush 32, 2) := by decide +kernel
theorem dX11_bits_7 : decode cX11_bits 7 = .ok (.if_icmp .ge 17, 3) := by decide +kernel
theorem dX11_bits_10 : decode cX11_bits 10 = .ok (.iload_n 1, 1) := by decide +kernel
theorem dX11_bits_11 : decode cX11_bits 11 = .ok (.iload_n 0, 1) := by decide +kernel
theorem dX11_bits_12 : decode cX11_bits 12 = .ok (.iload_n 2, 1) := by decide +kernel
theorem dX11_bits_13 : decode cX11_bits 13 = .ok (.iushr, 1) := by decide +kernel
theorem dX11_bits_14 : decode cX11_bits 14 = .ok (.iconst 1, 1) := by decide +kernel
theorem dX11_bits_15 : decode cX11_bits 15 = .ok (.iand, 1) := by decide +kernel
theorem dX11_bits_16 : decode cX11_bits 16 = .ok (.iadd, 1) := by decide +kernel
theorem dX11_bits_17 : decode cX11_bits 17 = .ok (.istore_n 1, 1) := by decide +kernel
theorem dX11_bits_18 : decode cX11_bits 18 = .ok (.iinc 2 1, 3) := by decide +kernel
theorem dX11_bits_21 : decode cX11_bits 21 = .ok (.goto (-17), 3) := by decide +kernel
theorem dX11_bits_24 : decode cX11_bits 24 = .ok (.iload_n 1, 1) := by decide +kernel
theorem dX11_bits_25 : decode cX11_bits 25 = .ok (.ireturn, 1) := by decide +kernel
theorem dX11_find_0 : decode cX11_find 0 = .ok (.iload_n 1, 1) := by decide +kernel
theorem dX11_find_1 : decode cX11_find 1 = .ok (.iconst 1, 1) := by decide +kernel
theorem dX11_find_2 : decode cX11_find 2 = .ok (.if_icmp .lt 23, 3) := by decide +kernel
theorem dX11_find_5 : decode cX11_find 5 = .ok (.iload_n 1, 1) := by decide +kernel
theorem dX11_find_6 : decode cX11_find 6 = .ok (.iconst 1, 1) := by decide +kernel
theorem dX11_find_7 : decode cX11_find 7 = .ok (.aload_n 0, 1) := by decide +kernel
theorem dX11_find_8 : decode cX11_find 8 = .ok (.getfield 9, 3) := by decide +kernel
theorem dX11_find_11 : decode cX11_find 11 = .ok (.iconst 0, 1) := by decide +kernel
theorem dX11_find_12 : decode cX11_find 12 = .ok (.iaload, 1) := by decide +kernel
theorem dX11_find_13 : decode cX11_find 13 = .ok (.ishl, 1) := by decide +kernel
theorem dX11_find_14 : decode cX11_find 14 = .ok (.if_icmp .ge 11, 3) := by decide +kernel
theorem dX11_find_17 : decode cX11_find 17 = .ok (.iload_n 1, 1) := by decide +kernel
theorem dX11_find_18 : decode cX11_find 18 = .ok (.invokestatic 156, 3) := by decide +kernel
theorem dX11_find_21 : decode cX11_find 21 = .ok (.iconst 4, 1) := by decide +kernel
theorem dX11_find_22 : decode cX11_find 22 = .ok (.if_icmp .le 11, 3) := by decide +kernel
theorem dX11_find_25 : decode cX11_find 25 = .ok (.aload_n 0, 1) := by decide +kernel
theorem dX11_find_26 : decode cX11_find 26 = .ok (.ldc2_w 62, 3) := by decide +kernel
theorem dX11_find_29 : decode cX11_find 29 = .ok (.invokevirtual 64, 3) := by decide +kernel
theorem dX11_find_32 : decode cX11_find 32 = .ok (.lreturn, 1) := by decide +kernel
theorem dX11_find_33 : decode cX11_find 33 = .ok (.aload_n 0, 1) := by decide +kernel
theorem dX11_find_34 : decode cX11_find 34 = .ok (.iload_n 1, 1) := by decide +kernel
theorem dX11_find_35 : decode cX11_find 35 = .ok (.invokevirtual 160, 3) := by decide +kernel
theorem dX11_find_38 : decode cX11_find 38 = .ok (.aload_n 0, 1) := by decide +kernel
theorem dX11_find_39 : decode cX11_find 39 = .ok (.iconst (-1), 1) := by decide +kernel
theorem dX11_find_40 : decode cX11_find 40 = .ok (.invokevirtual 164, 3) := by decide +kernel
theorem dX11_find_43 : decode cX11_find 43 = .ok (.ifCond .eq 14, 3) := by decide +kernel
theorem dX11_find_46 : decode cX11_find 46 = .ok (.aload_n 0, 1) := by decide +kernel
theorem dX11_find_47 : decode cX11_find 47 = .ok (.iload_n 1, 1) := by decide +kernel
theorem dX11_find_48 : decode cX11_find 48 = .ok (.invokevirtual 167, 3) := by decide +kernel
theorem dX11_find_51 : decode cX11_find 51 = .ok (.aload_n 0, 1) := by decide +kernel
theorem dX11_find_52 : decode cX11_find 52 = .ok (.getfield 101, 3) := by decide +kernel
theorem dX11_find_55 : decode cX11_find 55 = .ok (.i2l, 1) := by decide +kernel
theorem dX11_find_56 : decode cX11_find 56 = .ok (.lreturn, 1) := by decide +kernel
theorem dX11_find_57 : decode cX11_find 57 = .ok (.aload_n 0, 1) := by decide +kernel
theorem dX11_find_58 : decode cX11_find 58 = .ok (.lconst 0, 1) := by decide +kernel
theorem dX11_find_59 : decode cX11_find 59 = .ok (.putfield 170, 3) := by decide +kernel
theorem dX11_find_62 : decode cX11_find 62 = .ok (.aload_n 0, 1) := by decide +kernel
theorem dX11_find_63 : decode cX11_find 63 = .ok (.iconst (-1), 1) := by decide +kernel
theorem dX11_find_64 : decode cX11_find 64 = .ok (.invokevirtual 173, 3) := by decide +kernel
theorem dX11_find_67 : decode cX11_find 67 = .ok (.istore_n 2, 1) := by decide +kernel
theorem dX11_find_68 : decode cX11_find 68 = .ok (.iconst 0, 1) := by decide +kernel
theorem dX11_find_69 : decode cX11_find 69 = .ok (.istore_n 3, 1) := by decide +kernel
theorem dX11_find_70 : decode cX11_find 70 = .ok (.iload_n 3, 1) := by decide +kernel
theorem dX11_find_71 : decode cX11_find 71 = .ok (.aload_n 0, 1) := by decide +kernel
theorem dX11_find_72 : decode cX11_find 72 = .ok (.getfield 101, 3) := by decide +kernel
theorem dX11_find_75 : decode cX11_find 75 = .ok (.if_icmp .ge 39, 3) := by decide +kernel
theorem dX11_find_78 : decode cX11_find 78 = .ok (.aload_n 0, 1) := by decide +kernel
theorem dX11_find_79 : decode cX11_find 79 = .ok (.dup, 1) := by decide +kernel
theorem dX11_find_80 : decode cX11_find 80 = .ok (.getfield 170, 3) := by decide +kernel
theorem dX11_find_83 : decode cX11_find 83 = .ok (.aload_n 0, 1) := by decide +kernel
theorem dX11_find_84 : decode cX11_find 84 = .ok (.iload_n 3, 1) := by decide +kernel
theorem dX11_find_85 : decode cX11_find 85 = .ok (.invokevirtual 173, 3) := by decide +kernel
theorem dX11_find_88 : decode cX11_find 88 = .ok (.iload_n 2, 1) := by decide +kernel
theorem dX11_find_89 : decode cX11_find 89 = .ok (.if_icmp .ne 14, 3) := by decide +kernel
theorem dX11_find_92 : decode cX11_find 92 = .ok (.lconst 1, 1) := by decide +kernel
theorem dX11_find_93 : decode cX11_find 93 = .ok (.aload_n 0, 1) := by decide +kernel
theorem dX11_find_94 : decode cX11_find 94 = .ok (.getfield 41, 3) := by decide +kernel
theorem dX11_find_97 : decode cX11_find 97 = .ok (.iload_n 3, 1) := by decide +kernel
theorem dX11_find_98 : decode cX11_find 98 = .ok (.iaload, 1) := by decide +kernel
theorem dX11_find_99 : decode cX11_find 99 = .ok (.lshl, 1) := by decide +kernel
theorem dX11_find_100 : decode cX11_find 100 = .ok (.goto 4, 3) := by decide +kernel
theorem dX11_find_103 : decode cX11_find 103 = .ok (.lconst 0, 1) := by decide +kernel
theorem dX11_find_104 : decode cX11_find 104 = .ok (.lor, 1) := by decide +kernel
theorem dX11_find_105 : decode cX11_find 105 = .ok (.putfield 170, 3) := by decide +kernel
theorem dX11_find_108 : decode cX11_find 108 = .ok (.iinc 3 1, 3) := by decide +kernel
theorem dX11_find_111 : decode cX11_find 111 = .ok (.goto (-41), 3) := by decide +kernel
theorem dX11_find_114 : decode cX11_find 114 = .ok (.aload_n 0, 1) := by decide +kernel
theorem dX11_find_115 : decode cX11_find 115 = .ok (.ldc2_w 176, 3) := by decide +kernel
theorem dX11_find_118 : decode cX11_find 118 = .ok (.invokevirtual 64, 3) := by decide +kernel
theorem dX11_find_121 : decode cX11_find 121 = .ok (.lreturn, 1) := by decide +kernel
theorem dX11_loose_0 : decode cX11_loose 0 = .ok (.aload_n 0, 1) := by decide +kernel
end
section
theorem dX11_loose_1 : decode cX11_loose 1 = .ok (.getfield 170, 3) := by decide +kernel
theorem dX11_loose_4 : decode cX11_loose 4 = .ok (.lreturn, 1) := by decide +kernel
theorem dX11_notFound_0 : decode cX11_notFound 0 = .ok (.aload_n 0, 1) := by decide +kernel
theorem dX11_notFound_1 : decode cX11_notFound 1 = .ok (.getfield 137, 3) := by decide +kernel
theorem dX11_notFound_4 : decode cX11_notFound 4 = .ok (.ifCond .ne 9, 3) := by decide +kernel
theorem dX11_notFound_7 : decode cX11_notFound 7 = .ok (.ldc2_w 96, 3) := by decide +kernel
theorem dX11_notFound_10 : decode cX11_notFound 10 = .ok (.goto 17, 3) := by decide +kernel
theorem dX11_notFound_13 : decode cX11_notFound 13 = .ok (.aload_n 0, 1) := by decide +kernel
theorem dX11_notFound_14 : decode cX11_notFound 14 = .ok (.getfield 70, 3) := by decide +kernel
theorem dX11_notFound_17 : decode cX11_notFound 17 = .ok (.ifCond .eq 9, 3) := by decide +kernel
theorem dX11_notFound_20 : decode cX11_notFound 20 = .ok (.ldc2_w 178, 3) := by decide +kernel
theorem dX11_notFound_23 : decode cX11_notFound 23 = .ok (.goto 4, 3) := by decide +kernel
theorem dX11_notFound_26 : decode cX11_notFound 26 = .ok (.lconst 0, 1) := by decide +kernel
theorem dX11_notFound_27 : decode cX11_notFound 27 = .ok (.lreturn, 1) := by decide +kernel
theorem dX11_placeOf_0 : decode cX11_placeOf 0 = .ok (.iconst (-1), 1) := by decide +kernel
theorem dX11_placeOf_1 : decode cX11_placeOf 1 = .ok (.istore_n 2, 1) := by decide +kernel
theorem dX11_placeOf_2 : decode cX11_placeOf 2 = .ok (.iconst 0, 1) := by decide +kernel
theorem dX11_placeOf_3 : decode cX11_placeOf 3 = .ok (.istore_n 3, 1) := by decide +kernel
theorem dX11_placeOf_4 : decode cX11_placeOf 4 = .ok (.iload_n 3, 1) := by decide +kernel
theorem dX11_placeOf_5 : decode cX11_placeOf 5 = .ok (.aload_n 0, 1) := by decide +kernel
theorem dX11_placeOf_6 : decode cX11_placeOf 6 = .ok (.getfield 143, 3) := by decide +kernel
theorem dX11_placeOf_9 : decode cX11_placeOf 9 = .ok (.if_icmp .ge 25, 3) := by decide +kernel
theorem dX11_placeOf_12 : decode cX11_placeOf 12 = .ok (.aload_n 0, 1) := by decide +kernel
theorem dX11_placeOf_13 : decode cX11_placeOf 13 = .ok (.getfield 35, 3) := by decide +kernel
theorem dX11_placeOf_16 : decode cX11_placeOf 16 = .ok (.iload_n 3, 1) := by decide +kernel
theorem dX11_placeOf_17 : decode cX11_placeOf 17 = .ok (.iaload, 1) := by decide +kernel
theorem dX11_placeOf_18 : decode cX11_placeOf 18 = .ok (.iload_n 1, 1) := by decide +kernel
theorem dX11_placeOf_19 : decode cX11_placeOf 19 = .ok (.if_icmp .ne 7, 3) := by decide +kernel
theorem dX11_placeOf_22 : decode cX11_placeOf 22 = .ok (.iload_n 3, 1) := by decide +kernel
theorem dX11_placeOf_23 : decode cX11_placeOf 23 = .ok (.goto 4, 3) := by decide +kernel
theorem dX11_placeOf_26 : decode cX11_placeOf 26 = .ok (.iload_n 2, 1) := by decide +kernel
theorem dX11_placeOf_27 : decode cX11_placeOf 27 = .ok (.istore_n 2, 1) := by decide +kernel
theorem dX11_placeOf_28 : decode cX11_placeOf 28 = .ok (.iinc 3 1, 3) := by decide +kernel
theorem dX11_placeOf_31 : decode cX11_placeOf 31 = .ok (.goto (-27), 3) := by decide +kernel
theorem dX11_placeOf_34 : decode cX11_placeOf 34 = .ok (.iload_n 2, 1) := by decide +kernel
theorem dX11_placeOf_35 : decode cX11_placeOf 35 = .ok (.ireturn, 1) := by decide +kernel
theorem dX11_size_0 : decode cX11_size 0 = .ok (.aload_n 0, 1) := by decide +kernel
theorem dX11_size_1 : decode cX11_size 1 = .ok (.invokevirtual 180, 3) := by decide +kernel
theorem dX11_size_4 : decode cX11_size 4 = .ok (.lconst 0, 1) := by decide +kernel
theorem dX11_size_5 : decode cX11_size 5 = .ok (.lcmp, 1) := by decide +kernel
theorem dX11_size_6 : decode cX11_size 6 = .ok (.ifCond .eq 12, 3) := by decide +kernel
theorem dX11_size_9 : decode cX11_size 9 = .ok (.aload_n 0, 1) := by decide +kernel
theorem dX11_size_10 : decode cX11_size 10 = .ok (.aload_n 0, 1) := by decide +kernel
theorem dX11_size_11 : decode cX11_size 11 = .ok (.invokevirtual 180, 3) := by decide +kernel
theorem dX11_size_14 : decode cX11_size 14 = .ok (.invokevirtual 64, 3) := by decide +kernel
theorem dX11_size_17 : decode cX11_size 17 = .ok (.lreturn, 1) := by decide +kernel
theorem dX11_size_18 : decode cX11_size 18 = .ok (.aload_n 0, 1) := by decide +kernel
theorem dX11_size_19 : decode cX11_size 19 = .ok (.iload_n 1, 1) := by decide +kernel
theorem dX11_size_20 : decode cX11_size 20 = .ok (.invokevirtual 183, 3) := by decide +kernel
theorem dX11_size_23 : decode cX11_size 23 = .ok (.istore_n 3, 1) := by decide +kernel
theorem dX11_size_24 : decode cX11_size 24 = .ok (.iload_n 3, 1) := by decide +kernel
theorem dX11_size_25 : decode cX11_size 25 = .ok (.ifCond .ge 13, 3) := by decide +kernel
theorem dX11_size_28 : decode cX11_size 28 = .ok (.aload_n 0, 1) := by decide +kernel
theorem dX11_size_29 : decode cX11_size 29 = .ok (.ldc2_w 62, 3) := by decide +kernel
theorem dX11_size_32 : decode cX11_size 32 = .ok (.invokevirtual 64, 3) := by decide +kernel
theorem dX11_size_35 : decode cX11_size 35 = .ok (.goto 17, 3) := by decide +kernel
theorem dX11_size_38 : decode cX11_size 38 = .ok (.aload_n 0, 1) := by decide +kernel
theorem dX11_size_39 : decode cX11_size 39 = .ok (.getfield 38, 3) := by decide +kernel
theorem dX11_size_42 : decode cX11_size 42 = .ok (.iload_n 3, 1) := by decide +kernel
theorem dX11_size_43 : decode cX11_size 43 = .ok (.laload, 1) := by decide +kernel
theorem dX11_size_44 : decode cX11_size 44 = .ok (.aload_n 0, 1) := by decide +kernel
theorem dX11_size_45 : decode cX11_size 45 = .ok (.getfield 146, 3) := by decide +kernel
theorem dX11_size_48 : decode cX11_size 48 = .ok (.iload_n 2, 1) := by decide +kernel
theorem dX11_size_49 : decode cX11_size 49 = .ok (.invokestatic 186, 3) := by decide +kernel
theorem dX11_size_52 : decode cX11_size 52 = .ok (.lreturn, 1) := by decide +kernel
theorem dX11_foretoldAt_0 : decode cX11_foretoldAt 0 = .ok (.lconst 0, 1) := by decide +kernel
theorem dX11_foretoldAt_1 : decode cX11_foretoldAt 1 = .ok (.lstore_n 2, 1) := by decide +kernel
theorem dX11_foretoldAt_2 : decode cX11_foretoldAt 2 = .ok (.iconst 0, 1) := by decide +kernel
theorem dX11_foretoldAt_3 : decode cX11_foretoldAt 3 = .ok (.istore 4, 2) := by decide +kernel
theorem dX11_foretoldAt_5 : decode cX11_foretoldAt 5 = .ok (.iload 4, 2) := by decide +kernel
theorem dX11_foretoldAt_7 : decode cX11_foretoldAt 7 = .ok (.aload_n 0, 1) := by decide +kernel
theorem dX11_foretoldAt_8 : decode cX11_foretoldAt 8 = .ok (.getfield 143, 3) := by decide +kernel
theorem dX11_foretoldAt_11 : decode cX11_foretoldAt 11 = .ok (.if_icmp .ge 32, 3) := by decide +kernel
theorem dX11_foretoldAt_14 : decode cX11_foretoldAt 14 = .ok (.lload_n 2, 1) := by decide +kernel
theorem dX11_foretoldAt_15 : decode cX11_foretoldAt 15 = .ok (.aload_n 0, 1) := by decide +kernel
theorem dX11_foretoldAt_16 : decode cX11_foretoldAt 16 = .ok (.aload_n 0, 1) := by decide +kernel
theorem dX11_foretoldAt_17 : decode cX11_foretoldAt 17 = .ok (.getfield 35, 3) := by decide +kernel
theorem dX11_foretoldAt_20 : decode cX11_foretoldAt 20 = .ok (.iload 4, 2) := by decide +kernel
theorem dX11_foretoldAt_22 : decode cX11_foretoldAt 22 = .ok (.iaload, 1) := by decide +kernel
theorem dX11_foretoldAt_23 : decode cX11_foretoldAt 23 = .ok (.iload_n 1, 1) := by decide +kernel
theorem dX11_foretoldAt_24 : decode cX11_foretoldAt 24 = .ok (.invokevirtual 81, 3) := by decide +kernel
theorem dX11_foretoldAt_27 : decode cX11_foretoldAt 27 = .ok (.aload_n 0, 1) := by decide +kernel
theorem dX11_foretoldAt_28 : decode cX11_foretoldAt 28 = .ok (.getfield 38, 3) := by decide +kernel
theorem dX11_foretoldAt_31 : decode cX11_foretoldAt 31 = .ok (.iload 4, 2) := by decide +kernel
theorem dX11_foretoldAt_33 : decode cX11_foretoldAt 33 = .ok (.laload, 1) := by decide +kernel
theorem dX11_foretoldAt_34 : decode cX11_foretoldAt 34 = .ok (.lmul, 1) := by decide +kernel
theorem dX11_foretoldAt_35 : decode cX11_foretoldAt 35 = .ok (.ladd, 1) := by decide +kernel
theorem dX11_foretoldAt_36 : decode cX11_foretoldAt 36 = .ok (.lstore_n 2, 1) := by decide +kernel
theorem dX11_foretoldAt_37 : decode cX11_foretoldAt 37 = .ok (.iinc 4 1, 3) := by decide +kernel
theorem dX11_foretoldAt_40 : decode cX11_foretoldAt 40 = .ok (.goto (-35), 3) := by decide +kernel
theorem dX11_foretoldAt_43 : decode cX11_foretoldAt 43 = .ok (.lload_n 2, 1) := by decide +kernel
theorem dX11_foretoldAt_44 : decode cX11_foretoldAt 44 = .ok (.lreturn, 1) := by decide +kernel
theorem dX11_left_0 : decode cX11_left 0 = .ok (.aload_n 0, 1) := by decide +kernel
theorem dX11_left_1 : decode cX11_left 1 = .ok (.invokevirtual 180, 3) := by decide +kernel
theorem dX11_left_4 : decode cX11_left 4 = .ok (.lconst 0, 1) := by decide +kernel
theorem dX11_left_5 : decode cX11_left 5 = .ok (.lcmp, 1) := by decide +kernel
theorem dX11_left_6 : decode cX11_left 6 = .ok (.ifCond .eq 12, 3) := by decide +kernel
theorem dX11_left_9 : decode cX11_left 9 = .ok (.aload_n 0, 1) := by decide +kernel
theorem dX11_left_10 : decode cX11_left 10 = .ok (.aload_n 0, 1) := by decide +kernel
theorem dX11_left_11 : decode cX11_left 11 = .ok (.invokevirtual 180, 3) := by decide +kernel
theorem dX11_left_14 : decode cX11_left 14 = .ok (.invokevirtual 64, 3) := by decide +kernel
theorem dX11_left_17 : decode cX11_left 17 = .ok (.lreturn, 1) := by decide +kernel
theorem dX11_left_18 : decode cX11_left 18 = .ok (.aload_n 0, 1) := by decide +kernel
theorem dX11_left_19 : decode cX11_left 19 = .ok (.iload_n 1, 1) := by decide +kernel
theorem dX11_left_20 : decode cX11_left 20 = .ok (.invokevirtual 91, 3) := by decide +kernel
theorem dX11_left_23 : decode cX11_left 23 = .ok (.ifCond .ne 11, 3) := by decide +kernel
theorem dX11_left_26 : decode cX11_left 26 = .ok (.aload_n 0, 1) := by decide +kernel
theorem dX11_left_27 : decode cX11_left 27 = .ok (.ldc2_w 62, 3) := by decide +kernel
theorem dX11_left_30 : decode cX11_left 30 = .ok (.invokevirtual 64, 3) := by decide +kernel
theorem dX11_left_33 : decode cX11_left 33 = .ok (.lreturn, 1) := by decide +kernel
theorem dX11_left_34 : decode cX11_left 34 = .ok (.aload_n 0, 1) := by decide +kernel
theorem dX11_left_35 : decode cX11_left 35 = .ok (.getfield 9, 3) := by decide +kernel
theorem dX11_left_38 : decode cX11_left 38 = .ok (.bipush 52, 2) := by decide +kernel
theorem dX11_left_40 : decode cX11_left 40 = .ok (.iload_n 1, 1) := by decide +kernel
theorem dX11_left_41 : decode cX11_left 41 = .ok (.iadd, 1) := by decide +kernel
theorem dX11_left_42 : decode cX11_left 42 = .ok (.iaload, 1) := by decide +kernel
theorem dX11_left_43 : decode cX11_left 43 = .ok (.i2l, 1) := by decide +kernel
theorem dX11_left_44 : decode cX11_left 44 = .ok (.aload_n 0, 1) := by decide +kernel
theorem dX11_left_45 : decode cX11_left 45 = .ok (.getfield 146, 3) := by decide +kernel
theorem dX11_left_48 : decode cX11_left 48 = .ok (.lmul, 1) := by decide +kernel
theorem dX11_left_49 : decode cX11_left 49 = .ok (.aload_n 0, 1) := by decide +kernel
theorem dX11_left_50 : decode cX11_left 50 = .ok (.aload_n 0, 1) := by decide +kernel
theorem dX11_left_51 : decode cX11_left 51 = .ok (.getfield 9, 3) := by decide +kernel
theorem dX11_left_54 : decode cX11_left 54 = .ok (.bipush 32, 2) := by decide +kernel
theorem dX11_left_56 : decode cX11_left 56 = .ok (.iload_n 1, 1) := by decide +kernel
theorem dX11_left_57 : decode cX11_left 57 = .ok (.iadd, 1) := by decide +kernel
theorem dX11_left_58 : decode cX11_left 58 = .ok (.iaload, 1) := by decide +kernel
theorem dX11_left_59 : decode cX11_left 59 = .ok (.invokevirtual 190, 3) := by decide +kernel
theorem dX11_left_62 : decode cX11_left 62 = .ok (.lsub, 1) := by decide +kernel
theorem dX11_left_63 : decode cX11_left 63 = .ok (.aload_n 0, 1) := by decide +kernel
theorem dX11_left_64 : decode cX11_left 64 = .ok (.getfield 146, 3) := by decide +kernel
theorem dX11_left_67 : decode cX11_left 67 = .ok (.iload_n 2, 1) := by decide +kernel
theorem dX11_left_68 : decode cX11_left 68 = .ok (.invokestatic 186, 3) := by decide +kernel
theorem dX11_left_71 : decode cX11_left 71 = .ok (.lreturn, 1) := by decide +kernel
theorem dX11_sum_0 : decode cX11_sum 0 = .ok (.aload_n 0, 1) := by decide +kernel
theorem dX11_sum_1 : decode cX11_sum 1 = .ok (.invokevirtual 180, 3) := by decide +kernel
theorem dX11_sum_4 : decode cX11_sum 4 = .ok (.lconst 0, 1) := by decide +kernel
theorem dX11_sum_5 : decode cX11_sum 5 = .ok (.lcmp, 1) := by decide +kernel
theorem dX11_sum_6 : decode cX11_sum 6 = .ok (.ifCond .eq 14, 3) := by decide +kernel
theorem dX11_sum_9 : decode cX11_sum 9 = .ok (.aload_n 0, 1) := by decide +kernel
theorem dX11_sum_10 : decode cX11_sum 10 = .ok (.aload_n 0, 1) := by decide +kernel
theorem dX11_sum_11 : decode cX11_sum 11 = .ok (.invokevirtual 180, 3) := by decide +kernel
theorem dX11_sum_14 : decode cX11_sum 14 = .ok (.invokevirtual 64, 3) := by decide +kernel
theorem dX11_sum_17 : decode cX11_sum 17 = .ok (.goto 15, 3) := by decide +kernel
theorem dX11_sum_20 : decode cX11_sum 20 = .ok (.aload_n 0, 1) := by decide +kernel
theorem dX11_sum_21 : decode cX11_sum 21 = .ok (.getfield 153, 3) := by decide +kernel
theorem dX11_sum_24 : decode cX11_sum 24 = .ok (.aload_n 0, 1) := by decide +kernel
theorem dX11_sum_25 : decode cX11_sum 25 = .ok (.getfield 146, 3) := by decide +kernel
theorem dX11_sum_28 : decode cX11_sum 28 = .ok (.iload_n 1, 1) := by decide +kernel
theorem dX11_sum_29 : decode cX11_sum 29 = .ok (.invokestatic 186, 3) := by decide +kernel
theorem dX11_sum_32 : decode cX11_sum 32 = .ok (.lreturn, 1) := by decide +kernel
theorem dX11_foretold_0 : decode cX11_foretold 0 = .ok (.aload_n 0, 1) := by decide +kernel
theorem dX11_foretold_1 : decode cX11_foretold 1 = .ok (.invokevirtual 180, 3) := by decide +kernel
theorem dX11_foretold_4 : decode cX11_foretold 4 = .ok (.lconst 0, 1) := by decide +kernel
theorem dX11_foretold_5 : decode cX11_foretold 5 = .ok (.lcmp, 1) := by decide +kernel
theorem dX11_foretold_6 : decode cX11_foretold 6 = .ok (.ifCond .eq 12, 3) := by decide +kernel
theorem dX11_foretold_9 : decode cX11_foretold 9 = .ok (.aload_n 0, 1) := by decide +kernel
theorem dX11_foretold_10 : decode cX11_foretold 10 = .ok (.aload_n 0, 1) := by decide +kernel
theorem dX11_foretold_11 : decode cX11_foretold 11 = .ok (.invokevirtual 180, 3) := by decide +kernel
theorem dX11_foretold_14 : decode cX11_foretold 14 = .ok (.invokevirtual 64, 3) := by decide +kernel
theorem dX11_foretold_17 : decode cX11_foretold 17 = .ok (.lreturn, 1) := by decide +kernel
theorem dX11_foretold_18 : decode cX11_foretold 18 = .ok (.iload_n 1, 1) := by decide +kernel
theorem dX11_foretold_19 : decode cX11_foretold 19 = .ok (.invokestatic 78, 3) := by decide +kernel
theorem dX11_foretold_22 : decode cX11_foretold 22 = .ok (.ifCond .eq 19, 3) := by decide +kernel
theorem dX11_foretold_25 : decode cX11_foretold 25 = .ok (.aload_n 0, 1) := by decide +kernel
theorem dX11_foretold_26 : decode cX11_foretold 26 = .ok (.iload_n 1, 1) := by decide +kernel
theorem dX11_foretold_27 : decode cX11_foretold 27 = .ok (.invokevirtual 190, 3) := by decide +kernel
theorem dX11_foretold_30 : decode cX11_foretold 30 = .ok (.aload_n 0, 1) := by decide +kernel
theorem dX11_foretold_31 : decode cX11_foretold 31 = .ok (.getfield 146, 3) := by decide +kernel
theorem dX11_foretold_34 : decode cX11_foretold 34 = .ok (.iload_n 2, 1) := by decide +kernel
theorem dX11_foretold_35 : decode cX11_foretold 35 = .ok (.invokestatic 186, 3) := by decide +kernel
theorem dX11_foretold_38 : decode cX11_foretold 38 = .ok (.goto 10, 3) := by decide +kernel
theorem dX11_foretold_41 : decode cX11_foretold 41 = .ok (.aload_n 0, 1) := by decide +kernel
theorem dX11_foretold_42 : decode cX11_foretold 42 = .ok (.ldc2_w 62, 3) := by decide +kernel
theorem dX11_foretold_45 : decode cX11_foretold 45 = .ok (.invokevirtual 64, 3) := by decide +kernel
theorem dX11_foretold_48 : decode cX11_foretold 48 = .ok (.lreturn, 1) := by decide +kernel
theorem dX11_model_0 : decode cX11_model 0 = .ok (.aload_n 0, 1) := by decide +kernel
theorem dX11_model_1 : decode cX11_model 1 = .ok (.invokevirtual 180, 3) := by decide +kernel
theorem dX11_model_4 : decode cX11_model 4 = .ok (.lconst 0, 1) := by decide +kernel
theorem dX11_model_5 : decode cX11_model 5 = .ok (.lcmp, 1) := by decide +kernel
theorem dX11_model_6 : decode cX11_model 6 = .ok (.ifCond .eq 14, 3) := by decide +kernel
theorem dX11_model_9 : decode cX11_model 9 = .ok (.aload_n 0, 1) := by decide +kernel
theorem dX11_model_10 : decode cX11_model 10 = .ok (.aload_n 0, 1) := by decide +kernel
theorem dX11_model_11 : decode cX11_model 11 = .ok (.invokevirtual 180, 3) := by decide +kernel
theorem dX11_model_14 : decode cX11_model 14 = .ok (.invokevirtual 64, 3) := by decide +kernel
theorem dX11_model_17 : decode cX11_model 17 = .ok (.goto 8, 3) := by decide +kernel
theorem dX11_model_20 : decode cX11_model 20 = .ok (.aload_n 0, 1) := by decide +kernel
theorem dX11_model_21 : decode cX11_model 21 = .ok (.getfield 140, 3) := by decide +kernel
theorem dX11_model_24 : decode cX11_model 24 = .ok (.i2l, 1) := by decide +kernel
theorem dX11_model_25 : decode cX11_model 25 = .ok (.lreturn, 1) := by decide +kernel
theorem dX11_few_0 : decode cX11_few 0 = .ok (.iload_n 1, 1) := by decide +kernel
theorem dX11_few_1 : decode cX11_few 1 = .ok (.iconst 1, 1) := by decide +kernel
theorem dX11_few_2 : decode cX11_few 2 = .ok (.iconst 3, 1) := by decide +kernel
theorem dX11_few_3 : decode cX11_few 3 = .ok (.invokestatic 58, 3) := by decide +kernel
theorem dX11_few_6 : decode cX11_few 6 = .ok (.ifCond .ne 11, 3) := by decide +kernel
theorem dX11_few_9 : decode cX11_few 9 = .ok (.aload_n 0, 1) := by decide +kernel
theorem dX11_few_10 : decode cX11_few 10 = .ok (.ldc2_w 62, 3) := by decide +kernel
theorem dX11_few_13 : decode cX11_few 13 = .ok (.invokevirtual 64, 3) := by decide +kernel
theorem dX11_few_16 : decode cX11_few 16 = .ok (.lreturn, 1) := by decide +kernel
theorem dX11_few_17 : decode cX11_few 17 = .ok (.aload_n 0, 1) := by decide +kernel
theorem dX11_few_18 : decode cX11_few 18 = .ok (.getfield 9, 3) := by decide +kernel
theorem dX11_few_21 : decode cX11_few 21 = .ok (.iconst 0, 1) := by decide +kernel
theorem dX11_few_22 : decode cX11_few 22 = .ok (.iaload, 1) := by decide +kernel
theorem dX11_few_23 : decode cX11_few 23 = .ok (.ifCond .ne 11, 3) := by decide +kernel
theorem dX11_few_26 : decode cX11_few 26 = .ok (.aload_n 0, 1) := by decide +kernel
theorem dX11_few_27 : decode cX11_few 27 = .ok (.ldc2_w 96, 3) := by decide +kernel
theorem dX11_few_30 : decode cX11_few 30 = .ok (.invokevirtual 64, 3) := by decide +kernel
theorem dX11_few_33 : decode cX11_few 33 = .ok (.lreturn, 1) := by decide +kernel
theorem dX11_few_34 : decode cX11_few 34 = .ok (.iconst 0, 1) := by decide +kernel
theorem dX11_few_35 : decode cX11_few 35 = .ok (.istore_n 2, 1) := by decide +kernel
theorem dX11_few_36 : decode cX11_few 36 = .ok (.lconst 0, 1) := by decide +kernel
theorem dX11_few_37 : decode cX11_few 37 = .ok (.lstore_n 3, 1) := by decide +kernel
theorem dX11_few_38 : decode cX11_few 38 = .ok (.lconst 1, 1) := by decide +kernel
theorem dX11_few_39 : decode cX11_few 39 = .ok (.lstore 5, 2) := by decide +kernel
theorem dX11_few_41 : decode cX11_few 41 = .ok (.iconst 1, 1) := by decide +kernel
theorem dX11_few_42 : decode cX11_few 42 = .ok (.istore 7, 2) := by decide +kernel
theorem dX11_few_44 : decode cX11_few 44 = .ok (.iload 7, 2) := by decide +kernel
theorem dX11_few_46 : decode cX11_few 46 = .ok (.iload_n 1, 1) := by decide +kernel
theorem dX11_few_47 : decode cX11_few 47 = .ok (.if_icmp .gt 98, 3) := by decide +kernel
theorem dX11_few_50 : decode cX11_few 50 = .ok (.iconst 1, 1) := by decide +kernel
theorem dX11_few_51 : decode cX11_few 51 = .ok (.istore 8, 2) := by decide +kernel
theorem dX11_few_53 : decode cX11_few 53 = .ok (.iload 8, 2) := by decide +kernel
theorem dX11_few_55 : decode cX11_few 55 = .ok (.iconst 1, 1) := by decide +kernel
theorem dX11_few_56 : decode cX11_few 56 = .ok (.aload_n 0, 1) := by decide +kernel
theorem dX11_few_57 : decode cX11_few 57 = .ok (.getfield 9, 3) := by decide +kernel
theorem dX11_few_60 : decode cX11_few 60 = .ok (.iconst 0, 1) := by decide +kernel
theorem dX11_few_61 : decode cX11_few 61 = .ok (.iaload, 1) := by decide +kernel
theorem dX11_few_62 : decode cX11_few 62 = .ok (.ishl, 1) := by decide +kernel
theorem dX11_few_63 : decode cX11_few 63 = .ok (.if_icmp .ge 76, 3) := by decide +kernel
theorem dX11_few_66 : decode cX11_few 66 = .ok (.iload 8, 2) := by decide +kernel
theorem dX11_few_68 : decode cX11_few 68 = .ok (.invokestatic 156, 3) := by decide +kernel
theorem dX11_few_71 : decode cX11_few 71 = .ok (.iload 7, 2) := by decide +kernel
theorem dX11_few_73 : decode cX11_few 73 = .ok (.if_icmp .eq 6, 3) := by decide +kernel
theorem dX11_few_76 : decode cX11_few 76 = .ok (.goto 57, 3) := by decide +kernel
theorem dX11_few_79 : decode cX11_few 79 = .ok (.aload_n 0, 1) := by decide +kernel
theorem dX11_few_80 : decode cX11_few 80 = .ok (.iload 8, 2) := by decide +kernel
theorem dX11_few_82 : decode cX11_few 82 = .ok (.invokevirtual 160, 3) := by decide +kernel
theorem dX11_few_85 : decode cX11_few 85 = .ok (.aload_n 0, 1) := by decide +kernel
theorem dX11_few_86 : decode cX11_few 86 = .ok (.iconst (-1), 1) := by decide +kernel
theorem dX11_few_87 : decode cX11_few 87 = .ok (.invokevirtual 164, 3) := by decide +kernel
theorem dX11_few_90 : decode cX11_few 90 = .ok (.ifCond .ne 6, 3) := by decide +kernel
theorem dX11_few_93 : decode cX11_few 93 = .ok (.goto 40, 3) := by decide +kernel
theorem dX11_few_96 : decode cX11_few 96 = .ok (.aload_n 0, 1) := by decide +kernel
theorem dX11_few_97 : decode cX11_few 97 = .ok (.invokevirtual 149, 3) := by decide +kernel
theorem dX11_few_100 : decode cX11_few 100 = .ok (.lstore 9, 2) := by decide +kernel
theorem dX11_few_102 : decode cX11_few 102 = .ok (.iload_n 2, 1) := by decide +kernel
theorem dX11_few_103 : decode cX11_few 103 = .ok (.ifCond .eq 18, 3) := by decide +kernel
theorem dX11_few_106 : decode cX11_few 106 = .ok (.lload 9, 2) := by decide +kernel
theorem dX11_few_108 : decode cX11_few 108 = .ok (.aload_n 0, 1) := by decide +kernel
theorem dX11_few_109 : decode cX11_few 109 = .ok (.getfield 121, 3) := by decide +kernel
theorem dX11_few_112 : decode cX11_few 112 = .ok (.lload_n 3, 1) := by decide +kernel
theorem dX11_few_113 : decode cX11_few 113 = .ok (.lload 5, 2) := by decide +kernel
theorem dX11_few_115 : decode cX11_few 115 = .ok (.invokestatic 193, 3) := by decide +kernel
theorem dX11_few_118 : decode cX11_few 118 = .ok (.ifCond .ge 15, 3) := by decide +kernel
theorem dX11_few_121 : decode cX11_few 121 = .ok (.iload 8, 2) := by decide +kernel
theorem dX11_few_123 : decode cX11_few 123 = .ok (.istore_n 2, 1) := by decide +kernel
theorem dX11_few_124 : decode cX11_few 124 = .ok (.lload 9, 2) := by decide +kernel
theorem dX11_few_126 : decode cX11_few 126 = .ok (.lstore_n 3, 1) := by decide +kernel
theorem dX11_few_127 : decode cX11_few 127 = .ok (.aload_n 0, 1) := by decide +kernel
theorem dX11_few_128 : decode cX11_few 128 = .ok (.getfield 121, 3) := by decide +kernel
theorem dX11_few_131 : decode cX11_few 131 = .ok (.lstore 5, 2) := by decide +kernel
theorem dX11_few_133 : decode cX11_few 133 = .ok (.iinc 8 1, 3) := by decide +kernel
theorem dX11_few_136 : decode cX11_few 136 = .ok (.goto (-83), 3) := by decide +kernel
theorem dX11_few_139 : decode cX11_few 139 = .ok (.iinc 7 1, 3) := by decide +kernel
theorem dX11_few_142 : decode cX11_few 142 = .ok (.goto (-98), 3) := by decide +kernel
theorem dX11_few_145 : decode cX11_few 145 = .ok (.iload_n 2, 1) := by decide +kernel
theorem dX11_few_146 : decode cX11_few 146 = .ok (.ifCond .ne 25, 3) := by decide +kernel
theorem dX11_few_149 : decode cX11_few 149 = .ok (.aload_n 0, 1) := by decide +kernel
theorem dX11_few_150 : decode cX11_few 150 = .ok (.lconst 1, 1) := by decide +kernel
theorem dX11_few_151 : decode cX11_few 151 = .ok (.aload_n 0, 1) := by decide +kernel
theorem dX11_few_152 : decode cX11_few 152 = .ok (.getfield 9, 3) := by decide +kernel
theorem dX11_few_155 : decode cX11_few 155 = .ok (.iconst 0, 1) := by decide +kernel
theorem dX11_few_156 : decode cX11_few 156 = .ok (.iaload, 1) := by decide +kernel
theorem dX11_few_157 : decode cX11_few 157 = .ok (.lshl, 1) := by decide +kernel
theorem dX11_few_158 : decode cX11_few 158 = .ok (.lconst 1, 1) := by decide +kernel
theorem dX11_few_159 : decode cX11_few 159 = .ok (.lsub, 1) := by decide +kernel
theorem dX11_few_160 : decode cX11_few 160 = .ok (.putfield 170, 3) := by decide +kernel
theorem dX11_few_163 : decode cX11_few 163 = .ok (.aload_n 0, 1) := by decide +kernel
theorem dX11_few_164 : decode cX11_few 164 = .ok (.ldc2_w 176, 3) := by decide +kernel
theorem dX11_few_167 : decode cX11_few 167 = .ok (.invokevirtual 64, 3) := by decide +kernel
theorem dX11_few_170 : decode cX11_few 170 = .ok (.lreturn, 1) := by decide +kernel
theorem dX11_few_171 : decode cX11_few 171 = .ok (.aload_n 0, 1) := by decide +kernel
theorem dX11_few_172 : decode cX11_few 172 = .ok (.iload_n 2, 1) := by decide +kernel
theorem dX11_few_173 : decode cX11_few 173 = .ok (.invokevirtual 160, 3) := by decide +kernel
theorem dX11_few_176 : decode cX11_few 176 = .ok (.aload_n 0, 1) := by decide +kernel
theorem dX11_few_177 : decode cX11_few 177 = .ok (.iconst (-1), 1) := by decide +kernel
theorem dX11_few_178 : decode cX11_few 178 = .ok (.invokevirtual 164, 3) := by decide +kernel
theorem dX11_few_181 : decode cX11_few 181 = .ok (.ifCond .eq 8, 3) := by decide +kernel
theorem dX11_few_184 : decode cX11_few 184 = .ok (.aload_n 0, 1) := by decide +kernel
theorem dX11_few_185 : decode cX11_few 185 = .ok (.iload_n 2, 1) := by decide +kernel
theorem dX11_few_186 : decode cX11_few 186 = .ok (.invokevirtual 167, 3) := by decide +kernel
theorem dX11_few_189 : decode cX11_few 189 = .ok (.iload_n 2, 1) := by decide +kernel
theorem dX11_few_190 : decode cX11_few 190 = .ok (.i2l, 1) := by decide +kernel
theorem dX11_few_191 : decode cX11_few 191 = .ok (.lreturn, 1) := by decide +kernel
theorem dX11_doubt_0 : decode cX11_doubt 0 = .ok (.aload_n 0, 1) := by decide +kernel
theorem dX11_doubt_1 : decode cX11_doubt 1 = .ok (.invokevirtual 180, 3) := by decide +kernel
theorem dX11_doubt_4 : decode cX11_doubt 4 = .ok (.lconst 0, 1) := by decide +kernel
theorem dX11_doubt_5 : decode cX11_doubt 5 = .ok (.lcmp, 1) := by decide +kernel
theorem dX11_doubt_6 : decode cX11_doubt 6 = .ok (.ifCond .eq 12, 3) := by decide +kernel
theorem dX11_doubt_9 : decode cX11_doubt 9 = .ok (.aload_n 0, 1) := by decide +kernel
theorem dX11_doubt_10 : decode cX11_doubt 10 = .ok (.aload_n 0, 1) := by decide +kernel
theorem dX11_doubt_11 : decode cX11_doubt 11 = .ok (.invokevirtual 180, 3) := by decide +kernel
theorem dX11_doubt_14 : decode cX11_doubt 14 = .ok (.invokevirtual 64, 3) := by decide +kernel
theorem dX11_doubt_17 : decode cX11_doubt 17 = .ok (.lreturn, 1) := by decide +kernel
theorem dX11_doubt_18 : decode cX11_doubt 18 = .ok (.aload_n 0, 1) := by decide +kernel
theorem dX11_doubt_19 : decode cX11_doubt 19 = .ok (.iload_n 1, 1) := by decide +kernel
theorem dX11_doubt_20 : decode cX11_doubt 20 = .ok (.invokevirtual 183, 3) := by decide +kernel
theorem dX11_doubt_23 : decode cX11_doubt 23 = .ok (.istore 4, 2) := by decide +kernel
theorem dX11_doubt_25 : decode cX11_doubt 25 = .ok (.iload 4, 2) := by decide +kernel
theorem dX11_doubt_27 : decode cX11_doubt 27 = .ok (.ifCond .ge 11, 3) := by decide +kernel
theorem dX11_doubt_30 : decode cX11_doubt 30 = .ok (.aload_n 0, 1) := by decide +kernel
theorem dX11_doubt_31 : decode cX11_doubt 31 = .ok (.ldc2_w 62, 3) := by decide +kernel
theorem dX11_doubt_34 : decode cX11_doubt 34 = .ok (.invokevirtual 64, 3) := by decide +kernel
theorem dX11_doubt_37 : decode cX11_doubt 37 = .ok (.lreturn, 1) := by decide +kernel
theorem dX11_doubt_38 : decode cX11_doubt 38 = .ok (.aload_n 0, 1) := by decide +kernel
theorem dX11_doubt_39 : decode cX11_doubt 39 = .ok (.aload_n 0, 1) := by decide +kernel
theorem dX11_doubt_40 : decode cX11_doubt 40 = .ok (.getfield 140, 3) := by decide +kernel
theorem dX11_doubt_43 : decode cX11_doubt 43 = .ok (.invokevirtual 160, 3) := by decide +kernel
theorem dX11_doubt_46 : decode cX11_doubt 46 = .ok (.lconst 0, 1) := by decide +kernel
theorem dX11_doubt_47 : decode cX11_doubt 47 = .ok (.lstore 5, 2) := by decide +kernel
theorem dX11_doubt_49 : decode cX11_doubt 49 = .ok (.lconst 0, 1) := by decide +kernel
theorem dX11_doubt_50 : decode cX11_doubt 50 = .ok (.lstore 7, 2) := by decide +kernel
theorem dX11_doubt_52 : decode cX11_doubt 52 = .ok (.iconst 0, 1) := by decide +kernel
theorem dX11_doubt_53 : decode cX11_doubt 53 = .ok (.istore 9, 2) := by decide +kernel
theorem dX11_doubt_55 : decode cX11_doubt 55 = .ok (.iload 9, 2) := by decide +kernel
theorem dX11_doubt_57 : decode cX11_doubt 57 = .ok (.aload_n 0, 1) := by decide +kernel
theorem dX11_doubt_58 : decode cX11_doubt 58 = .ok (.getfield 9, 3) := by decide +kernel
theorem dX11_doubt_61 : decode cX11_doubt 61 = .ok (.iconst 1, 1) := by decide +kernel
theorem dX11_doubt_62 : decode cX11_doubt 62 = .ok (.iaload, 1) := by decide +kernel
theorem dX11_doubt_63 : decode cX11_doubt 63 = .ok (.if_icmp .ge 91, 3) := by decide +kernel
theorem dX11_doubt_66 : decode cX11_doubt 66 = .ok (.aload_n 0, 1) := by decide +kernel
theorem dX11_doubt_67 : decode cX11_doubt 67 = .ok (.iload 9, 2) := by decide +kernel
theorem dX11_doubt_69 : decode cX11_doubt 69 = .ok (.invokevirtual 164, 3) := by decide +kernel
theorem dX11_doubt_72 : decode cX11_doubt 72 = .ok (.ifCond .ne 6, 3) := by decide +kernel
theorem dX11_doubt_75 : decode cX11_doubt 75 = .ok (.goto 73, 3) := by decide +kernel
theorem dX11_doubt_78 : decode cX11_doubt 78 = .ok (.lload 7, 2) := by decide +kernel
theorem dX11_doubt_80 : decode cX11_doubt 80 = .ok (.lconst 0, 1) := by decide +kernel
theorem dX11_doubt_81 : decode cX11_doubt 81 = .ok (.lcmp, 1) := by decide +kernel
theorem dX11_doubt_82 : decode cX11_doubt 82 = .ok (.ifCond .ne 7, 3) := by decide +kernel
theorem dX11_doubt_85 : decode cX11_doubt 85 = .ok (.iconst 0, 1) := by decide +kernel
theorem dX11_doubt_86 : decode cX11_doubt 86 = .ok (.goto 21, 3) := by decide +kernel
theorem dX11_doubt_89 : decode cX11_doubt 89 = .ok (.aload_n 0, 1) := by decide +kernel
theorem dX11_doubt_90 : decode cX11_doubt 90 = .ok (.getfield 50, 3) := by decide +kernel
theorem dX11_doubt_93 : decode cX11_doubt 93 = .ok (.iload 4, 2) := by decide +kernel
theorem dX11_doubt_95 : decode cX11_doubt 95 = .ok (.laload, 1) := by decide +kernel
theorem dX11_doubt_96 : decode cX11_doubt 96 = .ok (.aload_n 0, 1) := by decide +kernel
theorem dX11_doubt_97 : decode cX11_doubt 97 = .ok (.getfield 121, 3) := by decide +kernel
theorem dX11_doubt_100 : decode cX11_doubt 100 = .ok (.lload 5, 2) := by decide +kernel
theorem dX11_doubt_102 : decode cX11_doubt 102 = .ok (.lload 7, 2) := by decide +kernel
theorem dX11_doubt_104 : decode cX11_doubt 104 = .ok (.invokestatic 193, 3) := by decide +kernel
theorem dX11_doubt_107 : decode cX11_doubt 107 = .ok (.istore 10, 2) := by decide +kernel
theorem dX11_doubt_109 : decode cX11_doubt 109 = .ok (.lload 7, 2) := by decide +kernel
theorem dX11_doubt_111 : decode cX11_doubt 111 = .ok (.lconst 0, 1) := by decide +kernel
theorem dX11_doubt_112 : decode cX11_doubt 112 = .ok (.lcmp, 1) := by decide +kernel
theorem dX11_doubt_113 : decode cX11_doubt 113 = .ok (.ifCond .eq 20, 3) := by decide +kernel
theorem dX11_doubt_116 : decode cX11_doubt 116 = .ok (.iload_n 2, 1) := by decide +kernel
theorem dX11_doubt_117 : decode cX11_doubt 117 = .ok (.ifCond .eq 11, 3) := by decide +kernel
theorem dX11_doubt_120 : decode cX11_doubt 120 = .ok (.iload 10, 2) := by decide +kernel
theorem dX11_doubt_122 : decode cX11_doubt 122 = .ok (.ifCond .le 26, 3) := by decide +kernel
theorem dX11_doubt_125 : decode cX11_doubt 125 = .ok (.goto 8, 3) := by decide +kernel
theorem dX11_doubt_128 : decode cX11_doubt 128 = .ok (.iload 10, 2) := by decide +kernel
theorem dX11_doubt_130 : decode cX11_doubt 130 = .ok (.ifCond .ge 18, 3) := by decide +kernel
theorem dX11_doubt_133 : decode cX11_doubt 133 = .ok (.aload_n 0, 1) := by decide +kernel
theorem dX11_doubt_134 : decode cX11_doubt 134 = .ok (.getfield 50, 3) := by decide +kernel
theorem dX11_doubt_137 : decode cX11_doubt 137 = .ok (.iload 4, 2) := by decide +kernel
theorem dX11_doubt_139 : decode cX11_doubt 139 = .ok (.laload, 1) := by decide +kernel
theorem dX11_doubt_140 : decode cX11_doubt 140 = .ok (.lstore 5, 2) := by decide +kernel
theorem dX11_doubt_142 : decode cX11_doubt 142 = .ok (.aload_n 0, 1) := by decide +kernel
theorem dX11_doubt_143 : decode cX11_doubt 143 = .ok (.getfield 121, 3) := by decide +kernel
theorem dX11_doubt_146 : decode cX11_doubt 146 = .ok (.lstore 7, 2) := by decide +kernel
theorem dX11_doubt_148 : decode cX11_doubt 148 = .ok (.iinc 9 1, 3) := by decide +kernel
theorem dX11_doubt_151 : decode cX11_doubt 151 = .ok (.goto (-96), 3) := by decide +kernel
theorem dX11_doubt_154 : decode cX11_doubt 154 = .ok (.lload 7, 2) := by decide +kernel
theorem dX11_doubt_156 : decode cX11_doubt 156 = .ok (.lconst 0, 1) := by decide +kernel
theorem dX11_doubt_157 : decode cX11_doubt 157 = .ok (.lcmp, 1) := by decide +kernel
theorem dX11_doubt_158 : decode cX11_doubt 158 = .ok (.ifCond .ne 13, 3) := by decide +kernel
theorem dX11_doubt_161 : decode cX11_doubt 161 = .ok (.aload_n 0, 1) := by decide +kernel
theorem dX11_doubt_162 : decode cX11_doubt 162 = .ok (.ldc2_w 176, 3) := by decide +kernel
theorem dX11_doubt_165 : decode cX11_doubt 165 = .ok (.invokevirtual 64, 3) := by decide +kernel
theorem dX11_doubt_168 : decode cX11_doubt 168 = .ok (.goto 11, 3) := by decide +kernel
theorem dX11_doubt_171 : decode cX11_doubt 171 = .ok (.lload 5, 2) := by decide +kernel
theorem dX11_doubt_173 : decode cX11_doubt 173 = .ok (.lload 7, 2) := by decide +kernel
theorem dX11_doubt_175 : decode cX11_doubt 175 = .ok (.iload_n 3, 1) := by decide +kernel
theorem dX11_doubt_176 : decode cX11_doubt 176 = .ok (.invokestatic 186, 3) := by decide +kernel
theorem dX11_doubt_179 : decode cX11_doubt 179 = .ok (.lreturn, 1) := by decide +kernel
theorem dX11_spare_0 : decode cX11_spare 0 = .ok (.aload_n 0, 1) := by decide +kernel
theorem dX11_spare_1 : decode cX11_spare 1 = .ok (.invokevirtual 180, 3) := by decide +kernel
theorem dX11_spare_4 : decode cX11_spare 4 = .ok (.lconst 0, 1) := by decide +kernel
theorem dX11_spare_5 : decode cX11_spare 5 = .ok (.lcmp, 1) := by decide +kernel
theorem dX11_spare_6 : decode cX11_spare 6 = .ok (.ifCond .eq 12, 3) := by decide +kernel
theorem dX11_spare_9 : decode cX11_spare 9 = .ok (.aload_n 0, 1) := by decide +kernel
theorem dX11_spare_10 : decode cX11_spare 10 = .ok (.aload_n 0, 1) := by decide +kernel
theorem dX11_spare_11 : decode cX11_spare 11 = .ok (.invokevirtual 180, 3) := by decide +kernel
theorem dX11_spare_14 : decode cX11_spare 14 = .ok (.invokevirtual 64, 3) := by decide +kernel
theorem dX11_spare_17 : decode cX11_spare 17 = .ok (.lreturn, 1) := by decide +kernel
theorem dX11_spare_18 : decode cX11_spare 18 = .ok (.aload_n 0, 1) := by decide +kernel
theorem dX11_spare_19 : decode cX11_spare 19 = .ok (.aload_n 0, 1) := by decide +kernel
theorem dX11_spare_20 : decode cX11_spare 20 = .ok (.getfield 140, 3) := by decide +kernel
theorem dX11_spare_23 : decode cX11_spare 23 = .ok (.invokevirtual 160, 3) := by decide +kernel
theorem dX11_spare_26 : decode cX11_spare 26 = .ok (.iconst 0, 1) := by decide +kernel
theorem dX11_spare_27 : decode cX11_spare 27 = .ok (.istore_n 1, 1) := by decide +kernel
theorem dX11_spare_28 : decode cX11_spare 28 = .ok (.iconst 0, 1) := by decide +kernel
theorem dX11_spare_29 : decode cX11_spare 29 = .ok (.istore_n 2, 1) := by decide +kernel
theorem dX11_spare_30 : decode cX11_spare 30 = .ok (.iload_n 2, 1) := by decide +kernel
theorem dX11_spare_31 : decode cX11_spare 31 = .ok (.aload_n 0, 1) := by decide +kernel
theorem dX11_spare_32 : decode cX11_spare 32 = .ok (.getfield 9, 3) := by decide +kernel
theorem dX11_spare_35 : decode cX11_spare 35 = .ok (.iconst 1, 1) := by decide +kernel
theorem dX11_spare_36 : decode cX11_spare 36 = .ok (.iaload, 1) := by decide +kernel
theorem dX11_spare_37 : decode cX11_spare 37 = .ok (.if_icmp .ge 25, 3) := by decide +kernel
theorem dX11_spare_40 : decode cX11_spare 40 = .ok (.iload_n 1, 1) := by decide +kernel
theorem dX11_spare_41 : decode cX11_spare 41 = .ok (.aload_n 0, 1) := by decide +kernel
theorem dX11_spare_42 : decode cX11_spare 42 = .ok (.iload_n 2, 1) := by decide +kernel
theorem dX11_spare_43 : decode cX11_spare 43 = .ok (.invokevirtual 164, 3) := by decide +kernel
theorem dX11_spare_46 : decode cX11_spare 46 = .ok (.ifCond .eq 7, 3) := by decide +kernel
theorem dX11_spare_49 : decode cX11_spare 49 = .ok (.iconst 1, 1) := by decide +kernel
theorem dX11_spare_50 : decode cX11_spare 50 = .ok (.goto 4, 3) := by decide +kernel
theorem dX11_spare_53 : decode cX11_spare 53 = .ok (.iconst 0, 1) := by decide +kernel
theorem dX11_spare_54 : decode cX11_spare 54 = .ok (.iadd, 1) := by decide +kernel
theorem dX11_spare_55 : decode cX11_spare 55 = .ok (.istore_n 1, 1) := by decide +kernel
theorem dX11_spare_56 : decode cX11_spare 56 = .ok (.iinc 2 1, 3) := by decide +kernel
theorem dX11_spare_59 : decode cX11_spare 59 = .ok (.goto (-29), 3) := by decide +kernel
theorem dX11_spare_62 : decode cX11_spare 62 = .ok (.iload_n 1, 1) := by decide +kernel
theorem dX11_spare_63 : decode cX11_spare 63 = .ok (.i2l, 1) := by decide +kernel
theorem dX11_spare_64 : decode cX11_spare 64 = .ok (.lreturn, 1) := by decide +kernel
theorem dX11_mend_0 : decode cX11_mend 0 = .ok (.aload_n 0, 1) := by decide +kernel
theorem dX11_mend_1 : decode cX11_mend 1 = .ok (.iload_n 1, 1) := by decide +kernel
theorem dX11_mend_2 : decode cX11_mend 2 = .ok (.invokevirtual 74, 3) := by decide +kernel
theorem dX11_mend_5 : decode cX11_mend 5 = .ok (.ifCond .eq 16, 3) := by decide +kernel
theorem dX11_mend_8 : decode cX11_mend 8 = .ok (.iload_n 2, 1) := by decide +kernel
theorem dX11_mend_9 : decode cX11_mend 9 = .ok (.sipush (-200), 3) := by decide +kernel
theorem dX11_mend_12 : decode cX11_mend 12 = .ok (.sipush 200, 3) := by decide +kernel
theorem dX11_mend_15 : decode cX11_mend 15 = .ok (.invokestatic 58, 3) := by decide +kernel
theorem dX11_mend_18 : decode cX11_mend 18 = .ok (.ifCond .ne 11, 3) := by decide +kernel
theorem dX11_mend_21 : decode cX11_mend 21 = .ok (.aload_n 0, 1) := by decide +kernel
theorem dX11_mend_22 : decode cX11_mend 22 = .ok (.ldc2_w 62, 3) := by decide +kernel
theorem dX11_mend_25 : decode cX11_mend 25 = .ok (.invokevirtual 64, 3) := by decide +kernel
theorem dX11_mend_28 : decode cX11_mend 28 = .ok (.lreturn, 1) := by decide +kernel
theorem dX11_mend_29 : decode cX11_mend 29 = .ok (.aload_n 0, 1) := by decide +kernel
theorem dX11_mend_30 : decode cX11_mend 30 = .ok (.getfield 9, 3) := by decide +kernel
theorem dX11_mend_33 : decode cX11_mend 33 = .ok (.iconst 2, 1) := by decide +kernel
theorem dX11_mend_34 : decode cX11_mend 34 = .ok (.iaload, 1) := by decide +kernel
theorem dX11_mend_35 : decode cX11_mend 35 = .ok (.istore_n 3, 1) := by decide +kernel
theorem dX11_mend_36 : decode cX11_mend 36 = .ok (.iload_n 3, 1) := by decide +kernel
theorem dX11_mend_37 : decode cX11_mend 37 = .ok (.bipush 8, 2) := by decide +kernel
theorem dX11_mend_39 : decode cX11_mend 39 = .ok (.if_icmp .ne 11, 3) := by decide +kernel
theorem dX11_mend_42 : decode cX11_mend 42 = .ok (.aload_n 0, 1) := by decide +kernel
theorem dX11_mend_43 : decode cX11_mend 43 = .ok (.ldc2_w 68, 3) := by decide +kernel
theorem dX11_mend_46 : decode cX11_mend 46 = .ok (.invokevirtual 64, 3) := by decide +kernel
theorem dX11_mend_49 : decode cX11_mend 49 = .ok (.lreturn, 1) := by decide +kernel
theorem dX11_mend_50 : decode cX11_mend 50 = .ok (.aload_n 0, 1) := by decide +kernel
theorem dX11_mend_51 : decode cX11_mend 51 = .ok (.getfield 9, 3) := by decide +kernel
theorem dX11_mend_54 : decode cX11_mend 54 = .ok (.bipush 72, 2) := by decide +kernel
theorem dX11_mend_56 : decode cX11_mend 56 = .ok (.iload_n 3, 1) := by decide +kernel
theorem dX11_mend_57 : decode cX11_mend 57 = .ok (.iadd, 1) := by decide +kernel
theorem dX11_mend_58 : decode cX11_mend 58 = .ok (.iload_n 1, 1) := by decide +kernel
theorem dX11_mend_59 : decode cX11_mend 59 = .ok (.iastore, 1) := by decide +kernel
theorem dX11_mend_60 : decode cX11_mend 60 = .ok (.aload_n 0, 1) := by decide +kernel
theorem dX11_mend_61 : decode cX11_mend 61 = .ok (.getfield 9, 3) := by decide +kernel
theorem dX11_mend_64 : decode cX11_mend 64 = .ok (.bipush 80, 2) := by decide +kernel
theorem dX11_mend_66 : decode cX11_mend 66 = .ok (.iload_n 3, 1) := by decide +kernel
theorem dX11_mend_67 : decode cX11_mend 67 = .ok (.iadd, 1) := by decide +kernel
theorem dX11_mend_68 : decode cX11_mend 68 = .ok (.iload_n 2, 1) := by decide +kernel
theorem dX11_mend_69 : decode cX11_mend 69 = .ok (.iastore, 1) := by decide +kernel
theorem dX11_mend_70 : decode cX11_mend 70 = .ok (.aload_n 0, 1) := by decide +kernel
theorem dX11_mend_71 : decode cX11_mend 71 = .ok (.getfield 9, 3) := by decide +kernel
theorem dX11_mend_74 : decode cX11_mend 74 = .ok (.iconst 2, 1) := by decide +kernel
theorem dX11_mend_75 : decode cX11_mend 75 = .ok (.dup2, 1) := by decide +kernel
theorem dX11_mend_76 : decode cX11_mend 76 = .ok (.iaload, 1) := by decide +kernel
theorem dX11_mend_77 : decode cX11_mend 77 = .ok (.iconst 1, 1) := by decide +kernel
theorem dX11_mend_78 : decode cX11_mend 78 = .ok (.iadd, 1) := by decide +kernel
theorem dX11_mend_79 : decode cX11_mend 79 = .ok (.iastore, 1) := by decide +kernel
theorem dX11_mend_80 : decode cX11_mend 80 = .ok (.iload_n 3, 1) := by decide +kernel
theorem dX11_mend_81 : decode cX11_mend 81 = .ok (.i2l, 1) := by decide +kernel
theorem dX11_mend_82 : decode cX11_mend 82 = .ok (.lreturn, 1) := by decide +kernel
theorem dX11_hasSpan_0 : decode cX11_hasSpan 0 = .ok (.aload_n 0, 1) := by decide +kernel
theorem dX11_hasSpan_1 : decode cX11_hasSpan 1 = .ok (.getfield 9, 3) := by decide +kernel
theorem dX11_hasSpan_4 : decode cX11_hasSpan 4 = .ok (.bipush 88, 2) := by decide +kernel
theorem dX11_hasSpan_6 : decode cX11_hasSpan 6 = .ok (.iload_n 1, 1) := by decide +kernel
theorem dX11_hasSpan_7 : decode cX11_hasSpan 7 = .ok (.iadd, 1) := by decide +kernel
theorem dX11_hasSpan_8 : decode cX11_hasSpan 8 = .ok (.iaload, 1) := by decide +kernel
theorem dX11_hasSpan_9 : decode cX11_hasSpan 9 = .ok (.aload_n 0, 1) := by decide +kernel
theorem dX11_hasSpan_10 : decode cX11_hasSpan 10 = .ok (.getfield 9, 3) := by decide +kernel
theorem dX11_hasSpan_13 : decode cX11_hasSpan 13 = .ok (.bipush 124, 2) := by decide +kernel
theorem dX11_hasSpan_15 : decode cX11_hasSpan 15 = .ok (.iload_n 1, 1) := by decide +kernel
theorem dX11_hasSpan_16 : decode cX11_hasSpan 16 = .ok (.iadd, 1) := by decide +kernel
theorem dX11_hasSpan_17 : decode cX11_hasSpan 17 = .ok (.iaload, 1) := by decide +kernel
theorem dX11_hasSpan_18 : decode cX11_hasSpan 18 = .ok (.if_icmp .gt 7, 3) := by decide +kernel
theorem dX11_hasSpan_21 : decode cX11_hasSpan 21 = .ok (.iconst 1, 1) := by decide +kernel
theorem dX11_hasSpan_22 : decode cX11_hasSpan 22 = .ok (.goto 4, 3) := by decide +kernel
theorem dX11_hasSpan_25 : decode cX11_hasSpan 25 = .ok (.iconst 0, 1) := by decide +kernel
theorem dX11_hasSpan_26 : decode cX11_hasSpan 26 = .ok (.ireturn, 1) := by decide +kernel
theorem dX11_spans_0 : decode cX11_spans 0 = .ok (.iconst 0, 1) := by decide +kernel
theorem dX11_spans_1 : decode cX11_spans 1 = .ok (.istore_n 1, 1) := by decide +kernel
theorem dX11_spans_2 : decode cX11_spans 2 = .ok (.iconst 0, 1) := by decide +kernel
theorem dX11_spans_3 : decode cX11_spans 3 = .ok (.istore_n 2, 1) := by decide +kernel
theorem dX11_spans_4 : decode cX11_spans 4 = .ok (.iload_n 2, 1) := by decide +kernel
theorem dX11_spans_5 : decode cX11_spans 5 = .ok (.bipush 36, 2) := by decide +kernel
theorem dX11_spans_7 : decode cX11_spans 7 = .ok (.if_icmp .ge 25, 3) := by decide +kernel
theorem dX11_spans_10 : decode cX11_spans 10 = .ok (.iload_n 1, 1) := by decide +kernel
theorem dX11_spans_11 : decode cX11_spans 11 = .ok (.aload_n 0, 1) := by decide +kernel
theorem dX11_spans_12 : decode cX11_spans 12 = .ok (.iload_n 2, 1) := by decide +kernel
theorem dX11_spans_13 : decode cX11_spans 13 = .ok (.invokevirtual 197, 3) := by decide +kernel
theorem dX11_spans_16 : decode cX11_spans 16 = .ok (.ifCond .eq 7, 3) := by decide +kernel
theorem dX11_spans_19 : decode cX11_spans 19 = .ok (.iconst 1, 1) := by decide +kernel
theorem dX11_spans_20 : decode cX11_spans 20 = .ok (.goto 4, 3) := by decide +kernel
theorem dX11_spans_23 : decode cX11_spans 23 = .ok (.iconst 0, 1) := by decide +kernel
theorem dX11_spans_24 : decode cX11_spans 24 = .ok (.iadd, 1) := by decide +kernel
theorem dX11_spans_25 : decode cX11_spans 25 = .ok (.istore_n 1, 1) := by decide +kernel
theorem dX11_spans_26 : decode cX11_spans 26 = .ok (.iinc 2 1, 3) := by decide +kernel
theorem dX11_spans_29 : decode cX11_spans 29 = .ok (.goto (-25), 3) := by decide +kernel
theorem dX11_spans_32 : decode cX11_spans 32 = .ok (.iload_n 1, 1) := by decide +kernel
theorem dX11_spans_33 : decode cX11_spans 33 = .ok (.ireturn, 1) := by decide +kernel
theorem dX11_span_0 : decode cX11_span 0 = .ok (.iload_n 1, 1) := by decide +kernel
theorem dX11_span_1 : decode cX11_span 1 = .ok (.invokestatic 78, 3) := by decide +kernel
theorem dX11_span_4 : decode cX11_span 4 = .ok (.ifCond .eq 29, 3) := by decide +kernel
theorem dX11_span_7 : decode cX11_span 7 = .ok (.iload_n 2, 1) := by decide +kernel
theorem dX11_span_8 : decode cX11_span 8 = .ok (.sipush (-1000), 3) := by decide +kernel
theorem dX11_span_11 : decode cX11_span 11 = .ok (.sipush 1000, 3) := by decide +kernel
theorem dX11_span_14 : decode cX11_span 14 = .ok (.invokestatic 58, 3) := by decide +kernel
theorem dX11_span_17 : decode cX11_span 17 = .ok (.ifCond .eq 16, 3) := by decide +kernel
theorem dX11_span_20 : decode cX11_span 20 = .ok (.iload_n 3, 1) := by decide +kernel
theorem dX11_span_21 : decode cX11_span 21 = .ok (.sipush (-1000), 3) := by decide +kernel
theorem dX11_span_24 : decode cX11_span 24 = .ok (.sipush 1000, 3) := by decide +kernel
theorem dX11_span_27 : decode cX11_span 27 = .ok (.invokestatic 58, 3) := by decide +kernel
theorem dX11_span_30 : decode cX11_span 30 = .ok (.ifCond .ne 11, 3) := by decide +kernel
theorem dX11_span_33 : decode cX11_span 33 = .ok (.aload_n 0, 1) := by decide +kernel
theorem dX11_span_34 : decode cX11_span 34 = .ok (.ldc2_w 62, 3) := by decide +kernel
theorem dX11_span_37 : decode cX11_span 37 = .ok (.invokevirtual 64, 3) := by decide +kernel
theorem dX11_span_40 : decode cX11_span 40 = .ok (.lreturn, 1) := by decide +kernel
theorem dX11_span_41 : decode cX11_span 41 = .ok (.aload_n 0, 1) := by decide +kernel
theorem dX11_span_42 : decode cX11_span 42 = .ok (.getfield 9, 3) := by decide +kernel
theorem dX11_span_45 : decode cX11_span 45 = .ok (.bipush 88, 2) := by decide +kernel
theorem dX11_span_47 : decode cX11_span 47 = .ok (.iload_n 1, 1) := by decide +kernel
theorem dX11_span_48 : decode cX11_span 48 = .ok (.iadd, 1) := by decide +kernel
theorem dX11_span_49 : decode cX11_span 49 = .ok (.iload_n 2, 1) := by decide +kernel
theorem dX11_span_50 : decode cX11_span 50 = .ok (.iload_n 3, 1) := by decide +kernel
theorem dX11_span_51 : decode cX11_span 51 = .ok (.if_icmp .gt 7, 3) := by decide +kernel
theorem dX11_span_54 : decode cX11_span 54 = .ok (.iload_n 2, 1) := by decide +kernel
theorem dX11_span_55 : decode cX11_span 55 = .ok (.goto 4, 3) := by decide +kernel
theorem dX11_span_58 : decode cX11_span 58 = .ok (.iconst 1, 1) := by decide +kernel
theorem dX11_span_59 : decode cX11_span 59 = .ok (.iastore, 1) := by decide +kernel
theorem dX11_span_60 : decode cX11_span 60 = .ok (.aload_n 0, 1) := by decide +kernel
theorem dX11_span_61 : decode cX11_span 61 = .ok (.getfield 9, 3) := by decide +kernel
theorem dX11_span_64 : decode cX11_span 64 = .ok (.bipush 124, 2) := by decide +kernel
theorem dX11_span_66 : decode cX11_span 66 = .ok (.iload_n 1, 1) := by decide +kernel
theorem dX11_span_67 : decode cX11_span 67 = .ok (.iadd, 1) := by decide +kernel
theorem dX11_span_68 : decode cX11_span 68 = .ok (.iload_n 2, 1) := by decide +kernel
theorem dX11_span_69 : decode cX11_span 69 = .ok (.iload_n 3, 1) := by decide +kernel
theorem dX11_span_70 : decode cX11_span 70 = .ok (.if_icmp .gt 7, 3) := by decide +kernel
theorem dX11_span_73 : decode cX11_span 73 = .ok (.iload_n 3, 1) := by decide +kernel
theorem dX11_span_74 : decode cX11_span 74 = .ok (.goto 4, 3) := by decide +kernel
theorem dX11_span_77 : decode cX11_span 77 = .ok (.iconst 0, 1) := by decide +kernel
theorem dX11_span_78 : decode cX11_span 78 = .ok (.iastore, 1) := by decide +kernel
theorem dX11_span_79 : decode cX11_span 79 = .ok (.iload_n 2, 1) := by decide +kernel
theorem dX11_span_80 : decode cX11_span 80 = .ok (.iload_n 3, 1) := by decide +kernel
theorem dX11_span_81 : decode cX11_span 81 = .ok (.if_icmp .gt 7, 3) := by decide +kernel
theorem dX11_span_84 : decode cX11_span 84 = .ok (.lconst 1, 1) := by decide +kernel
theorem dX11_span_85 : decode cX11_span 85 = .ok (.goto 4, 3) := by decide +kernel
theorem dX11_span_88 : decode cX11_span 88 = .ok (.lconst 0, 1) := by decide +kernel
theorem dX11_span_89 : decode cX11_span 89 = .ok (.lreturn, 1) := by decide +kernel
theorem dX11_isMend_0 : decode cX11_isMend 0 = .ok (.iload_n 1, 1) := by decide +kernel
theorem dX11_isMend_1 : decode cX11_isMend 1 = .ok (.iconst 0, 1) := by decide +kernel
theorem dX11_isMend_2 : decode cX11_isMend 2 = .ok (.aload_n 0, 1) := by decide +kernel
theorem dX11_isMend_3 : decode cX11_isMend 3 = .ok (.getfield 9, 3) := by decide +kernel
theorem dX11_isMend_6 : decode cX11_isMend 6 = .ok (.iconst 2, 1) := by decide +kernel
theorem dX11_isMend_7 : decode cX11_isMend 7 = .ok (.iaload, 1) := by decide +kernel
theorem dX11_isMend_8 : decode cX11_isMend 8 = .ok (.iconst 1, 1) := by decide +kernel
theorem dX11_isMend_9 : decode cX11_isMend 9 = .ok (.isub, 1) := by decide +kernel
theorem dX11_isMend_10 : decode cX11_isMend 10 = .ok (.invokestatic 58, 3) := by decide +kernel
theorem dX11_isMend_13 : decode cX11_isMend 13 = .ok (.ireturn, 1) := by decide +kernel
theorem dX11_mended_0 : decode cX11_mended 0 = .ok (.iload_n 1, 1) := by decide +kernel
theorem dX11_mended_1 : decode cX11_mended 1 = .ok (.ifCond .lt 19, 3) := by decide +kernel
theorem dX11_mended_4 : decode cX11_mended 4 = .ok (.aload_n 0, 1) := by decide +kernel
theorem dX11_mended_5 : decode cX11_mended 5 = .ok (.aload_n 0, 1) := by decide +kernel
theorem dX11_mended_6 : decode cX11_mended 6 = .ok (.getfield 9, 3) := by decide +kernel
theorem dX11_mended_9 : decode cX11_mended 9 = .ok (.bipush 72, 2) := by decide +kernel
theorem dX11_mended_11 : decode cX11_mended 11 = .ok (.iload_n 1, 1) := by decide +kernel
theorem dX11_mended_12 : decode cX11_mended 12 = .ok (.iadd, 1) := by decide +kernel
theorem dX11_mended_13 : decode cX11_mended 13 = .ok (.iaload, 1) := by decide +kernel
theorem dX11_mended_14 : decode cX11_mended 14 = .ok (.invokevirtual 183, 3) := by decide +kernel
theorem dX11_mended_17 : decode cX11_mended 17 = .ok (.ifCond .ge 5, 3) := by decide +kernel
theorem dX11_mended_20 : decode cX11_mended 20 = .ok (.lconst 0, 1) := by decide +kernel
theorem dX11_mended_21 : decode cX11_mended 21 = .ok (.lreturn, 1) := by decide +kernel
theorem dX11_mended_22 : decode cX11_mended 22 = .ok (.aload_n 0, 1) := by decide +kernel
theorem dX11_mended_23 : decode cX11_mended 23 = .ok (.aload_n 0, 1) := by decide +kernel
theorem dX11_mended_24 : decode cX11_mended 24 = .ok (.getfield 9, 3) := by decide +kernel
theorem dX11_mended_27 : decode cX11_mended 27 = .ok (.bipush 72, 2) := by decide +kernel
theorem dX11_mended_29 : decode cX11_mended 29 = .ok (.iload_n 1, 1) := by decide +kernel
theorem dX11_mended_30 : decode cX11_mended 30 = .ok (.iadd, 1) := by decide +kernel
theorem dX11_mended_31 : decode cX11_mended 31 = .ok (.iaload, 1) := by decide +kernel
theorem dX11_mended_32 : decode cX11_mended 32 = .ok (.iload_n 3, 1) := by decide +kernel
theorem dX11_mended_33 : decode cX11_mended 33 = .ok (.invokevirtual 81, 3) := by decide +kernel
theorem dX11_mended_36 : decode cX11_mended 36 = .ok (.aload_n 0, 1) := by decide +kernel
theorem dX11_mended_37 : decode cX11_mended 37 = .ok (.getfield 9, 3) := by decide +kernel
theorem dX11_mended_40 : decode cX11_mended 40 = .ok (.bipush 80, 2) := by decide +kernel
theorem dX11_mended_42 : decode cX11_mended 42 = .ok (.iload_n 1, 1) := by decide +kernel
theorem dX11_mended_43 : decode cX11_mended 43 = .ok (.iadd, 1) := by decide +kernel
theorem dX11_mended_44 : decode cX11_mended 44 = .ok (.iaload, 1) := by decide +kernel
theorem dX11_mended_45 : decode cX11_mended 45 = .ok (.i2l, 1) := by decide +kernel
theorem dX11_mended_46 : decode cX11_mended 46 = .ok (.lmul, 1) := by decide +kernel
theorem dX11_mended_47 : decode cX11_mended 47 = .ok (.iload_n 2, 1) := by decide +kernel
theorem dX11_mended_48 : decode cX11_mended 48 = .ok (.i2l, 1) := by decide +kernel
theorem dX11_mended_49 : decode cX11_mended 49 = .ok (.lmul, 1) := by decide +kernel
theorem dX11_mended_50 : decode cX11_mended 50 = .ok (.lreturn, 1) := by decide +kernel
theorem dX11_behind_0 : decode cX11_behind 0 = .ok (.aload_n 0, 1) := by decide +kernel
theorem dX11_behind_1 : decode cX11_behind 1 = .ok (.invokevirtual 180, 3) := by decide +kernel
theorem dX11_behind_4 : decode cX11_behind 4 = .ok (.lconst 0, 1) := by decide +kernel
theorem dX11_behind_5 : decode cX11_behind 5 = .ok (.lcmp, 1) := by decide +kernel
theorem dX11_behind_6 : decode cX11_behind 6 = .ok (.ifCond .eq 12, 3) := by decide +kernel
theorem dX11_behind_9 : decode cX11_behind 9 = .ok (.aload_n 0, 1) := by decide +kernel
theorem dX11_behind_10 : decode cX11_behind 10 = .ok (.aload_n 0, 1) := by decide +kernel
theorem dX11_behind_11 : decode cX11_behind 11 = .ok (.invokevirtual 180, 3) := by decide +kernel
theorem dX11_behind_14 : decode cX11_behind 14 = .ok (.invokevirtual 64, 3) := by decide +kernel
theorem dX11_behind_17 : decode cX11_behind 17 = .ok (.lreturn, 1) := by decide +kernel
theorem dX11_behind_18 : decode cX11_behind 18 = .ok (.iload_n 1, 1) := by decide +kernel
theorem dX11_behind_19 : decode cX11_behind 19 = .ok (.invokestatic 78, 3) := by decide +kernel
theorem dX11_behind_22 : decode cX11_behind 22 = .ok (.ifCond .eq 41, 3) := by decide +kernel
theorem dX11_behind_25 : decode cX11_behind 25 = .ok (.aload_n 0, 1) := by decide +kernel
theorem dX11_behind_26 : decode cX11_behind 26 = .ok (.iload_n 2, 1) := by decide +kernel
theorem dX11_behind_27 : decode cX11_behind 27 = .ok (.invokevirtual 200, 3) := by decide +kernel
theorem dX11_behind_30 : decode cX11_behind 30 = .ok (.ifCond .eq 33, 3) := by decide +kernel
theorem dX11_behind_33 : decode cX11_behind 33 = .ok (.aload_n 0, 1) := by decide +kernel
theorem dX11_behind_34 : decode cX11_behind 34 = .ok (.iload 4, 2) := by decide +kernel
theorem dX11_behind_36 : decode cX11_behind 36 = .ok (.invokevirtual 200, 3) := by decide +kernel
theorem dX11_behind_39 : decode cX11_behind 39 = .ok (.ifCond .eq 24, 3) := by decide +kernel
theorem dX11_behind_42 : decode cX11_behind 42 = .ok (.iload_n 3, 1) := by decide +kernel
theorem dX11_behind_43 : decode cX11_behind 43 = .ok (.bipush (-3), 2) := by decide +kernel
theorem dX11_behind_45 : decode cX11_behind 45 = .ok (.iconst 3, 1) := by decide +kernel
theorem dX11_behind_46 : decode cX11_behind 46 = .ok (.invokestatic 58, 3) := by decide +kernel
theorem dX11_behind_49 : decode cX11_behind 49 = .ok (.ifCond .eq 14, 3) := by decide +kernel
theorem dX11_behind_52 : decode cX11_behind 52 = .ok (.iload 5, 2) := by decide +kernel
theorem dX11_behind_54 : decode cX11_behind 54 = .ok (.bipush (-3), 2) := by decide +kernel
theorem dX11_behind_56 : decode cX11_behind 56 = .ok (.iconst 3, 1) := by decide +kernel
theorem dX11_behind_57 : decode cX11_behind 57 = .ok (.invokestatic 58, 3) := by decide +kernel
theorem dX11_behind_60 : decode cX11_behind 60 = .ok (.ifCond .ne 11, 3) := by decide +kernel
theorem dX11_behind_63 : decode cX11_behind 63 = .ok (.aload_n 0, 1) := by decide +kernel
theorem dX11_behind_64 : decode cX11_behind 64 = .ok (.ldc2_w 62, 3) := by decide +kernel
theorem dX11_behind_67 : decode cX11_behind 67 = .ok (.invokevirtual 64, 3) := by decide +kernel
theorem dX11_behind_70 : decode cX11_behind 70 = .ok (.lreturn, 1) := by decide +kernel
theorem dX11_behind_71 : decode cX11_behind 71 = .ok (.aload_n 0, 1) := by decide +kernel
theorem dX11_behind_72 : decode cX11_behind 72 = .ok (.iload_n 2, 1) := by decide +kernel
theorem dX11_behind_73 : decode cX11_behind 73 = .ok (.iload_n 3, 1) := by decide +kernel
theorem dX11_behind_74 : decode cX11_behind 74 = .ok (.iload_n 1, 1) := by decide +kernel
theorem dX11_behind_75 : decode cX11_behind 75 = .ok (.invokevirtual 203, 3) := by decide +kernel
theorem dX11_behind_78 : decode cX11_behind 78 = .ok (.aload_n 0, 1) := by decide +kernel
theorem dX11_behind_79 : decode cX11_behind 79 = .ok (.iload 4, 2) := by decide +kernel
theorem dX11_behind_81 : decode cX11_behind 81 = .ok (.iload 5, 2) := by decide +kernel
theorem dX11_behind_83 : decode cX11_behind 83 = .ok (.iload_n 1, 1) := by decide +kernel
theorem dX11_behind_84 : decode cX11_behind 84 = .ok (.invokevirtual 203, 3) := by decide +kernel
theorem dX11_behind_87 : decode cX11_behind 87 = .ok (.ladd, 1) := by decide +kernel
theorem dX11_behind_88 : decode cX11_behind 88 = .ok (.lstore 7, 2) := by decide +kernel
theorem dX11_behind_90 : decode cX11_behind 90 = .ok (.aload_n 0, 1) := by decide +kernel
theorem dX11_behind_91 : decode cX11_behind 91 = .ok (.iload_n 1, 1) := by decide +kernel
theorem dX11_behind_92 : decode cX11_behind 92 = .ok (.invokevirtual 190, 3) := by decide +kernel
theorem dX11_behind_95 : decode cX11_behind 95 = .ok (.lload 7, 2) := by decide +kernel
theorem dX11_behind_97 : decode cX11_behind 97 = .ok (.aload_n 0, 1) := by decide +kernel
theorem dX11_behind_98 : decode cX11_behind 98 = .ok (.getfield 146, 3) := by decide +kernel
theorem dX11_behind_101 : decode cX11_behind 101 = .ok (.lmul, 1) := by decide +kernel
theorem dX11_behind_102 : decode cX11_behind 102 = .ok (.ladd, 1) := by decide +kernel
theorem dX11_behind_103 : decode cX11_behind 103 = .ok (.aload_n 0, 1) := by decide +kernel
theorem dX11_behind_104 : decode cX11_behind 104 = .ok (.getfield 146, 3) := by decide +kernel
theorem dX11_behind_107 : decode cX11_behind 107 = .ok (.iload 6, 2) := by decide +kernel
theorem dX11_behind_109 : decode cX11_behind 109 = .ok (.invokestatic 186, 3) := by decide +kernel
theorem dX11_behind_112 : decode cX11_behind 112 = .ok (.lreturn, 1) := by decide +kernel
theorem dX11_worstWith_0 : decode cX11_worstWith 0 = .ok (.lconst 0, 1) := by decide +kernel
theorem dX11_worstWith_1 : decode cX11_worstWith 1 = .ok (.lstore 5, 2) := by decide +kernel
theorem dX11_worstWith_3 : decode cX11_worstWith 3 = .ok (.iconst 0, 1) := by decide +kernel
theorem dX11_worstWith_4 : decode cX11_worstWith 4 = .ok (.istore 7, 2) := by decide +kernel
theorem dX11_worstWith_6 : decode cX11_worstWith 6 = .ok (.iload 7, 2) := by decide +kernel
theorem dX11_worstWith_8 : decode cX11_worstWith 8 = .ok (.bipush 36, 2) := by decide +kernel
theorem dX11_worstWith_10 : decode cX11_worstWith 10 = .ok (.if_icmp .ge 87, 3) := by decide +kernel
theorem dX11_worstWith_13 : decode cX11_worstWith 13 = .ok (.aload_n 0, 1) := by decide +kernel
theorem dX11_worstWith_14 : decode cX11_worstWith 14 = .ok (.iload 7, 2) := by decide +kernel
theorem dX11_worstWith_16 : decode cX11_worstWith 16 = .ok (.invokevirtual 197, 3) := by decide +kernel
theorem dX11_worstWith_19 : decode cX11_worstWith 19 = .ok (.ifCond .ne 6, 3) := by decide +kernel
theorem dX11_worstWith_22 : decode cX11_worstWith 22 = .ok (.goto 69, 3) := by decide +kernel
theorem dX11_worstWith_25 : decode cX11_worstWith 25 = .ok (.aload_n 0, 1) := by decide +kernel
theorem dX11_worstWith_26 : decode cX11_worstWith 26 = .ok (.iload 7, 2) := by decide +kernel
theorem dX11_worstWith_28 : decode cX11_worstWith 28 = .ok (.invokevirtual 190, 3) := by decide +kernel
theorem dX11_worstWith_31 : decode cX11_worstWith 31 = .ok (.aload_n 0, 1) := by decide +kernel
theorem dX11_worstWith_32 : decode cX11_worstWith 32 = .ok (.iload_n 1, 1) := by decide +kernel
theorem dX11_worstWith_33 : decode cX11_worstWith 33 = .ok (.iload_n 2, 1) := by decide +kernel
theorem dX11_worstWith_34 : decode cX11_worstWith 34 = .ok (.iload 7, 2) := by decide +kernel
theorem dX11_worstWith_36 : decode cX11_worstWith 36 = .ok (.invokevirtual 203, 3) := by decide +kernel
theorem dX11_worstWith_39 : decode cX11_worstWith 39 = .ok (.aload_n 0, 1) := by decide +kernel
theorem dX11_worstWith_40 : decode cX11_worstWith 40 = .ok (.iload_n 3, 1) := by decide +kernel
theorem dX11_worstWith_41 : decode cX11_worstWith 41 = .ok (.iload 4, 2) := by decide +kernel
theorem dX11_worstWith_43 : decode cX11_worstWith 43 = .ok (.iload 7, 2) := by decide +kernel
theorem dX11_worstWith_45 : decode cX11_worstWith 45 = .ok (.invokevirtual 203, 3) := by decide +kernel
theorem dX11_worstWith_48 : decode cX11_worstWith 48 = .ok (.ladd, 1) := by decide +kernel
theorem dX11_worstWith_49 : decode cX11_worstWith 49 = .ok (.aload_n 0, 1) := by decide +kernel
theorem dX11_worstWith_50 : decode cX11_worstWith 50 = .ok (.getfield 146, 3) := by decide +kernel
theorem dX11_worstWith_53 : decode cX11_worstWith 53 = .ok (.lmul, 1) := by decide +kernel
theorem dX11_worstWith_54 : decode cX11_worstWith 54 = .ok (.ladd, 1) := by decide +kernel
theorem dX11_worstWith_55 : decode cX11_worstWith 55 = .ok (.lstore 8, 2) := by decide +kernel
theorem dX11_worstWith_57 : decode cX11_worstWith 57 = .ok (.lload 8, 2) := by decide +kernel
theorem dX11_worstWith_59 : decode cX11_worstWith 59 = .ok (.lconst 0, 1) := by decide +kernel
theorem dX11_worstWith_60 : decode cX11_worstWith 60 = .ok (.lcmp, 1) := by decide +kernel
theorem dX11_worstWith_61 : decode cX11_worstWith 61 = .ok (.ifCond .ge 9, 3) := by decide +kernel
theorem dX11_worstWith_64 : decode cX11_worstWith 64 = .ok (.lload 8, 2) := by decide +kernel
end
section
theorem dX11_worstWith_66 : decode cX11_worstWith 66 = .ok (.lneg, 1) := by decide +kernel
theorem dX11_worstWith_67 : decode cX11_worstWith 67 = .ok (.goto 5, 3) := by decide +kernel
theorem dX11_worstWith_70 : decode cX11_worstWith 70 = .ok (.lload 8, 2) := by decide +kernel
theorem dX11_worstWith_72 : decode cX11_worstWith 72 = .ok (.lstore 8, 2) := by decide +kernel
theorem dX11_worstWith_74 : decode cX11_worstWith 74 = .ok (.lload 8, 2) := by decide +kernel
theorem dX11_worstWith_76 : decode cX11_worstWith 76 = .ok (.lload 5, 2) := by decide +kernel
theorem dX11_worstWith_78 : decode cX11_worstWith 78 = .ok (.lcmp, 1) := by decide +kernel
theorem dX11_worstWith_79 : decode cX11_worstWith 79 = .ok (.ifCond .le 8, 3) := by decide +kernel
theorem dX11_worstWith_82 : decode cX11_worstWith 82 = .ok (.lload 8, 2) := by decide +kernel
theorem dX11_worstWith_84 : decode cX11_worstWith 84 = .ok (.goto 5, 3) := by decide +kernel
theorem dX11_worstWith_87 : decode cX11_worstWith 87 = .ok (.lload 5, 2) := by decide +kernel
theorem dX11_worstWith_89 : decode cX11_worstWith 89 = .ok (.lstore 5, 2) := by decide +kernel
theorem dX11_worstWith_91 : decode cX11_worstWith 91 = .ok (.iinc 7 1, 3) := by decide +kernel
theorem dX11_worstWith_94 : decode cX11_worstWith 94 = .ok (.goto (-88), 3) := by decide +kernel
theorem dX11_worstWith_97 : decode cX11_worstWith 97 = .ok (.lload 5, 2) := by decide +kernel
theorem dX11_worstWith_99 : decode cX11_worstWith 99 = .ok (.lreturn, 1) := by decide +kernel
theorem dX11_noWorst_0 : decode cX11_noWorst 0 = .ok (.aload_n 0, 1) := by decide +kernel
theorem dX11_noWorst_1 : decode cX11_noWorst 1 = .ok (.invokevirtual 180, 3) := by decide +kernel
theorem dX11_noWorst_4 : decode cX11_noWorst 4 = .ok (.lconst 0, 1) := by decide +kernel
theorem dX11_noWorst_5 : decode cX11_noWorst 5 = .ok (.lcmp, 1) := by decide +kernel
theorem dX11_noWorst_6 : decode cX11_noWorst 6 = .ok (.ifCond .eq 10, 3) := by decide +kernel
theorem dX11_noWorst_9 : decode cX11_noWorst 9 = .ok (.aload_n 0, 1) := by decide +kernel
theorem dX11_noWorst_10 : decode cX11_noWorst 10 = .ok (.invokevirtual 180, 3) := by decide +kernel
theorem dX11_noWorst_13 : decode cX11_noWorst 13 = .ok (.goto 17, 3) := by decide +kernel
theorem dX11_noWorst_16 : decode cX11_noWorst 16 = .ok (.aload_n 0, 1) := by decide +kernel
theorem dX11_noWorst_17 : decode cX11_noWorst 17 = .ok (.invokevirtual 206, 3) := by decide +kernel
theorem dX11_noWorst_20 : decode cX11_noWorst 20 = .ok (.ifCond .ne 9, 3) := by decide +kernel
theorem dX11_noWorst_23 : decode cX11_noWorst 23 = .ok (.ldc2_w 176, 3) := by decide +kernel
theorem dX11_noWorst_26 : decode cX11_noWorst 26 = .ok (.goto 4, 3) := by decide +kernel
theorem dX11_noWorst_29 : decode cX11_noWorst 29 = .ok (.lconst 0, 1) := by decide +kernel
theorem dX11_noWorst_30 : decode cX11_noWorst 30 = .ok (.lreturn, 1) := by decide +kernel
theorem dX11_worst_0 : decode cX11_worst 0 = .ok (.aload_n 0, 1) := by decide +kernel
theorem dX11_worst_1 : decode cX11_worst 1 = .ok (.invokevirtual 210, 3) := by decide +kernel
theorem dX11_worst_4 : decode cX11_worst 4 = .ok (.lconst 0, 1) := by decide +kernel
theorem dX11_worst_5 : decode cX11_worst 5 = .ok (.lcmp, 1) := by decide +kernel
theorem dX11_worst_6 : decode cX11_worst 6 = .ok (.ifCond .eq 14, 3) := by decide +kernel
theorem dX11_worst_9 : decode cX11_worst 9 = .ok (.aload_n 0, 1) := by decide +kernel
theorem dX11_worst_10 : decode cX11_worst 10 = .ok (.aload_n 0, 1) := by decide +kernel
theorem dX11_worst_11 : decode cX11_worst 11 = .ok (.invokevirtual 210, 3) := by decide +kernel
theorem dX11_worst_14 : decode cX11_worst 14 = .ok (.invokevirtual 64, 3) := by decide +kernel
theorem dX11_worst_17 : decode cX11_worst 17 = .ok (.goto 19, 3) := by decide +kernel
theorem dX11_worst_20 : decode cX11_worst 20 = .ok (.aload_n 0, 1) := by decide +kernel
theorem dX11_worst_21 : decode cX11_worst 21 = .ok (.iconst (-1), 1) := by decide +kernel
theorem dX11_worst_22 : decode cX11_worst 22 = .ok (.iconst 0, 1) := by decide +kernel
theorem dX11_worst_23 : decode cX11_worst 23 = .ok (.iconst (-1), 1) := by decide +kernel
theorem dX11_worst_24 : decode cX11_worst 24 = .ok (.iconst 0, 1) := by decide +kernel
theorem dX11_worst_25 : decode cX11_worst 25 = .ok (.invokevirtual 213, 3) := by decide +kernel
theorem dX11_worst_28 : decode cX11_worst 28 = .ok (.aload_n 0, 1) := by decide +kernel
theorem dX11_worst_29 : decode cX11_worst 29 = .ok (.getfield 146, 3) := by decide +kernel
theorem dX11_worst_32 : decode cX11_worst 32 = .ok (.iload_n 1, 1) := by decide +kernel
theorem dX11_worst_33 : decode cX11_worst 33 = .ok (.invokestatic 186, 3) := by decide +kernel
theorem dX11_worst_36 : decode cX11_worst 36 = .ok (.lreturn, 1) := by decide +kernel
theorem dX11_code_0 : decode cX11_code 0 = .ok (.ldc2_w 217, 3) := by decide +kernel
theorem dX11_code_3 : decode cX11_code 3 = .ok (.iload_n 0, 1) := by decide +kernel
theorem dX11_code_4 : decode cX11_code 4 = .ok (.iconst 1, 1) := by decide +kernel
theorem dX11_code_5 : decode cX11_code 5 = .ok (.iadd, 1) := by decide +kernel
theorem dX11_code_6 : decode cX11_code 6 = .ok (.i2l, 1) := by decide +kernel
theorem dX11_code_7 : decode cX11_code 7 = .ok (.lmul, 1) := by decide +kernel
theorem dX11_code_8 : decode cX11_code 8 = .ok (.ldc2_w 219, 3) := by decide +kernel
theorem dX11_code_11 : decode cX11_code 11 = .ok (.iload_n 1, 1) := by decide +kernel
theorem dX11_code_12 : decode cX11_code 12 = .ok (.iconst 3, 1) := by decide +kernel
theorem dX11_code_13 : decode cX11_code 13 = .ok (.iadd, 1) := by decide +kernel
theorem dX11_code_14 : decode cX11_code 14 = .ok (.i2l, 1) := by decide +kernel
theorem dX11_code_15 : decode cX11_code 15 = .ok (.lmul, 1) := by decide +kernel
theorem dX11_code_16 : decode cX11_code 16 = .ok (.ladd, 1) := by decide +kernel
theorem dX11_code_17 : decode cX11_code 17 = .ok (.ldc2_w 221, 3) := by decide +kernel
theorem dX11_code_20 : decode cX11_code 20 = .ok (.iload_n 2, 1) := by decide +kernel
theorem dX11_code_21 : decode cX11_code 21 = .ok (.iconst 1, 1) := by decide +kernel
theorem dX11_code_22 : decode cX11_code 22 = .ok (.iadd, 1) := by decide +kernel
theorem dX11_code_23 : decode cX11_code 23 = .ok (.i2l, 1) := by decide +kernel
theorem dX11_code_24 : decode cX11_code 24 = .ok (.lmul, 1) := by decide +kernel
theorem dX11_code_25 : decode cX11_code 25 = .ok (.ladd, 1) := by decide +kernel
theorem dX11_code_26 : decode cX11_code 26 = .ok (.iload_n 3, 1) := by decide +kernel
theorem dX11_code_27 : decode cX11_code 27 = .ok (.iconst 3, 1) := by decide +kernel
theorem dX11_code_28 : decode cX11_code 28 = .ok (.iadd, 1) := by decide +kernel
theorem dX11_code_29 : decode cX11_code 29 = .ok (.i2l, 1) := by decide +kernel
theorem dX11_code_30 : decode cX11_code 30 = .ok (.ladd, 1) := by decide +kernel
theorem dX11_code_31 : decode cX11_code 31 = .ok (.lreturn, 1) := by decide +kernel
theorem dX11_best_0 : decode cX11_best 0 = .ok (.aload_n 0, 1) := by decide +kernel
theorem dX11_best_1 : decode cX11_best 1 = .ok (.invokevirtual 210, 3) := by decide +kernel
theorem dX11_best_4 : decode cX11_best 4 = .ok (.lconst 0, 1) := by decide +kernel
theorem dX11_best_5 : decode cX11_best 5 = .ok (.lcmp, 1) := by decide +kernel
theorem dX11_best_6 : decode cX11_best 6 = .ok (.ifCond .eq 12, 3) := by decide +kernel
theorem dX11_best_9 : decode cX11_best 9 = .ok (.aload_n 0, 1) := by decide +kernel
theorem dX11_best_10 : decode cX11_best 10 = .ok (.aload_n 0, 1) := by decide +kernel
theorem dX11_best_11 : decode cX11_best 11 = .ok (.invokevirtual 210, 3) := by decide +kernel
theorem dX11_best_14 : decode cX11_best 14 = .ok (.invokevirtual 64, 3) := by decide +kernel
theorem dX11_best_17 : decode cX11_best 17 = .ok (.lreturn, 1) := by decide +kernel
theorem dX11_best_18 : decode cX11_best 18 = .ok (.aload_n 0, 1) := by decide +kernel
theorem dX11_best_19 : decode cX11_best 19 = .ok (.iconst (-1), 1) := by decide +kernel
theorem dX11_best_20 : decode cX11_best 20 = .ok (.iconst 0, 1) := by decide +kernel
theorem dX11_best_21 : decode cX11_best 21 = .ok (.iconst (-1), 1) := by decide +kernel
theorem dX11_best_22 : decode cX11_best 22 = .ok (.iconst 0, 1) := by decide +kernel
theorem dX11_best_23 : decode cX11_best 23 = .ok (.invokevirtual 213, 3) := by decide +kernel
theorem dX11_best_26 : decode cX11_best 26 = .ok (.lstore_n 1, 1) := by decide +kernel
theorem dX11_best_27 : decode cX11_best 27 = .ok (.iconst (-1), 1) := by decide +kernel
theorem dX11_best_28 : decode cX11_best 28 = .ok (.iconst 0, 1) := by decide +kernel
theorem dX11_best_29 : decode cX11_best 29 = .ok (.iconst (-1), 1) := by decide +kernel
theorem dX11_best_30 : decode cX11_best 30 = .ok (.iconst 0, 1) := by decide +kernel
theorem dX11_best_31 : decode cX11_best 31 = .ok (.invokestatic 223, 3) := by decide +kernel
theorem dX11_best_34 : decode cX11_best 34 = .ok (.lstore_n 3, 1) := by decide +kernel
theorem dX11_best_35 : decode cX11_best 35 = .ok (.aload_n 0, 1) := by decide +kernel
theorem dX11_best_36 : decode cX11_best 36 = .ok (.getfield 9, 3) := by decide +kernel
theorem dX11_best_39 : decode cX11_best 39 = .ok (.iconst 2, 1) := by decide +kernel
theorem dX11_best_40 : decode cX11_best 40 = .ok (.iaload, 1) := by decide +kernel
theorem dX11_best_41 : decode cX11_best 41 = .ok (.istore 5, 2) := by decide +kernel
theorem dX11_best_43 : decode cX11_best 43 = .ok (.iconst 0, 1) := by decide +kernel
theorem dX11_best_44 : decode cX11_best 44 = .ok (.istore 6, 2) := by decide +kernel
theorem dX11_best_46 : decode cX11_best 46 = .ok (.iload 6, 2) := by decide +kernel
theorem dX11_best_48 : decode cX11_best 48 = .ok (.iload 5, 2) := by decide +kernel
theorem dX11_best_50 : decode cX11_best 50 = .ok (.if_icmp .ge 81, 3) := by decide +kernel
theorem dX11_best_53 : decode cX11_best 53 = .ok (.bipush (-3), 2) := by decide +kernel
theorem dX11_best_55 : decode cX11_best 55 = .ok (.istore 7, 2) := by decide +kernel
theorem dX11_best_57 : decode cX11_best 57 = .ok (.iload 7, 2) := by decide +kernel
theorem dX11_best_59 : decode cX11_best 59 = .ok (.iconst 3, 1) := by decide +kernel
theorem dX11_best_60 : decode cX11_best 60 = .ok (.if_icmp .gt 65, 3) := by decide +kernel
theorem dX11_best_63 : decode cX11_best 63 = .ok (.iload 7, 2) := by decide +kernel
theorem dX11_best_65 : decode cX11_best 65 = .ok (.ifCond .ne 7, 3) := by decide +kernel
theorem dX11_best_68 : decode cX11_best 68 = .ok (.lload_n 1, 1) := by decide +kernel
theorem dX11_best_69 : decode cX11_best 69 = .ok (.goto 13, 3) := by decide +kernel
theorem dX11_best_72 : decode cX11_best 72 = .ok (.aload_n 0, 1) := by decide +kernel
theorem dX11_best_73 : decode cX11_best 73 = .ok (.iload 6, 2) := by decide +kernel
theorem dX11_best_75 : decode cX11_best 75 = .ok (.iload 7, 2) := by decide +kernel
theorem dX11_best_77 : decode cX11_best 77 = .ok (.iconst (-1), 1) := by decide +kernel
theorem dX11_best_78 : decode cX11_best 78 = .ok (.iconst 0, 1) := by decide +kernel
theorem dX11_best_79 : decode cX11_best 79 = .ok (.invokevirtual 213, 3) := by decide +kernel
theorem dX11_best_82 : decode cX11_best 82 = .ok (.lstore 8, 2) := by decide +kernel
theorem dX11_best_84 : decode cX11_best 84 = .ok (.lload 8, 2) := by decide +kernel
theorem dX11_best_86 : decode cX11_best 86 = .ok (.lload_n 1, 1) := by decide +kernel
theorem dX11_best_87 : decode cX11_best 87 = .ok (.lcmp, 1) := by decide +kernel
theorem dX11_best_88 : decode cX11_best 88 = .ok (.ifCond .ge 15, 3) := by decide +kernel
theorem dX11_best_91 : decode cX11_best 91 = .ok (.iload 6, 2) := by decide +kernel
theorem dX11_best_93 : decode cX11_best 93 = .ok (.iload 7, 2) := by decide +kernel
theorem dX11_best_95 : decode cX11_best 95 = .ok (.iconst (-1), 1) := by decide +kernel
theorem dX11_best_96 : decode cX11_best 96 = .ok (.iconst 0, 1) := by decide +kernel
theorem dX11_best_97 : decode cX11_best 97 = .ok (.invokestatic 223, 3) := by decide +kernel
theorem dX11_best_100 : decode cX11_best 100 = .ok (.goto 4, 3) := by decide +kernel
theorem dX11_best_103 : decode cX11_best 103 = .ok (.lload_n 3, 1) := by decide +kernel
theorem dX11_best_104 : decode cX11_best 104 = .ok (.lstore_n 3, 1) := by decide +kernel
theorem dX11_best_105 : decode cX11_best 105 = .ok (.lload 8, 2) := by decide +kernel
theorem dX11_best_107 : decode cX11_best 107 = .ok (.lload_n 1, 1) := by decide +kernel
theorem dX11_best_108 : decode cX11_best 108 = .ok (.lcmp, 1) := by decide +kernel
theorem dX11_best_109 : decode cX11_best 109 = .ok (.ifCond .ge 8, 3) := by decide +kernel
theorem dX11_best_112 : decode cX11_best 112 = .ok (.lload 8, 2) := by decide +kernel
theorem dX11_best_114 : decode cX11_best 114 = .ok (.goto 4, 3) := by decide +kernel
theorem dX11_best_117 : decode cX11_best 117 = .ok (.lload_n 1, 1) := by decide +kernel
theorem dX11_best_118 : decode cX11_best 118 = .ok (.lstore_n 1, 1) := by decide +kernel
theorem dX11_best_119 : decode cX11_best 119 = .ok (.iinc 7 1, 3) := by decide +kernel
theorem dX11_best_122 : decode cX11_best 122 = .ok (.goto (-65), 3) := by decide +kernel
theorem dX11_best_125 : decode cX11_best 125 = .ok (.iinc 6 1, 3) := by decide +kernel
theorem dX11_best_128 : decode cX11_best 128 = .ok (.goto (-82), 3) := by decide +kernel
theorem dX11_best_131 : decode cX11_best 131 = .ok (.iconst 0, 1) := by decide +kernel
theorem dX11_best_132 : decode cX11_best 132 = .ok (.istore 6, 2) := by decide +kernel
theorem dX11_best_134 : decode cX11_best 134 = .ok (.iload 6, 2) := by decide +kernel
theorem dX11_best_136 : decode cX11_best 136 = .ok (.iload 5, 2) := by decide +kernel
theorem dX11_best_138 : decode cX11_best 138 = .ok (.if_icmp .ge 125, 3) := by decide +kernel
theorem dX11_best_141 : decode cX11_best 141 = .ok (.bipush (-3), 2) := by decide +kernel
theorem dX11_best_143 : decode cX11_best 143 = .ok (.istore 7, 2) := by decide +kernel
theorem dX11_best_145 : decode cX11_best 145 = .ok (.iload 7, 2) := by decide +kernel
theorem dX11_best_147 : decode cX11_best 147 = .ok (.iconst 3, 1) := by decide +kernel
theorem dX11_best_148 : decode cX11_best 148 = .ok (.if_icmp .gt 109, 3) := by decide +kernel
theorem dX11_best_151 : decode cX11_best 151 = .ok (.iload 6, 2) := by decide +kernel
theorem dX11_best_153 : decode cX11_best 153 = .ok (.iconst 1, 1) := by decide +kernel
theorem dX11_best_154 : decode cX11_best 154 = .ok (.iadd, 1) := by decide +kernel
theorem dX11_best_155 : decode cX11_best 155 = .ok (.istore 8, 2) := by decide +kernel
theorem dX11_best_157 : decode cX11_best 157 = .ok (.iload 8, 2) := by decide +kernel
theorem dX11_best_159 : decode cX11_best 159 = .ok (.iload 5, 2) := by decide +kernel
theorem dX11_best_161 : decode cX11_best 161 = .ok (.if_icmp .ge 90, 3) := by decide +kernel
theorem dX11_best_164 : decode cX11_best 164 = .ok (.iload 7, 2) := by decide +kernel
theorem dX11_best_166 : decode cX11_best 166 = .ok (.ifCond .eq 85, 3) := by decide +kernel
theorem dX11_best_169 : decode cX11_best 169 = .ok (.bipush (-3), 2) := by decide +kernel
theorem dX11_best_171 : decode cX11_best 171 = .ok (.istore 9, 2) := by decide +kernel
theorem dX11_best_173 : decode cX11_best 173 = .ok (.iload 9, 2) := by decide +kernel
theorem dX11_best_175 : decode cX11_best 175 = .ok (.iconst 3, 1) := by decide +kernel
theorem dX11_best_176 : decode cX11_best 176 = .ok (.if_icmp .gt 69, 3) := by decide +kernel
theorem dX11_best_179 : decode cX11_best 179 = .ok (.iload 9, 2) := by decide +kernel
theorem dX11_best_181 : decode cX11_best 181 = .ok (.ifCond .ne 7, 3) := by decide +kernel
theorem dX11_best_184 : decode cX11_best 184 = .ok (.lload_n 1, 1) := by decide +kernel
theorem dX11_best_185 : decode cX11_best 185 = .ok (.goto 15, 3) := by decide +kernel
theorem dX11_best_188 : decode cX11_best 188 = .ok (.aload_n 0, 1) := by decide +kernel
theorem dX11_best_189 : decode cX11_best 189 = .ok (.iload 6, 2) := by decide +kernel
theorem dX11_best_191 : decode cX11_best 191 = .ok (.iload 7, 2) := by decide +kernel
theorem dX11_best_193 : decode cX11_best 193 = .ok (.iload 8, 2) := by decide +kernel
theorem dX11_best_195 : decode cX11_best 195 = .ok (.iload 9, 2) := by decide +kernel
theorem dX11_best_197 : decode cX11_best 197 = .ok (.invokevirtual 213, 3) := by decide +kernel
theorem dX11_best_200 : decode cX11_best 200 = .ok (.lstore 10, 2) := by decide +kernel
theorem dX11_best_202 : decode cX11_best 202 = .ok (.lload 10, 2) := by decide +kernel
theorem dX11_best_204 : decode cX11_best 204 = .ok (.lload_n 1, 1) := by decide +kernel
theorem dX11_best_205 : decode cX11_best 205 = .ok (.lcmp, 1) := by decide +kernel
theorem dX11_best_206 : decode cX11_best 206 = .ok (.ifCond .ge 17, 3) := by decide +kernel
theorem dX11_best_209 : decode cX11_best 209 = .ok (.iload 6, 2) := by decide +kernel
theorem dX11_best_211 : decode cX11_best 211 = .ok (.iload 7, 2) := by decide +kernel
theorem dX11_best_213 : decode cX11_best 213 = .ok (.iload 8, 2) := by decide +kernel
theorem dX11_best_215 : decode cX11_best 215 = .ok (.iload 9, 2) := by decide +kernel
theorem dX11_best_217 : decode cX11_best 217 = .ok (.invokestatic 223, 3) := by decide +kernel
theorem dX11_best_220 : decode cX11_best 220 = .ok (.goto 4, 3) := by decide +kernel
theorem dX11_best_223 : decode cX11_best 223 = .ok (.lload_n 3, 1) := by decide +kernel
theorem dX11_best_224 : decode cX11_best 224 = .ok (.lstore_n 3, 1) := by decide +kernel
theorem dX11_best_225 : decode cX11_best 225 = .ok (.lload 10, 2) := by decide +kernel
theorem dX11_best_227 : decode cX11_best 227 = .ok (.lload_n 1, 1) := by decide +kernel
theorem dX11_best_228 : decode cX11_best 228 = .ok (.lcmp, 1) := by decide +kernel
theorem dX11_best_229 : decode cX11_best 229 = .ok (.ifCond .ge 8, 3) := by decide +kernel
theorem dX11_best_232 : decode cX11_best 232 = .ok (.lload 10, 2) := by decide +kernel
theorem dX11_best_234 : decode cX11_best 234 = .ok (.goto 4, 3) := by decide +kernel
theorem dX11_best_237 : decode cX11_best 237 = .ok (.lload_n 1, 1) := by decide +kernel
theorem dX11_best_238 : decode cX11_best 238 = .ok (.lstore_n 1, 1) := by decide +kernel
theorem dX11_best_239 : decode cX11_best 239 = .ok (.iinc 9 1, 3) := by decide +kernel
theorem dX11_best_242 : decode cX11_best 242 = .ok (.goto (-69), 3) := by decide +kernel
theorem dX11_best_245 : decode cX11_best 245 = .ok (.iinc 8 1, 3) := by decide +kernel
theorem dX11_best_248 : decode cX11_best 248 = .ok (.goto (-91), 3) := by decide +kernel
theorem dX11_best_251 : decode cX11_best 251 = .ok (.iinc 7 1, 3) := by decide +kernel
theorem dX11_best_254 : decode cX11_best 254 = .ok (.goto (-109), 3) := by decide +kernel
theorem dX11_best_257 : decode cX11_best 257 = .ok (.iinc 6 1, 3) := by decide +kernel
theorem dX11_best_260 : decode cX11_best 260 = .ok (.goto (-126), 3) := by decide +kernel
theorem dX11_best_263 : decode cX11_best 263 = .ok (.lload_n 3, 1) := by decide +kernel
theorem dX11_best_264 : decode cX11_best 264 = .ok (.lreturn, 1) := by decide +kernel
theorem dX11_paper_0 : decode cX11_paper 0 = .ok (.aload_n 0, 1) := by decide +kernel
theorem dX11_paper_1 : decode cX11_paper 1 = .ok (.invokevirtual 210, 3) := by decide +kernel
theorem dX11_paper_4 : decode cX11_paper 4 = .ok (.lconst 0, 1) := by decide +kernel
theorem dX11_paper_5 : decode cX11_paper 5 = .ok (.lcmp, 1) := by decide +kernel
theorem dX11_paper_6 : decode cX11_paper 6 = .ok (.ifCond .eq 12, 3) := by decide +kernel
theorem dX11_paper_9 : decode cX11_paper 9 = .ok (.aload_n 0, 1) := by decide +kernel
theorem dX11_paper_10 : decode cX11_paper 10 = .ok (.aload_n 0, 1) := by decide +kernel
theorem dX11_paper_11 : decode cX11_paper 11 = .ok (.invokevirtual 210, 3) := by decide +kernel
theorem dX11_paper_14 : decode cX11_paper 14 = .ok (.invokevirtual 64, 3) := by decide +kernel
theorem dX11_paper_17 : decode cX11_paper 17 = .ok (.lreturn, 1) := by decide +kernel
theorem dX11_paper_18 : decode cX11_paper 18 = .ok (.iconst 0, 1) := by decide +kernel
theorem dX11_paper_19 : decode cX11_paper 19 = .ok (.istore_n 1, 1) := by decide +kernel
theorem dX11_paper_20 : decode cX11_paper 20 = .ok (.iload_n 1, 1) := by decide +kernel
theorem dX11_paper_21 : decode cX11_paper 21 = .ok (.bipush 36, 2) := by decide +kernel
theorem dX11_paper_23 : decode cX11_paper 23 = .ok (.if_icmp .ge 73, 3) := by decide +kernel
theorem dX11_paper_26 : decode cX11_paper 26 = .ok (.aload_n 0, 1) := by decide +kernel
theorem dX11_paper_27 : decode cX11_paper 27 = .ok (.iload_n 1, 1) := by decide +kernel
theorem dX11_paper_28 : decode cX11_paper 28 = .ok (.invokevirtual 197, 3) := by decide +kernel
theorem dX11_paper_31 : decode cX11_paper 31 = .ok (.ifCond .ne 6, 3) := by decide +kernel
theorem dX11_paper_34 : decode cX11_paper 34 = .ok (.goto 56, 3) := by decide +kernel
theorem dX11_paper_37 : decode cX11_paper 37 = .ok (.aload_n 0, 1) := by decide +kernel
theorem dX11_paper_38 : decode cX11_paper 38 = .ok (.iload_n 1, 1) := by decide +kernel
theorem dX11_paper_39 : decode cX11_paper 39 = .ok (.invokevirtual 190, 3) := by decide +kernel
theorem dX11_paper_42 : decode cX11_paper 42 = .ok (.lstore_n 2, 1) := by decide +kernel
theorem dX11_paper_43 : decode cX11_paper 43 = .ok (.lload_n 2, 1) := by decide +kernel
theorem dX11_paper_44 : decode cX11_paper 44 = .ok (.aload_n 0, 1) := by decide +kernel
theorem dX11_paper_45 : decode cX11_paper 45 = .ok (.getfield 9, 3) := by decide +kernel
theorem dX11_paper_48 : decode cX11_paper 48 = .ok (.bipush 88, 2) := by decide +kernel
theorem dX11_paper_50 : decode cX11_paper 50 = .ok (.iload_n 1, 1) := by decide +kernel
theorem dX11_paper_51 : decode cX11_paper 51 = .ok (.iadd, 1) := by decide +kernel
theorem dX11_paper_52 : decode cX11_paper 52 = .ok (.iaload, 1) := by decide +kernel
theorem dX11_paper_53 : decode cX11_paper 53 = .ok (.i2l, 1) := by decide +kernel
theorem dX11_paper_54 : decode cX11_paper 54 = .ok (.aload_n 0, 1) := by decide +kernel
theorem dX11_paper_55 : decode cX11_paper 55 = .ok (.getfield 146, 3) := by decide +kernel
theorem dX11_paper_58 : decode cX11_paper 58 = .ok (.lmul, 1) := by decide +kernel
theorem dX11_paper_59 : decode cX11_paper 59 = .ok (.lcmp, 1) := by decide +kernel
theorem dX11_paper_60 : decode cX11_paper 60 = .ok (.ifCond .lt 23, 3) := by decide +kernel
theorem dX11_paper_63 : decode cX11_paper 63 = .ok (.lload_n 2, 1) := by decide +kernel
theorem dX11_paper_64 : decode cX11_paper 64 = .ok (.aload_n 0, 1) := by decide +kernel
theorem dX11_paper_65 : decode cX11_paper 65 = .ok (.getfield 9, 3) := by decide +kernel
theorem dX11_paper_68 : decode cX11_paper 68 = .ok (.bipush 124, 2) := by decide +kernel
theorem dX11_paper_70 : decode cX11_paper 70 = .ok (.iload_n 1, 1) := by decide +kernel
theorem dX11_paper_71 : decode cX11_paper 71 = .ok (.iadd, 1) := by decide +kernel
theorem dX11_paper_72 : decode cX11_paper 72 = .ok (.iaload, 1) := by decide +kernel
theorem dX11_paper_73 : decode cX11_paper 73 = .ok (.i2l, 1) := by decide +kernel
theorem dX11_paper_74 : decode cX11_paper 74 = .ok (.aload_n 0, 1) := by decide +kernel
theorem dX11_paper_75 : decode cX11_paper 75 = .ok (.getfield 146, 3) := by decide +kernel
theorem dX11_paper_78 : decode cX11_paper 78 = .ok (.lmul, 1) := by decide +kernel
theorem dX11_paper_79 : decode cX11_paper 79 = .ok (.lcmp, 1) := by decide +kernel
theorem dX11_paper_80 : decode cX11_paper 80 = .ok (.ifCond .le 10, 3) := by decide +kernel
theorem dX11_paper_83 : decode cX11_paper 83 = .ok (.iload_n 1, 1) := by decide +kernel
theorem dX11_paper_84 : decode cX11_paper 84 = .ok (.i2l, 1) := by decide +kernel
theorem dX11_paper_85 : decode cX11_paper 85 = .ok (.ldc2_w 219, 3) := by decide +kernel
theorem dX11_paper_88 : decode cX11_paper 88 = .ok (.lsub, 1) := by decide +kernel
theorem dX11_paper_89 : decode cX11_paper 89 = .ok (.lreturn, 1) := by decide +kernel
theorem dX11_paper_90 : decode cX11_paper 90 = .ok (.iinc 1 1, 3) := by decide +kernel
theorem dX11_paper_93 : decode cX11_paper 93 = .ok (.goto (-73), 3) := by decide +kernel
theorem dX11_paper_96 : decode cX11_paper 96 = .ok (.lconst 1, 1) := by decide +kernel
theorem dX11_paper_97 : decode cX11_paper 97 = .ok (.lreturn, 1) := by decide +kernel
theorem dX11_day_0 : decode cX11_day 0 = .ok (.iload_n 1, 1) := by decide +kernel
theorem dX11_day_1 : decode cX11_day 1 = .ok (.invokestatic 78, 3) := by decide +kernel
theorem dX11_day_4 : decode cX11_day 4 = .ok (.ifCond .eq 16, 3) := by decide +kernel
theorem dX11_day_7 : decode cX11_day 7 = .ok (.iload_n 2, 1) := by decide +kernel
theorem dX11_day_8 : decode cX11_day 8 = .ok (.sipush (-1000), 3) := by decide +kernel
theorem dX11_day_11 : decode cX11_day 11 = .ok (.sipush 1000, 3) := by decide +kernel
theorem dX11_day_14 : decode cX11_day 14 = .ok (.invokestatic 58, 3) := by decide +kernel
theorem dX11_day_17 : decode cX11_day 17 = .ok (.ifCond .ne 11, 3) := by decide +kernel
theorem dX11_day_20 : decode cX11_day 20 = .ok (.aload_n 0, 1) := by decide +kernel
theorem dX11_day_21 : decode cX11_day 21 = .ok (.ldc2_w 62, 3) := by decide +kernel
theorem dX11_day_24 : decode cX11_day 24 = .ok (.invokevirtual 64, 3) := by decide +kernel
theorem dX11_day_27 : decode cX11_day 27 = .ok (.lreturn, 1) := by decide +kernel
theorem dX11_day_28 : decode cX11_day 28 = .ok (.aload_n 0, 1) := by decide +kernel
theorem dX11_day_29 : decode cX11_day 29 = .ok (.getfield 226, 3) := by decide +kernel
theorem dX11_day_32 : decode cX11_day 32 = .ok (.bipush 60, 2) := by decide +kernel
theorem dX11_day_34 : decode cX11_day 34 = .ok (.if_icmp .ne 11, 3) := by decide +kernel
theorem dX11_day_37 : decode cX11_day 37 = .ok (.aload_n 0, 1) := by decide +kernel
theorem dX11_day_38 : decode cX11_day 38 = .ok (.ldc2_w 68, 3) := by decide +kernel
theorem dX11_day_41 : decode cX11_day 41 = .ok (.invokevirtual 64, 3) := by decide +kernel
theorem dX11_day_44 : decode cX11_day 44 = .ok (.lreturn, 1) := by decide +kernel
theorem dX11_day_45 : decode cX11_day 45 = .ok (.aload_n 0, 1) := by decide +kernel
theorem dX11_day_46 : decode cX11_day 46 = .ok (.getfield 22, 3) := by decide +kernel
theorem dX11_day_49 : decode cX11_day 49 = .ok (.aload_n 0, 1) := by decide +kernel
theorem dX11_day_50 : decode cX11_day 50 = .ok (.getfield 226, 3) := by decide +kernel
theorem dX11_day_53 : decode cX11_day 53 = .ok (.iload_n 1, 1) := by decide +kernel
theorem dX11_day_54 : decode cX11_day 54 = .ok (.iastore, 1) := by decide +kernel
theorem dX11_day_55 : decode cX11_day 55 = .ok (.aload_n 0, 1) := by decide +kernel
theorem dX11_day_56 : decode cX11_day 56 = .ok (.getfield 25, 3) := by decide +kernel
theorem dX11_day_59 : decode cX11_day 59 = .ok (.aload_n 0, 1) := by decide +kernel
theorem dX11_day_60 : decode cX11_day 60 = .ok (.getfield 226, 3) := by decide +kernel
theorem dX11_day_63 : decode cX11_day 63 = .ok (.iload_n 2, 1) := by decide +kernel
theorem dX11_day_64 : decode cX11_day 64 = .ok (.iastore, 1) := by decide +kernel
theorem dX11_day_65 : decode cX11_day 65 = .ok (.aload_n 0, 1) := by decide +kernel
theorem dX11_day_66 : decode cX11_day 66 = .ok (.dup, 1) := by decide +kernel
theorem dX11_day_67 : decode cX11_day 67 = .ok (.getfield 226, 3) := by decide +kernel
theorem dX11_day_70 : decode cX11_day 70 = .ok (.iconst 1, 1) := by decide +kernel
theorem dX11_day_71 : decode cX11_day 71 = .ok (.iadd, 1) := by decide +kernel
theorem dX11_day_72 : decode cX11_day 72 = .ok (.putfield 226, 3) := by decide +kernel
theorem dX11_day_75 : decode cX11_day 75 = .ok (.aload_n 0, 1) := by decide +kernel
theorem dX11_day_76 : decode cX11_day 76 = .ok (.getfield 226, 3) := by decide +kernel
theorem dX11_day_79 : decode cX11_day 79 = .ok (.i2l, 1) := by decide +kernel
theorem dX11_day_80 : decode cX11_day 80 = .ok (.lreturn, 1) := by decide +kernel
theorem dX11_anew_0 : decode cX11_anew 0 = .ok (.aload_n 0, 1) := by decide +kernel
theorem dX11_anew_1 : decode cX11_anew 1 = .ok (.getfield 226, 3) := by decide +kernel
theorem dX11_anew_4 : decode cX11_anew 4 = .ok (.istore_n 1, 1) := by decide +kernel
theorem dX11_anew_5 : decode cX11_anew 5 = .ok (.aload_n 0, 1) := by decide +kernel
theorem dX11_anew_6 : decode cX11_anew 6 = .ok (.iconst 0, 1) := by decide +kernel
theorem dX11_anew_7 : decode cX11_anew 7 = .ok (.putfield 226, 3) := by decide +kernel
theorem dX11_anew_10 : decode cX11_anew 10 = .ok (.iload_n 1, 1) := by decide +kernel
theorem dX11_anew_11 : decode cX11_anew 11 = .ok (.i2l, 1) := by decide +kernel
theorem dX11_anew_12 : decode cX11_anew 12 = .ok (.lreturn, 1) := by decide +kernel
theorem dX11_isAt_0 : decode cX11_isAt 0 = .ok (.iload_n 2, 1) := by decide +kernel
theorem dX11_isAt_1 : decode cX11_isAt 1 = .ok (.ifCond .lt 16, 3) := by decide +kernel
theorem dX11_isAt_4 : decode cX11_isAt 4 = .ok (.aload_n 0, 1) := by decide +kernel
theorem dX11_isAt_5 : decode cX11_isAt 5 = .ok (.getfield 22, 3) := by decide +kernel
theorem dX11_isAt_8 : decode cX11_isAt 8 = .ok (.iload_n 1, 1) := by decide +kernel
theorem dX11_isAt_9 : decode cX11_isAt 9 = .ok (.iaload, 1) := by decide +kernel
theorem dX11_isAt_10 : decode cX11_isAt 10 = .ok (.bipush 6, 2) := by decide +kernel
theorem dX11_isAt_12 : decode cX11_isAt 12 = .ok (.idiv, 1) := by decide +kernel
theorem dX11_isAt_13 : decode cX11_isAt 13 = .ok (.iload_n 2, 1) := by decide +kernel
theorem dX11_isAt_14 : decode cX11_isAt 14 = .ok (.if_icmp .ne 7, 3) := by decide +kernel
theorem dX11_isAt_17 : decode cX11_isAt 17 = .ok (.iconst 1, 1) := by decide +kernel
theorem dX11_isAt_18 : decode cX11_isAt 18 = .ok (.goto 4, 3) := by decide +kernel
theorem dX11_isAt_21 : decode cX11_isAt 21 = .ok (.iconst 0, 1) := by decide +kernel
theorem dX11_isAt_22 : decode cX11_isAt 22 = .ok (.ireturn, 1) := by decide +kernel
theorem dX11_mean_0 : decode cX11_mean 0 = .ok (.iload_n 1, 1) := by decide +kernel
theorem dX11_mean_1 : decode cX11_mean 1 = .ok (.iconst (-1), 1) := by decide +kernel
theorem dX11_mean_2 : decode cX11_mean 2 = .ok (.iconst 5, 1) := by decide +kernel
theorem dX11_mean_3 : decode cX11_mean 3 = .ok (.invokestatic 58, 3) := by decide +kernel
theorem dX11_mean_6 : decode cX11_mean 6 = .ok (.ifCond .ne 11, 3) := by decide +kernel
theorem dX11_mean_9 : decode cX11_mean 9 = .ok (.aload_n 0, 1) := by decide +kernel
theorem dX11_mean_10 : decode cX11_mean 10 = .ok (.ldc2_w 62, 3) := by decide +kernel
theorem dX11_mean_13 : decode cX11_mean 13 = .ok (.invokevirtual 64, 3) := by decide +kernel
theorem dX11_mean_16 : decode cX11_mean 16 = .ok (.lreturn, 1) := by decide +kernel
theorem dX11_mean_17 : decode cX11_mean 17 = .ok (.lconst 0, 1) := by decide +kernel
theorem dX11_mean_18 : decode cX11_mean 18 = .ok (.lstore_n 3, 1) := by decide +kernel
theorem dX11_mean_19 : decode cX11_mean 19 = .ok (.lconst 0, 1) := by decide +kernel
theorem dX11_mean_20 : decode cX11_mean 20 = .ok (.lstore 5, 2) := by decide +kernel
theorem dX11_mean_22 : decode cX11_mean 22 = .ok (.iconst 0, 1) := by decide +kernel
theorem dX11_mean_23 : decode cX11_mean 23 = .ok (.istore 7, 2) := by decide +kernel
theorem dX11_mean_25 : decode cX11_mean 25 = .ok (.iload 7, 2) := by decide +kernel
theorem dX11_mean_27 : decode cX11_mean 27 = .ok (.aload_n 0, 1) := by decide +kernel
theorem dX11_mean_28 : decode cX11_mean 28 = .ok (.getfield 226, 3) := by decide +kernel
theorem dX11_mean_31 : decode cX11_mean 31 = .ok (.if_icmp .ge 54, 3) := by decide +kernel
theorem dX11_mean_34 : decode cX11_mean 34 = .ok (.lload_n 3, 1) := by decide +kernel
theorem dX11_mean_35 : decode cX11_mean 35 = .ok (.aload_n 0, 1) := by decide +kernel
theorem dX11_mean_36 : decode cX11_mean 36 = .ok (.iload 7, 2) := by decide +kernel
theorem dX11_mean_38 : decode cX11_mean 38 = .ok (.iload_n 1, 1) := by decide +kernel
theorem dX11_mean_39 : decode cX11_mean 39 = .ok (.invokevirtual 229, 3) := by decide +kernel
theorem dX11_mean_42 : decode cX11_mean 42 = .ok (.ifCond .eq 14, 3) := by decide +kernel
theorem dX11_mean_45 : decode cX11_mean 45 = .ok (.aload_n 0, 1) := by decide +kernel
theorem dX11_mean_46 : decode cX11_mean 46 = .ok (.getfield 25, 3) := by decide +kernel
theorem dX11_mean_49 : decode cX11_mean 49 = .ok (.iload 7, 2) := by decide +kernel
theorem dX11_mean_51 : decode cX11_mean 51 = .ok (.iaload, 1) := by decide +kernel
theorem dX11_mean_52 : decode cX11_mean 52 = .ok (.i2l, 1) := by decide +kernel
theorem dX11_mean_53 : decode cX11_mean 53 = .ok (.goto 4, 3) := by decide +kernel
theorem dX11_mean_56 : decode cX11_mean 56 = .ok (.lconst 0, 1) := by decide +kernel
theorem dX11_mean_57 : decode cX11_mean 57 = .ok (.ladd, 1) := by decide +kernel
theorem dX11_mean_58 : decode cX11_mean 58 = .ok (.lstore_n 3, 1) := by decide +kernel
theorem dX11_mean_59 : decode cX11_mean 59 = .ok (.lload 5, 2) := by decide +kernel
theorem dX11_mean_61 : decode cX11_mean 61 = .ok (.aload_n 0, 1) := by decide +kernel
theorem dX11_mean_62 : decode cX11_mean 62 = .ok (.iload 7, 2) := by decide +kernel
theorem dX11_mean_64 : decode cX11_mean 64 = .ok (.iload_n 1, 1) := by decide +kernel
theorem dX11_mean_65 : decode cX11_mean 65 = .ok (.invokevirtual 229, 3) := by decide +kernel
theorem dX11_mean_68 : decode cX11_mean 68 = .ok (.ifCond .eq 7, 3) := by decide +kernel
theorem dX11_mean_71 : decode cX11_mean 71 = .ok (.lconst 1, 1) := by decide +kernel
theorem dX11_mean_72 : decode cX11_mean 72 = .ok (.goto 4, 3) := by decide +kernel
theorem dX11_mean_75 : decode cX11_mean 75 = .ok (.lconst 0, 1) := by decide +kernel
theorem dX11_mean_76 : decode cX11_mean 76 = .ok (.ladd, 1) := by decide +kernel
theorem dX11_mean_77 : decode cX11_mean 77 = .ok (.lstore 5, 2) := by decide +kernel
theorem dX11_mean_79 : decode cX11_mean 79 = .ok (.iinc 7 1, 3) := by decide +kernel
theorem dX11_mean_82 : decode cX11_mean 82 = .ok (.goto (-57), 3) := by decide +kernel
theorem dX11_mean_85 : decode cX11_mean 85 = .ok (.lload 5, 2) := by decide +kernel
theorem dX11_mean_87 : decode cX11_mean 87 = .ok (.lconst 0, 1) := by decide +kernel
theorem dX11_mean_88 : decode cX11_mean 88 = .ok (.lcmp, 1) := by decide +kernel
theorem dX11_mean_89 : decode cX11_mean 89 = .ok (.ifCond .ne 13, 3) := by decide +kernel
theorem dX11_mean_92 : decode cX11_mean 92 = .ok (.aload_n 0, 1) := by decide +kernel
theorem dX11_mean_93 : decode cX11_mean 93 = .ok (.ldc2_w 176, 3) := by decide +kernel
theorem dX11_mean_96 : decode cX11_mean 96 = .ok (.invokevirtual 64, 3) := by decide +kernel
theorem dX11_mean_99 : decode cX11_mean 99 = .ok (.goto 10, 3) := by decide +kernel
theorem dX11_mean_102 : decode cX11_mean 102 = .ok (.lload_n 3, 1) := by decide +kernel
theorem dX11_mean_103 : decode cX11_mean 103 = .ok (.lload 5, 2) := by decide +kernel
theorem dX11_mean_105 : decode cX11_mean 105 = .ok (.iload_n 2, 1) := by decide +kernel
theorem dX11_mean_106 : decode cX11_mean 106 = .ok (.invokestatic 186, 3) := by decide +kernel
theorem dX11_mean_109 : decode cX11_mean 109 = .ok (.lreturn, 1) := by decide +kernel
theorem dX11_change_0 : decode cX11_change 0 = .ok (.iload_n 1, 1) := by decide +kernel
theorem dX11_change_1 : decode cX11_change 1 = .ok (.iconst (-1), 1) := by decide +kernel
theorem dX11_change_2 : decode cX11_change 2 = .ok (.iconst 5, 1) := by decide +kernel
theorem dX11_change_3 : decode cX11_change 3 = .ok (.invokestatic 58, 3) := by decide +kernel
theorem dX11_change_6 : decode cX11_change 6 = .ok (.ifCond .ne 11, 3) := by decide +kernel
theorem dX11_change_9 : decode cX11_change 9 = .ok (.aload_n 0, 1) := by decide +kernel
theorem dX11_change_10 : decode cX11_change 10 = .ok (.ldc2_w 62, 3) := by decide +kernel
theorem dX11_change_13 : decode cX11_change 13 = .ok (.invokevirtual 64, 3) := by decide +kernel
theorem dX11_change_16 : decode cX11_change 16 = .ok (.lreturn, 1) := by decide +kernel
theorem dX11_change_17 : decode cX11_change 17 = .ok (.iconst (-1), 1) := by decide +kernel
theorem dX11_change_18 : decode cX11_change 18 = .ok (.istore_n 2, 1) := by decide +kernel
theorem dX11_change_19 : decode cX11_change 19 = .ok (.iconst (-1), 1) := by decide +kernel
theorem dX11_change_20 : decode cX11_change 20 = .ok (.istore_n 3, 1) := by decide +kernel
theorem dX11_change_21 : decode cX11_change 21 = .ok (.iconst 0, 1) := by decide +kernel
theorem dX11_change_22 : decode cX11_change 22 = .ok (.istore 4, 2) := by decide +kernel
theorem dX11_change_24 : decode cX11_change 24 = .ok (.iload 4, 2) := by decide +kernel
theorem dX11_change_26 : decode cX11_change 26 = .ok (.aload_n 0, 1) := by decide +kernel
theorem dX11_change_27 : decode cX11_change 27 = .ok (.getfield 226, 3) := by decide +kernel
theorem dX11_change_30 : decode cX11_change 30 = .ok (.if_icmp .ge 73, 3) := by decide +kernel
theorem dX11_change_33 : decode cX11_change 33 = .ok (.aload_n 0, 1) := by decide +kernel
theorem dX11_change_34 : decode cX11_change 34 = .ok (.iload 4, 2) := by decide +kernel
theorem dX11_change_36 : decode cX11_change 36 = .ok (.iload_n 1, 1) := by decide +kernel
theorem dX11_change_37 : decode cX11_change 37 = .ok (.invokevirtual 229, 3) := by decide +kernel
theorem dX11_change_40 : decode cX11_change 40 = .ok (.ifCond .ne 6, 3) := by decide +kernel
theorem dX11_change_43 : decode cX11_change 43 = .ok (.goto 54, 3) := by decide +kernel
theorem dX11_change_46 : decode cX11_change 46 = .ok (.iload_n 2, 1) := by decide +kernel
theorem dX11_change_47 : decode cX11_change 47 = .ok (.ifCond .lt 47, 3) := by decide +kernel
theorem dX11_change_50 : decode cX11_change 50 = .ok (.aload_n 0, 1) := by decide +kernel
theorem dX11_change_51 : decode cX11_change 51 = .ok (.getfield 25, 3) := by decide +kernel
theorem dX11_change_54 : decode cX11_change 54 = .ok (.iload 4, 2) := by decide +kernel
theorem dX11_change_56 : decode cX11_change 56 = .ok (.iaload, 1) := by decide +kernel
theorem dX11_change_57 : decode cX11_change 57 = .ok (.aload_n 0, 1) := by decide +kernel
theorem dX11_change_58 : decode cX11_change 58 = .ok (.getfield 25, 3) := by decide +kernel
theorem dX11_change_61 : decode cX11_change 61 = .ok (.iload_n 2, 1) := by decide +kernel
theorem dX11_change_62 : decode cX11_change 62 = .ok (.iaload, 1) := by decide +kernel
theorem dX11_change_63 : decode cX11_change 63 = .ok (.isub, 1) := by decide +kernel
theorem dX11_change_64 : decode cX11_change 64 = .ok (.istore 5, 2) := by decide +kernel
theorem dX11_change_66 : decode cX11_change 66 = .ok (.iload 5, 2) := by decide +kernel
theorem dX11_change_68 : decode cX11_change 68 = .ok (.ifCond .ge 9, 3) := by decide +kernel
theorem dX11_change_71 : decode cX11_change 71 = .ok (.iload 5, 2) := by decide +kernel
theorem dX11_change_73 : decode cX11_change 73 = .ok (.ineg, 1) := by decide +kernel
theorem dX11_change_74 : decode cX11_change 74 = .ok (.goto 5, 3) := by decide +kernel
theorem dX11_change_77 : decode cX11_change 77 = .ok (.iload 5, 2) := by decide +kernel
theorem dX11_change_79 : decode cX11_change 79 = .ok (.istore 5, 2) := by decide +kernel
theorem dX11_change_81 : decode cX11_change 81 = .ok (.iload 5, 2) := by decide +kernel
theorem dX11_change_83 : decode cX11_change 83 = .ok (.iload_n 3, 1) := by decide +kernel
theorem dX11_change_84 : decode cX11_change 84 = .ok (.if_icmp .le 8, 3) := by decide +kernel
theorem dX11_change_87 : decode cX11_change 87 = .ok (.iload 5, 2) := by decide +kernel
theorem dX11_change_89 : decode cX11_change 89 = .ok (.goto 4, 3) := by decide +kernel
theorem dX11_change_92 : decode cX11_change 92 = .ok (.iload_n 3, 1) := by decide +kernel
theorem dX11_change_93 : decode cX11_change 93 = .ok (.istore_n 3, 1) := by decide +kernel
theorem dX11_change_94 : decode cX11_change 94 = .ok (.iload 4, 2) := by decide +kernel
theorem dX11_change_96 : decode cX11_change 96 = .ok (.istore_n 2, 1) := by decide +kernel
theorem dX11_change_97 : decode cX11_change 97 = .ok (.iinc 4 1, 3) := by decide +kernel
theorem dX11_change_100 : decode cX11_change 100 = .ok (.goto (-76), 3) := by decide +kernel
theorem dX11_change_103 : decode cX11_change 103 = .ok (.iload_n 3, 1) := by decide +kernel
theorem dX11_change_104 : decode cX11_change 104 = .ok (.ifCond .ge 13, 3) := by decide +kernel
theorem dX11_change_107 : decode cX11_change 107 = .ok (.aload_n 0, 1) := by decide +kernel
theorem dX11_change_108 : decode cX11_change 108 = .ok (.ldc2_w 176, 3) := by decide +kernel
theorem dX11_change_111 : decode cX11_change 111 = .ok (.invokevirtual 64, 3) := by decide +kernel
theorem dX11_change_114 : decode cX11_change 114 = .ok (.goto 5, 3) := by decide +kernel
theorem dX11_change_117 : decode cX11_change 117 = .ok (.iload_n 3, 1) := by decide +kernel
theorem dX11_change_118 : decode cX11_change 118 = .ok (.i2l, 1) := by decide +kernel
theorem dX11_change_119 : decode cX11_change 119 = .ok (.lreturn, 1) := by decide +kernel
theorem dX11_tell_0 : decode cX11_tell 0 = .ok (.aload_n 0, 1) := by decide +kernel
theorem dX11_tell_1 : decode cX11_tell 1 = .ok (.getfield 233, 3) := by decide +kernel
theorem dX11_tell_4 : decode cX11_tell 4 = .ok (.bipush 16, 2) := by decide +kernel
theorem dX11_tell_6 : decode cX11_tell 6 = .ok (.if_icmp .ne 11, 3) := by decide +kernel
theorem dX11_tell_9 : decode cX11_tell 9 = .ok (.aload_n 0, 1) := by decide +kernel
theorem dX11_tell_10 : decode cX11_tell 10 = .ok (.ldc2_w 68, 3) := by decide +kernel
theorem dX11_tell_13 : decode cX11_tell 13 = .ok (.invokevirtual 64, 3) := by decide +kernel
theorem dX11_tell_16 : decode cX11_tell 16 = .ok (.lreturn, 1) := by decide +kernel
theorem dX11_tell_17 : decode cX11_tell 17 = .ok (.aload_n 0, 1) := by decide +kernel
theorem dX11_tell_18 : decode cX11_tell 18 = .ok (.getfield 28, 3) := by decide +kernel
theorem dX11_tell_21 : decode cX11_tell 21 = .ok (.aload_n 0, 1) := by decide +kernel
theorem dX11_tell_22 : decode cX11_tell 22 = .ok (.getfield 233, 3) := by decide +kernel
theorem dX11_tell_25 : decode cX11_tell 25 = .ok (.iload_n 1, 1) := by decide +kernel
theorem dX11_tell_26 : decode cX11_tell 26 = .ok (.iastore, 1) := by decide +kernel
theorem dX11_tell_27 : decode cX11_tell 27 = .ok (.aload_n 0, 1) := by decide +kernel
theorem dX11_tell_28 : decode cX11_tell 28 = .ok (.dup, 1) := by decide +kernel
theorem dX11_tell_29 : decode cX11_tell 29 = .ok (.getfield 233, 3) := by decide +kernel
theorem dX11_tell_32 : decode cX11_tell 32 = .ok (.iconst 1, 1) := by decide +kernel
theorem dX11_tell_33 : decode cX11_tell 33 = .ok (.iadd, 1) := by decide +kernel
theorem dX11_tell_34 : decode cX11_tell 34 = .ok (.putfield 233, 3) := by decide +kernel
theorem dX11_tell_37 : decode cX11_tell 37 = .ok (.aload_n 0, 1) := by decide +kernel
theorem dX11_tell_38 : decode cX11_tell 38 = .ok (.getfield 233, 3) := by decide +kernel
theorem dX11_tell_41 : decode cX11_tell 41 = .ok (.i2l, 1) := by decide +kernel
theorem dX11_tell_42 : decode cX11_tell 42 = .ok (.lreturn, 1) := by decide +kernel
theorem dX11_isFraction_0 : decode cX11_isFraction 0 = .ok (.iload_n 1, 1) := by decide +kernel
theorem dX11_isFraction_1 : decode cX11_isFraction 1 = .ok (.ifCond .eq 13, 3) := by decide +kernel
theorem dX11_isFraction_4 : decode cX11_isFraction 4 = .ok (.iload_n 1, 1) := by decide +kernel
theorem dX11_isFraction_5 : decode cX11_isFraction 5 = .ok (.i2l, 1) := by decide +kernel
theorem dX11_isFraction_6 : decode cX11_isFraction 6 = .ok (.lload 4, 2) := by decide +kernel
theorem dX11_isFraction_8 : decode cX11_isFraction 8 = .ok (.lrem, 1) := by decide +kernel
theorem dX11_isFraction_9 : decode cX11_isFraction 9 = .ok (.lconst 0, 1) := by decide +kernel
theorem dX11_isFraction_10 : decode cX11_isFraction 10 = .ok (.lcmp, 1) := by decide +kernel
theorem dX11_isFraction_11 : decode cX11_isFraction 11 = .ok (.ifCond .eq 5, 3) := by decide +kernel
theorem dX11_isFraction_14 : decode cX11_isFraction 14 = .ok (.iconst 0, 1) := by decide +kernel
theorem dX11_isFraction_15 : decode cX11_isFraction 15 = .ok (.ireturn, 1) := by decide +kernel
theorem dX11_isFraction_16 : decode cX11_isFraction 16 = .ok (.iload_n 1, 1) := by decide +kernel
theorem dX11_isFraction_17 : decode cX11_isFraction 17 = .ok (.i2l, 1) := by decide +kernel
theorem dX11_isFraction_18 : decode cX11_isFraction 18 = .ok (.lload 4, 2) := by decide +kernel
theorem dX11_isFraction_20 : decode cX11_isFraction 20 = .ok (.ldiv, 1) := by decide +kernel
theorem dX11_isFraction_21 : decode cX11_isFraction 21 = .ok (.lstore 6, 2) := by decide +kernel
theorem dX11_isFraction_23 : decode cX11_isFraction 23 = .ok (.lload_n 2, 1) := by decide +kernel
theorem dX11_isFraction_24 : decode cX11_isFraction 24 = .ok (.ldc2_w 236, 3) := by decide +kernel
theorem dX11_isFraction_27 : decode cX11_isFraction 27 = .ok (.lcmp, 1) := by decide +kernel
theorem dX11_isFraction_28 : decode cX11_isFraction 28 = .ok (.ifCond .gt 25, 3) := by decide +kernel
theorem dX11_isFraction_31 : decode cX11_isFraction 31 = .ok (.lload_n 2, 1) := by decide +kernel
theorem dX11_isFraction_32 : decode cX11_isFraction 32 = .ok (.ldc2_w 238, 3) := by decide +kernel
theorem dX11_isFraction_35 : decode cX11_isFraction 35 = .ok (.lcmp, 1) := by decide +kernel
theorem dX11_isFraction_36 : decode cX11_isFraction 36 = .ok (.ifCond .lt 17, 3) := by decide +kernel
theorem dX11_isFraction_39 : decode cX11_isFraction 39 = .ok (.lload_n 2, 1) := by decide +kernel
theorem dX11_isFraction_40 : decode cX11_isFraction 40 = .ok (.lload 6, 2) := by decide +kernel
theorem dX11_isFraction_42 : decode cX11_isFraction 42 = .ok (.lmul, 1) := by decide +kernel
theorem dX11_isFraction_43 : decode cX11_isFraction 43 = .ok (.iload_n 0, 1) := by decide +kernel
theorem dX11_isFraction_44 : decode cX11_isFraction 44 = .ok (.i2l, 1) := by decide +kernel
theorem dX11_isFraction_45 : decode cX11_isFraction 45 = .ok (.lcmp, 1) := by decide +kernel
theorem dX11_isFraction_46 : decode cX11_isFraction 46 = .ok (.ifCond .ne 7, 3) := by decide +kernel
theorem dX11_isFraction_49 : decode cX11_isFraction 49 = .ok (.iconst 1, 1) := by decide +kernel
theorem dX11_isFraction_50 : decode cX11_isFraction 50 = .ok (.goto 4, 3) := by decide +kernel
theorem dX11_isFraction_53 : decode cX11_isFraction 53 = .ok (.iconst 0, 1) := by decide +kernel
theorem dX11_isFraction_54 : decode cX11_isFraction 54 = .ok (.ireturn, 1) := by decide +kernel
theorem dX11_check_0 : decode cX11_check 0 = .ok (.aload_n 0, 1) := by decide +kernel
theorem dX11_check_1 : decode cX11_check 1 = .ok (.getfield 233, 3) := by decide +kernel
theorem dX11_check_4 : decode cX11_check 4 = .ok (.istore_n 1, 1) := by decide +kernel
theorem dX11_check_5 : decode cX11_check 5 = .ok (.aload_n 0, 1) := by decide +kernel
theorem dX11_check_6 : decode cX11_check 6 = .ok (.iconst 0, 1) := by decide +kernel
theorem dX11_check_7 : decode cX11_check 7 = .ok (.putfield 233, 3) := by decide +kernel
theorem dX11_check_10 : decode cX11_check 10 = .ok (.aload_n 0, 1) := by decide +kernel
theorem dX11_check_11 : decode cX11_check 11 = .ok (.invokevirtual 180, 3) := by decide +kernel
theorem dX11_check_14 : decode cX11_check 14 = .ok (.lconst 0, 1) := by decide +kernel
theorem dX11_check_15 : decode cX11_check 15 = .ok (.lcmp, 1) := by decide +kernel
theorem dX11_check_16 : decode cX11_check 16 = .ok (.ifCond .eq 12, 3) := by decide +kernel
theorem dX11_check_19 : decode cX11_check 19 = .ok (.aload_n 0, 1) := by decide +kernel
theorem dX11_check_20 : decode cX11_check 20 = .ok (.aload_n 0, 1) := by decide +kernel
theorem dX11_check_21 : decode cX11_check 21 = .ok (.invokevirtual 180, 3) := by decide +kernel
theorem dX11_check_24 : decode cX11_check 24 = .ok (.invokevirtual 64, 3) := by decide +kernel
theorem dX11_check_27 : decode cX11_check 27 = .ok (.lreturn, 1) := by decide +kernel
theorem dX11_check_28 : decode cX11_check 28 = .ok (.iconst 0, 1) := by decide +kernel
theorem dX11_check_29 : decode cX11_check 29 = .ok (.istore_n 2, 1) := by decide +kernel
theorem dX11_check_30 : decode cX11_check 30 = .ok (.iload_n 2, 1) := by decide +kernel
theorem dX11_check_31 : decode cX11_check 31 = .ok (.aload_n 0, 1) := by decide +kernel
theorem dX11_check_32 : decode cX11_check 32 = .ok (.getfield 143, 3) := by decide +kernel
theorem dX11_check_35 : decode cX11_check 35 = .ok (.if_icmp .ge 81, 3) := by decide +kernel
theorem dX11_check_38 : decode cX11_check 38 = .ok (.aload_n 0, 1) := by decide +kernel
theorem dX11_check_39 : decode cX11_check 39 = .ok (.getfield 38, 3) := by decide +kernel
theorem dX11_check_42 : decode cX11_check 42 = .ok (.iload_n 2, 1) := by decide +kernel
theorem dX11_check_43 : decode cX11_check 43 = .ok (.laload, 1) := by decide +kernel
theorem dX11_check_44 : decode cX11_check 44 = .ok (.aload_n 0, 1) := by decide +kernel
theorem dX11_check_45 : decode cX11_check 45 = .ok (.getfield 146, 3) := by decide +kernel
theorem dX11_check_48 : decode cX11_check 48 = .ok (.iconst 0, 1) := by decide +kernel
theorem dX11_check_49 : decode cX11_check 49 = .ok (.invokestatic 186, 3) := by decide +kernel
theorem dX11_check_52 : decode cX11_check 52 = .ok (.lstore_n 3, 1) := by decide +kernel
theorem dX11_check_53 : decode cX11_check 53 = .ok (.aload_n 0, 1) := by decide +kernel
theorem dX11_check_54 : decode cX11_check 54 = .ok (.getfield 38, 3) := by decide +kernel
theorem dX11_check_57 : decode cX11_check 57 = .ok (.iload_n 2, 1) := by decide +kernel
theorem dX11_check_58 : decode cX11_check 58 = .ok (.laload, 1) := by decide +kernel
theorem dX11_check_59 : decode cX11_check 59 = .ok (.aload_n 0, 1) := by decide +kernel
theorem dX11_check_60 : decode cX11_check 60 = .ok (.getfield 146, 3) := by decide +kernel
theorem dX11_check_63 : decode cX11_check 63 = .ok (.iconst 1, 1) := by decide +kernel
theorem dX11_check_64 : decode cX11_check 64 = .ok (.invokestatic 186, 3) := by decide +kernel
theorem dX11_check_67 : decode cX11_check 67 = .ok (.lstore 5, 2) := by decide +kernel
theorem dX11_check_69 : decode cX11_check 69 = .ok (.iconst 2, 1) := by decide +kernel
theorem dX11_check_70 : decode cX11_check 70 = .ok (.iload_n 2, 1) := by decide +kernel
theorem dX11_check_71 : decode cX11_check 71 = .ok (.imul, 1) := by decide +kernel
theorem dX11_check_72 : decode cX11_check 72 = .ok (.iconst 1, 1) := by decide +kernel
theorem dX11_check_73 : decode cX11_check 73 = .ok (.iadd, 1) := by decide +kernel
theorem dX11_check_74 : decode cX11_check 74 = .ok (.iload_n 1, 1) := by decide +kernel
theorem dX11_check_75 : decode cX11_check 75 = .ok (.if_icmp .ge 30, 3) := by decide +kernel
theorem dX11_check_78 : decode cX11_check 78 = .ok (.aload_n 0, 1) := by decide +kernel
theorem dX11_check_79 : decode cX11_check 79 = .ok (.getfield 28, 3) := by decide +kernel
theorem dX11_check_82 : decode cX11_check 82 = .ok (.iconst 2, 1) := by decide +kernel
theorem dX11_check_83 : decode cX11_check 83 = .ok (.iload_n 2, 1) := by decide +kernel
theorem dX11_check_84 : decode cX11_check 84 = .ok (.imul, 1) := by decide +kernel
theorem dX11_check_85 : decode cX11_check 85 = .ok (.iaload, 1) := by decide +kernel
theorem dX11_check_86 : decode cX11_check 86 = .ok (.aload_n 0, 1) := by decide +kernel
theorem dX11_check_87 : decode cX11_check 87 = .ok (.getfield 28, 3) := by decide +kernel
theorem dX11_check_90 : decode cX11_check 90 = .ok (.iconst 2, 1) := by decide +kernel
theorem dX11_check_91 : decode cX11_check 91 = .ok (.iload_n 2, 1) := by decide +kernel
theorem dX11_check_92 : decode cX11_check 92 = .ok (.imul, 1) := by decide +kernel
theorem dX11_check_93 : decode cX11_check 93 = .ok (.iconst 1, 1) := by decide +kernel
theorem dX11_check_94 : decode cX11_check 94 = .ok (.iadd, 1) := by decide +kernel
theorem dX11_check_95 : decode cX11_check 95 = .ok (.iaload, 1) := by decide +kernel
theorem dX11_check_96 : decode cX11_check 96 = .ok (.lload_n 3, 1) := by decide +kernel
theorem dX11_check_97 : decode cX11_check 97 = .ok (.lload 5, 2) := by decide +kernel
theorem dX11_check_99 : decode cX11_check 99 = .ok (.invokestatic 240, 3) := by decide +kernel
theorem dX11_check_102 : decode cX11_check 102 = .ok (.ifCond .ne 8, 3) := by decide +kernel
theorem dX11_check_105 : decode cX11_check 105 = .ok (.iconst 1, 1) := by decide +kernel
theorem dX11_check_106 : decode cX11_check 106 = .ok (.iload_n 2, 1) := by decide +kernel
theorem dX11_check_107 : decode cX11_check 107 = .ok (.iadd, 1) := by decide +kernel
theorem dX11_check_108 : decode cX11_check 108 = .ok (.i2l, 1) := by decide +kernel
theorem dX11_check_109 : decode cX11_check 109 = .ok (.lreturn, 1) := by decide +kernel
theorem dX11_check_110 : decode cX11_check 110 = .ok (.iinc 2 1, 3) := by decide +kernel
theorem dX11_check_113 : decode cX11_check 113 = .ok (.goto (-83), 3) := by decide +kernel
theorem dX11_check_116 : decode cX11_check 116 = .ok (.iload_n 1, 1) := by decide +kernel
theorem dX11_check_117 : decode cX11_check 117 = .ok (.iconst 2, 1) := by decide +kernel
theorem dX11_check_118 : decode cX11_check 118 = .ok (.aload_n 0, 1) := by decide +kernel
theorem dX11_check_119 : decode cX11_check 119 = .ok (.getfield 143, 3) := by decide +kernel
theorem dX11_check_122 : decode cX11_check 122 = .ok (.imul, 1) := by decide +kernel
theorem dX11_check_123 : decode cX11_check 123 = .ok (.if_icmp .le 9, 3) := by decide +kernel
theorem dX11_check_126 : decode cX11_check 126 = .ok (.ldc2_w 244, 3) := by decide +kernel
theorem dX11_check_129 : decode cX11_check 129 = .ok (.goto 4, 3) := by decide +kernel
theorem dX11_check_132 : decode cX11_check 132 = .ok (.lconst 0, 1) := by decide +kernel
theorem dX11_check_133 : decode cX11_check 133 = .ok (.lreturn, 1) := by decide +kernel
theorem dX11_keep_0 : decode cX11_keep 0 = .ok (.iconst 0, 1) := by decide +kernel
theorem dX11_keep_1 : decode cX11_keep 1 = .ok (.istore_n 1, 1) := by decide +kernel
theorem dX11_keep_2 : decode cX11_keep 2 = .ok (.iload_n 1, 1) := by decide +kernel
theorem dX11_keep_3 : decode cX11_keep 3 = .ok (.sipush 160, 3) := by decide +kernel
theorem dX11_keep_6 : decode cX11_keep 6 = .ok (.if_icmp .ge 21, 3) := by decide +kernel
theorem dX11_keep_9 : decode cX11_keep 9 = .ok (.aload_n 0, 1) := by decide +kernel
theorem dX11_keep_10 : decode cX11_keep 10 = .ok (.getfield 13, 3) := by decide +kernel
theorem dX11_keep_13 : decode cX11_keep 13 = .ok (.iload_n 1, 1) := by decide +kernel
theorem dX11_keep_14 : decode cX11_keep 14 = .ok (.aload_n 0, 1) := by decide +kernel
theorem dX11_keep_15 : decode cX11_keep 15 = .ok (.getfield 9, 3) := by decide +kernel
theorem dX11_keep_18 : decode cX11_keep 18 = .ok (.iload_n 1, 1) := by decide +kernel
theorem dX11_keep_19 : decode cX11_keep 19 = .ok (.iaload, 1) := by decide +kernel
theorem dX11_keep_20 : decode cX11_keep 20 = .ok (.iastore, 1) := by decide +kernel
theorem dX11_keep_21 : decode cX11_keep 21 = .ok (.iinc 1 1, 3) := by decide +kernel
theorem dX11_keep_24 : decode cX11_keep 24 = .ok (.goto (-22), 3) := by decide +kernel
theorem dX11_keep_27 : decode cX11_keep 27 = .ok (.aload_n 0, 1) := by decide +kernel
theorem dX11_keep_28 : decode cX11_keep 28 = .ok (.iconst 1, 1) := by decide +kernel
theorem dX11_keep_29 : decode cX11_keep 29 = .ok (.putfield 246, 3) := by decide +kernel
theorem dX11_keep_32 : decode cX11_keep 32 = .ok (.lconst 1, 1) := by decide +kernel
theorem dX11_keep_33 : decode cX11_keep 33 = .ok (.lreturn, 1) := by decide +kernel
theorem dX11_back_0 : decode cX11_back 0 = .ok (.aload_n 0, 1) := by decide +kernel
theorem dX11_back_1 : decode cX11_back 1 = .ok (.getfield 246, 3) := by decide +kernel
theorem dX11_back_4 : decode cX11_back 4 = .ok (.ifCond .ne 11, 3) := by decide +kernel
theorem dX11_back_7 : decode cX11_back 7 = .ok (.aload_n 0, 1) := by decide +kernel
theorem dX11_back_8 : decode cX11_back 8 = .ok (.ldc2_w 96, 3) := by decide +kernel
theorem dX11_back_11 : decode cX11_back 11 = .ok (.invokevirtual 64, 3) := by decide +kernel
theorem dX11_back_14 : decode cX11_back 14 = .ok (.lreturn, 1) := by decide +kernel
theorem dX11_back_15 : decode cX11_back 15 = .ok (.iconst 0, 1) := by decide +kernel
theorem dX11_back_16 : decode cX11_back 16 = .ok (.istore_n 1, 1) := by decide +kernel
theorem dX11_back_17 : decode cX11_back 17 = .ok (.iload_n 1, 1) := by decide +kernel
theorem dX11_back_18 : decode cX11_back 18 = .ok (.sipush 160, 3) := by decide +kernel
theorem dX11_back_21 : decode cX11_back 21 = .ok (.if_icmp .ge 21, 3) := by decide +kernel
theorem dX11_back_24 : decode cX11_back 24 = .ok (.aload_n 0, 1) := by decide +kernel
theorem dX11_back_25 : decode cX11_back 25 = .ok (.getfield 9, 3) := by decide +kernel
theorem dX11_back_28 : decode cX11_back 28 = .ok (.iload_n 1, 1) := by decide +kernel
theorem dX11_back_29 : decode cX11_back 29 = .ok (.aload_n 0, 1) := by decide +kernel
theorem dX11_back_30 : decode cX11_back 30 = .ok (.getfield 13, 3) := by decide +kernel
theorem dX11_back_33 : decode cX11_back 33 = .ok (.iload_n 1, 1) := by decide +kernel
theorem dX11_back_34 : decode cX11_back 34 = .ok (.iaload, 1) := by decide +kernel
theorem dX11_back_35 : decode cX11_back 35 = .ok (.iastore, 1) := by decide +kernel
theorem dX11_back_36 : decode cX11_back 36 = .ok (.iinc 1 1, 3) := by decide +kernel
theorem dX11_back_39 : decode cX11_back 39 = .ok (.goto (-22), 3) := by decide +kernel
theorem dX11_back_42 : decode cX11_back 42 = .ok (.aload_n 0, 1) := by decide +kernel
theorem dX11_back_43 : decode cX11_back 43 = .ok (.iconst 0, 1) := by decide +kernel
theorem dX11_back_44 : decode cX11_back 44 = .ok (.putfield 137, 3) := by decide +kernel
theorem dX11_back_47 : decode cX11_back 47 = .ok (.lconst 1, 1) := by decide +kernel
theorem dX11_back_48 : decode cX11_back 48 = .ok (.lreturn, 1) := by decide +kernel
theorem dX11_count_0 : decode cX11_count 0 = .ok (.iload_n 1, 1) := by decide +kernel
theorem dX11_count_1 : decode cX11_count 1 = .ok (.tableswitch 81 0 5 #[39, 47, 55, 63, 69, 75], 39) := by decide +kernel
theorem dX11_count_40 : decode cX11_count 40 = .ok (.aload_n 0, 1) := by decide +kernel
theorem dX11_count_41 : decode cX11_count 41 = .ok (.getfield 9, 3) := by decide +kernel
theorem dX11_count_44 : decode cX11_count 44 = .ok (.iconst 0, 1) := by decide +kernel
theorem dX11_count_45 : decode cX11_count 45 = .ok (.iaload, 1) := by decide +kernel
theorem dX11_count_46 : decode cX11_count 46 = .ok (.i2l, 1) := by decide +kernel
theorem dX11_count_47 : decode cX11_count 47 = .ok (.lreturn, 1) := by decide +kernel
theorem dX11_count_48 : decode cX11_count 48 = .ok (.aload_n 0, 1) := by decide +kernel
theorem dX11_count_49 : decode cX11_count 49 = .ok (.getfield 9, 3) := by decide +kernel
theorem dX11_count_52 : decode cX11_count 52 = .ok (.iconst 1, 1) := by decide +kernel
theorem dX11_count_53 : decode cX11_count 53 = .ok (.iaload, 1) := by decide +kernel
theorem dX11_count_54 : decode cX11_count 54 = .ok (.i2l, 1) := by decide +kernel
theorem dX11_count_55 : decode cX11_count 55 = .ok (.lreturn, 1) := by decide +kernel
theorem dX11_count_56 : decode cX11_count 56 = .ok (.aload_n 0, 1) := by decide +kernel
theorem dX11_count_57 : decode cX11_count 57 = .ok (.getfield 9, 3) := by decide +kernel
theorem dX11_count_60 : decode cX11_count 60 = .ok (.iconst 2, 1) := by decide +kernel
theorem dX11_count_61 : decode cX11_count 61 = .ok (.iaload, 1) := by decide +kernel
theorem dX11_count_62 : decode cX11_count 62 = .ok (.i2l, 1) := by decide +kernel
theorem dX11_count_63 : decode cX11_count 63 = .ok (.lreturn, 1) := by decide +kernel
theorem dX11_count_64 : decode cX11_count 64 = .ok (.aload_n 0, 1) := by decide +kernel
theorem dX11_count_65 : decode cX11_count 65 = .ok (.invokevirtual 206, 3) := by decide +kernel
theorem dX11_count_68 : decode cX11_count 68 = .ok (.i2l, 1) := by decide +kernel
theorem dX11_count_69 : decode cX11_count 69 = .ok (.lreturn, 1) := by decide +kernel
theorem dX11_count_70 : decode cX11_count 70 = .ok (.aload_n 0, 1) := by decide +kernel
theorem dX11_count_71 : decode cX11_count 71 = .ok (.getfield 226, 3) := by decide +kernel
theorem dX11_count_74 : decode cX11_count 74 = .ok (.i2l, 1) := by decide +kernel
theorem dX11_count_75 : decode cX11_count 75 = .ok (.lreturn, 1) := by decide +kernel
theorem dX11_count_76 : decode cX11_count 76 = .ok (.aload_n 0, 1) := by decide +kernel
theorem dX11_count_77 : decode cX11_count 77 = .ok (.getfield 233, 3) := by decide +kernel
theorem dX11_count_80 : decode cX11_count 80 = .ok (.i2l, 1) := by decide +kernel
theorem dX11_count_81 : decode cX11_count 81 = .ok (.lreturn, 1) := by decide +kernel
theorem dX11_count_82 : decode cX11_count 82 = .ok (.aload_n 0, 1) := by decide +kernel
theorem dX11_count_83 : decode cX11_count 83 = .ok (.ldc2_w 62, 3) := by decide +kernel
theorem dX11_count_86 : decode cX11_count 86 = .ok (.invokevirtual 64, 3) := by decide +kernel
theorem dX11_count_89 : decode cX11_count 89 = .ok (.lreturn, 1) := by decide +kernel
theorem dX11_found_0 : decode cX11_found 0 = .ok (.iload_n 1, 1) := by decide +kernel
theorem dX11_found_1 : decode cX11_found 1 = .ok (.iconst 1, 1) := by decide +kernel
theorem dX11_found_2 : decode cX11_found 2 = .ok (.bipush 7, 2) := by decide +kernel
theorem dX11_found_4 : decode cX11_found 4 = .ok (.invokestatic 58, 3) := by decide +kernel
theorem dX11_found_7 : decode cX11_found 7 = .ok (.ifCond .eq 12, 3) := by decide +kernel
theorem dX11_found_10 : decode cX11_found 10 = .ok (.aload_n 0, 1) := by decide +kernel
theorem dX11_found_11 : decode cX11_found 11 = .ok (.getfield 31, 3) := by decide +kernel
theorem dX11_found_14 : decode cX11_found 14 = .ok (.iload_n 1, 1) := by decide +kernel
theorem dX11_found_15 : decode cX11_found 15 = .ok (.laload, 1) := by decide +kernel
theorem dX11_found_16 : decode cX11_found 16 = .ok (.goto 10, 3) := by decide +kernel
theorem dX11_found_19 : decode cX11_found 19 = .ok (.aload_n 0, 1) := by decide +kernel
theorem dX11_found_20 : decode cX11_found 20 = .ok (.ldc2_w 62, 3) := by decide +kernel
end
section
theorem dX11_found_23 : decode cX11_found 23 = .ok (.invokevirtual 64, 3) := by decide +kernel
theorem dX11_found_26 : decode cX11_found 26 = .ok (.lreturn, 1) := by decide +kernel
theorem dJ6_bitCount_0f7a4_0 : decode cJ6_bitCount_0f7a4 0 = .ok (.iload_n 0, 1) := by decide +kernel
theorem dJ6_bitCount_0f7a4_1 : decode cJ6_bitCount_0f7a4 1 = .ok (.iload_n 0, 1) := by decide +kernel
theorem dJ6_bitCount_0f7a4_2 : decode cJ6_bitCount_0f7a4 2 = .ok (.iconst 1, 1) := by decide +kernel
theorem dJ6_bitCount_0f7a4_3 : decode cJ6_bitCount_0f7a4 3 = .ok (.iushr, 1) := by decide +kernel
theorem dJ6_bitCount_0f7a4_4 : decode cJ6_bitCount_0f7a4 4 = .ok (.ldc_w 265, 3) := by decide +kernel
theorem dJ6_bitCount_0f7a4_7 : decode cJ6_bitCount_0f7a4 7 = .ok (.iand, 1) := by decide +kernel
theorem dJ6_bitCount_0f7a4_8 : decode cJ6_bitCount_0f7a4 8 = .ok (.isub, 1) := by decide +kernel
theorem dJ6_bitCount_0f7a4_9 : decode cJ6_bitCount_0f7a4 9 = .ok (.istore_n 0, 1) := by decide +kernel
theorem dJ6_bitCount_0f7a4_10 : decode cJ6_bitCount_0f7a4 10 = .ok (.iload_n 0, 1) := by decide +kernel
theorem dJ6_bitCount_0f7a4_11 : decode cJ6_bitCount_0f7a4 11 = .ok (.ldc_w 266, 3) := by decide +kernel
theorem dJ6_bitCount_0f7a4_14 : decode cJ6_bitCount_0f7a4 14 = .ok (.iand, 1) := by decide +kernel
theorem dJ6_bitCount_0f7a4_15 : decode cJ6_bitCount_0f7a4 15 = .ok (.iload_n 0, 1) := by decide +kernel
theorem dJ6_bitCount_0f7a4_16 : decode cJ6_bitCount_0f7a4 16 = .ok (.iconst 2, 1) := by decide +kernel
theorem dJ6_bitCount_0f7a4_17 : decode cJ6_bitCount_0f7a4 17 = .ok (.iushr, 1) := by decide +kernel
theorem dJ6_bitCount_0f7a4_18 : decode cJ6_bitCount_0f7a4 18 = .ok (.ldc_w 266, 3) := by decide +kernel
theorem dJ6_bitCount_0f7a4_21 : decode cJ6_bitCount_0f7a4 21 = .ok (.iand, 1) := by decide +kernel
theorem dJ6_bitCount_0f7a4_22 : decode cJ6_bitCount_0f7a4 22 = .ok (.iadd, 1) := by decide +kernel
theorem dJ6_bitCount_0f7a4_23 : decode cJ6_bitCount_0f7a4 23 = .ok (.istore_n 0, 1) := by decide +kernel
theorem dJ6_bitCount_0f7a4_24 : decode cJ6_bitCount_0f7a4 24 = .ok (.iload_n 0, 1) := by decide +kernel
theorem dJ6_bitCount_0f7a4_25 : decode cJ6_bitCount_0f7a4 25 = .ok (.iload_n 0, 1) := by decide +kernel
theorem dJ6_bitCount_0f7a4_26 : decode cJ6_bitCount_0f7a4 26 = .ok (.iconst 4, 1) := by decide +kernel
theorem dJ6_bitCount_0f7a4_27 : decode cJ6_bitCount_0f7a4 27 = .ok (.iushr, 1) := by decide +kernel
theorem dJ6_bitCount_0f7a4_28 : decode cJ6_bitCount_0f7a4 28 = .ok (.iadd, 1) := by decide +kernel
theorem dJ6_bitCount_0f7a4_29 : decode cJ6_bitCount_0f7a4 29 = .ok (.ldc_w 267, 3) := by decide +kernel
theorem dJ6_bitCount_0f7a4_32 : decode cJ6_bitCount_0f7a4 32 = .ok (.iand, 1) := by decide +kernel
theorem dJ6_bitCount_0f7a4_33 : decode cJ6_bitCount_0f7a4 33 = .ok (.istore_n 0, 1) := by decide +kernel
theorem dJ6_bitCount_0f7a4_34 : decode cJ6_bitCount_0f7a4 34 = .ok (.iload_n 0, 1) := by decide +kernel
theorem dJ6_bitCount_0f7a4_35 : decode cJ6_bitCount_0f7a4 35 = .ok (.iload_n 0, 1) := by decide +kernel
theorem dJ6_bitCount_0f7a4_36 : decode cJ6_bitCount_0f7a4 36 = .ok (.bipush 8, 2) := by decide +kernel
theorem dJ6_bitCount_0f7a4_38 : decode cJ6_bitCount_0f7a4 38 = .ok (.iushr, 1) := by decide +kernel
theorem dJ6_bitCount_0f7a4_39 : decode cJ6_bitCount_0f7a4 39 = .ok (.iadd, 1) := by decide +kernel
theorem dJ6_bitCount_0f7a4_40 : decode cJ6_bitCount_0f7a4 40 = .ok (.istore_n 0, 1) := by decide +kernel
theorem dJ6_bitCount_0f7a4_41 : decode cJ6_bitCount_0f7a4 41 = .ok (.iload_n 0, 1) := by decide +kernel
theorem dJ6_bitCount_0f7a4_42 : decode cJ6_bitCount_0f7a4 42 = .ok (.iload_n 0, 1) := by decide +kernel
theorem dJ6_bitCount_0f7a4_43 : decode cJ6_bitCount_0f7a4 43 = .ok (.bipush 16, 2) := by decide +kernel
theorem dJ6_bitCount_0f7a4_45 : decode cJ6_bitCount_0f7a4 45 = .ok (.iushr, 1) := by decide +kernel
theorem dJ6_bitCount_0f7a4_46 : decode cJ6_bitCount_0f7a4 46 = .ok (.iadd, 1) := by decide +kernel
theorem dJ6_bitCount_0f7a4_47 : decode cJ6_bitCount_0f7a4 47 = .ok (.istore_n 0, 1) := by decide +kernel
theorem dJ6_bitCount_0f7a4_48 : decode cJ6_bitCount_0f7a4 48 = .ok (.iload_n 0, 1) := by decide +kernel
theorem dJ6_bitCount_0f7a4_49 : decode cJ6_bitCount_0f7a4 49 = .ok (.bipush 63, 2) := by decide +kernel
theorem dJ6_bitCount_0f7a4_51 : decode cJ6_bitCount_0f7a4 51 = .ok (.iand, 1) := by decide +kernel
theorem dJ6_bitCount_0f7a4_52 : decode cJ6_bitCount_0f7a4 52 = .ok (.ireturn, 1) := by decide +kernel
theorem dJ13_compare_74951_0 : decode cJ13_compare_74951 0 = .ok (.lload_n 0, 1) := by decide +kernel
theorem dJ13_compare_74951_1 : decode cJ13_compare_74951 1 = .ok (.lload_n 2, 1) := by decide +kernel
theorem dJ13_compare_74951_2 : decode cJ13_compare_74951 2 = .ok (.lcmp, 1) := by decide +kernel
theorem dJ13_compare_74951_3 : decode cJ13_compare_74951 3 = .ok (.ifCond .ge 7, 3) := by decide +kernel
theorem dJ13_compare_74951_6 : decode cJ13_compare_74951 6 = .ok (.iconst (-1), 1) := by decide +kernel
theorem dJ13_compare_74951_7 : decode cJ13_compare_74951 7 = .ok (.goto 14, 3) := by decide +kernel
theorem dJ13_compare_74951_10 : decode cJ13_compare_74951 10 = .ok (.lload_n 0, 1) := by decide +kernel
theorem dJ13_compare_74951_11 : decode cJ13_compare_74951 11 = .ok (.lload_n 2, 1) := by decide +kernel
theorem dJ13_compare_74951_12 : decode cJ13_compare_74951 12 = .ok (.lcmp, 1) := by decide +kernel
theorem dJ13_compare_74951_13 : decode cJ13_compare_74951 13 = .ok (.ifCond .ne 7, 3) := by decide +kernel
theorem dJ13_compare_74951_16 : decode cJ13_compare_74951 16 = .ok (.iconst 0, 1) := by decide +kernel
theorem dJ13_compare_74951_17 : decode cJ13_compare_74951 17 = .ok (.goto 4, 3) := by decide +kernel
theorem dJ13_compare_74951_20 : decode cJ13_compare_74951 20 = .ok (.iconst 1, 1) := by decide +kernel
theorem dJ13_compare_74951_21 : decode cJ13_compare_74951 21 = .ok (.ireturn, 1) := by decide +kernel
theorem dJ9_floorDiv_f86c9_0 : decode cJ9_floorDiv_f86c9 0 = .ok (.lload_n 0, 1) := by decide +kernel
theorem dJ9_floorDiv_f86c9_1 : decode cJ9_floorDiv_f86c9 1 = .ok (.lload_n 2, 1) := by decide +kernel
theorem dJ9_floorDiv_f86c9_2 : decode cJ9_floorDiv_f86c9 2 = .ok (.ldiv, 1) := by decide +kernel
theorem dJ9_floorDiv_f86c9_3 : decode cJ9_floorDiv_f86c9 3 = .ok (.lstore 4, 2) := by decide +kernel
theorem dJ9_floorDiv_f86c9_5 : decode cJ9_floorDiv_f86c9 5 = .ok (.lload_n 0, 1) := by decide +kernel
theorem dJ9_floorDiv_f86c9_6 : decode cJ9_floorDiv_f86c9 6 = .ok (.lload_n 2, 1) := by decide +kernel
theorem dJ9_floorDiv_f86c9_7 : decode cJ9_floorDiv_f86c9 7 = .ok (.lxor, 1) := by decide +kernel
theorem dJ9_floorDiv_f86c9_8 : decode cJ9_floorDiv_f86c9 8 = .ok (.lconst 0, 1) := by decide +kernel
theorem dJ9_floorDiv_f86c9_9 : decode cJ9_floorDiv_f86c9 9 = .ok (.lcmp, 1) := by decide +kernel
theorem dJ9_floorDiv_f86c9_10 : decode cJ9_floorDiv_f86c9 10 = .ok (.ifCond .ge 17, 3) := by decide +kernel
theorem dJ9_floorDiv_f86c9_13 : decode cJ9_floorDiv_f86c9 13 = .ok (.lload 4, 2) := by decide +kernel
theorem dJ9_floorDiv_f86c9_15 : decode cJ9_floorDiv_f86c9 15 = .ok (.lload_n 2, 1) := by decide +kernel
theorem dJ9_floorDiv_f86c9_16 : decode cJ9_floorDiv_f86c9 16 = .ok (.lmul, 1) := by decide +kernel
theorem dJ9_floorDiv_f86c9_17 : decode cJ9_floorDiv_f86c9 17 = .ok (.lload_n 0, 1) := by decide +kernel
theorem dJ9_floorDiv_f86c9_18 : decode cJ9_floorDiv_f86c9 18 = .ok (.lcmp, 1) := by decide +kernel
theorem dJ9_floorDiv_f86c9_19 : decode cJ9_floorDiv_f86c9 19 = .ok (.ifCond .eq 8, 3) := by decide +kernel
theorem dJ9_floorDiv_f86c9_22 : decode cJ9_floorDiv_f86c9 22 = .ok (.lload 4, 2) := by decide +kernel
theorem dJ9_floorDiv_f86c9_24 : decode cJ9_floorDiv_f86c9 24 = .ok (.lconst 1, 1) := by decide +kernel
theorem dJ9_floorDiv_f86c9_25 : decode cJ9_floorDiv_f86c9 25 = .ok (.lsub, 1) := by decide +kernel
theorem dJ9_floorDiv_f86c9_26 : decode cJ9_floorDiv_f86c9 26 = .ok (.lreturn, 1) := by decide +kernel
theorem dJ9_floorDiv_f86c9_27 : decode cJ9_floorDiv_f86c9 27 = .ok (.lload 4, 2) := by decide +kernel
theorem dJ9_floorDiv_f86c9_29 : decode cJ9_floorDiv_f86c9 29 = .ok (.lreturn, 1) := by decide +kernel
theorem dJ9_floorMod_f86c9_0 : decode cJ9_floorMod_f86c9 0 = .ok (.lload_n 0, 1) := by decide +kernel
theorem dJ9_floorMod_f86c9_1 : decode cJ9_floorMod_f86c9 1 = .ok (.lload_n 2, 1) := by decide +kernel
theorem dJ9_floorMod_f86c9_2 : decode cJ9_floorMod_f86c9 2 = .ok (.lrem, 1) := by decide +kernel
theorem dJ9_floorMod_f86c9_3 : decode cJ9_floorMod_f86c9 3 = .ok (.lstore 4, 2) := by decide +kernel
theorem dJ9_floorMod_f86c9_5 : decode cJ9_floorMod_f86c9 5 = .ok (.lload_n 0, 1) := by decide +kernel
theorem dJ9_floorMod_f86c9_6 : decode cJ9_floorMod_f86c9 6 = .ok (.lload_n 2, 1) := by decide +kernel
theorem dJ9_floorMod_f86c9_7 : decode cJ9_floorMod_f86c9 7 = .ok (.lxor, 1) := by decide +kernel
theorem dJ9_floorMod_f86c9_8 : decode cJ9_floorMod_f86c9 8 = .ok (.lconst 0, 1) := by decide +kernel
theorem dJ9_floorMod_f86c9_9 : decode cJ9_floorMod_f86c9 9 = .ok (.lcmp, 1) := by decide +kernel
theorem dJ9_floorMod_f86c9_10 : decode cJ9_floorMod_f86c9 10 = .ok (.ifCond .ge 15, 3) := by decide +kernel
theorem dJ9_floorMod_f86c9_13 : decode cJ9_floorMod_f86c9 13 = .ok (.lload 4, 2) := by decide +kernel
theorem dJ9_floorMod_f86c9_15 : decode cJ9_floorMod_f86c9 15 = .ok (.lconst 0, 1) := by decide +kernel
theorem dJ9_floorMod_f86c9_16 : decode cJ9_floorMod_f86c9 16 = .ok (.lcmp, 1) := by decide +kernel
theorem dJ9_floorMod_f86c9_17 : decode cJ9_floorMod_f86c9 17 = .ok (.ifCond .eq 8, 3) := by decide +kernel
theorem dJ9_floorMod_f86c9_20 : decode cJ9_floorMod_f86c9 20 = .ok (.lload 4, 2) := by decide +kernel
theorem dJ9_floorMod_f86c9_22 : decode cJ9_floorMod_f86c9 22 = .ok (.lload_n 2, 1) := by decide +kernel
theorem dJ9_floorMod_f86c9_23 : decode cJ9_floorMod_f86c9 23 = .ok (.ladd, 1) := by decide +kernel
theorem dJ9_floorMod_f86c9_24 : decode cJ9_floorMod_f86c9 24 = .ok (.lreturn, 1) := by decide +kernel
theorem dJ9_floorMod_f86c9_25 : decode cJ9_floorMod_f86c9 25 = .ok (.lload 4, 2) := by decide +kernel
theorem dJ9_floorMod_f86c9_27 : decode cJ9_floorMod_f86c9 27 = .ok (.lreturn, 1) := by decide +kernel
theorem dJ9_abs_0f7a4_0 : decode cJ9_abs_0f7a4 0 = .ok (.iload_n 0, 1) := by decide +kernel
theorem dJ9_abs_0f7a4_1 : decode cJ9_abs_0f7a4 1 = .ok (.ifCond .ge 8, 3) := by decide +kernel
theorem dJ9_abs_0f7a4_4 : decode cJ9_abs_0f7a4 4 = .ok (.iload_n 0, 1) := by decide +kernel
theorem dJ9_abs_0f7a4_5 : decode cJ9_abs_0f7a4 5 = .ok (.ineg, 1) := by decide +kernel
theorem dJ9_abs_0f7a4_6 : decode cJ9_abs_0f7a4 6 = .ok (.goto 4, 3) := by decide +kernel
theorem dJ9_abs_0f7a4_9 : decode cJ9_abs_0f7a4 9 = .ok (.iload_n 0, 1) := by decide +kernel
theorem dJ9_abs_0f7a4_10 : decode cJ9_abs_0f7a4 10 = .ok (.ireturn, 1) := by decide +kernel
theorem dJ9_abs_067f4_0 : decode cJ9_abs_067f4 0 = .ok (.lload_n 0, 1) := by decide +kernel
theorem dJ9_abs_067f4_1 : decode cJ9_abs_067f4 1 = .ok (.lconst 0, 1) := by decide +kernel
theorem dJ9_abs_067f4_2 : decode cJ9_abs_067f4 2 = .ok (.lcmp, 1) := by decide +kernel
theorem dJ9_abs_067f4_3 : decode cJ9_abs_067f4 3 = .ok (.ifCond .ge 8, 3) := by decide +kernel
theorem dJ9_abs_067f4_6 : decode cJ9_abs_067f4 6 = .ok (.lload_n 0, 1) := by decide +kernel
theorem dJ9_abs_067f4_7 : decode cJ9_abs_067f4 7 = .ok (.lneg, 1) := by decide +kernel
theorem dJ9_abs_067f4_8 : decode cJ9_abs_067f4 8 = .ok (.goto 4, 3) := by decide +kernel
theorem dJ9_abs_067f4_11 : decode cJ9_abs_067f4 11 = .ok (.lload_n 0, 1) := by decide +kernel
theorem dJ9_abs_067f4_12 : decode cJ9_abs_067f4 12 = .ok (.lreturn, 1) := by decide +kernel
theorem dJ9_max_7cf53_0 : decode cJ9_max_7cf53 0 = .ok (.iload_n 0, 1) := by decide +kernel
theorem dJ9_max_7cf53_1 : decode cJ9_max_7cf53 1 = .ok (.iload_n 1, 1) := by decide +kernel
theorem dJ9_max_7cf53_2 : decode cJ9_max_7cf53 2 = .ok (.if_icmp .lt 7, 3) := by decide +kernel
theorem dJ9_max_7cf53_5 : decode cJ9_max_7cf53 5 = .ok (.iload_n 0, 1) := by decide +kernel
theorem dJ9_max_7cf53_6 : decode cJ9_max_7cf53 6 = .ok (.goto 4, 3) := by decide +kernel
theorem dJ9_max_7cf53_9 : decode cJ9_max_7cf53 9 = .ok (.iload_n 1, 1) := by decide +kernel
theorem dJ9_max_7cf53_10 : decode cJ9_max_7cf53 10 = .ok (.ireturn, 1) := by decide +kernel
theorem dJ9_max_f86c9_0 : decode cJ9_max_f86c9 0 = .ok (.lload_n 0, 1) := by decide +kernel
theorem dJ9_max_f86c9_1 : decode cJ9_max_f86c9 1 = .ok (.lload_n 2, 1) := by decide +kernel
theorem dJ9_max_f86c9_2 : decode cJ9_max_f86c9 2 = .ok (.lcmp, 1) := by decide +kernel
theorem dJ9_max_f86c9_3 : decode cJ9_max_f86c9 3 = .ok (.ifCond .lt 7, 3) := by decide +kernel
theorem dJ9_max_f86c9_6 : decode cJ9_max_f86c9 6 = .ok (.lload_n 0, 1) := by decide +kernel
theorem dJ9_max_f86c9_7 : decode cJ9_max_f86c9 7 = .ok (.goto 4, 3) := by decide +kernel
theorem dJ9_max_f86c9_10 : decode cJ9_max_f86c9 10 = .ok (.lload_n 2, 1) := by decide +kernel
theorem dJ9_max_f86c9_11 : decode cJ9_max_f86c9 11 = .ok (.lreturn, 1) := by decide +kernel
theorem dJ9_min_7cf53_0 : decode cJ9_min_7cf53 0 = .ok (.iload_n 0, 1) := by decide +kernel
theorem dJ9_min_7cf53_1 : decode cJ9_min_7cf53 1 = .ok (.iload_n 1, 1) := by decide +kernel
theorem dJ9_min_7cf53_2 : decode cJ9_min_7cf53 2 = .ok (.if_icmp .gt 7, 3) := by decide +kernel
theorem dJ9_min_7cf53_5 : decode cJ9_min_7cf53 5 = .ok (.iload_n 0, 1) := by decide +kernel
theorem dJ9_min_7cf53_6 : decode cJ9_min_7cf53 6 = .ok (.goto 4, 3) := by decide +kernel
theorem dJ9_min_7cf53_9 : decode cJ9_min_7cf53 9 = .ok (.iload_n 1, 1) := by decide +kernel
theorem dJ9_min_7cf53_10 : decode cJ9_min_7cf53 10 = .ok (.ireturn, 1) := by decide +kernel
theorem dJ7_fill_d0a16_0 : decode cJ7_fill_d0a16 0 = .ok (.iconst 0, 1) := by decide +kernel
theorem dJ7_fill_d0a16_1 : decode cJ7_fill_d0a16 1 = .ok (.istore_n 3, 1) := by decide +kernel
theorem dJ7_fill_d0a16_2 : decode cJ7_fill_d0a16 2 = .ok (.aload_n 0, 1) := by decide +kernel
theorem dJ7_fill_d0a16_3 : decode cJ7_fill_d0a16 3 = .ok (.arraylength, 1) := by decide +kernel
theorem dJ7_fill_d0a16_4 : decode cJ7_fill_d0a16 4 = .ok (.istore 4, 2) := by decide +kernel
theorem dJ7_fill_d0a16_6 : decode cJ7_fill_d0a16 6 = .ok (.iload_n 3, 1) := by decide +kernel
theorem dJ7_fill_d0a16_7 : decode cJ7_fill_d0a16 7 = .ok (.iload 4, 2) := by decide +kernel
theorem dJ7_fill_d0a16_9 : decode cJ7_fill_d0a16 9 = .ok (.if_icmp .ge 13, 3) := by decide +kernel
theorem dJ7_fill_d0a16_12 : decode cJ7_fill_d0a16 12 = .ok (.aload_n 0, 1) := by decide +kernel
theorem dJ7_fill_d0a16_13 : decode cJ7_fill_d0a16 13 = .ok (.iload_n 3, 1) := by decide +kernel
theorem dJ7_fill_d0a16_14 : decode cJ7_fill_d0a16 14 = .ok (.lload_n 1, 1) := by decide +kernel
theorem dJ7_fill_d0a16_15 : decode cJ7_fill_d0a16 15 = .ok (.lastore, 1) := by decide +kernel
theorem dJ7_fill_d0a16_16 : decode cJ7_fill_d0a16 16 = .ok (.iinc 3 1, 3) := by decide +kernel
theorem dJ7_fill_d0a16_19 : decode cJ7_fill_d0a16 19 = .ok (.goto (-13), 3) := by decide +kernel
theorem dJ7_fill_d0a16_22 : decode cJ7_fill_d0a16 22 = .ok (.return_, 1) := by decide +kernel
theorem dJ7_fill_53178_0 : decode cJ7_fill_53178 0 = .ok (.iconst 0, 1) := by decide +kernel
theorem dJ7_fill_53178_1 : decode cJ7_fill_53178 1 = .ok (.istore_n 2, 1) := by decide +kernel
theorem dJ7_fill_53178_2 : decode cJ7_fill_53178 2 = .ok (.aload_n 0, 1) := by decide +kernel
theorem dJ7_fill_53178_3 : decode cJ7_fill_53178 3 = .ok (.arraylength, 1) := by decide +kernel
theorem dJ7_fill_53178_4 : decode cJ7_fill_53178 4 = .ok (.istore_n 3, 1) := by decide +kernel
theorem dJ7_fill_53178_5 : decode cJ7_fill_53178 5 = .ok (.iload_n 2, 1) := by decide +kernel
theorem dJ7_fill_53178_6 : decode cJ7_fill_53178 6 = .ok (.iload_n 3, 1) := by decide +kernel
theorem dJ7_fill_53178_7 : decode cJ7_fill_53178 7 = .ok (.if_icmp .ge 13, 3) := by decide +kernel
theorem dJ7_fill_53178_10 : decode cJ7_fill_53178 10 = .ok (.aload_n 0, 1) := by decide +kernel
theorem dJ7_fill_53178_11 : decode cJ7_fill_53178 11 = .ok (.iload_n 2, 1) := by decide +kernel
theorem dJ7_fill_53178_12 : decode cJ7_fill_53178 12 = .ok (.iload_n 1, 1) := by decide +kernel
theorem dJ7_fill_53178_13 : decode cJ7_fill_53178 13 = .ok (.iastore, 1) := by decide +kernel
theorem dJ7_fill_53178_14 : decode cJ7_fill_53178 14 = .ok (.iinc 2 1, 3) := by decide +kernel
theorem dJ7_fill_53178_17 : decode cJ7_fill_53178 17 = .ok (.goto (-12), 3) := by decide +kernel
theorem dJ7_fill_53178_20 : decode cJ7_fill_53178 20 = .ok (.return_, 1) := by decide +kernel
theorem dJ7_fill_fb410_0 : decode cJ7_fill_fb410 0 = .ok (.iconst 0, 1) := by decide +kernel
theorem dJ7_fill_fb410_1 : decode cJ7_fill_fb410 1 = .ok (.istore_n 2, 1) := by decide +kernel
theorem dJ7_fill_fb410_2 : decode cJ7_fill_fb410 2 = .ok (.aload_n 0, 1) := by decide +kernel
theorem dJ7_fill_fb410_3 : decode cJ7_fill_fb410 3 = .ok (.arraylength, 1) := by decide +kernel
theorem dJ7_fill_fb410_4 : decode cJ7_fill_fb410 4 = .ok (.istore_n 3, 1) := by decide +kernel
theorem dJ7_fill_fb410_5 : decode cJ7_fill_fb410 5 = .ok (.iload_n 2, 1) := by decide +kernel
theorem dJ7_fill_fb410_6 : decode cJ7_fill_fb410 6 = .ok (.iload_n 3, 1) := by decide +kernel
theorem dJ7_fill_fb410_7 : decode cJ7_fill_fb410 7 = .ok (.if_icmp .ge 13, 3) := by decide +kernel
theorem dJ7_fill_fb410_10 : decode cJ7_fill_fb410 10 = .ok (.aload_n 0, 1) := by decide +kernel
theorem dJ7_fill_fb410_11 : decode cJ7_fill_fb410 11 = .ok (.iload_n 2, 1) := by decide +kernel
theorem dJ7_fill_fb410_12 : decode cJ7_fill_fb410 12 = .ok (.iload_n 1, 1) := by decide +kernel
theorem dJ7_fill_fb410_13 : decode cJ7_fill_fb410 13 = .ok (.sastore, 1) := by decide +kernel
theorem dJ7_fill_fb410_14 : decode cJ7_fill_fb410 14 = .ok (.iinc 2 1, 3) := by decide +kernel
theorem dJ7_fill_fb410_17 : decode cJ7_fill_fb410 17 = .ok (.goto (-12), 3) := by decide +kernel
theorem dJ7_fill_fb410_20 : decode cJ7_fill_fb410 20 = .ok (.return_, 1) := by decide +kernel
theorem dL_law_0 : decode cL_law 0 = .ok (.new 7, 3) := by decide +kernel
theorem dL_law_3 : decode cL_law 3 = .ok (.dup, 1) := by decide +kernel
theorem dL_law_4 : decode cL_law 4 = .ok (.invokespecial 9, 3) := by decide +kernel
theorem dL_law_7 : decode cL_law 7 = .ok (.astore_n 1, 1) := by decide +kernel
theorem dL_law_8 : decode cL_law 8 = .ok (.new 10, 3) := by decide +kernel
theorem dL_law_11 : decode cL_law 11 = .ok (.dup, 1) := by decide +kernel
theorem dL_law_12 : decode cL_law 12 = .ok (.invokespecial 12, 3) := by decide +kernel
theorem dL_law_15 : decode cL_law 15 = .ok (.astore_n 2, 1) := by decide +kernel
theorem dL_law_16 : decode cL_law 16 = .ok (.iconst 0, 1) := by decide +kernel
theorem dL_law_17 : decode cL_law 17 = .ok (.istore_n 3, 1) := by decide +kernel
theorem dL_law_18 : decode cL_law 18 = .ok (.iload_n 3, 1) := by decide +kernel
theorem dL_law_19 : decode cL_law 19 = .ok (.aload_n 0, 1) := by decide +kernel
theorem dL_law_20 : decode cL_law 20 = .ok (.arraylength, 1) := by decide +kernel
theorem dL_law_21 : decode cL_law 21 = .ok (.bipush 7, 2) := by decide +kernel
theorem dL_law_23 : decode cL_law 23 = .ok (.isub, 1) := by decide +kernel
theorem dL_law_24 : decode cL_law 24 = .ok (.if_icmp .gt 1316, 3) := by decide +kernel
theorem dL_law_27 : decode cL_law 27 = .ok (.aload_n 0, 1) := by decide +kernel
theorem dL_law_28 : decode cL_law 28 = .ok (.iload_n 3, 1) := by decide +kernel
theorem dL_law_29 : decode cL_law 29 = .ok (.iaload, 1) := by decide +kernel
theorem dL_law_30 : decode cL_law 30 = .ok (.bipush 63, 2) := by decide +kernel
theorem dL_law_32 : decode cL_law 32 = .ok (.iand, 1) := by decide +kernel
theorem dL_law_33 : decode cL_law 33 = .ok (.tableswitch 1301 0 34 #[155, 199, 233, 267, 301, 325, 359, 393, 437, 471, 495, 509, 559, 609, 649, 699, 713, 737, 813, 827, 861, 905, 997, 1037, 1051, 1065, 1099, 1113, 1163, 1187, 1211, 1225, 1239, 1253, 1277], 155) := by decide +kernel
theorem dL_law_188 : decode cL_law 188 = .ok (.aload_n 1, 1) := by decide +kernel
theorem dL_law_189 : decode cL_law 189 = .ok (.aload_n 0, 1) := by decide +kernel
theorem dL_law_190 : decode cL_law 190 = .ok (.iload_n 3, 1) := by decide +kernel
theorem dL_law_191 : decode cL_law 191 = .ok (.iconst 1, 1) := by decide +kernel
theorem dL_law_192 : decode cL_law 192 = .ok (.iadd, 1) := by decide +kernel
theorem dL_law_193 : decode cL_law 193 = .ok (.iaload, 1) := by decide +kernel
theorem dL_law_194 : decode cL_law 194 = .ok (.aload_n 0, 1) := by decide +kernel
theorem dL_law_195 : decode cL_law 195 = .ok (.iload_n 3, 1) := by decide +kernel
theorem dL_law_196 : decode cL_law 196 = .ok (.iconst 2, 1) := by decide +kernel
theorem dL_law_197 : decode cL_law 197 = .ok (.iadd, 1) := by decide +kernel
theorem dL_law_198 : decode cL_law 198 = .ok (.iaload, 1) := by decide +kernel
theorem dL_law_199 : decode cL_law 199 = .ok (.aload_n 0, 1) := by decide +kernel
theorem dL_law_200 : decode cL_law 200 = .ok (.iload_n 3, 1) := by decide +kernel
theorem dL_law_201 : decode cL_law 201 = .ok (.iconst 3, 1) := by decide +kernel
theorem dL_law_202 : decode cL_law 202 = .ok (.iadd, 1) := by decide +kernel
theorem dL_law_203 : decode cL_law 203 = .ok (.iaload, 1) := by decide +kernel
theorem dL_law_204 : decode cL_law 204 = .ok (.invokevirtual 13, 3) := by decide +kernel
theorem dL_law_207 : decode cL_law 207 = .ok (.aload_n 2, 1) := by decide +kernel
theorem dL_law_208 : decode cL_law 208 = .ok (.aload_n 0, 1) := by decide +kernel
theorem dL_law_209 : decode cL_law 209 = .ok (.iload_n 3, 1) := by decide +kernel
theorem dL_law_210 : decode cL_law 210 = .ok (.iconst 1, 1) := by decide +kernel
theorem dL_law_211 : decode cL_law 211 = .ok (.iadd, 1) := by decide +kernel
theorem dL_law_212 : decode cL_law 212 = .ok (.iaload, 1) := by decide +kernel
theorem dL_law_213 : decode cL_law 213 = .ok (.aload_n 0, 1) := by decide +kernel
theorem dL_law_214 : decode cL_law 214 = .ok (.iload_n 3, 1) := by decide +kernel
theorem dL_law_215 : decode cL_law 215 = .ok (.iconst 2, 1) := by decide +kernel
theorem dL_law_216 : decode cL_law 216 = .ok (.iadd, 1) := by decide +kernel
theorem dL_law_217 : decode cL_law 217 = .ok (.iaload, 1) := by decide +kernel
theorem dL_law_218 : decode cL_law 218 = .ok (.aload_n 0, 1) := by decide +kernel
theorem dL_law_219 : decode cL_law 219 = .ok (.iload_n 3, 1) := by decide +kernel
theorem dL_law_220 : decode cL_law 220 = .ok (.iconst 3, 1) := by decide +kernel
theorem dL_law_221 : decode cL_law 221 = .ok (.iadd, 1) := by decide +kernel
theorem dL_law_222 : decode cL_law 222 = .ok (.iaload, 1) := by decide +kernel
theorem dL_law_223 : decode cL_law 223 = .ok (.invokevirtual 17, 3) := by decide +kernel
theorem dL_law_226 : decode cL_law 226 = .ok (.lcmp, 1) := by decide +kernel
theorem dL_law_227 : decode cL_law 227 = .ok (.ifCond .eq 1107, 3) := by decide +kernel
theorem dL_law_230 : decode cL_law 230 = .ok (.iconst 0, 1) := by decide +kernel
theorem dL_law_231 : decode cL_law 231 = .ok (.ireturn, 1) := by decide +kernel
theorem dL_law_232 : decode cL_law 232 = .ok (.aload_n 1, 1) := by decide +kernel
theorem dL_law_233 : decode cL_law 233 = .ok (.aload_n 0, 1) := by decide +kernel
theorem dL_law_234 : decode cL_law 234 = .ok (.iload_n 3, 1) := by decide +kernel
theorem dL_law_235 : decode cL_law 235 = .ok (.iconst 1, 1) := by decide +kernel
theorem dL_law_236 : decode cL_law 236 = .ok (.iadd, 1) := by decide +kernel
theorem dL_law_237 : decode cL_law 237 = .ok (.iaload, 1) := by decide +kernel
theorem dL_law_238 : decode cL_law 238 = .ok (.aload_n 0, 1) := by decide +kernel
theorem dL_law_239 : decode cL_law 239 = .ok (.iload_n 3, 1) := by decide +kernel
theorem dL_law_240 : decode cL_law 240 = .ok (.iconst 2, 1) := by decide +kernel
theorem dL_law_241 : decode cL_law 241 = .ok (.iadd, 1) := by decide +kernel
theorem dL_law_242 : decode cL_law 242 = .ok (.iaload, 1) := by decide +kernel
theorem dL_law_243 : decode cL_law 243 = .ok (.invokevirtual 18, 3) := by decide +kernel
theorem dL_law_246 : decode cL_law 246 = .ok (.aload_n 2, 1) := by decide +kernel
theorem dL_law_247 : decode cL_law 247 = .ok (.aload_n 0, 1) := by decide +kernel
theorem dL_law_248 : decode cL_law 248 = .ok (.iload_n 3, 1) := by decide +kernel
theorem dL_law_249 : decode cL_law 249 = .ok (.iconst 1, 1) := by decide +kernel
theorem dL_law_250 : decode cL_law 250 = .ok (.iadd, 1) := by decide +kernel
theorem dL_law_251 : decode cL_law 251 = .ok (.iaload, 1) := by decide +kernel
theorem dL_law_252 : decode cL_law 252 = .ok (.aload_n 0, 1) := by decide +kernel
theorem dL_law_253 : decode cL_law 253 = .ok (.iload_n 3, 1) := by decide +kernel
theorem dL_law_254 : decode cL_law 254 = .ok (.iconst 2, 1) := by decide +kernel
theorem dL_law_255 : decode cL_law 255 = .ok (.iadd, 1) := by decide +kernel
theorem dL_law_256 : decode cL_law 256 = .ok (.iaload, 1) := by decide +kernel
theorem dL_law_257 : decode cL_law 257 = .ok (.invokevirtual 22, 3) := by decide +kernel
theorem dL_law_260 : decode cL_law 260 = .ok (.lcmp, 1) := by decide +kernel
theorem dL_law_261 : decode cL_law 261 = .ok (.ifCond .eq 1073, 3) := by decide +kernel
theorem dL_law_264 : decode cL_law 264 = .ok (.iconst 0, 1) := by decide +kernel
theorem dL_law_265 : decode cL_law 265 = .ok (.ireturn, 1) := by decide +kernel
theorem dL_law_266 : decode cL_law 266 = .ok (.aload_n 1, 1) := by decide +kernel
theorem dL_law_267 : decode cL_law 267 = .ok (.aload_n 0, 1) := by decide +kernel
theorem dL_law_268 : decode cL_law 268 = .ok (.iload_n 3, 1) := by decide +kernel
theorem dL_law_269 : decode cL_law 269 = .ok (.iconst 1, 1) := by decide +kernel
theorem dL_law_270 : decode cL_law 270 = .ok (.iadd, 1) := by decide +kernel
theorem dL_law_271 : decode cL_law 271 = .ok (.iaload, 1) := by decide +kernel
theorem dL_law_272 : decode cL_law 272 = .ok (.aload_n 0, 1) := by decide +kernel
theorem dL_law_273 : decode cL_law 273 = .ok (.iload_n 3, 1) := by decide +kernel
theorem dL_law_274 : decode cL_law 274 = .ok (.iconst 2, 1) := by decide +kernel
theorem dL_law_275 : decode cL_law 275 = .ok (.iadd, 1) := by decide +kernel
theorem dL_law_276 : decode cL_law 276 = .ok (.iaload, 1) := by decide +kernel
theorem dL_law_277 : decode cL_law 277 = .ok (.invokevirtual 23, 3) := by decide +kernel
theorem dL_law_280 : decode cL_law 280 = .ok (.aload_n 2, 1) := by decide +kernel
theorem dL_law_281 : decode cL_law 281 = .ok (.aload_n 0, 1) := by decide +kernel
theorem dL_law_282 : decode cL_law 282 = .ok (.iload_n 3, 1) := by decide +kernel
theorem dL_law_283 : decode cL_law 283 = .ok (.iconst 1, 1) := by decide +kernel
theorem dL_law_284 : decode cL_law 284 = .ok (.iadd, 1) := by decide +kernel
theorem dL_law_285 : decode cL_law 285 = .ok (.iaload, 1) := by decide +kernel
theorem dL_law_286 : decode cL_law 286 = .ok (.aload_n 0, 1) := by decide +kernel
theorem dL_law_287 : decode cL_law 287 = .ok (.iload_n 3, 1) := by decide +kernel
theorem dL_law_288 : decode cL_law 288 = .ok (.iconst 2, 1) := by decide +kernel
theorem dL_law_289 : decode cL_law 289 = .ok (.iadd, 1) := by decide +kernel
theorem dL_law_290 : decode cL_law 290 = .ok (.iaload, 1) := by decide +kernel
theorem dL_law_291 : decode cL_law 291 = .ok (.invokevirtual 26, 3) := by decide +kernel
theorem dL_law_294 : decode cL_law 294 = .ok (.lcmp, 1) := by decide +kernel
theorem dL_law_295 : decode cL_law 295 = .ok (.ifCond .eq 1039, 3) := by decide +kernel
theorem dL_law_298 : decode cL_law 298 = .ok (.iconst 0, 1) := by decide +kernel
theorem dL_law_299 : decode cL_law 299 = .ok (.ireturn, 1) := by decide +kernel
theorem dL_law_300 : decode cL_law 300 = .ok (.aload_n 1, 1) := by decide +kernel
theorem dL_law_301 : decode cL_law 301 = .ok (.aload_n 0, 1) := by decide +kernel
theorem dL_law_302 : decode cL_law 302 = .ok (.iload_n 3, 1) := by decide +kernel
theorem dL_law_303 : decode cL_law 303 = .ok (.iconst 1, 1) := by decide +kernel
theorem dL_law_304 : decode cL_law 304 = .ok (.iadd, 1) := by decide +kernel
theorem dL_law_305 : decode cL_law 305 = .ok (.iaload, 1) := by decide +kernel
theorem dL_law_306 : decode cL_law 306 = .ok (.aload_n 0, 1) := by decide +kernel
theorem dL_law_307 : decode cL_law 307 = .ok (.iload_n 3, 1) := by decide +kernel
theorem dL_law_308 : decode cL_law 308 = .ok (.iconst 2, 1) := by decide +kernel
theorem dL_law_309 : decode cL_law 309 = .ok (.iadd, 1) := by decide +kernel
theorem dL_law_310 : decode cL_law 310 = .ok (.iaload, 1) := by decide +kernel
theorem dL_law_311 : decode cL_law 311 = .ok (.invokevirtual 27, 3) := by decide +kernel
theorem dL_law_314 : decode cL_law 314 = .ok (.aload_n 2, 1) := by decide +kernel
theorem dL_law_315 : decode cL_law 315 = .ok (.aload_n 0, 1) := by decide +kernel
theorem dL_law_316 : decode cL_law 316 = .ok (.iload_n 3, 1) := by decide +kernel
theorem dL_law_317 : decode cL_law 317 = .ok (.iconst 1, 1) := by decide +kernel
theorem dL_law_318 : decode cL_law 318 = .ok (.iadd, 1) := by decide +kernel
theorem dL_law_319 : decode cL_law 319 = .ok (.iaload, 1) := by decide +kernel
theorem dL_law_320 : decode cL_law 320 = .ok (.aload_n 0, 1) := by decide +kernel
theorem dL_law_321 : decode cL_law 321 = .ok (.iload_n 3, 1) := by decide +kernel
theorem dL_law_322 : decode cL_law 322 = .ok (.iconst 2, 1) := by decide +kernel
theorem dL_law_323 : decode cL_law 323 = .ok (.iadd, 1) := by decide +kernel
theorem dL_law_324 : decode cL_law 324 = .ok (.iaload, 1) := by decide +kernel
theorem dL_law_325 : decode cL_law 325 = .ok (.invokevirtual 30, 3) := by decide +kernel
theorem dL_law_328 : decode cL_law 328 = .ok (.lcmp, 1) := by decide +kernel
theorem dL_law_329 : decode cL_law 329 = .ok (.ifCond .eq 1005, 3) := by decide +kernel
theorem dL_law_332 : decode cL_law 332 = .ok (.iconst 0, 1) := by decide +kernel
theorem dL_law_333 : decode cL_law 333 = .ok (.ireturn, 1) := by decide +kernel
theorem dL_law_334 : decode cL_law 334 = .ok (.aload_n 1, 1) := by decide +kernel
theorem dL_law_335 : decode cL_law 335 = .ok (.aload_n 0, 1) := by decide +kernel
theorem dL_law_336 : decode cL_law 336 = .ok (.iload_n 3, 1) := by decide +kernel
theorem dL_law_337 : decode cL_law 337 = .ok (.iconst 1, 1) := by decide +kernel
theorem dL_law_338 : decode cL_law 338 = .ok (.iadd, 1) := by decide +kernel
theorem dL_law_339 : decode cL_law 339 = .ok (.iaload, 1) := by decide +kernel
theorem dL_law_340 : decode cL_law 340 = .ok (.invokevirtual 31, 3) := by decide +kernel
theorem dL_law_343 : decode cL_law 343 = .ok (.aload_n 2, 1) := by decide +kernel
theorem dL_law_344 : decode cL_law 344 = .ok (.aload_n 0, 1) := by decide +kernel
theorem dL_law_345 : decode cL_law 345 = .ok (.iload_n 3, 1) := by decide +kernel
theorem dL_law_346 : decode cL_law 346 = .ok (.iconst 1, 1) := by decide +kernel
theorem dL_law_347 : decode cL_law 347 = .ok (.iadd, 1) := by decide +kernel
theorem dL_law_348 : decode cL_law 348 = .ok (.iaload, 1) := by decide +kernel
theorem dL_law_349 : decode cL_law 349 = .ok (.invokevirtual 35, 3) := by decide +kernel
theorem dL_law_352 : decode cL_law 352 = .ok (.lcmp, 1) := by decide +kernel
theorem dL_law_353 : decode cL_law 353 = .ok (.ifCond .eq 981, 3) := by decide +kernel
theorem dL_law_356 : decode cL_law 356 = .ok (.iconst 0, 1) := by decide +kernel
theorem dL_law_357 : decode cL_law 357 = .ok (.ireturn, 1) := by decide +kernel
theorem dL_law_358 : decode cL_law 358 = .ok (.aload_n 1, 1) := by decide +kernel
theorem dL_law_359 : decode cL_law 359 = .ok (.aload_n 0, 1) := by decide +kernel
theorem dL_law_360 : decode cL_law 360 = .ok (.iload_n 3, 1) := by decide +kernel
theorem dL_law_361 : decode cL_law 361 = .ok (.iconst 1, 1) := by decide +kernel
theorem dL_law_362 : decode cL_law 362 = .ok (.iadd, 1) := by decide +kernel
theorem dL_law_363 : decode cL_law 363 = .ok (.iaload, 1) := by decide +kernel
theorem dL_law_364 : decode cL_law 364 = .ok (.aload_n 0, 1) := by decide +kernel
theorem dL_law_365 : decode cL_law 365 = .ok (.iload_n 3, 1) := by decide +kernel
theorem dL_law_366 : decode cL_law 366 = .ok (.iconst 2, 1) := by decide +kernel
theorem dL_law_367 : decode cL_law 367 = .ok (.iadd, 1) := by decide +kernel
theorem dL_law_368 : decode cL_law 368 = .ok (.iaload, 1) := by decide +kernel
theorem dL_law_369 : decode cL_law 369 = .ok (.invokevirtual 36, 3) := by decide +kernel
theorem dL_law_372 : decode cL_law 372 = .ok (.aload_n 2, 1) := by decide +kernel
theorem dL_law_373 : decode cL_law 373 = .ok (.aload_n 0, 1) := by decide +kernel
theorem dL_law_374 : decode cL_law 374 = .ok (.iload_n 3, 1) := by decide +kernel
theorem dL_law_375 : decode cL_law 375 = .ok (.iconst 1, 1) := by decide +kernel
theorem dL_law_376 : decode cL_law 376 = .ok (.iadd, 1) := by decide +kernel
theorem dL_law_377 : decode cL_law 377 = .ok (.iaload, 1) := by decide +kernel
theorem dL_law_378 : decode cL_law 378 = .ok (.aload_n 0, 1) := by decide +kernel
theorem dL_law_379 : decode cL_law 379 = .ok (.iload_n 3, 1) := by decide +kernel
theorem dL_law_380 : decode cL_law 380 = .ok (.iconst 2, 1) := by decide +kernel
theorem dL_law_381 : decode cL_law 381 = .ok (.iadd, 1) := by decide +kernel
theorem dL_law_382 : decode cL_law 382 = .ok (.iaload, 1) := by decide +kernel
theorem dL_law_383 : decode cL_law 383 = .ok (.invokevirtual 39, 3) := by decide +kernel
theorem dL_law_386 : decode cL_law 386 = .ok (.lcmp, 1) := by decide +kernel
theorem dL_law_387 : decode cL_law 387 = .ok (.ifCond .eq 947, 3) := by decide +kernel
theorem dL_law_390 : decode cL_law 390 = .ok (.iconst 0, 1) := by decide +kernel
theorem dL_law_391 : decode cL_law 391 = .ok (.ireturn, 1) := by decide +kernel
theorem dL_law_392 : decode cL_law 392 = .ok (.aload_n 1, 1) := by decide +kernel
theorem dL_law_393 : decode cL_law 393 = .ok (.aload_n 0, 1) := by decide +kernel
theorem dL_law_394 : decode cL_law 394 = .ok (.iload_n 3, 1) := by decide +kernel
theorem dL_law_395 : decode cL_law 395 = .ok (.iconst 1, 1) := by decide +kernel
theorem dL_law_396 : decode cL_law 396 = .ok (.iadd, 1) := by decide +kernel
theorem dL_law_397 : decode cL_law 397 = .ok (.iaload, 1) := by decide +kernel
theorem dL_law_398 : decode cL_law 398 = .ok (.aload_n 0, 1) := by decide +kernel
theorem dL_law_399 : decode cL_law 399 = .ok (.iload_n 3, 1) := by decide +kernel
theorem dL_law_400 : decode cL_law 400 = .ok (.iconst 2, 1) := by decide +kernel
theorem dL_law_401 : decode cL_law 401 = .ok (.iadd, 1) := by decide +kernel
theorem dL_law_402 : decode cL_law 402 = .ok (.iaload, 1) := by decide +kernel
theorem dL_law_403 : decode cL_law 403 = .ok (.invokevirtual 40, 3) := by decide +kernel
theorem dL_law_406 : decode cL_law 406 = .ok (.aload_n 2, 1) := by decide +kernel
theorem dL_law_407 : decode cL_law 407 = .ok (.aload_n 0, 1) := by decide +kernel
theorem dL_law_408 : decode cL_law 408 = .ok (.iload_n 3, 1) := by decide +kernel
theorem dL_law_409 : decode cL_law 409 = .ok (.iconst 1, 1) := by decide +kernel
theorem dL_law_410 : decode cL_law 410 = .ok (.iadd, 1) := by decide +kernel
theorem dL_law_411 : decode cL_law 411 = .ok (.iaload, 1) := by decide +kernel
theorem dL_law_412 : decode cL_law 412 = .ok (.aload_n 0, 1) := by decide +kernel
theorem dL_law_413 : decode cL_law 413 = .ok (.iload_n 3, 1) := by decide +kernel
theorem dL_law_414 : decode cL_law 414 = .ok (.iconst 2, 1) := by decide +kernel
theorem dL_law_415 : decode cL_law 415 = .ok (.iadd, 1) := by decide +kernel
theorem dL_law_416 : decode cL_law 416 = .ok (.iaload, 1) := by decide +kernel
theorem dL_law_417 : decode cL_law 417 = .ok (.invokevirtual 43, 3) := by decide +kernel
theorem dL_law_420 : decode cL_law 420 = .ok (.lcmp, 1) := by decide +kernel
theorem dL_law_421 : decode cL_law 421 = .ok (.ifCond .eq 913, 3) := by decide +kernel
theorem dL_law_424 : decode cL_law 424 = .ok (.iconst 0, 1) := by decide +kernel
theorem dL_law_425 : decode cL_law 425 = .ok (.ireturn, 1) := by decide +kernel
theorem dL_law_426 : decode cL_law 426 = .ok (.aload_n 1, 1) := by decide +kernel
theorem dL_law_427 : decode cL_law 427 = .ok (.aload_n 0, 1) := by decide +kernel
theorem dL_law_428 : decode cL_law 428 = .ok (.iload_n 3, 1) := by decide +kernel
theorem dL_law_429 : decode cL_law 429 = .ok (.iconst 1, 1) := by decide +kernel
theorem dL_law_430 : decode cL_law 430 = .ok (.iadd, 1) := by decide +kernel
theorem dL_law_431 : decode cL_law 431 = .ok (.iaload, 1) := by decide +kernel
theorem dL_law_432 : decode cL_law 432 = .ok (.aload_n 0, 1) := by decide +kernel
theorem dL_law_433 : decode cL_law 433 = .ok (.iload_n 3, 1) := by decide +kernel
theorem dL_law_434 : decode cL_law 434 = .ok (.iconst 2, 1) := by decide +kernel
theorem dL_law_435 : decode cL_law 435 = .ok (.iadd, 1) := by decide +kernel
theorem dL_law_436 : decode cL_law 436 = .ok (.iaload, 1) := by decide +kernel
theorem dL_law_437 : decode cL_law 437 = .ok (.aload_n 0, 1) := by decide +kernel
theorem dL_law_438 : decode cL_law 438 = .ok (.iload_n 3, 1) := by decide +kernel
theorem dL_law_439 : decode cL_law 439 = .ok (.iconst 3, 1) := by decide +kernel
theorem dL_law_440 : decode cL_law 440 = .ok (.iadd, 1) := by decide +kernel
theorem dL_law_441 : decode cL_law 441 = .ok (.iaload, 1) := by decide +kernel
theorem dL_law_442 : decode cL_law 442 = .ok (.invokevirtual 44, 3) := by decide +kernel
theorem dL_law_445 : decode cL_law 445 = .ok (.aload_n 2, 1) := by decide +kernel
theorem dL_law_446 : decode cL_law 446 = .ok (.aload_n 0, 1) := by decide +kernel
theorem dL_law_447 : decode cL_law 447 = .ok (.iload_n 3, 1) := by decide +kernel
theorem dL_law_448 : decode cL_law 448 = .ok (.iconst 1, 1) := by decide +kernel
theorem dL_law_449 : decode cL_law 449 = .ok (.iadd, 1) := by decide +kernel
theorem dL_law_450 : decode cL_law 450 = .ok (.iaload, 1) := by decide +kernel
theorem dL_law_451 : decode cL_law 451 = .ok (.aload_n 0, 1) := by decide +kernel
theorem dL_law_452 : decode cL_law 452 = .ok (.iload_n 3, 1) := by decide +kernel
theorem dL_law_453 : decode cL_law 453 = .ok (.iconst 2, 1) := by decide +kernel
theorem dL_law_454 : decode cL_law 454 = .ok (.iadd, 1) := by decide +kernel
theorem dL_law_455 : decode cL_law 455 = .ok (.iaload, 1) := by decide +kernel
theorem dL_law_456 : decode cL_law 456 = .ok (.aload_n 0, 1) := by decide +kernel
theorem dL_law_457 : decode cL_law 457 = .ok (.iload_n 3, 1) := by decide +kernel
theorem dL_law_458 : decode cL_law 458 = .ok (.iconst 3, 1) := by decide +kernel
theorem dL_law_459 : decode cL_law 459 = .ok (.iadd, 1) := by decide +kernel
theorem dL_law_460 : decode cL_law 460 = .ok (.iaload, 1) := by decide +kernel
theorem dL_law_461 : decode cL_law 461 = .ok (.invokevirtual 47, 3) := by decide +kernel
theorem dL_law_464 : decode cL_law 464 = .ok (.lcmp, 1) := by decide +kernel
theorem dL_law_465 : decode cL_law 465 = .ok (.ifCond .eq 869, 3) := by decide +kernel
theorem dL_law_468 : decode cL_law 468 = .ok (.iconst 0, 1) := by decide +kernel
theorem dL_law_469 : decode cL_law 469 = .ok (.ireturn, 1) := by decide +kernel
theorem dL_law_470 : decode cL_law 470 = .ok (.aload_n 1, 1) := by decide +kernel
theorem dL_law_471 : decode cL_law 471 = .ok (.aload_n 0, 1) := by decide +kernel
theorem dL_law_472 : decode cL_law 472 = .ok (.iload_n 3, 1) := by decide +kernel
theorem dL_law_473 : decode cL_law 473 = .ok (.iconst 1, 1) := by decide +kernel
theorem dL_law_474 : decode cL_law 474 = .ok (.iadd, 1) := by decide +kernel
theorem dL_law_475 : decode cL_law 475 = .ok (.iaload, 1) := by decide +kernel
theorem dL_law_476 : decode cL_law 476 = .ok (.aload_n 0, 1) := by decide +kernel
theorem dL_law_477 : decode cL_law 477 = .ok (.iload_n 3, 1) := by decide +kernel
theorem dL_law_478 : decode cL_law 478 = .ok (.iconst 2, 1) := by decide +kernel
theorem dL_law_479 : decode cL_law 479 = .ok (.iadd, 1) := by decide +kernel
theorem dL_law_480 : decode cL_law 480 = .ok (.iaload, 1) := by decide +kernel
theorem dL_law_481 : decode cL_law 481 = .ok (.invokevirtual 48, 3) := by decide +kernel
theorem dL_law_484 : decode cL_law 484 = .ok (.aload_n 2, 1) := by decide +kernel
theorem dL_law_485 : decode cL_law 485 = .ok (.aload_n 0, 1) := by decide +kernel
theorem dL_law_486 : decode cL_law 486 = .ok (.iload_n 3, 1) := by decide +kernel
theorem dL_law_487 : decode cL_law 487 = .ok (.iconst 1, 1) := by decide +kernel
theorem dL_law_488 : decode cL_law 488 = .ok (.iadd, 1) := by decide +kernel
theorem dL_law_489 : decode cL_law 489 = .ok (.iaload, 1) := by decide +kernel
theorem dL_law_490 : decode cL_law 490 = .ok (.aload_n 0, 1) := by decide +kernel
theorem dL_law_491 : decode cL_law 491 = .ok (.iload_n 3, 1) := by decide +kernel
theorem dL_law_492 : decode cL_law 492 = .ok (.iconst 2, 1) := by decide +kernel
theorem dL_law_493 : decode cL_law 493 = .ok (.iadd, 1) := by decide +kernel
theorem dL_law_494 : decode cL_law 494 = .ok (.iaload, 1) := by decide +kernel
theorem dL_law_495 : decode cL_law 495 = .ok (.invokevirtual 51, 3) := by decide +kernel
theorem dL_law_498 : decode cL_law 498 = .ok (.lcmp, 1) := by decide +kernel
theorem dL_law_499 : decode cL_law 499 = .ok (.ifCond .eq 835, 3) := by decide +kernel
theorem dL_law_502 : decode cL_law 502 = .ok (.iconst 0, 1) := by decide +kernel
theorem dL_law_503 : decode cL_law 503 = .ok (.ireturn, 1) := by decide +kernel
theorem dL_law_504 : decode cL_law 504 = .ok (.aload_n 1, 1) := by decide +kernel
theorem dL_law_505 : decode cL_law 505 = .ok (.aload_n 0, 1) := by decide +kernel
theorem dL_law_506 : decode cL_law 506 = .ok (.iload_n 3, 1) := by decide +kernel
theorem dL_law_507 : decode cL_law 507 = .ok (.iconst 1, 1) := by decide +kernel
theorem dL_law_508 : decode cL_law 508 = .ok (.iadd, 1) := by decide +kernel
theorem dL_law_509 : decode cL_law 509 = .ok (.iaload, 1) := by decide +kernel
theorem dL_law_510 : decode cL_law 510 = .ok (.invokevirtual 52, 3) := by decide +kernel
theorem dL_law_513 : decode cL_law 513 = .ok (.aload_n 2, 1) := by decide +kernel
theorem dL_law_514 : decode cL_law 514 = .ok (.aload_n 0, 1) := by decide +kernel
theorem dL_law_515 : decode cL_law 515 = .ok (.iload_n 3, 1) := by decide +kernel
theorem dL_law_516 : decode cL_law 516 = .ok (.iconst 1, 1) := by decide +kernel
theorem dL_law_517 : decode cL_law 517 = .ok (.iadd, 1) := by decide +kernel
theorem dL_law_518 : decode cL_law 518 = .ok (.iaload, 1) := by decide +kernel
theorem dL_law_519 : decode cL_law 519 = .ok (.invokevirtual 55, 3) := by decide +kernel
theorem dL_law_522 : decode cL_law 522 = .ok (.lcmp, 1) := by decide +kernel
theorem dL_law_523 : decode cL_law 523 = .ok (.ifCond .eq 811, 3) := by decide +kernel
theorem dL_law_526 : decode cL_law 526 = .ok (.iconst 0, 1) := by decide +kernel
theorem dL_law_527 : decode cL_law 527 = .ok (.ireturn, 1) := by decide +kernel
theorem dL_law_528 : decode cL_law 528 = .ok (.aload_n 1, 1) := by decide +kernel
theorem dL_law_529 : decode cL_law 529 = .ok (.invokevirtual 56, 3) := by decide +kernel
theorem dL_law_532 : decode cL_law 532 = .ok (.aload_n 2, 1) := by decide +kernel
theorem dL_law_533 : decode cL_law 533 = .ok (.invokevirtual 60, 3) := by decide +kernel
theorem dL_law_536 : decode cL_law 536 = .ok (.lcmp, 1) := by decide +kernel
theorem dL_law_537 : decode cL_law 537 = .ok (.ifCond .eq 797, 3) := by decide +kernel
theorem dL_law_540 : decode cL_law 540 = .ok (.iconst 0, 1) := by decide +kernel
theorem dL_law_541 : decode cL_law 541 = .ok (.ireturn, 1) := by decide +kernel
theorem dL_law_542 : decode cL_law 542 = .ok (.aload_n 1, 1) := by decide +kernel
theorem dL_law_543 : decode cL_law 543 = .ok (.aload_n 0, 1) := by decide +kernel
theorem dL_law_544 : decode cL_law 544 = .ok (.iload_n 3, 1) := by decide +kernel
theorem dL_law_545 : decode cL_law 545 = .ok (.iconst 1, 1) := by decide +kernel
theorem dL_law_546 : decode cL_law 546 = .ok (.iadd, 1) := by decide +kernel
theorem dL_law_547 : decode cL_law 547 = .ok (.iaload, 1) := by decide +kernel
theorem dL_law_548 : decode cL_law 548 = .ok (.aload_n 0, 1) := by decide +kernel
theorem dL_law_549 : decode cL_law 549 = .ok (.iload_n 3, 1) := by decide +kernel
theorem dL_law_550 : decode cL_law 550 = .ok (.iconst 2, 1) := by decide +kernel
theorem dL_law_551 : decode cL_law 551 = .ok (.iadd, 1) := by decide +kernel
theorem dL_law_552 : decode cL_law 552 = .ok (.iaload, 1) := by decide +kernel
theorem dL_law_553 : decode cL_law 553 = .ok (.ifCond .eq 7, 3) := by decide +kernel
theorem dL_law_556 : decode cL_law 556 = .ok (.iconst 1, 1) := by decide +kernel
theorem dL_law_557 : decode cL_law 557 = .ok (.goto 4, 3) := by decide +kernel
theorem dL_law_560 : decode cL_law 560 = .ok (.iconst 0, 1) := by decide +kernel
theorem dL_law_561 : decode cL_law 561 = .ok (.invokevirtual 61, 3) := by decide +kernel
theorem dL_law_564 : decode cL_law 564 = .ok (.aload_n 2, 1) := by decide +kernel
theorem dL_law_565 : decode cL_law 565 = .ok (.aload_n 0, 1) := by decide +kernel
theorem dL_law_566 : decode cL_law 566 = .ok (.iload_n 3, 1) := by decide +kernel
theorem dL_law_567 : decode cL_law 567 = .ok (.iconst 1, 1) := by decide +kernel
theorem dL_law_568 : decode cL_law 568 = .ok (.iadd, 1) := by decide +kernel
theorem dL_law_569 : decode cL_law 569 = .ok (.iaload, 1) := by decide +kernel
theorem dL_law_570 : decode cL_law 570 = .ok (.aload_n 0, 1) := by decide +kernel
theorem dL_law_571 : decode cL_law 571 = .ok (.iload_n 3, 1) := by decide +kernel
theorem dL_law_572 : decode cL_law 572 = .ok (.iconst 2, 1) := by decide +kernel
theorem dL_law_573 : decode cL_law 573 = .ok (.iadd, 1) := by decide +kernel
theorem dL_law_574 : decode cL_law 574 = .ok (.iaload, 1) := by decide +kernel
theorem dL_law_575 : decode cL_law 575 = .ok (.ifCond .eq 7, 3) := by decide +kernel
theorem dL_law_578 : decode cL_law 578 = .ok (.iconst 1, 1) := by decide +kernel
theorem dL_law_579 : decode cL_law 579 = .ok (.goto 4, 3) := by decide +kernel
theorem dL_law_582 : decode cL_law 582 = .ok (.iconst 0, 1) := by decide +kernel
theorem dL_law_583 : decode cL_law 583 = .ok (.invokevirtual 65, 3) := by decide +kernel
theorem dL_law_586 : decode cL_law 586 = .ok (.lcmp, 1) := by decide +kernel
theorem dL_law_587 : decode cL_law 587 = .ok (.ifCond .eq 747, 3) := by decide +kernel
theorem dL_law_590 : decode cL_law 590 = .ok (.iconst 0, 1) := by decide +kernel
theorem dL_law_591 : decode cL_law 591 = .ok (.ireturn, 1) := by decide +kernel
theorem dL_law_592 : decode cL_law 592 = .ok (.aload_n 1, 1) := by decide +kernel
theorem dL_law_593 : decode cL_law 593 = .ok (.aload_n 0, 1) := by decide +kernel
theorem dL_law_594 : decode cL_law 594 = .ok (.iload_n 3, 1) := by decide +kernel
theorem dL_law_595 : decode cL_law 595 = .ok (.iconst 1, 1) := by decide +kernel
theorem dL_law_596 : decode cL_law 596 = .ok (.iadd, 1) := by decide +kernel
theorem dL_law_597 : decode cL_law 597 = .ok (.iaload, 1) := by decide +kernel
theorem dL_law_598 : decode cL_law 598 = .ok (.aload_n 0, 1) := by decide +kernel
theorem dL_law_599 : decode cL_law 599 = .ok (.iload_n 3, 1) := by decide +kernel
theorem dL_law_600 : decode cL_law 600 = .ok (.iconst 2, 1) := by decide +kernel
theorem dL_law_601 : decode cL_law 601 = .ok (.iadd, 1) := by decide +kernel
theorem dL_law_602 : decode cL_law 602 = .ok (.iaload, 1) := by decide +kernel
theorem dL_law_603 : decode cL_law 603 = .ok (.ifCond .eq 7, 3) := by decide +kernel
theorem dL_law_606 : decode cL_law 606 = .ok (.iconst 1, 1) := by decide +kernel
theorem dL_law_607 : decode cL_law 607 = .ok (.goto 4, 3) := by decide +kernel
theorem dL_law_610 : decode cL_law 610 = .ok (.iconst 0, 1) := by decide +kernel
theorem dL_law_611 : decode cL_law 611 = .ok (.invokevirtual 66, 3) := by decide +kernel
theorem dL_law_614 : decode cL_law 614 = .ok (.aload_n 2, 1) := by decide +kernel
theorem dL_law_615 : decode cL_law 615 = .ok (.aload_n 0, 1) := by decide +kernel
theorem dL_law_616 : decode cL_law 616 = .ok (.iload_n 3, 1) := by decide +kernel
theorem dL_law_617 : decode cL_law 617 = .ok (.iconst 1, 1) := by decide +kernel
theorem dL_law_618 : decode cL_law 618 = .ok (.iadd, 1) := by decide +kernel
theorem dL_law_619 : decode cL_law 619 = .ok (.iaload, 1) := by decide +kernel
theorem dL_law_620 : decode cL_law 620 = .ok (.aload_n 0, 1) := by decide +kernel
theorem dL_law_621 : decode cL_law 621 = .ok (.iload_n 3, 1) := by decide +kernel
theorem dL_law_622 : decode cL_law 622 = .ok (.iconst 2, 1) := by decide +kernel
theorem dL_law_623 : decode cL_law 623 = .ok (.iadd, 1) := by decide +kernel
theorem dL_law_624 : decode cL_law 624 = .ok (.iaload, 1) := by decide +kernel
theorem dL_law_625 : decode cL_law 625 = .ok (.ifCond .eq 7, 3) := by decide +kernel
theorem dL_law_628 : decode cL_law 628 = .ok (.iconst 1, 1) := by decide +kernel
theorem dL_law_629 : decode cL_law 629 = .ok (.goto 4, 3) := by decide +kernel
theorem dL_law_632 : decode cL_law 632 = .ok (.iconst 0, 1) := by decide +kernel
theorem dL_law_633 : decode cL_law 633 = .ok (.invokevirtual 69, 3) := by decide +kernel
theorem dL_law_636 : decode cL_law 636 = .ok (.lcmp, 1) := by decide +kernel
theorem dL_law_637 : decode cL_law 637 = .ok (.ifCond .eq 697, 3) := by decide +kernel
theorem dL_law_640 : decode cL_law 640 = .ok (.iconst 0, 1) := by decide +kernel
theorem dL_law_641 : decode cL_law 641 = .ok (.ireturn, 1) := by decide +kernel
theorem dL_law_642 : decode cL_law 642 = .ok (.aload_n 1, 1) := by decide +kernel
theorem dL_law_643 : decode cL_law 643 = .ok (.aload_n 0, 1) := by decide +kernel
theorem dL_law_644 : decode cL_law 644 = .ok (.iload_n 3, 1) := by decide +kernel
theorem dL_law_645 : decode cL_law 645 = .ok (.iconst 1, 1) := by decide +kernel
theorem dL_law_646 : decode cL_law 646 = .ok (.iadd, 1) := by decide +kernel
theorem dL_law_647 : decode cL_law 647 = .ok (.iaload, 1) := by decide +kernel
theorem dL_law_648 : decode cL_law 648 = .ok (.ifCond .eq 7, 3) := by decide +kernel
theorem dL_law_651 : decode cL_law 651 = .ok (.iconst 1, 1) := by decide +kernel
theorem dL_law_652 : decode cL_law 652 = .ok (.goto 4, 3) := by decide +kernel
theorem dL_law_655 : decode cL_law 655 = .ok (.iconst 0, 1) := by decide +kernel
theorem dL_law_656 : decode cL_law 656 = .ok (.invokevirtual 70, 3) := by decide +kernel
theorem dL_law_659 : decode cL_law 659 = .ok (.aload_n 2, 1) := by decide +kernel
theorem dL_law_660 : decode cL_law 660 = .ok (.aload_n 0, 1) := by decide +kernel
theorem dL_law_661 : decode cL_law 661 = .ok (.iload_n 3, 1) := by decide +kernel
theorem dL_law_662 : decode cL_law 662 = .ok (.iconst 1, 1) := by decide +kernel
theorem dL_law_663 : decode cL_law 663 = .ok (.iadd, 1) := by decide +kernel
theorem dL_law_664 : decode cL_law 664 = .ok (.iaload, 1) := by decide +kernel
theorem dL_law_665 : decode cL_law 665 = .ok (.ifCond .eq 7, 3) := by decide +kernel
theorem dL_law_668 : decode cL_law 668 = .ok (.iconst 1, 1) := by decide +kernel
theorem dL_law_669 : decode cL_law 669 = .ok (.goto 4, 3) := by decide +kernel
theorem dL_law_672 : decode cL_law 672 = .ok (.iconst 0, 1) := by decide +kernel
theorem dL_law_673 : decode cL_law 673 = .ok (.invokevirtual 74, 3) := by decide +kernel
theorem dL_law_676 : decode cL_law 676 = .ok (.lcmp, 1) := by decide +kernel
theorem dL_law_677 : decode cL_law 677 = .ok (.ifCond .eq 657, 3) := by decide +kernel
theorem dL_law_680 : decode cL_law 680 = .ok (.iconst 0, 1) := by decide +kernel
theorem dL_law_681 : decode cL_law 681 = .ok (.ireturn, 1) := by decide +kernel
theorem dL_law_682 : decode cL_law 682 = .ok (.aload_n 1, 1) := by decide +kernel
theorem dL_law_683 : decode cL_law 683 = .ok (.aload_n 0, 1) := by decide +kernel
theorem dL_law_684 : decode cL_law 684 = .ok (.iload_n 3, 1) := by decide +kernel
theorem dL_law_685 : decode cL_law 685 = .ok (.iconst 1, 1) := by decide +kernel
theorem dL_law_686 : decode cL_law 686 = .ok (.iadd, 1) := by decide +kernel
theorem dL_law_687 : decode cL_law 687 = .ok (.iaload, 1) := by decide +kernel
theorem dL_law_688 : decode cL_law 688 = .ok (.aload_n 0, 1) := by decide +kernel
theorem dL_law_689 : decode cL_law 689 = .ok (.iload_n 3, 1) := by decide +kernel
theorem dL_law_690 : decode cL_law 690 = .ok (.iconst 2, 1) := by decide +kernel
theorem dL_law_691 : decode cL_law 691 = .ok (.iadd, 1) := by decide +kernel
theorem dL_law_692 : decode cL_law 692 = .ok (.iaload, 1) := by decide +kernel
theorem dL_law_693 : decode cL_law 693 = .ok (.ifCond .eq 7, 3) := by decide +kernel
theorem dL_law_696 : decode cL_law 696 = .ok (.iconst 1, 1) := by decide +kernel
theorem dL_law_697 : decode cL_law 697 = .ok (.goto 4, 3) := by decide +kernel
theorem dL_law_700 : decode cL_law 700 = .ok (.iconst 0, 1) := by decide +kernel
theorem dL_law_701 : decode cL_law 701 = .ok (.invokevirtual 75, 3) := by decide +kernel
theorem dL_law_704 : decode cL_law 704 = .ok (.aload_n 2, 1) := by decide +kernel
theorem dL_law_705 : decode cL_law 705 = .ok (.aload_n 0, 1) := by decide +kernel
theorem dL_law_706 : decode cL_law 706 = .ok (.iload_n 3, 1) := by decide +kernel
theorem dL_law_707 : decode cL_law 707 = .ok (.iconst 1, 1) := by decide +kernel
theorem dL_law_708 : decode cL_law 708 = .ok (.iadd, 1) := by decide +kernel
theorem dL_law_709 : decode cL_law 709 = .ok (.iaload, 1) := by decide +kernel
theorem dL_law_710 : decode cL_law 710 = .ok (.aload_n 0, 1) := by decide +kernel
theorem dL_law_711 : decode cL_law 711 = .ok (.iload_n 3, 1) := by decide +kernel
theorem dL_law_712 : decode cL_law 712 = .ok (.iconst 2, 1) := by decide +kernel
theorem dL_law_713 : decode cL_law 713 = .ok (.iadd, 1) := by decide +kernel
theorem dL_law_714 : decode cL_law 714 = .ok (.iaload, 1) := by decide +kernel
theorem dL_law_715 : decode cL_law 715 = .ok (.ifCond .eq 7, 3) := by decide +kernel
theorem dL_law_718 : decode cL_law 718 = .ok (.iconst 1, 1) := by decide +kernel
theorem dL_law_719 : decode cL_law 719 = .ok (.goto 4, 3) := by decide +kernel
theorem dL_law_722 : decode cL_law 722 = .ok (.iconst 0, 1) := by decide +kernel
theorem dL_law_723 : decode cL_law 723 = .ok (.invokevirtual 78, 3) := by decide +kernel
theorem dL_law_726 : decode cL_law 726 = .ok (.lcmp, 1) := by decide +kernel
theorem dL_law_727 : decode cL_law 727 = .ok (.ifCond .eq 607, 3) := by decide +kernel
theorem dL_law_730 : decode cL_law 730 = .ok (.iconst 0, 1) := by decide +kernel
theorem dL_law_731 : decode cL_law 731 = .ok (.ireturn, 1) := by decide +kernel
theorem dL_law_732 : decode cL_law 732 = .ok (.aload_n 1, 1) := by decide +kernel
theorem dL_law_733 : decode cL_law 733 = .ok (.invokevirtual 79, 3) := by decide +kernel
theorem dL_law_736 : decode cL_law 736 = .ok (.aload_n 2, 1) := by decide +kernel
theorem dL_law_737 : decode cL_law 737 = .ok (.invokevirtual 82, 3) := by decide +kernel
theorem dL_law_740 : decode cL_law 740 = .ok (.lcmp, 1) := by decide +kernel
theorem dL_law_741 : decode cL_law 741 = .ok (.ifCond .eq 593, 3) := by decide +kernel
theorem dL_law_744 : decode cL_law 744 = .ok (.iconst 0, 1) := by decide +kernel
theorem dL_law_745 : decode cL_law 745 = .ok (.ireturn, 1) := by decide +kernel
theorem dL_law_746 : decode cL_law 746 = .ok (.aload_n 1, 1) := by decide +kernel
theorem dL_law_747 : decode cL_law 747 = .ok (.aload_n 0, 1) := by decide +kernel
theorem dL_law_748 : decode cL_law 748 = .ok (.iload_n 3, 1) := by decide +kernel
theorem dL_law_749 : decode cL_law 749 = .ok (.iconst 1, 1) := by decide +kernel
theorem dL_law_750 : decode cL_law 750 = .ok (.iadd, 1) := by decide +kernel
theorem dL_law_751 : decode cL_law 751 = .ok (.iaload, 1) := by decide +kernel
theorem dL_law_752 : decode cL_law 752 = .ok (.invokevirtual 83, 3) := by decide +kernel
theorem dL_law_755 : decode cL_law 755 = .ok (.aload_n 2, 1) := by decide +kernel
theorem dL_law_756 : decode cL_law 756 = .ok (.aload_n 0, 1) := by decide +kernel
theorem dL_law_757 : decode cL_law 757 = .ok (.iload_n 3, 1) := by decide +kernel
theorem dL_law_758 : decode cL_law 758 = .ok (.iconst 1, 1) := by decide +kernel
theorem dL_law_759 : decode cL_law 759 = .ok (.iadd, 1) := by decide +kernel
theorem dL_law_760 : decode cL_law 760 = .ok (.iaload, 1) := by decide +kernel
theorem dL_law_761 : decode cL_law 761 = .ok (.invokevirtual 86, 3) := by decide +kernel
theorem dL_law_764 : decode cL_law 764 = .ok (.lcmp, 1) := by decide +kernel
theorem dL_law_765 : decode cL_law 765 = .ok (.ifCond .eq 569, 3) := by decide +kernel
theorem dL_law_768 : decode cL_law 768 = .ok (.iconst 0, 1) := by decide +kernel
theorem dL_law_769 : decode cL_law 769 = .ok (.ireturn, 1) := by decide +kernel
theorem dL_law_770 : decode cL_law 770 = .ok (.aload_n 1, 1) := by decide +kernel
theorem dL_law_771 : decode cL_law 771 = .ok (.aload_n 0, 1) := by decide +kernel
theorem dL_law_772 : decode cL_law 772 = .ok (.iload_n 3, 1) := by decide +kernel
theorem dL_law_773 : decode cL_law 773 = .ok (.iconst 1, 1) := by decide +kernel
theorem dL_law_774 : decode cL_law 774 = .ok (.iadd, 1) := by decide +kernel
theorem dL_law_775 : decode cL_law 775 = .ok (.iaload, 1) := by decide +kernel
theorem dL_law_776 : decode cL_law 776 = .ok (.aload_n 0, 1) := by decide +kernel
theorem dL_law_777 : decode cL_law 777 = .ok (.iload_n 3, 1) := by decide +kernel
theorem dL_law_778 : decode cL_law 778 = .ok (.iconst 2, 1) := by decide +kernel
theorem dL_law_779 : decode cL_law 779 = .ok (.iadd, 1) := by decide +kernel
theorem dL_law_780 : decode cL_law 780 = .ok (.iaload, 1) := by decide +kernel
theorem dL_law_781 : decode cL_law 781 = .ok (.ifCond .eq 7, 3) := by decide +kernel
theorem dL_law_784 : decode cL_law 784 = .ok (.iconst 1, 1) := by decide +kernel
theorem dL_law_785 : decode cL_law 785 = .ok (.goto 4, 3) := by decide +kernel
theorem dL_law_788 : decode cL_law 788 = .ok (.iconst 0, 1) := by decide +kernel
theorem dL_law_789 : decode cL_law 789 = .ok (.aload_n 0, 1) := by decide +kernel
theorem dL_law_790 : decode cL_law 790 = .ok (.iload_n 3, 1) := by decide +kernel
theorem dL_law_791 : decode cL_law 791 = .ok (.iconst 3, 1) := by decide +kernel
theorem dL_law_792 : decode cL_law 792 = .ok (.iadd, 1) := by decide +kernel
theorem dL_law_793 : decode cL_law 793 = .ok (.iaload, 1) := by decide +kernel
theorem dL_law_794 : decode cL_law 794 = .ok (.ifCond .eq 7, 3) := by decide +kernel
theorem dL_law_797 : decode cL_law 797 = .ok (.iconst 1, 1) := by decide +kernel
theorem dL_law_798 : decode cL_law 798 = .ok (.goto 4, 3) := by decide +kernel
theorem dL_law_801 : decode cL_law 801 = .ok (.iconst 0, 1) := by decide +kernel
theorem dL_law_802 : decode cL_law 802 = .ok (.invokevirtual 87, 3) := by decide +kernel
theorem dL_law_805 : decode cL_law 805 = .ok (.aload_n 2, 1) := by decide +kernel
theorem dL_law_806 : decode cL_law 806 = .ok (.aload_n 0, 1) := by decide +kernel
theorem dL_law_807 : decode cL_law 807 = .ok (.iload_n 3, 1) := by decide +kernel
theorem dL_law_808 : decode cL_law 808 = .ok (.iconst 1, 1) := by decide +kernel
theorem dL_law_809 : decode cL_law 809 = .ok (.iadd, 1) := by decide +kernel
theorem dL_law_810 : decode cL_law 810 = .ok (.iaload, 1) := by decide +kernel
theorem dL_law_811 : decode cL_law 811 = .ok (.aload_n 0, 1) := by decide +kernel
theorem dL_law_812 : decode cL_law 812 = .ok (.iload_n 3, 1) := by decide +kernel
theorem dL_law_813 : decode cL_law 813 = .ok (.iconst 2, 1) := by decide +kernel
theorem dL_law_814 : decode cL_law 814 = .ok (.iadd, 1) := by decide +kernel
theorem dL_law_815 : decode cL_law 815 = .ok (.iaload, 1) := by decide +kernel
theorem dL_law_816 : decode cL_law 816 = .ok (.ifCond .eq 7, 3) := by decide +kernel
theorem dL_law_819 : decode cL_law 819 = .ok (.iconst 1, 1) := by decide +kernel
theorem dL_law_820 : decode cL_law 820 = .ok (.goto 4, 3) := by decide +kernel
theorem dL_law_823 : decode cL_law 823 = .ok (.iconst 0, 1) := by decide +kernel
theorem dL_law_824 : decode cL_law 824 = .ok (.aload_n 0, 1) := by decide +kernel
theorem dL_law_825 : decode cL_law 825 = .ok (.iload_n 3, 1) := by decide +kernel
theorem dL_law_826 : decode cL_law 826 = .ok (.iconst 3, 1) := by decide +kernel
theorem dL_law_827 : decode cL_law 827 = .ok (.iadd, 1) := by decide +kernel
theorem dL_law_828 : decode cL_law 828 = .ok (.iaload, 1) := by decide +kernel
theorem dL_law_829 : decode cL_law 829 = .ok (.ifCond .eq 7, 3) := by decide +kernel
theorem dL_law_832 : decode cL_law 832 = .ok (.iconst 1, 1) := by decide +kernel
end
section
theorem dL_law_833 : decode cL_law 833 = .ok (.goto 4, 3) := by decide +kernel
theorem dL_law_836 : decode cL_law 836 = .ok (.iconst 0, 1) := by decide +kernel
theorem dL_law_837 : decode cL_law 837 = .ok (.invokevirtual 91, 3) := by decide +kernel
theorem dL_law_840 : decode cL_law 840 = .ok (.lcmp, 1) := by decide +kernel
theorem dL_law_841 : decode cL_law 841 = .ok (.ifCond .eq 493, 3) := by decide +kernel
theorem dL_law_844 : decode cL_law 844 = .ok (.iconst 0, 1) := by decide +kernel
theorem dL_law_845 : decode cL_law 845 = .ok (.ireturn, 1) := by decide +kernel
theorem dL_law_846 : decode cL_law 846 = .ok (.aload_n 1, 1) := by decide +kernel
theorem dL_law_847 : decode cL_law 847 = .ok (.invokevirtual 92, 3) := by decide +kernel
theorem dL_law_850 : decode cL_law 850 = .ok (.aload_n 2, 1) := by decide +kernel
theorem dL_law_851 : decode cL_law 851 = .ok (.invokevirtual 95, 3) := by decide +kernel
theorem dL_law_854 : decode cL_law 854 = .ok (.lcmp, 1) := by decide +kernel
theorem dL_law_855 : decode cL_law 855 = .ok (.ifCond .eq 479, 3) := by decide +kernel
theorem dL_law_858 : decode cL_law 858 = .ok (.iconst 0, 1) := by decide +kernel
theorem dL_law_859 : decode cL_law 859 = .ok (.ireturn, 1) := by decide +kernel
theorem dL_law_860 : decode cL_law 860 = .ok (.aload_n 1, 1) := by decide +kernel
theorem dL_law_861 : decode cL_law 861 = .ok (.aload_n 0, 1) := by decide +kernel
theorem dL_law_862 : decode cL_law 862 = .ok (.iload_n 3, 1) := by decide +kernel
theorem dL_law_863 : decode cL_law 863 = .ok (.iconst 1, 1) := by decide +kernel
theorem dL_law_864 : decode cL_law 864 = .ok (.iadd, 1) := by decide +kernel
theorem dL_law_865 : decode cL_law 865 = .ok (.iaload, 1) := by decide +kernel
theorem dL_law_866 : decode cL_law 866 = .ok (.aload_n 0, 1) := by decide +kernel
theorem dL_law_867 : decode cL_law 867 = .ok (.iload_n 3, 1) := by decide +kernel
theorem dL_law_868 : decode cL_law 868 = .ok (.iconst 2, 1) := by decide +kernel
theorem dL_law_869 : decode cL_law 869 = .ok (.iadd, 1) := by decide +kernel
theorem dL_law_870 : decode cL_law 870 = .ok (.iaload, 1) := by decide +kernel
theorem dL_law_871 : decode cL_law 871 = .ok (.invokevirtual 96, 3) := by decide +kernel
theorem dL_law_874 : decode cL_law 874 = .ok (.aload_n 2, 1) := by decide +kernel
theorem dL_law_875 : decode cL_law 875 = .ok (.aload_n 0, 1) := by decide +kernel
theorem dL_law_876 : decode cL_law 876 = .ok (.iload_n 3, 1) := by decide +kernel
theorem dL_law_877 : decode cL_law 877 = .ok (.iconst 1, 1) := by decide +kernel
theorem dL_law_878 : decode cL_law 878 = .ok (.iadd, 1) := by decide +kernel
theorem dL_law_879 : decode cL_law 879 = .ok (.iaload, 1) := by decide +kernel
theorem dL_law_880 : decode cL_law 880 = .ok (.aload_n 0, 1) := by decide +kernel
theorem dL_law_881 : decode cL_law 881 = .ok (.iload_n 3, 1) := by decide +kernel
theorem dL_law_882 : decode cL_law 882 = .ok (.iconst 2, 1) := by decide +kernel
theorem dL_law_883 : decode cL_law 883 = .ok (.iadd, 1) := by decide +kernel
theorem dL_law_884 : decode cL_law 884 = .ok (.iaload, 1) := by decide +kernel
theorem dL_law_885 : decode cL_law 885 = .ok (.invokevirtual 99, 3) := by decide +kernel
theorem dL_law_888 : decode cL_law 888 = .ok (.lcmp, 1) := by decide +kernel
theorem dL_law_889 : decode cL_law 889 = .ok (.ifCond .eq 445, 3) := by decide +kernel
theorem dL_law_892 : decode cL_law 892 = .ok (.iconst 0, 1) := by decide +kernel
theorem dL_law_893 : decode cL_law 893 = .ok (.ireturn, 1) := by decide +kernel
theorem dL_law_894 : decode cL_law 894 = .ok (.aload_n 1, 1) := by decide +kernel
theorem dL_law_895 : decode cL_law 895 = .ok (.aload_n 0, 1) := by decide +kernel
theorem dL_law_896 : decode cL_law 896 = .ok (.iload_n 3, 1) := by decide +kernel
theorem dL_law_897 : decode cL_law 897 = .ok (.iconst 1, 1) := by decide +kernel
theorem dL_law_898 : decode cL_law 898 = .ok (.iadd, 1) := by decide +kernel
theorem dL_law_899 : decode cL_law 899 = .ok (.iaload, 1) := by decide +kernel
theorem dL_law_900 : decode cL_law 900 = .ok (.aload_n 0, 1) := by decide +kernel
theorem dL_law_901 : decode cL_law 901 = .ok (.iload_n 3, 1) := by decide +kernel
theorem dL_law_902 : decode cL_law 902 = .ok (.iconst 2, 1) := by decide +kernel
theorem dL_law_903 : decode cL_law 903 = .ok (.iadd, 1) := by decide +kernel
theorem dL_law_904 : decode cL_law 904 = .ok (.iaload, 1) := by decide +kernel
theorem dL_law_905 : decode cL_law 905 = .ok (.aload_n 0, 1) := by decide +kernel
theorem dL_law_906 : decode cL_law 906 = .ok (.iload_n 3, 1) := by decide +kernel
theorem dL_law_907 : decode cL_law 907 = .ok (.iconst 3, 1) := by decide +kernel
theorem dL_law_908 : decode cL_law 908 = .ok (.iadd, 1) := by decide +kernel
theorem dL_law_909 : decode cL_law 909 = .ok (.iaload, 1) := by decide +kernel
theorem dL_law_910 : decode cL_law 910 = .ok (.invokevirtual 100, 3) := by decide +kernel
theorem dL_law_913 : decode cL_law 913 = .ok (.aload_n 2, 1) := by decide +kernel
theorem dL_law_914 : decode cL_law 914 = .ok (.aload_n 0, 1) := by decide +kernel
theorem dL_law_915 : decode cL_law 915 = .ok (.iload_n 3, 1) := by decide +kernel
theorem dL_law_916 : decode cL_law 916 = .ok (.iconst 1, 1) := by decide +kernel
theorem dL_law_917 : decode cL_law 917 = .ok (.iadd, 1) := by decide +kernel
theorem dL_law_918 : decode cL_law 918 = .ok (.iaload, 1) := by decide +kernel
theorem dL_law_919 : decode cL_law 919 = .ok (.aload_n 0, 1) := by decide +kernel
theorem dL_law_920 : decode cL_law 920 = .ok (.iload_n 3, 1) := by decide +kernel
theorem dL_law_921 : decode cL_law 921 = .ok (.iconst 2, 1) := by decide +kernel
theorem dL_law_922 : decode cL_law 922 = .ok (.iadd, 1) := by decide +kernel
theorem dL_law_923 : decode cL_law 923 = .ok (.iaload, 1) := by decide +kernel
theorem dL_law_924 : decode cL_law 924 = .ok (.aload_n 0, 1) := by decide +kernel
theorem dL_law_925 : decode cL_law 925 = .ok (.iload_n 3, 1) := by decide +kernel
theorem dL_law_926 : decode cL_law 926 = .ok (.iconst 3, 1) := by decide +kernel
theorem dL_law_927 : decode cL_law 927 = .ok (.iadd, 1) := by decide +kernel
theorem dL_law_928 : decode cL_law 928 = .ok (.iaload, 1) := by decide +kernel
theorem dL_law_929 : decode cL_law 929 = .ok (.invokevirtual 103, 3) := by decide +kernel
theorem dL_law_932 : decode cL_law 932 = .ok (.lcmp, 1) := by decide +kernel
theorem dL_law_933 : decode cL_law 933 = .ok (.ifCond .eq 401, 3) := by decide +kernel
theorem dL_law_936 : decode cL_law 936 = .ok (.iconst 0, 1) := by decide +kernel
theorem dL_law_937 : decode cL_law 937 = .ok (.ireturn, 1) := by decide +kernel
theorem dL_law_938 : decode cL_law 938 = .ok (.aload_n 1, 1) := by decide +kernel
theorem dL_law_939 : decode cL_law 939 = .ok (.aload_n 0, 1) := by decide +kernel
theorem dL_law_940 : decode cL_law 940 = .ok (.iload_n 3, 1) := by decide +kernel
theorem dL_law_941 : decode cL_law 941 = .ok (.iconst 1, 1) := by decide +kernel
theorem dL_law_942 : decode cL_law 942 = .ok (.iadd, 1) := by decide +kernel
theorem dL_law_943 : decode cL_law 943 = .ok (.iaload, 1) := by decide +kernel
theorem dL_law_944 : decode cL_law 944 = .ok (.aload_n 0, 1) := by decide +kernel
theorem dL_law_945 : decode cL_law 945 = .ok (.iload_n 3, 1) := by decide +kernel
theorem dL_law_946 : decode cL_law 946 = .ok (.iconst 2, 1) := by decide +kernel
theorem dL_law_947 : decode cL_law 947 = .ok (.iadd, 1) := by decide +kernel
theorem dL_law_948 : decode cL_law 948 = .ok (.iaload, 1) := by decide +kernel
theorem dL_law_949 : decode cL_law 949 = .ok (.aload_n 0, 1) := by decide +kernel
theorem dL_law_950 : decode cL_law 950 = .ok (.iload_n 3, 1) := by decide +kernel
theorem dL_law_951 : decode cL_law 951 = .ok (.iconst 3, 1) := by decide +kernel
theorem dL_law_952 : decode cL_law 952 = .ok (.iadd, 1) := by decide +kernel
theorem dL_law_953 : decode cL_law 953 = .ok (.iaload, 1) := by decide +kernel
theorem dL_law_954 : decode cL_law 954 = .ok (.aload_n 0, 1) := by decide +kernel
theorem dL_law_955 : decode cL_law 955 = .ok (.iload_n 3, 1) := by decide +kernel
theorem dL_law_956 : decode cL_law 956 = .ok (.iconst 4, 1) := by decide +kernel
theorem dL_law_957 : decode cL_law 957 = .ok (.iadd, 1) := by decide +kernel
theorem dL_law_958 : decode cL_law 958 = .ok (.iaload, 1) := by decide +kernel
theorem dL_law_959 : decode cL_law 959 = .ok (.aload_n 0, 1) := by decide +kernel
theorem dL_law_960 : decode cL_law 960 = .ok (.iload_n 3, 1) := by decide +kernel
theorem dL_law_961 : decode cL_law 961 = .ok (.iconst 5, 1) := by decide +kernel
theorem dL_law_962 : decode cL_law 962 = .ok (.iadd, 1) := by decide +kernel
theorem dL_law_963 : decode cL_law 963 = .ok (.iaload, 1) := by decide +kernel
theorem dL_law_964 : decode cL_law 964 = .ok (.aload_n 0, 1) := by decide +kernel
theorem dL_law_965 : decode cL_law 965 = .ok (.iload_n 3, 1) := by decide +kernel
theorem dL_law_966 : decode cL_law 966 = .ok (.bipush 6, 2) := by decide +kernel
theorem dL_law_968 : decode cL_law 968 = .ok (.iadd, 1) := by decide +kernel
theorem dL_law_969 : decode cL_law 969 = .ok (.iaload, 1) := by decide +kernel
theorem dL_law_970 : decode cL_law 970 = .ok (.ifCond .eq 7, 3) := by decide +kernel
theorem dL_law_973 : decode cL_law 973 = .ok (.iconst 1, 1) := by decide +kernel
theorem dL_law_974 : decode cL_law 974 = .ok (.goto 4, 3) := by decide +kernel
theorem dL_law_977 : decode cL_law 977 = .ok (.iconst 0, 1) := by decide +kernel
theorem dL_law_978 : decode cL_law 978 = .ok (.invokevirtual 104, 3) := by decide +kernel
theorem dL_law_981 : decode cL_law 981 = .ok (.aload_n 2, 1) := by decide +kernel
theorem dL_law_982 : decode cL_law 982 = .ok (.aload_n 0, 1) := by decide +kernel
theorem dL_law_983 : decode cL_law 983 = .ok (.iload_n 3, 1) := by decide +kernel
theorem dL_law_984 : decode cL_law 984 = .ok (.iconst 1, 1) := by decide +kernel
theorem dL_law_985 : decode cL_law 985 = .ok (.iadd, 1) := by decide +kernel
theorem dL_law_986 : decode cL_law 986 = .ok (.iaload, 1) := by decide +kernel
theorem dL_law_987 : decode cL_law 987 = .ok (.aload_n 0, 1) := by decide +kernel
theorem dL_law_988 : decode cL_law 988 = .ok (.iload_n 3, 1) := by decide +kernel
theorem dL_law_989 : decode cL_law 989 = .ok (.iconst 2, 1) := by decide +kernel
theorem dL_law_990 : decode cL_law 990 = .ok (.iadd, 1) := by decide +kernel
theorem dL_law_991 : decode cL_law 991 = .ok (.iaload, 1) := by decide +kernel
theorem dL_law_992 : decode cL_law 992 = .ok (.aload_n 0, 1) := by decide +kernel
theorem dL_law_993 : decode cL_law 993 = .ok (.iload_n 3, 1) := by decide +kernel
theorem dL_law_994 : decode cL_law 994 = .ok (.iconst 3, 1) := by decide +kernel
theorem dL_law_995 : decode cL_law 995 = .ok (.iadd, 1) := by decide +kernel
theorem dL_law_996 : decode cL_law 996 = .ok (.iaload, 1) := by decide +kernel
theorem dL_law_997 : decode cL_law 997 = .ok (.aload_n 0, 1) := by decide +kernel
theorem dL_law_998 : decode cL_law 998 = .ok (.iload_n 3, 1) := by decide +kernel
theorem dL_law_999 : decode cL_law 999 = .ok (.iconst 4, 1) := by decide +kernel
theorem dL_law_1000 : decode cL_law 1000 = .ok (.iadd, 1) := by decide +kernel
theorem dL_law_1001 : decode cL_law 1001 = .ok (.iaload, 1) := by decide +kernel
theorem dL_law_1002 : decode cL_law 1002 = .ok (.aload_n 0, 1) := by decide +kernel
theorem dL_law_1003 : decode cL_law 1003 = .ok (.iload_n 3, 1) := by decide +kernel
theorem dL_law_1004 : decode cL_law 1004 = .ok (.iconst 5, 1) := by decide +kernel
theorem dL_law_1005 : decode cL_law 1005 = .ok (.iadd, 1) := by decide +kernel
theorem dL_law_1006 : decode cL_law 1006 = .ok (.iaload, 1) := by decide +kernel
theorem dL_law_1007 : decode cL_law 1007 = .ok (.aload_n 0, 1) := by decide +kernel
theorem dL_law_1008 : decode cL_law 1008 = .ok (.iload_n 3, 1) := by decide +kernel
theorem dL_law_1009 : decode cL_law 1009 = .ok (.bipush 6, 2) := by decide +kernel
theorem dL_law_1011 : decode cL_law 1011 = .ok (.iadd, 1) := by decide +kernel
theorem dL_law_1012 : decode cL_law 1012 = .ok (.iaload, 1) := by decide +kernel
theorem dL_law_1013 : decode cL_law 1013 = .ok (.ifCond .eq 7, 3) := by decide +kernel
theorem dL_law_1016 : decode cL_law 1016 = .ok (.iconst 1, 1) := by decide +kernel
theorem dL_law_1017 : decode cL_law 1017 = .ok (.goto 4, 3) := by decide +kernel
theorem dL_law_1020 : decode cL_law 1020 = .ok (.iconst 0, 1) := by decide +kernel
theorem dL_law_1021 : decode cL_law 1021 = .ok (.invokevirtual 108, 3) := by decide +kernel
theorem dL_law_1024 : decode cL_law 1024 = .ok (.lcmp, 1) := by decide +kernel
theorem dL_law_1025 : decode cL_law 1025 = .ok (.ifCond .eq 309, 3) := by decide +kernel
theorem dL_law_1028 : decode cL_law 1028 = .ok (.iconst 0, 1) := by decide +kernel
theorem dL_law_1029 : decode cL_law 1029 = .ok (.ireturn, 1) := by decide +kernel
theorem dL_law_1030 : decode cL_law 1030 = .ok (.aload_n 1, 1) := by decide +kernel
theorem dL_law_1031 : decode cL_law 1031 = .ok (.aload_n 0, 1) := by decide +kernel
theorem dL_law_1032 : decode cL_law 1032 = .ok (.iload_n 3, 1) := by decide +kernel
theorem dL_law_1033 : decode cL_law 1033 = .ok (.iconst 1, 1) := by decide +kernel
theorem dL_law_1034 : decode cL_law 1034 = .ok (.iadd, 1) := by decide +kernel
theorem dL_law_1035 : decode cL_law 1035 = .ok (.iaload, 1) := by decide +kernel
theorem dL_law_1036 : decode cL_law 1036 = .ok (.ifCond .eq 7, 3) := by decide +kernel
theorem dL_law_1039 : decode cL_law 1039 = .ok (.iconst 1, 1) := by decide +kernel
theorem dL_law_1040 : decode cL_law 1040 = .ok (.goto 4, 3) := by decide +kernel
theorem dL_law_1043 : decode cL_law 1043 = .ok (.iconst 0, 1) := by decide +kernel
theorem dL_law_1044 : decode cL_law 1044 = .ok (.invokevirtual 109, 3) := by decide +kernel
theorem dL_law_1047 : decode cL_law 1047 = .ok (.aload_n 2, 1) := by decide +kernel
theorem dL_law_1048 : decode cL_law 1048 = .ok (.aload_n 0, 1) := by decide +kernel
theorem dL_law_1049 : decode cL_law 1049 = .ok (.iload_n 3, 1) := by decide +kernel
theorem dL_law_1050 : decode cL_law 1050 = .ok (.iconst 1, 1) := by decide +kernel
theorem dL_law_1051 : decode cL_law 1051 = .ok (.iadd, 1) := by decide +kernel
theorem dL_law_1052 : decode cL_law 1052 = .ok (.iaload, 1) := by decide +kernel
theorem dL_law_1053 : decode cL_law 1053 = .ok (.ifCond .eq 7, 3) := by decide +kernel
theorem dL_law_1056 : decode cL_law 1056 = .ok (.iconst 1, 1) := by decide +kernel
theorem dL_law_1057 : decode cL_law 1057 = .ok (.goto 4, 3) := by decide +kernel
theorem dL_law_1060 : decode cL_law 1060 = .ok (.iconst 0, 1) := by decide +kernel
theorem dL_law_1061 : decode cL_law 1061 = .ok (.invokevirtual 112, 3) := by decide +kernel
theorem dL_law_1064 : decode cL_law 1064 = .ok (.lcmp, 1) := by decide +kernel
theorem dL_law_1065 : decode cL_law 1065 = .ok (.ifCond .eq 269, 3) := by decide +kernel
theorem dL_law_1068 : decode cL_law 1068 = .ok (.iconst 0, 1) := by decide +kernel
theorem dL_law_1069 : decode cL_law 1069 = .ok (.ireturn, 1) := by decide +kernel
theorem dL_law_1070 : decode cL_law 1070 = .ok (.aload_n 1, 1) := by decide +kernel
theorem dL_law_1071 : decode cL_law 1071 = .ok (.invokevirtual 113, 3) := by decide +kernel
theorem dL_law_1074 : decode cL_law 1074 = .ok (.aload_n 2, 1) := by decide +kernel
theorem dL_law_1075 : decode cL_law 1075 = .ok (.invokevirtual 116, 3) := by decide +kernel
theorem dL_law_1078 : decode cL_law 1078 = .ok (.lcmp, 1) := by decide +kernel
theorem dL_law_1079 : decode cL_law 1079 = .ok (.ifCond .eq 255, 3) := by decide +kernel
theorem dL_law_1082 : decode cL_law 1082 = .ok (.iconst 0, 1) := by decide +kernel
theorem dL_law_1083 : decode cL_law 1083 = .ok (.ireturn, 1) := by decide +kernel
theorem dL_law_1084 : decode cL_law 1084 = .ok (.aload_n 1, 1) := by decide +kernel
theorem dL_law_1085 : decode cL_law 1085 = .ok (.invokevirtual 117, 3) := by decide +kernel
theorem dL_law_1088 : decode cL_law 1088 = .ok (.aload_n 2, 1) := by decide +kernel
theorem dL_law_1089 : decode cL_law 1089 = .ok (.invokevirtual 120, 3) := by decide +kernel
theorem dL_law_1092 : decode cL_law 1092 = .ok (.lcmp, 1) := by decide +kernel
theorem dL_law_1093 : decode cL_law 1093 = .ok (.ifCond .eq 241, 3) := by decide +kernel
theorem dL_law_1096 : decode cL_law 1096 = .ok (.iconst 0, 1) := by decide +kernel
theorem dL_law_1097 : decode cL_law 1097 = .ok (.ireturn, 1) := by decide +kernel
theorem dL_law_1098 : decode cL_law 1098 = .ok (.aload_n 1, 1) := by decide +kernel
theorem dL_law_1099 : decode cL_law 1099 = .ok (.aload_n 0, 1) := by decide +kernel
theorem dL_law_1100 : decode cL_law 1100 = .ok (.iload_n 3, 1) := by decide +kernel
theorem dL_law_1101 : decode cL_law 1101 = .ok (.iconst 1, 1) := by decide +kernel
theorem dL_law_1102 : decode cL_law 1102 = .ok (.iadd, 1) := by decide +kernel
theorem dL_law_1103 : decode cL_law 1103 = .ok (.iaload, 1) := by decide +kernel
theorem dL_law_1104 : decode cL_law 1104 = .ok (.aload_n 0, 1) := by decide +kernel
theorem dL_law_1105 : decode cL_law 1105 = .ok (.iload_n 3, 1) := by decide +kernel
theorem dL_law_1106 : decode cL_law 1106 = .ok (.iconst 2, 1) := by decide +kernel
theorem dL_law_1107 : decode cL_law 1107 = .ok (.iadd, 1) := by decide +kernel
theorem dL_law_1108 : decode cL_law 1108 = .ok (.iaload, 1) := by decide +kernel
theorem dL_law_1109 : decode cL_law 1109 = .ok (.invokevirtual 121, 3) := by decide +kernel
theorem dL_law_1112 : decode cL_law 1112 = .ok (.aload_n 2, 1) := by decide +kernel
theorem dL_law_1113 : decode cL_law 1113 = .ok (.aload_n 0, 1) := by decide +kernel
theorem dL_law_1114 : decode cL_law 1114 = .ok (.iload_n 3, 1) := by decide +kernel
theorem dL_law_1115 : decode cL_law 1115 = .ok (.iconst 1, 1) := by decide +kernel
theorem dL_law_1116 : decode cL_law 1116 = .ok (.iadd, 1) := by decide +kernel
theorem dL_law_1117 : decode cL_law 1117 = .ok (.iaload, 1) := by decide +kernel
theorem dL_law_1118 : decode cL_law 1118 = .ok (.aload_n 0, 1) := by decide +kernel
theorem dL_law_1119 : decode cL_law 1119 = .ok (.iload_n 3, 1) := by decide +kernel
theorem dL_law_1120 : decode cL_law 1120 = .ok (.iconst 2, 1) := by decide +kernel
theorem dL_law_1121 : decode cL_law 1121 = .ok (.iadd, 1) := by decide +kernel
theorem dL_law_1122 : decode cL_law 1122 = .ok (.iaload, 1) := by decide +kernel
theorem dL_law_1123 : decode cL_law 1123 = .ok (.invokevirtual 124, 3) := by decide +kernel
theorem dL_law_1126 : decode cL_law 1126 = .ok (.lcmp, 1) := by decide +kernel
theorem dL_law_1127 : decode cL_law 1127 = .ok (.ifCond .eq 207, 3) := by decide +kernel
theorem dL_law_1130 : decode cL_law 1130 = .ok (.iconst 0, 1) := by decide +kernel
theorem dL_law_1131 : decode cL_law 1131 = .ok (.ireturn, 1) := by decide +kernel
theorem dL_law_1132 : decode cL_law 1132 = .ok (.aload_n 1, 1) := by decide +kernel
theorem dL_law_1133 : decode cL_law 1133 = .ok (.invokevirtual 125, 3) := by decide +kernel
theorem dL_law_1136 : decode cL_law 1136 = .ok (.aload_n 2, 1) := by decide +kernel
theorem dL_law_1137 : decode cL_law 1137 = .ok (.invokevirtual 128, 3) := by decide +kernel
theorem dL_law_1140 : decode cL_law 1140 = .ok (.lcmp, 1) := by decide +kernel
theorem dL_law_1141 : decode cL_law 1141 = .ok (.ifCond .eq 193, 3) := by decide +kernel
theorem dL_law_1144 : decode cL_law 1144 = .ok (.iconst 0, 1) := by decide +kernel
theorem dL_law_1145 : decode cL_law 1145 = .ok (.ireturn, 1) := by decide +kernel
theorem dL_law_1146 : decode cL_law 1146 = .ok (.aload_n 1, 1) := by decide +kernel
theorem dL_law_1147 : decode cL_law 1147 = .ok (.aload_n 0, 1) := by decide +kernel
theorem dL_law_1148 : decode cL_law 1148 = .ok (.iload_n 3, 1) := by decide +kernel
theorem dL_law_1149 : decode cL_law 1149 = .ok (.iconst 1, 1) := by decide +kernel
theorem dL_law_1150 : decode cL_law 1150 = .ok (.iadd, 1) := by decide +kernel
theorem dL_law_1151 : decode cL_law 1151 = .ok (.iaload, 1) := by decide +kernel
theorem dL_law_1152 : decode cL_law 1152 = .ok (.aload_n 0, 1) := by decide +kernel
theorem dL_law_1153 : decode cL_law 1153 = .ok (.iload_n 3, 1) := by decide +kernel
theorem dL_law_1154 : decode cL_law 1154 = .ok (.iconst 2, 1) := by decide +kernel
theorem dL_law_1155 : decode cL_law 1155 = .ok (.iadd, 1) := by decide +kernel
theorem dL_law_1156 : decode cL_law 1156 = .ok (.iaload, 1) := by decide +kernel
theorem dL_law_1157 : decode cL_law 1157 = .ok (.ifCond .eq 7, 3) := by decide +kernel
theorem dL_law_1160 : decode cL_law 1160 = .ok (.iconst 1, 1) := by decide +kernel
theorem dL_law_1161 : decode cL_law 1161 = .ok (.goto 4, 3) := by decide +kernel
theorem dL_law_1164 : decode cL_law 1164 = .ok (.iconst 0, 1) := by decide +kernel
theorem dL_law_1165 : decode cL_law 1165 = .ok (.invokevirtual 129, 3) := by decide +kernel
theorem dL_law_1168 : decode cL_law 1168 = .ok (.aload_n 2, 1) := by decide +kernel
theorem dL_law_1169 : decode cL_law 1169 = .ok (.aload_n 0, 1) := by decide +kernel
theorem dL_law_1170 : decode cL_law 1170 = .ok (.iload_n 3, 1) := by decide +kernel
theorem dL_law_1171 : decode cL_law 1171 = .ok (.iconst 1, 1) := by decide +kernel
theorem dL_law_1172 : decode cL_law 1172 = .ok (.iadd, 1) := by decide +kernel
theorem dL_law_1173 : decode cL_law 1173 = .ok (.iaload, 1) := by decide +kernel
theorem dL_law_1174 : decode cL_law 1174 = .ok (.aload_n 0, 1) := by decide +kernel
theorem dL_law_1175 : decode cL_law 1175 = .ok (.iload_n 3, 1) := by decide +kernel
theorem dL_law_1176 : decode cL_law 1176 = .ok (.iconst 2, 1) := by decide +kernel
theorem dL_law_1177 : decode cL_law 1177 = .ok (.iadd, 1) := by decide +kernel
theorem dL_law_1178 : decode cL_law 1178 = .ok (.iaload, 1) := by decide +kernel
theorem dL_law_1179 : decode cL_law 1179 = .ok (.ifCond .eq 7, 3) := by decide +kernel
theorem dL_law_1182 : decode cL_law 1182 = .ok (.iconst 1, 1) := by decide +kernel
theorem dL_law_1183 : decode cL_law 1183 = .ok (.goto 4, 3) := by decide +kernel
theorem dL_law_1186 : decode cL_law 1186 = .ok (.iconst 0, 1) := by decide +kernel
theorem dL_law_1187 : decode cL_law 1187 = .ok (.invokevirtual 132, 3) := by decide +kernel
theorem dL_law_1190 : decode cL_law 1190 = .ok (.lcmp, 1) := by decide +kernel
theorem dL_law_1191 : decode cL_law 1191 = .ok (.ifCond .eq 143, 3) := by decide +kernel
theorem dL_law_1194 : decode cL_law 1194 = .ok (.iconst 0, 1) := by decide +kernel
theorem dL_law_1195 : decode cL_law 1195 = .ok (.ireturn, 1) := by decide +kernel
theorem dL_law_1196 : decode cL_law 1196 = .ok (.aload_n 1, 1) := by decide +kernel
theorem dL_law_1197 : decode cL_law 1197 = .ok (.aload_n 0, 1) := by decide +kernel
theorem dL_law_1198 : decode cL_law 1198 = .ok (.iload_n 3, 1) := by decide +kernel
theorem dL_law_1199 : decode cL_law 1199 = .ok (.iconst 1, 1) := by decide +kernel
theorem dL_law_1200 : decode cL_law 1200 = .ok (.iadd, 1) := by decide +kernel
theorem dL_law_1201 : decode cL_law 1201 = .ok (.iaload, 1) := by decide +kernel
theorem dL_law_1202 : decode cL_law 1202 = .ok (.invokevirtual 133, 3) := by decide +kernel
theorem dL_law_1205 : decode cL_law 1205 = .ok (.aload_n 2, 1) := by decide +kernel
theorem dL_law_1206 : decode cL_law 1206 = .ok (.aload_n 0, 1) := by decide +kernel
theorem dL_law_1207 : decode cL_law 1207 = .ok (.iload_n 3, 1) := by decide +kernel
theorem dL_law_1208 : decode cL_law 1208 = .ok (.iconst 1, 1) := by decide +kernel
theorem dL_law_1209 : decode cL_law 1209 = .ok (.iadd, 1) := by decide +kernel
theorem dL_law_1210 : decode cL_law 1210 = .ok (.iaload, 1) := by decide +kernel
theorem dL_law_1211 : decode cL_law 1211 = .ok (.invokevirtual 136, 3) := by decide +kernel
theorem dL_law_1214 : decode cL_law 1214 = .ok (.lcmp, 1) := by decide +kernel
theorem dL_law_1215 : decode cL_law 1215 = .ok (.ifCond .eq 119, 3) := by decide +kernel
theorem dL_law_1218 : decode cL_law 1218 = .ok (.iconst 0, 1) := by decide +kernel
theorem dL_law_1219 : decode cL_law 1219 = .ok (.ireturn, 1) := by decide +kernel
theorem dL_law_1220 : decode cL_law 1220 = .ok (.aload_n 1, 1) := by decide +kernel
theorem dL_law_1221 : decode cL_law 1221 = .ok (.aload_n 0, 1) := by decide +kernel
theorem dL_law_1222 : decode cL_law 1222 = .ok (.iload_n 3, 1) := by decide +kernel
theorem dL_law_1223 : decode cL_law 1223 = .ok (.iconst 1, 1) := by decide +kernel
theorem dL_law_1224 : decode cL_law 1224 = .ok (.iadd, 1) := by decide +kernel
theorem dL_law_1225 : decode cL_law 1225 = .ok (.iaload, 1) := by decide +kernel
theorem dL_law_1226 : decode cL_law 1226 = .ok (.invokevirtual 137, 3) := by decide +kernel
theorem dL_law_1229 : decode cL_law 1229 = .ok (.aload_n 2, 1) := by decide +kernel
theorem dL_law_1230 : decode cL_law 1230 = .ok (.aload_n 0, 1) := by decide +kernel
theorem dL_law_1231 : decode cL_law 1231 = .ok (.iload_n 3, 1) := by decide +kernel
theorem dL_law_1232 : decode cL_law 1232 = .ok (.iconst 1, 1) := by decide +kernel
theorem dL_law_1233 : decode cL_law 1233 = .ok (.iadd, 1) := by decide +kernel
theorem dL_law_1234 : decode cL_law 1234 = .ok (.iaload, 1) := by decide +kernel
theorem dL_law_1235 : decode cL_law 1235 = .ok (.invokevirtual 140, 3) := by decide +kernel
theorem dL_law_1238 : decode cL_law 1238 = .ok (.lcmp, 1) := by decide +kernel
theorem dL_law_1239 : decode cL_law 1239 = .ok (.ifCond .eq 95, 3) := by decide +kernel
theorem dL_law_1242 : decode cL_law 1242 = .ok (.iconst 0, 1) := by decide +kernel
theorem dL_law_1243 : decode cL_law 1243 = .ok (.ireturn, 1) := by decide +kernel
theorem dL_law_1244 : decode cL_law 1244 = .ok (.aload_n 1, 1) := by decide +kernel
theorem dL_law_1245 : decode cL_law 1245 = .ok (.invokevirtual 141, 3) := by decide +kernel
theorem dL_law_1248 : decode cL_law 1248 = .ok (.aload_n 2, 1) := by decide +kernel
theorem dL_law_1249 : decode cL_law 1249 = .ok (.invokevirtual 144, 3) := by decide +kernel
theorem dL_law_1252 : decode cL_law 1252 = .ok (.lcmp, 1) := by decide +kernel
theorem dL_law_1253 : decode cL_law 1253 = .ok (.ifCond .eq 81, 3) := by decide +kernel
theorem dL_law_1256 : decode cL_law 1256 = .ok (.iconst 0, 1) := by decide +kernel
theorem dL_law_1257 : decode cL_law 1257 = .ok (.ireturn, 1) := by decide +kernel
theorem dL_law_1258 : decode cL_law 1258 = .ok (.aload_n 1, 1) := by decide +kernel
theorem dL_law_1259 : decode cL_law 1259 = .ok (.invokevirtual 145, 3) := by decide +kernel
theorem dL_law_1262 : decode cL_law 1262 = .ok (.aload_n 2, 1) := by decide +kernel
theorem dL_law_1263 : decode cL_law 1263 = .ok (.invokevirtual 148, 3) := by decide +kernel
theorem dL_law_1266 : decode cL_law 1266 = .ok (.lcmp, 1) := by decide +kernel
theorem dL_law_1267 : decode cL_law 1267 = .ok (.ifCond .eq 67, 3) := by decide +kernel
theorem dL_law_1270 : decode cL_law 1270 = .ok (.iconst 0, 1) := by decide +kernel
theorem dL_law_1271 : decode cL_law 1271 = .ok (.ireturn, 1) := by decide +kernel
theorem dL_law_1272 : decode cL_law 1272 = .ok (.aload_n 1, 1) := by decide +kernel
theorem dL_law_1273 : decode cL_law 1273 = .ok (.invokevirtual 149, 3) := by decide +kernel
theorem dL_law_1276 : decode cL_law 1276 = .ok (.aload_n 2, 1) := by decide +kernel
theorem dL_law_1277 : decode cL_law 1277 = .ok (.invokevirtual 152, 3) := by decide +kernel
theorem dL_law_1280 : decode cL_law 1280 = .ok (.lcmp, 1) := by decide +kernel
theorem dL_law_1281 : decode cL_law 1281 = .ok (.ifCond .eq 53, 3) := by decide +kernel
theorem dL_law_1284 : decode cL_law 1284 = .ok (.iconst 0, 1) := by decide +kernel
theorem dL_law_1285 : decode cL_law 1285 = .ok (.ireturn, 1) := by decide +kernel
theorem dL_law_1286 : decode cL_law 1286 = .ok (.aload_n 1, 1) := by decide +kernel
theorem dL_law_1287 : decode cL_law 1287 = .ok (.aload_n 0, 1) := by decide +kernel
theorem dL_law_1288 : decode cL_law 1288 = .ok (.iload_n 3, 1) := by decide +kernel
theorem dL_law_1289 : decode cL_law 1289 = .ok (.iconst 1, 1) := by decide +kernel
theorem dL_law_1290 : decode cL_law 1290 = .ok (.iadd, 1) := by decide +kernel
theorem dL_law_1291 : decode cL_law 1291 = .ok (.iaload, 1) := by decide +kernel
theorem dL_law_1292 : decode cL_law 1292 = .ok (.invokevirtual 153, 3) := by decide +kernel
theorem dL_law_1295 : decode cL_law 1295 = .ok (.aload_n 2, 1) := by decide +kernel
theorem dL_law_1296 : decode cL_law 1296 = .ok (.aload_n 0, 1) := by decide +kernel
theorem dL_law_1297 : decode cL_law 1297 = .ok (.iload_n 3, 1) := by decide +kernel
theorem dL_law_1298 : decode cL_law 1298 = .ok (.iconst 1, 1) := by decide +kernel
theorem dL_law_1299 : decode cL_law 1299 = .ok (.iadd, 1) := by decide +kernel
theorem dL_law_1300 : decode cL_law 1300 = .ok (.iaload, 1) := by decide +kernel
theorem dL_law_1301 : decode cL_law 1301 = .ok (.invokevirtual 156, 3) := by decide +kernel
theorem dL_law_1304 : decode cL_law 1304 = .ok (.lcmp, 1) := by decide +kernel
theorem dL_law_1305 : decode cL_law 1305 = .ok (.ifCond .eq 29, 3) := by decide +kernel
theorem dL_law_1308 : decode cL_law 1308 = .ok (.iconst 0, 1) := by decide +kernel
theorem dL_law_1309 : decode cL_law 1309 = .ok (.ireturn, 1) := by decide +kernel
theorem dL_law_1310 : decode cL_law 1310 = .ok (.aload_n 1, 1) := by decide +kernel
theorem dL_law_1311 : decode cL_law 1311 = .ok (.aload_n 0, 1) := by decide +kernel
theorem dL_law_1312 : decode cL_law 1312 = .ok (.iload_n 3, 1) := by decide +kernel
theorem dL_law_1313 : decode cL_law 1313 = .ok (.iconst 1, 1) := by decide +kernel
theorem dL_law_1314 : decode cL_law 1314 = .ok (.iadd, 1) := by decide +kernel
theorem dL_law_1315 : decode cL_law 1315 = .ok (.iaload, 1) := by decide +kernel
theorem dL_law_1316 : decode cL_law 1316 = .ok (.invokevirtual 157, 3) := by decide +kernel
theorem dL_law_1319 : decode cL_law 1319 = .ok (.aload_n 2, 1) := by decide +kernel
theorem dL_law_1320 : decode cL_law 1320 = .ok (.aload_n 0, 1) := by decide +kernel
theorem dL_law_1321 : decode cL_law 1321 = .ok (.iload_n 3, 1) := by decide +kernel
theorem dL_law_1322 : decode cL_law 1322 = .ok (.iconst 1, 1) := by decide +kernel
theorem dL_law_1323 : decode cL_law 1323 = .ok (.iadd, 1) := by decide +kernel
theorem dL_law_1324 : decode cL_law 1324 = .ok (.iaload, 1) := by decide +kernel
theorem dL_law_1325 : decode cL_law 1325 = .ok (.invokevirtual 160, 3) := by decide +kernel
theorem dL_law_1328 : decode cL_law 1328 = .ok (.lcmp, 1) := by decide +kernel
theorem dL_law_1329 : decode cL_law 1329 = .ok (.ifCond .eq 5, 3) := by decide +kernel
theorem dL_law_1332 : decode cL_law 1332 = .ok (.iconst 0, 1) := by decide +kernel
theorem dL_law_1333 : decode cL_law 1333 = .ok (.ireturn, 1) := by decide +kernel
theorem dL_law_1334 : decode cL_law 1334 = .ok (.iinc 3 7, 3) := by decide +kernel
theorem dL_law_1337 : decode cL_law 1337 = .ok (.goto (-1319), 3) := by decide +kernel
theorem dL_law_1340 : decode cL_law 1340 = .ok (.iconst 1, 1) := by decide +kernel
theorem dL_law_1341 : decode cL_law 1341 = .ok (.ireturn, 1) := by decide +kernel
end
section
/-- the words that every list of words has: those of the tables that ride over calls -/
def gTT : List Cond := lw_tbl.filter goodWord
theorem gtt {w : Cond} (i : Nat) (h : lw_tbl[i]? = some w) (hg : goodWord w = true) : w ∈ gTT := List.mem_filter.mpr ⟨List.mem_of_getElem? h, hg⟩
theorem gtt_all {ws : List Cond} (h : ws.all (fun w => decide (w ∈ lw_tbl) && goodWord w) = true) : ∀ w ∈ ws, w ∈ gTT := fun w hw => by
  have h1 := List.all_eq_true.mp h w hw
  simp only [Bool.and_eq_true, decide_eq_true_eq] at h1
  exact List.mem_filter.mpr h1
theorem gt0 {w : Cond} (i : Nat) (h : (k2_sels lw_privs)[i]? = some w) (hg : goodWord w = true) : w ∈ gTT := List.mem_filter.mpr ⟨List.mem_append_left _ (List.mem_of_getElem? h), hg⟩
theorem gt1 {w : Cond} (i : Nat) (h : (tables_1_1)[i]? = some w) (hg : goodWord w = true) : w ∈ gTT := List.mem_filter.mpr ⟨List.mem_append_right _ (List.mem_append_left _ (List.mem_of_getElem? h)), hg⟩
theorem gt2 {w : Cond} (i : Nat) (h : (tables_1_2)[i]? = some w) (hg : goodWord w = true) : w ∈ gTT := List.mem_filter.mpr ⟨List.mem_append_right _ (List.mem_append_right _ (List.mem_append_left _ (List.mem_of_getElem? h))), hg⟩
theorem gt3 {w : Cond} (i : Nat) (h : (tables_1_3)[i]? = some w) (hg : goodWord w = true) : w ∈ gTT := List.mem_filter.mpr ⟨List.mem_append_right _ (List.mem_append_right _ (List.mem_append_right _ (List.mem_append_left _ (List.mem_of_getElem? h)))), hg⟩
theorem gt4 {w : Cond} (i : Nat) (h : (tables_1_4)[i]? = some w) (hg : goodWord w = true) : w ∈ gTT := List.mem_filter.mpr ⟨List.mem_append_right _ (List.mem_append_right _ (List.mem_append_right _ (List.mem_append_right _ (List.mem_append_left _ (List.mem_of_getElem? h))))), hg⟩
theorem gt5 {w : Cond} (i : Nat) (h : (tables_1_5)[i]? = some w) (hg : goodWord w = true) : w ∈ gTT := List.mem_filter.mpr ⟨List.mem_append_right _ (List.mem_append_right _ (List.mem_append_right _ (List.mem_append_right _ (List.mem_append_right _ (List.mem_of_getElem? h))))), hg⟩
theorem gn0 {w : Cond} (i : Nat) (h : (k2_sels lw_privs)[i]? = some w) : w ∈ lw_tbl := List.mem_append_left _ (List.mem_of_getElem? h)
theorem gn1 {w : Cond} (i : Nat) (h : (tables_1_1)[i]? = some w) : w ∈ lw_tbl := List.mem_append_right _ (List.mem_append_left _ (List.mem_of_getElem? h))
theorem gn2 {w : Cond} (i : Nat) (h : (tables_1_2)[i]? = some w) : w ∈ lw_tbl := List.mem_append_right _ (List.mem_append_right _ (List.mem_append_left _ (List.mem_of_getElem? h)))
theorem gn3 {w : Cond} (i : Nat) (h : (tables_1_3)[i]? = some w) : w ∈ lw_tbl := List.mem_append_right _ (List.mem_append_right _ (List.mem_append_right _ (List.mem_append_left _ (List.mem_of_getElem? h))))
theorem gn4 {w : Cond} (i : Nat) (h : (tables_1_4)[i]? = some w) : w ∈ lw_tbl := List.mem_append_right _ (List.mem_append_right _ (List.mem_append_right _ (List.mem_append_right _ (List.mem_append_left _ (List.mem_of_getElem? h)))))
theorem gn5 {w : Cond} (i : Nat) (h : (tables_1_5)[i]? = some w) : w ∈ lw_tbl := List.mem_append_right _ (List.mem_append_right _ (List.mem_append_right _ (List.mem_append_right _ (List.mem_append_right _ (List.mem_of_getElem? h)))))
theorem gin0 : ∀ w ∈ wsX00, w ∈ gTT := gtt_all (by decide +kernel)
theorem gin1 : ∀ w ∈ wsX10, w ∈ gTT := gtt_all (by decide +kernel)
theorem gin3 : ∀ w ∈ wsX30, w ∈ gTT := gtt_all (by decide +kernel)
theorem gin4 : ∀ w ∈ wsX40, w ∈ gTT := gtt_all (by decide +kernel)
theorem gin5 : ∀ w ∈ wsX50, w ∈ gTT := gtt_all (by decide +kernel)
theorem gin6 : ∀ w ∈ wsX60, w ∈ gTT := gtt_all (by decide +kernel)
theorem gin7 : ∀ w ∈ wsX70, w ∈ gTT := gtt_all (by decide +kernel)
theorem gin8 : ∀ w ∈ wsX80, w ∈ gTT := gtt_all (by decide +kernel)
theorem gin9 : ∀ w ∈ wsX90, w ∈ gTT := gtt_all (by decide +kernel)
theorem gin10 : ∀ w ∈ wsX100, w ∈ gTT := gtt_all (by decide +kernel)
theorem gin11 : ∀ w ∈ wsX110, w ∈ gTT := gtt_all (by decide +kernel)
/-- a field as an instruction names it: its class among vwCl, its place there -/
def gFL (own : String) (index ci k : Nat) (C : String) (T : u_T) (N : Nat) : Prop := vwCl[ci]? = some (C, T, N) ∧ k < N ∧ (∀ w ∈ u_ws C T N, w ∈ gTT) ∧ Cond.fieldLink own index (T k).1 (T k).2.1 (T k).2.2.1 ∈ gTT
/-- a class whose fields may be written: their types, their names apart -/
def gFT (C : String) (T : u_T) (N : Nat) : Prop := ∃ ty0 : Nat → FieldType, (∀ k, k < N → parseFieldDescriptor (T k).2.2.1 = some (ty0 k)) ∧ (∀ a, a < N → ∀ b, b < N → a ≠ b → (T a).2.1 ≠ (T b).2.1)
theorem gtm {w : Cond} (h : (decide (w ∈ lw_tbl) && goodWord w) = true) : w ∈ gTT := by
  simp only [Bool.and_eq_true, decide_eq_true_eq] at h
  exact List.mem_filter.mpr h
/-- a method of an object, as calls need it -/
def gMV (C : String) (y : MethodName) (cy : ByteArray) (mL : Nat) (rt : Option FieldType) (n : Nat) : Prop := Cond.code y cy mL rt ∈ gTT ∧ Cond.instanceMethod y ∈ gTT ∧ Cond.selects C y y ∈ gTT ∧ Cond.initialized y.cls ∈ gTT ∧ (y.cls ≠ "java/lang/invoke/MethodHandle" ∧ y.cls ≠ "java/lang/invoke/VarHandle") ∧ (parseMethodDescriptor y.desc).map (fun d => d.parameters.length) = some n
/-- a static method -/
def gMS (y : MethodName) (cy : ByteArray) (mL : Nat) (rt : Option FieldType) (n : Nat) : Prop := Cond.code y cy mL rt ∈ gTT ∧ Cond.static y ∈ gTT ∧ Cond.initialized y.cls ∈ gTT ∧ (y.cls ≠ "java/lang/invoke/MethodHandle" ∧ y.cls ≠ "java/lang/invoke/VarHandle") ∧ (parseMethodDescriptor y.desc).map (fun d => d.parameters.length) = some n
/-- a constructor -/
def gMI (y : MethodName) (cy : ByteArray) (mL : Nat) (n : Nat) : Prop := Cond.code y cy mL none ∈ gTT ∧ Cond.instanceMethod y ∈ gTT ∧ Cond.initialized y.cls ∈ gTT ∧ y.name = "<init>" ∧ (y.cls ≠ "java/lang/invoke/MethodHandle" ∧ y.cls ≠ "java/lang/invoke/VarHandle") ∧ (parseMethodDescriptor y.desc).map (fun d => d.parameters.length) = some n
end
section
theorem lkX10_1 : Cond.methodLink RX10 1 objectInit ∈ gTT := (gt1 23 rfl rfl)
theorem lkX10_9 : Cond.methodLinkNest RX10 9 yX8_init RX10 ∈ lw_tbl := (gn1 28 rfl)
theorem flX10_10 : gFL RX10 10 9 0 RX10 TX10 12 := ⟨rfl, by decide, gin10, (gt1 213 rfl rfl)⟩
theorem flX10_16 : gFL RX10 16 9 1 RX10 TX10 12 := ⟨rfl, by decide, gin10, (gt1 214 rfl rfl)⟩
theorem lkX10_21 : Cond.methodLink RX10 21 yX5_init ∈ gTT := (gt1 110 rfl rfl)
theorem flX10_22 : gFL RX10 22 9 3 RX10 TX10 12 := ⟨rfl, by decide, gin10, (gt1 216 rfl rfl)⟩
theorem lkX10_28 : Cond.methodLinkNest RX10 28 yX4_init RX10 ∈ lw_tbl := (gn1 129 rfl)
theorem flX10_29 : gFL RX10 29 9 4 RX10 TX10 12 := ⟨rfl, by decide, gin10, (gt1 217 rfl rfl)⟩
theorem lkX10_35 : Cond.methodLinkNest RX10 35 yX6_init RX10 ∈ lw_tbl := (gn1 152 rfl)
theorem flX10_36 : gFL RX10 36 9 5 RX10 TX10 12 := ⟨rfl, by decide, gin10, (gt1 218 rfl rfl)⟩
theorem lkX10_42 : Cond.methodLinkNest RX10 42 yX1_init RX10 ∈ lw_tbl := (gn1 177 rfl)
theorem flX10_43 : gFL RX10 43 9 7 RX10 TX10 12 := ⟨rfl, by decide, gin10, (gt1 220 rfl rfl)⟩
theorem lkX10_49 : Cond.methodLinkNest RX10 49 yX9_init RX10 ∈ lw_tbl := (gn1 202 rfl)
theorem flX10_50 : gFL RX10 50 9 8 RX10 TX10 12 := ⟨rfl, by decide, gin10, (gt1 221 rfl rfl)⟩
theorem flX10_54 : gFL RX10 54 9 9 RX10 TX10 12 := ⟨rfl, by decide, gin10, (gt1 222 rfl rfl)⟩
theorem flX10_58 : gFL RX10 58 9 11 RX10 TX10 12 := ⟨rfl, by decide, gin10, (gt1 224 rfl rfl)⟩
theorem lkX10_61 : Cond.methodLink RX10 61 yX0_allows ∈ gTT := (gt2 14 rfl rfl)
theorem lkX10_67 : Cond.methodLink RX10 67 yX10_refuse ∈ gTT := (gt2 20 rfl rfl)
theorem flX10_71 : gFL RX10 71 7 0 RX8 TX8 4 := ⟨rfl, by decide, gin8, (gt1 85 rfl rfl)⟩
theorem lkX10_75 : Cond.methodLink RX10 75 yX0_isFull ∈ gTT := (gt2 26 rfl rfl)
theorem lkX10_79 : Cond.methodLink RX10 79 yX6_growStale ∈ gTT := (gt2 34 rfl rfl)
theorem lkX10_82 : Cond.methodLink RX10 82 yX0_append ∈ gTT := (gt2 38 rfl rfl)
theorem lkX10_86 : Cond.methodLink RX10 86 yX0_has ∈ gTT := (gt2 63 rfl rfl)
theorem lkX10_90 : Cond.methodLink RX10 90 yX10_isState ∈ gTT := (gt2 71 rfl rfl)
theorem lkX10_93 : Cond.methodLink RX10 93 yX0_shownIn ∈ gTT := (gt2 74 rfl rfl)
theorem lkX10_97 : Cond.methodLink RX10 97 yX0_isKind ∈ gTT := (gt2 96 rfl rfl)
theorem lkX10_100 : Cond.methodLink RX10 100 yX0_isOf ∈ gTT := (gt2 97 rfl rfl)
theorem lkX10_104 : Cond.methodLink RX10 104 yX0_numberA ∈ gTT := (gt2 103 rfl rfl)
theorem lkX10_108 : Cond.methodLink RX10 108 yX10_isRate ∈ gTT := (gt2 111 rfl rfl)
theorem flX10_111 : gFL RX10 111 7 1 RX8 TX8 4 := ⟨rfl, by decide, gin8, (gt1 91 rfl rfl)⟩
theorem lkX10_115 : Cond.methodLink RX10 115 yX3_isFull ∈ gTT := (gt2 114 rfl rfl)
theorem lkX10_118 : Cond.methodLink RX10 118 yX3_append ∈ gTT := (gt2 115 rfl rfl)
theorem lkX10_120 : Cond.methodLink RX10 120 yX3_has ∈ gTT := (gt2 120 rfl rfl)
theorem lkX10_121 : Cond.methodLink RX10 121 yX3_removeAt ∈ gTT := (gt2 121 rfl rfl)
theorem lkX10_125 : Cond.methodLink RX10 125 yX3_length ∈ gTT := (gt2 125 rfl rfl)
theorem lkX10_129 : Cond.methodLink RX10 129 yX2_within ∈ gTT := (gt2 24 rfl rfl)
theorem lkX10_134 : Cond.methodLink RX10 134 yX3_first ∈ gTT := (gt2 130 rfl rfl)
theorem lkX10_137 : Cond.methodLink RX10 137 yX3_second ∈ gTT := (gt2 131 rfl rfl)
theorem lkX10_140 : Cond.methodLink RX10 140 yX5_isSheet ∈ gTT := (gt2 136 rfl rfl)
theorem lkX10_143 : Cond.methodLink RX10 143 yX5_layOut ∈ gTT := (gt2 140 rfl rfl)
theorem lkX10_147 : Cond.methodLink RX10 147 yX5_isMissing ∈ gTT := (gt2 152 rfl rfl)
theorem lkX10_150 : Cond.methodLink RX10 150 yX5_hasPlace ∈ gTT := (gt2 160 rfl rfl)
theorem lkX10_153 : Cond.methodLink RX10 153 yX5_write ∈ gTT := (gt2 164 rfl rfl)
theorem lkX10_156 : Cond.methodLink RX10 156 yX10_whyNoLaying ∈ gTT := (gt2 177 rfl rfl)
theorem lkX10_159 : Cond.methodLink RX10 159 yX5_wasRead ∈ gTT := (gt2 195 rfl rfl)
theorem lkX10_162 : Cond.methodLink RX10 162 yX5_rateAt ∈ gTT := (gt2 196 rfl rfl)
theorem lkX10_165 : Cond.methodLink RX10 165 yX5_placesOf ∈ gTT := (gt2 181 rfl rfl)
theorem lkX10_168 : Cond.methodLink RX10 168 yX5_holdsRates ∈ gTT := (gt2 182 rfl rfl)
theorem lkX10_171 : Cond.methodLink RX10 171 yX5_howManyRead ∈ gTT := (gt2 191 rfl rfl)
theorem lkX10_174 : Cond.methodLink RX10 174 yX10_isModel ∈ gTT := (gt2 201 rfl rfl)
theorem lkX10_177 : Cond.methodLink RX10 177 yX4_gather ∈ gTT := (gt2 212 rfl rfl)
theorem lkX10_181 : Cond.methodLink RX10 181 yX4_solve ∈ gTT := (gt2 227 rfl rfl)
theorem lkX10_184 : Cond.methodLink RX10 184 yX4_looseOf ∈ gTT := (gt3 5 rfl rfl)
theorem flX10_187 : gFL RX10 187 9 6 RX10 TX10 12 := ⟨rfl, by decide, gin10, (gt1 219 rfl rfl)⟩
theorem lkX10_191 : Cond.methodLink RX10 191 yX6_take ∈ gTT := (gt3 10 rfl rfl)
theorem lkX10_195 : Cond.methodLink RX10 195 yJ6_bitCount_0f7a4 ∈ gTT := (gt2 206 rfl rfl)
theorem lkX10_200 : Cond.methodLink RX10 200 yX10_whyNoSizes ∈ gTT := (gt3 40 rfl rfl)
theorem lkX10_203 : Cond.methodLink RX10 203 yX6_has ∈ gTT := (gt3 52 rfl rfl)
theorem lkX10_204 : Cond.methodLink RX10 204 yX6_above ∈ gTT := (gt3 53 rfl rfl)
theorem lkX10_207 : Cond.methodLink RX10 207 yX6_below ∈ gTT := (gt3 57 rfl rfl)
theorem lkX10_211 : Cond.methodLink RX10 211 yX2_lowest ∈ gTT := (gt3 61 rfl rfl)
theorem lkX10_215 : Cond.methodLink RX10 215 yX6_aboveIn ∈ gTT := (gt3 74 rfl rfl)
theorem lkX10_219 : Cond.methodLink RX10 219 yX6_squares ∈ gTT := (gt3 83 rfl rfl)
theorem lkX10_222 : Cond.methodLink RX10 222 yX6_causeSet ∈ gTT := (gt3 95 rfl rfl)
theorem lkX10_225 : Cond.methodLink RX10 225 yX0_length ∈ gTT := (gt2 205 rfl rfl)
theorem lkX10_226 : Cond.methodLink RX10 226 yX4_fewestOf ∈ gTT := (gt3 103 rfl rfl)
theorem lkX10_229 : Cond.methodLink RX10 229 yX4_solveWithout ∈ gTT := (gt3 121 rfl rfl)
theorem lkX10_233 : Cond.methodLink RX10 233 yX6_placeOf ∈ gTT := (gt3 125 rfl rfl)
theorem lkX10_236 : Cond.methodLink RX10 236 yX4_above ∈ gTT := (gt3 126 rfl rfl)
theorem lkX10_237 : Cond.methodLink RX10 237 yX4_below ∈ gTT := (gt3 127 rfl rfl)
theorem lkX10_238 : Cond.methodLink RX10 238 yX2_order ∈ gTT := (gt3 128 rfl rfl)
theorem flX10_242 : gFL RX10 242 7 2 RX8 TX8 4 := ⟨rfl, by decide, gin8, (gt1 95 rfl rfl)⟩
theorem flX10_245 : gFL RX10 245 7 3 RX8 TX8 4 := ⟨rfl, by decide, gin8, (gt1 98 rfl rfl)⟩
theorem lkX10_249 : Cond.methodLink RX10 249 yX7_write ∈ gTT := (gt3 141 rfl rfl)
theorem lkX10_254 : Cond.methodLink RX10 254 yX7_has ∈ gTT := (gt3 146 rfl rfl)
theorem lkX10_255 : Cond.methodLink RX10 255 yX10_isSteps ∈ gTT := (gt3 154 rfl rfl)
theorem lkX10_258 : Cond.methodLink RX10 258 yX6_stepIn ∈ gTT := (gt3 157 rfl rfl)
theorem lkX10_262 : Cond.methodLink RX10 262 yX10_whyNoPaper ∈ gTT := (gt3 167 rfl rfl)
theorem lkX10_265 : Cond.methodLink RX10 265 yJ9_abs_067f4 ∈ gTT := (gt3 175 rfl rfl)
theorem lkX10_271 : Cond.methodLink RX10 271 yJ9_max_f86c9 ∈ gTT := (gt3 176 rfl rfl)
theorem lkX10_275 : Cond.methodLink RX10 275 yX1_prepare ∈ gTT := (gt3 183 rfl rfl)
theorem lkX10_279 : Cond.methodLink RX10 279 yX1_run ∈ gTT := (gt3 194 rfl rfl)
theorem lkX10_282 : Cond.methodLink RX10 282 yX7_holds ∈ gTT := (gt3 214 rfl rfl)
theorem flX10_286 : gFL RX10 286 8 0 RX9 TX9 1 := ⟨rfl, by decide, gin9, (gt1 209 rfl rfl)⟩
theorem lkX10_289 : Cond.methodLink RX10 289 yX3_clear ∈ gTT := (gt3 227 rfl rfl)
theorem lkX10_292 : Cond.methodLink RX10 292 yX9_isPlace ∈ gTT := (gt3 235 rfl rfl)
theorem lkX10_295 : Cond.methodLink RX10 295 yX9_daysAt ∈ gTT := (gt3 239 rfl rfl)
theorem lkX10_298 : Cond.methodLink RX10 298 yX9_gainAt ∈ gTT := (gt4 9 rfl rfl)
theorem lkX10_301 : Cond.methodLink RX10 301 yX9_greatestTurnAt ∈ gTT := (gt4 18 rfl rfl)
theorem flX10_304 : gFL RX10 304 9 10 RX10 TX10 12 := ⟨rfl, by decide, gin10, (gt1 223 rfl rfl)⟩
theorem lkX10_307 : Cond.methodLink RX10 307 yX10_judge ∈ gTT := (gt4 34 rfl rfl)
theorem lkX10_310 : Cond.methodLink RX10 310 yX6_isSize ∈ gTT := (gt4 38 rfl rfl)
theorem lkX10_313 : Cond.methodLink RX10 313 yX8_copyFrom ∈ gTT := (gt4 47 rfl rfl)
theorem flX10_316 : gFL RX10 316 9 2 RX10 TX10 12 := ⟨rfl, by decide, gin10, (gt1 215 rfl rfl)⟩
theorem lkX10_320 : Cond.methodLink RX10 320 yX6_forget ∈ gTT := (gt4 73 rfl rfl)
theorem lkX10_323 : Cond.methodLink RX10 323 yX7_howMany ∈ gTT := (gt3 171 rfl rfl)
theorem lkX10_328 : Cond.methodLink RX10 328 yX6_areFound ∈ gTT := (gt3 44 rfl rfl)
theorem lkX10_331 : Cond.methodLink RX10 331 yX6_areStale ∈ gTT := (gt3 48 rfl rfl)
theorem lkX11_3 : Cond.methodLink RX11 3 objectInit ∈ gTT := (gt4 90 rfl rfl)
theorem flX11_9 : gFL RX11 9 10 0 RX11 TX11 27 := ⟨rfl, by decide, gin11, (gt4 91 rfl rfl)⟩
theorem flX11_13 : gFL RX11 13 10 1 RX11 TX11 27 := ⟨rfl, by decide, gin11, (gt4 92 rfl rfl)⟩
theorem flX11_16 : gFL RX11 16 10 3 RX11 TX11 27 := ⟨rfl, by decide, gin11, (gt4 94 rfl rfl)⟩
theorem flX11_19 : gFL RX11 19 10 4 RX11 TX11 27 := ⟨rfl, by decide, gin11, (gt4 95 rfl rfl)⟩
theorem flX11_22 : gFL RX11 22 10 6 RX11 TX11 27 := ⟨rfl, by decide, gin11, (gt4 97 rfl rfl)⟩
theorem flX11_25 : gFL RX11 25 10 7 RX11 TX11 27 := ⟨rfl, by decide, gin11, (gt4 98 rfl rfl)⟩
theorem flX11_28 : gFL RX11 28 10 9 RX11 TX11 27 := ⟨rfl, by decide, gin11, (gt4 100 rfl rfl)⟩
theorem flX11_31 : gFL RX11 31 10 10 RX11 TX11 27 := ⟨rfl, by decide, gin11, (gt4 101 rfl rfl)⟩
theorem flX11_35 : gFL RX11 35 10 16 RX11 TX11 27 := ⟨rfl, by decide, gin11, (gt4 107 rfl rfl)⟩
theorem flX11_38 : gFL RX11 38 10 17 RX11 TX11 27 := ⟨rfl, by decide, gin11, (gt4 108 rfl rfl)⟩
theorem flX11_41 : gFL RX11 41 10 21 RX11 TX11 27 := ⟨rfl, by decide, gin11, (gt4 112 rfl rfl)⟩
theorem flX11_44 : gFL RX11 44 10 22 RX11 TX11 27 := ⟨rfl, by decide, gin11, (gt4 113 rfl rfl)⟩
theorem flX11_47 : gFL RX11 47 10 23 RX11 TX11 27 := ⟨rfl, by decide, gin11, (gt4 114 rfl rfl)⟩
theorem flX11_50 : gFL RX11 50 10 24 RX11 TX11 27 := ⟨rfl, by decide, gin11, (gt4 115 rfl rfl)⟩
theorem flX11_53 : gFL RX11 53 10 26 RX11 TX11 27 := ⟨rfl, by decide, gin11, (gt4 117 rfl rfl)⟩
theorem lkX11_58 : Cond.methodLink RX11 58 yX11_in ∈ gTT := (gt4 177 rfl rfl)
theorem lkX11_64 : Cond.methodLink RX11 64 yX11_tellFinding ∈ gTT := (gt4 181 rfl rfl)
theorem flX11_70 : gFL RX11 70 10 13 RX11 TX11 27 := ⟨rfl, by decide, gin11, (gt4 104 rfl rfl)⟩
theorem lkX11_74 : Cond.methodLink RX11 74 yX11_isCause ∈ gTT := (gt4 191 rfl rfl)
theorem lkX11_78 : Cond.methodLink RX11 78 yX11_isState ∈ gTT := (gt4 195 rfl rfl)
theorem lkX11_81 : Cond.methodLink RX11 81 yX11_shown ∈ gTT := (gt4 198 rfl rfl)
theorem lkX11_87 : Cond.methodLink RX11 87 yX11_addReading ∈ gTT := (gt4 211 rfl rfl)
theorem lkX11_91 : Cond.methodLink RX11 91 yX11_isReading ∈ gTT := (gt4 219 rfl rfl)
theorem flX11_101 : gFL RX11 101 10 20 RX11 TX11 27 := ⟨rfl, by decide, gin11, (gt4 111 rfl rfl)⟩
theorem lkX11_105 : Cond.methodLink RX11 105 yX11_entry ∈ gTT := (gt5 23 rfl rfl)
theorem lkX11_109 : Cond.methodLink RX11 109 yX11_two ∈ gTT := (gt5 27 rfl rfl)
theorem lkX11_113 : Cond.methodLink RX11 113 yX11_three ∈ gTT := (gt5 31 rfl rfl)
theorem lkX11_117 : Cond.methodLink RX11 117 yX11_whole ∈ gTT := (gt5 19 rfl rfl)
theorem flX11_121 : gFL RX11 121 10 25 RX11 TX11 27 := ⟨rfl, by decide, gin11, (gt4 116 rfl rfl)⟩
theorem lkX11_125 : Cond.methodLink RX11 125 yX11_common ∈ gTT := (gt5 68 rfl rfl)
theorem lkX11_129 : Cond.methodLink RX11 129 yJ9_floorDiv_f86c9 ∈ gTT := (gt5 98 rfl rfl)
theorem lkX11_134 : Cond.methodLink RX11 134 yJ9_floorMod_f86c9 ∈ gTT := (gt5 99 rfl rfl)
theorem flX11_137 : gFL RX11 137 10 12 RX11 TX11 27 := ⟨rfl, by decide, gin11, (gt4 103 rfl rfl)⟩
theorem flX11_140 : gFL RX11 140 10 14 RX11 TX11 27 := ⟨rfl, by decide, gin11, (gt4 105 rfl rfl)⟩
theorem flX11_143 : gFL RX11 143 10 15 RX11 TX11 27 := ⟨rfl, by decide, gin11, (gt4 106 rfl rfl)⟩
theorem flX11_146 : gFL RX11 146 10 18 RX11 TX11 27 := ⟨rfl, by decide, gin11, (gt4 109 rfl rfl)⟩
theorem lkX11_149 : Cond.methodLink RX11 149 yX11_sumLeft ∈ gTT := (gt5 39 rfl rfl)
theorem flX11_153 : gFL RX11 153 10 19 RX11 TX11 27 := ⟨rfl, by decide, gin11, (gt4 110 rfl rfl)⟩
theorem lkX11_156 : Cond.methodLink RX11 156 yX11_bits ∈ gTT := (gt5 8 rfl rfl)
theorem lkX11_160 : Cond.methodLink RX11 160 yX11_takeModel ∈ gTT := (gt5 11 rfl rfl)
theorem lkX11_164 : Cond.methodLink RX11 164 yX11_solve ∈ gTT := (gt5 15 rfl rfl)
theorem lkX11_167 : Cond.methodLink RX11 167 yX11_becomesFound ∈ gTT := (gt5 35 rfl rfl)
theorem flX11_170 : gFL RX11 170 10 11 RX11 TX11 27 := ⟨rfl, by decide, gin11, (gt4 102 rfl rfl)⟩
theorem lkX11_173 : Cond.methodLink RX11 173 yX11_rank ∈ gTT := (gt5 43 rfl rfl)
theorem lkX11_180 : Cond.methodLink RX11 180 yX11_notFound ∈ gTT := (gt5 56 rfl rfl)
theorem lkX11_183 : Cond.methodLink RX11 183 yX11_placeOf ∈ gTT := (gt5 61 rfl rfl)
theorem lkX11_186 : Cond.methodLink RX11 186 yX11_part ∈ gTT := (gt5 65 rfl rfl)
theorem lkX11_190 : Cond.methodLink RX11 190 yX11_foretoldAt ∈ gTT := (gt5 75 rfl rfl)
theorem lkX11_193 : Cond.methodLink RX11 193 yX11_compare ∈ gTT := (gt5 95 rfl rfl)
theorem lkX11_197 : Cond.methodLink RX11 197 yX11_hasSpan ∈ gTT := (gt5 142 rfl rfl)
theorem lkX11_200 : Cond.methodLink RX11 200 yX11_isMend ∈ gTT := (gt5 122 rfl rfl)
theorem lkX11_203 : Cond.methodLink RX11 203 yX11_mended ∈ gTT := (gt5 126 rfl rfl)
theorem lkX11_206 : Cond.methodLink RX11 206 yX11_spans ∈ gTT := (gt5 138 rfl rfl)
theorem lkX11_210 : Cond.methodLink RX11 210 yX11_noWorst ∈ gTT := (gt5 134 rfl rfl)
theorem lkX11_213 : Cond.methodLink RX11 213 yX11_worstWith ∈ gTT := (gt5 146 rfl rfl)
theorem lkX11_223 : Cond.methodLink RX11 223 yX11_code ∈ gTT := (gt5 154 rfl rfl)
theorem flX11_226 : gFL RX11 226 10 5 RX11 TX11 27 := ⟨rfl, by decide, gin11, (gt4 96 rfl rfl)⟩
theorem lkX11_229 : Cond.methodLink RX11 229 yX11_isAt ∈ gTT := (gt5 176 rfl rfl)
theorem flX11_233 : gFL RX11 233 10 8 RX11 TX11 27 := ⟨rfl, by decide, gin11, (gt4 99 rfl rfl)⟩
theorem lkX11_240 : Cond.methodLink RX11 240 yX11_isFraction ∈ gTT := (gt5 192 rfl rfl)
theorem flX11_246 : gFL RX11 246 10 2 RX11 TX11 27 := ⟨rfl, by decide, gin11, (gt4 93 rfl rfl)⟩
theorem lkX0_3 : Cond.methodLink RX0 3 objectInit ∈ gTT := (gt1 37 rfl rfl)
theorem flX0_9 : gFL RX0 9 0 0 RX0 TX0 2 := ⟨rfl, by decide, gin0, (gt1 58 rfl rfl)⟩
theorem lkX0_17 : Cond.methodLink RX0 17 yX3_init ∈ gTT := (gt1 40 rfl rfl)
theorem flX0_20 : gFL RX0 20 0 1 RX0 TX0 2 := ⟨rfl, by decide, gin0, (gt1 59 rfl rfl)⟩
theorem lkX0_24 : Cond.methodLink RX0 24 yX2_within ∈ gTT := (gt2 17 rfl rfl)
theorem lkX0_30 : Cond.methodLink RX0 30 yX3_length ∈ gTT := (gt2 50 rfl rfl)
theorem lkX0_34 : Cond.methodLink RX0 34 yX3_has ∈ gTT := (gt2 67 rfl rfl)
theorem lkX0_38 : Cond.methodLink RX0 38 yX3_isFull ∈ gTT := (gt2 30 rfl rfl)
theorem lkX0_42 : Cond.methodLink RX0 42 yX0_isFull ∈ gTT := (gt2 42 rfl rfl)
theorem lkX0_43 : Cond.methodLink RX0 43 yX0_isKind ∈ gTT := (gt2 43 rfl rfl)
theorem lkX0_46 : Cond.methodLink RX0 46 yX0_length ∈ gTT := (gt2 46 rfl rfl)
theorem lkX0_47 : Cond.methodLink RX0 47 yX3_append ∈ gTT := (gt2 54 rfl rfl)
theorem lkX0_51 : Cond.methodLink RX0 51 yX0_has ∈ gTT := (gt2 78 rfl rfl)
theorem fsX0_52 : Cond.fieldLink RX0 52 "WatchBench$Causes" "OVER" "[I" ∈ gTT := (gt2 101 rfl rfl)
theorem lkX0_55 : Cond.methodLink RX0 55 yX3_first ∈ gTT := (gt2 80 rfl rfl)
theorem lkX0_59 : Cond.methodLinkNest RX0 59 yX10_isState RX10 ∈ lw_tbl := (gn2 79 rfl)
theorem lkX0_62 : Cond.methodLink RX0 62 yX3_second ∈ gTT := (gt2 85 rfl rfl)
theorem lkX0_65 : Cond.methodLink RX0 65 yX0_hanging ∈ gTT := (gt2 89 rfl rfl)
theorem lkX0_69 : Cond.methodLink RX0 69 arraycopyName ∈ gTT := (gt4 55 rfl rfl)
theorem lkX0_75 : Cond.methodLink RX0 75 yX3_copyFrom ∈ gTT := (gt4 58 rfl rfl)
theorem lkX1_3 : Cond.methodLink RX1 3 objectInit ∈ gTT := (gt1 180 rfl rfl)
theorem flX1_9 : gFL RX1 9 1 0 RX1 TX1 6 := ⟨rfl, by decide, gin1, (gt1 181 rfl rfl)⟩
theorem flX1_15 : gFL RX1 15 1 1 RX1 TX1 6 := ⟨rfl, by decide, gin1, (gt1 182 rfl rfl)⟩
theorem flX1_18 : gFL RX1 18 1 2 RX1 TX1 6 := ⟨rfl, by decide, gin1, (gt1 183 rfl rfl)⟩
theorem flX1_22 : gFL RX1 22 7 2 RX8 TX8 4 := ⟨rfl, by decide, gin8, (gt1 93 rfl rfl)⟩
theorem lkX1_28 : Cond.methodLink RX1 28 yX3_length ∈ gTT := (gt3 187 rfl rfl)
theorem lkX1_34 : Cond.methodLink RX1 34 yJ9_min_7cf53 ∈ gTT := (gt3 188 rfl rfl)
theorem flX1_40 : gFL RX1 40 1 3 RX1 TX1 6 := ⟨rfl, by decide, gin1, (gt1 184 rfl rfl)⟩
theorem flX1_42 : gFL RX1 42 7 3 RX8 TX8 4 := ⟨rfl, by decide, gin8, (gt1 97 rfl rfl)⟩
theorem lkX1_46 : Cond.methodLink RX1 46 yX7_has ∈ gTT := (gt3 191 rfl rfl)
theorem flX1_52 : gFL RX1 52 7 0 RX8 TX8 4 := ⟨rfl, by decide, gin8, (gt1 86 rfl rfl)⟩
theorem lkX1_56 : Cond.methodLink RX1 56 yX6_aboveIn ∈ gTT := (gt3 192 rfl rfl)
theorem lkX1_62 : Cond.methodLink RX1 62 yX6_stepIn ∈ gTT := (gt3 193 rfl rfl)
theorem flX1_70 : gFL RX1 70 1 4 RX1 TX1 6 := ⟨rfl, by decide, gin1, (gt1 185 rfl rfl)⟩
theorem lkX1_74 : Cond.methodLink RX1 74 yX1_tryOut ∈ gTT := (gt3 199 rfl rfl)
theorem lkX1_78 : Cond.methodLink RX1 78 yX1_trySecond ∈ gTT := (gt3 206 rfl rfl)
theorem flX1_82 : gFL RX1 82 1 5 RX1 TX1 6 := ⟨rfl, by decide, gin1, (gt1 186 rfl rfl)⟩
theorem lkX1_85 : Cond.methodLink RX1 85 yJ9_max_7cf53 ∈ gTT := (gt3 203 rfl rfl)
theorem lkX1_88 : Cond.methodLink RX1 88 yJ9_abs_067f4 ∈ gTT := (gt3 204 rfl rfl)
theorem lkX1_92 : Cond.methodLink RX1 92 yJ9_max_f86c9 ∈ gTT := (gt3 205 rfl rfl)
theorem lkX2_7 : Cond.methodLink RX2 7 yJ9_abs_067f4 ∈ gTT := (gt3 64 rfl rfl)
theorem lkX2_13 : Cond.methodLink RX2 13 yX2_commonOf ∈ gTT := (gt3 67 rfl rfl)
theorem lkX2_19 : Cond.methodLink RX2 19 yJ9_floorDiv_f86c9 ∈ gTT := (gt3 111 rfl rfl)
theorem lkX2_22 : Cond.methodLink RX2 22 yJ13_compare_74951 ∈ gTT := (gt3 114 rfl rfl)
theorem lkX3_1 : Cond.methodLink RX3 1 objectInit ∈ gTT := (gt1 43 rfl rfl)
theorem lkX3_7 : Cond.methodLink RX3 7 yJ9_max_7cf53 ∈ gTT := (gt1 44 rfl rfl)
theorem flX3_13 : gFL RX3 13 2 0 RX3 TX3 3 := ⟨rfl, by decide, gin3, (gt1 47 rfl rfl)⟩
theorem flX3_19 : gFL RX3 19 2 1 RX3 TX3 3 := ⟨rfl, by decide, gin3, (gt1 48 rfl rfl)⟩
theorem flX3_22 : gFL RX3 22 2 2 RX3 TX3 3 := ⟨rfl, by decide, gin3, (gt1 49 rfl rfl)⟩
theorem lkX3_26 : Cond.methodLink RX3 26 yX3_has ∈ gTT := (gt2 84 rfl rfl)
theorem lkX3_30 : Cond.methodLink RX3 30 yX3_isFull ∈ gTT := (gt2 58 rfl rfl)
theorem lkX3_34 : Cond.methodLink RX3 34 yX3_clear ∈ gTT := (gt4 62 rfl rfl)
theorem lkX3_37 : Cond.methodLink RX3 37 yX3_append ∈ gTT := (gt4 63 rfl rfl)
theorem lkX4_3 : Cond.methodLink RX4 3 objectInit ∈ gTT := (gt1 132 rfl rfl)
theorem flX4_11 : gFL RX4 11 3 0 RX4 TX4 5 := ⟨rfl, by decide, gin4, (gt1 133 rfl rfl)⟩
theorem flX4_15 : gFL RX4 15 3 1 RX4 TX4 5 := ⟨rfl, by decide, gin4, (gt1 134 rfl rfl)⟩
theorem flX4_18 : gFL RX4 18 3 2 RX4 TX4 5 := ⟨rfl, by decide, gin4, (gt1 135 rfl rfl)⟩
theorem flX4_22 : gFL RX4 22 3 4 RX4 TX4 5 := ⟨rfl, by decide, gin4, (gt1 137 rfl rfl)⟩
theorem lkX4_25 : Cond.methodLink RX4 25 yJ7_fill_d0a16 ∈ gTT := (gt2 216 rfl rfl)
theorem flX4_31 : gFL RX4 31 7 1 RX8 TX8 4 := ⟨rfl, by decide, gin8, (gt1 90 rfl rfl)⟩
theorem lkX4_37 : Cond.methodLink RX4 37 yX3_length ∈ gTT := (gt2 219 rfl rfl)
theorem lkX4_43 : Cond.methodLink RX4 43 yX4_weigh ∈ gTT := (gt2 220 rfl rfl)
theorem lkX4_47 : Cond.methodLink RX4 47 yX3_first ∈ gTT := (gt2 224 rfl rfl)
theorem flX4_51 : gFL RX4 51 7 0 RX8 TX8 4 := ⟨rfl, by decide, gin8, (gt1 87 rfl rfl)⟩
theorem lkX4_55 : Cond.methodLink RX4 55 yX0_shownIn ∈ gTT := (gt2 225 rfl rfl)
theorem lkX4_61 : Cond.methodLink RX4 61 yX3_second ∈ gTT := (gt2 226 rfl rfl)
theorem lkX4_64 : Cond.methodLink RX4 64 yX4_pickColumns ∈ gTT := (gt2 231 rfl rfl)
theorem flX4_68 : gFL RX4 68 3 3 RX4 TX4 5 := ⟨rfl, by decide, gin4, (gt1 136 rfl rfl)⟩
theorem lkX4_72 : Cond.methodLink RX4 72 yX4_minorOf ∈ gTT := (gt2 235 rfl rfl)
theorem lkX4_76 : Cond.methodLink RX4 76 yX4_below ∈ gTT := (gt3 1 rfl rfl)
theorem lkX4_80 : Cond.methodLink RX4 80 yX4_solve ∈ gTT := (gt3 9 rfl rfl)
theorem lkX4_84 : Cond.methodLink RX4 84 yJ6_bitCount_0f7a4 ∈ gTT := (gt2 239 rfl rfl)
theorem lkX4_91 : Cond.methodLink RX4 91 yX4_squares ∈ gTT := (gt3 107 rfl rfl)
theorem lkX4_94 : Cond.methodLink RX4 94 yX2_order ∈ gTT := (gt3 108 rfl rfl)
theorem lkX5_3 : Cond.methodLink RX5 3 objectInit ∈ gTT := (gt1 113 rfl rfl)
theorem flX5_11 : gFL RX5 11 4 0 RX5 TX5 2 := ⟨rfl, by decide, gin5, (gt1 119 rfl rfl)⟩
theorem flX5_17 : gFL RX5 17 4 1 RX5 TX5 2 := ⟨rfl, by decide, gin5, (gt1 120 rfl rfl)⟩
theorem lkX5_20 : Cond.methodLink RX5 20 yJ7_fill_53178 ∈ gTT := (gt1 116 rfl rfl)
theorem lkX5_26 : Cond.methodLink RX5 26 yX2_within ∈ gTT := (gt2 139 rfl rfl)
theorem lkX5_32 : Cond.methodLink RX5 32 yX5_isSheet ∈ gTT := (gt2 144 rfl rfl)
theorem lkX5_36 : Cond.methodLink RX5 36 yX5_placesOf ∈ gTT := (gt2 156 rfl rfl)
theorem lkX5_40 : Cond.methodLink RX5 40 yJ7_fill_fb410 ∈ gTT := (gt2 145 rfl rfl)
theorem lkX5_43 : Cond.methodLink RX5 43 yX5_hasPlace ∈ gTT := (gt2 168 rfl rfl)
theorem lkX5_47 : Cond.methodLink RX5 47 yX5_rateAt ∈ gTT := (gt2 169 rfl rfl)
theorem lkX5_51 : Cond.methodLink RX5 51 yX5_wasRead ∈ gTT := (gt2 186 rfl rfl)
theorem lkX5_54 : Cond.methodLinkNest RX5 54 yX10_isRate RX10 ∈ lw_tbl := (gn2 190 rfl)
theorem lkX6_3 : Cond.methodLink RX6 3 objectInit ∈ gTT := (gt1 155 rfl rfl)
theorem flX6_9 : gFL RX6 9 5 3 RX6 TX6 6 := ⟨rfl, by decide, gin6, (gt1 159 rfl rfl)⟩
theorem flX6_15 : gFL RX6 15 5 4 RX6 TX6 6 := ⟨rfl, by decide, gin6, (gt1 160 rfl rfl)⟩
theorem flX6_19 : gFL RX6 19 5 0 RX6 TX6 6 := ⟨rfl, by decide, gin6, (gt1 156 rfl rfl)⟩
theorem flX6_23 : gFL RX6 23 5 1 RX6 TX6 6 := ⟨rfl, by decide, gin6, (gt1 157 rfl rfl)⟩
theorem flX6_26 : gFL RX6 26 5 2 RX6 TX6 6 := ⟨rfl, by decide, gin6, (gt1 158 rfl rfl)⟩
theorem lkX6_30 : Cond.methodLink RX6 30 yX4_below ∈ gTT := (gt3 14 rfl rfl)
theorem lkX6_35 : Cond.methodLink RX6 35 yX4_squares ∈ gTT := (gt3 15 rfl rfl)
theorem flX6_38 : gFL RX6 38 5 5 RX6 TX6 6 := ⟨rfl, by decide, gin6, (gt1 161 rfl rfl)⟩
theorem lkX6_40 : Cond.methodLink RX6 40 yX6_has ∈ gTT := (gt3 19 rfl rfl)
theorem lkX6_44 : Cond.methodLink RX6 44 yX6_placeOf ∈ gTT := (gt3 23 rfl rfl)
theorem lkX6_48 : Cond.methodLink RX6 48 yX4_above ∈ gTT := (gt3 28 rfl rfl)
theorem lkX6_52 : Cond.methodLink RX6 52 yJ6_bitCount_0f7a4 ∈ gTT := (gt3 27 rfl rfl)
theorem lkX6_57 : Cond.methodLink RX6 57 yX0_shownIn ∈ gTT := (gt3 78 rfl rfl)
theorem flX6_63 : gFL RX6 63 7 2 RX8 TX8 4 := ⟨rfl, by decide, gin8, (gt1 94 rfl rfl)⟩
theorem lkX6_69 : Cond.methodLink RX6 69 yX3_first ∈ gTT := (gt3 161 rfl rfl)
theorem lkX6_74 : Cond.methodLink RX6 74 yX3_second ∈ gTT := (gt3 162 rfl rfl)
theorem flX6_77 : gFL RX6 77 7 0 RX8 TX8 4 := ⟨rfl, by decide, gin8, (gt1 88 rfl rfl)⟩
theorem lkX6_81 : Cond.methodLink RX6 81 yX2_order ∈ gTT := (gt4 42 rfl rfl)
theorem lkX7_3 : Cond.methodLink RX7 3 objectInit ∈ gTT := (gt1 72 rfl rfl)
theorem flX7_9 : gFL RX7 9 6 0 RX7 TX7 3 := ⟨rfl, by decide, gin7, (gt1 73 rfl rfl)⟩
theorem flX7_15 : gFL RX7 15 6 1 RX7 TX7 3 := ⟨rfl, by decide, gin7, (gt1 74 rfl rfl)⟩
theorem flX7_19 : gFL RX7 19 6 2 RX7 TX7 3 := ⟨rfl, by decide, gin7, (gt1 75 rfl rfl)⟩
theorem lkX7_22 : Cond.methodLinkNest RX7 22 yX10_isState RX10 ∈ lw_tbl := (gn3 145 rfl)
theorem lkX7_26 : Cond.methodLink RX7 26 yX7_has ∈ gTT := (gt3 218 rfl rfl)
theorem lkX8_3 : Cond.methodLink RX8 3 objectInit ∈ gTT := (gt1 31 rfl rfl)
theorem lkX8_11 : Cond.methodLinkNest RX8 11 yX0_init RX10 ∈ lw_tbl := (gn1 34 rfl)
theorem flX8_12 : gFL RX8 12 7 0 RX8 TX8 4 := ⟨rfl, by decide, gin8, (gt1 84 rfl rfl)⟩
theorem lkX8_20 : Cond.methodLink RX8 20 yX3_init ∈ gTT := (gt1 66 rfl rfl)
theorem flX8_23 : gFL RX8 23 7 1 RX8 TX8 4 := ⟨rfl, by decide, gin8, (gt1 89 rfl rfl)⟩
theorem flX8_27 : gFL RX8 27 7 2 RX8 TX8 4 := ⟨rfl, by decide, gin8, (gt1 92 rfl rfl)⟩
theorem lkX8_32 : Cond.methodLinkNest RX8 32 yX7_init RX10 ∈ lw_tbl := (gn1 69 rfl)
theorem flX8_33 : gFL RX8 33 7 3 RX8 TX8 4 := ⟨rfl, by decide, gin8, (gt1 96 rfl rfl)⟩
theorem lkX8_37 : Cond.methodLink RX8 37 yX0_copyFrom ∈ gTT := (gt4 51 rfl rfl)
theorem lkX8_41 : Cond.methodLink RX8 41 yX3_copyFrom ∈ gTT := (gt4 64 rfl rfl)
theorem lkX8_44 : Cond.methodLink RX8 44 yX7_copyFrom ∈ gTT := (gt4 65 rfl rfl)
theorem lkX9_3 : Cond.methodLink RX9 3 objectInit ∈ gTT := (gt1 205 rfl rfl)
theorem lkX9_11 : Cond.methodLink RX9 11 yX3_init ∈ gTT := (gt1 207 rfl rfl)
theorem flX9_14 : gFL RX9 14 8 0 RX9 TX9 1 := ⟨rfl, by decide, gin9, (gt1 208 rfl rfl)⟩
theorem lkX9_20 : Cond.methodLink RX9 20 yX2_within ∈ gTT := (gt3 238 rfl rfl)
theorem lkX9_26 : Cond.methodLink RX9 26 yX3_first ∈ gTT := (gt4 8 rfl rfl)
theorem lkX9_30 : Cond.methodLink RX9 30 yX3_length ∈ gTT := (gt4 3 rfl rfl)
theorem lkX9_34 : Cond.methodLink RX9 34 yX9_isAt ∈ gTT := (gt4 4 rfl rfl)
theorem lkX9_38 : Cond.methodLink RX9 38 yX3_second ∈ gTT := (gt4 13 rfl rfl)
theorem lkX9_41 : Cond.methodLink RX9 41 yJ9_abs_0f7a4 ∈ gTT := (gt4 22 rfl rfl)
theorem lkX9_46 : Cond.methodLink RX9 46 yJ9_max_7cf53 ∈ gTT := (gt4 25 rfl rfl)
theorem lkL_9 : Cond.methodLink RL 9 yX10_init ∈ gTT := (gt1 20 rfl rfl)
theorem lkL_12 : Cond.methodLink RL 12 yX11_init ∈ gTT := (gt4 87 rfl rfl)
theorem lkL_13 : Cond.methodLink RL 13 yX10_cause ∈ gTT := (gt2 10 rfl rfl)
theorem lkL_17 : Cond.methodLink RL 17 yX11_cause ∈ gTT := (gt4 173 rfl rfl)
theorem lkL_18 : Cond.methodLink RL 18 yX10_shows ∈ gTT := (gt2 59 rfl rfl)
theorem lkL_22 : Cond.methodLink RL 22 yX11_shows ∈ gTT := (gt4 187 rfl rfl)
theorem lkL_23 : Cond.methodLink RL 23 yX10_as ∈ gTT := (gt2 92 rfl rfl)
theorem lkL_26 : Cond.methodLink RL 26 yX11_as ∈ gTT := (gt4 202 rfl rfl)
theorem lkL_27 : Cond.methodLink RL 27 yX10_read ∈ gTT := (gt2 107 rfl rfl)
theorem lkL_30 : Cond.methodLink RL 30 yX11_read ∈ gTT := (gt4 207 rfl rfl)
theorem lkL_31 : Cond.methodLink RL 31 yX10_drop ∈ gTT := (gt2 116 rfl rfl)
theorem lkL_35 : Cond.methodLink RL 35 yX11_drop ∈ gTT := (gt4 215 rfl rfl)
theorem lkL_36 : Cond.methodLink RL 36 yX10_reading ∈ gTT := (gt2 126 rfl rfl)
theorem lkL_39 : Cond.methodLink RL 39 yX11_reading ∈ gTT := (gt4 223 rfl rfl)
theorem lkL_40 : Cond.methodLink RL 40 yX10_sheet ∈ gTT := (gt2 132 rfl rfl)
theorem lkL_43 : Cond.methodLink RL 43 yX11_sheet ∈ gTT := (gt4 227 rfl rfl)
theorem lkL_44 : Cond.methodLink RL 44 yX10_put ∈ gTT := (gt2 148 rfl rfl)
theorem lkL_47 : Cond.methodLink RL 47 yX11_put ∈ gTT := (gt4 232 rfl rfl)
theorem lkL_48 : Cond.methodLink RL 48 yX10_lay ∈ gTT := (gt2 173 rfl rfl)
theorem lkL_51 : Cond.methodLink RL 51 yX11_lay ∈ gTT := (gt5 0 rfl rfl)
theorem lkL_52 : Cond.methodLink RL 52 yX10_find ∈ gTT := (gt2 197 rfl rfl)
theorem lkL_55 : Cond.methodLink RL 55 yX11_find ∈ gTT := (gt5 4 rfl rfl)
theorem lkL_56 : Cond.methodLink RL 56 yX10_loose ∈ gTT := (gt3 32 rfl rfl)
theorem lkL_60 : Cond.methodLink RL 60 yX11_loose ∈ gTT := (gt5 48 rfl rfl)
theorem lkL_61 : Cond.methodLink RL 61 yX10_size ∈ gTT := (gt3 36 rfl rfl)
theorem lkL_65 : Cond.methodLink RL 65 yX11_size ∈ gTT := (gt5 52 rfl rfl)
theorem lkL_66 : Cond.methodLink RL 66 yX10_left ∈ gTT := (gt3 70 rfl rfl)
theorem lkL_69 : Cond.methodLink RL 69 yX11_left ∈ gTT := (gt5 71 rfl rfl)
theorem lkL_70 : Cond.methodLink RL 70 yX10_sum ∈ gTT := (gt3 79 rfl rfl)
theorem lkL_74 : Cond.methodLink RL 74 yX11_sum ∈ gTT := (gt5 79 rfl rfl)
theorem lkL_75 : Cond.methodLink RL 75 yX10_foretold ∈ gTT := (gt3 87 rfl rfl)
theorem lkL_78 : Cond.methodLink RL 78 yX11_foretold ∈ gTT := (gt5 83 rfl rfl)
theorem lkL_79 : Cond.methodLink RL 79 yX10_model ∈ gTT := (gt3 91 rfl rfl)
theorem lkL_82 : Cond.methodLink RL 82 yX11_model ∈ gTT := (gt5 87 rfl rfl)
theorem lkL_83 : Cond.methodLink RL 83 yX10_few ∈ gTT := (gt3 99 rfl rfl)
theorem lkL_86 : Cond.methodLink RL 86 yX11_few ∈ gTT := (gt5 91 rfl rfl)
theorem lkL_87 : Cond.methodLink RL 87 yX10_doubt ∈ gTT := (gt3 117 rfl rfl)
theorem lkL_91 : Cond.methodLink RL 91 yX11_doubt ∈ gTT := (gt5 102 rfl rfl)
theorem lkL_92 : Cond.methodLink RL 92 yX10_spare ∈ gTT := (gt3 129 rfl rfl)
theorem lkL_95 : Cond.methodLink RL 95 yX11_spare ∈ gTT := (gt5 106 rfl rfl)
theorem lkL_96 : Cond.methodLink RL 96 yX10_mend ∈ gTT := (gt3 133 rfl rfl)
theorem lkL_99 : Cond.methodLink RL 99 yX11_mend ∈ gTT := (gt5 110 rfl rfl)
theorem lkL_100 : Cond.methodLink RL 100 yX10_span ∈ gTT := (gt3 137 rfl rfl)
theorem lkL_103 : Cond.methodLink RL 103 yX11_span ∈ gTT := (gt5 114 rfl rfl)
theorem lkL_104 : Cond.methodLink RL 104 yX10_behind ∈ gTT := (gt3 150 rfl rfl)
theorem lkL_108 : Cond.methodLink RL 108 yX11_behind ∈ gTT := (gt5 118 rfl rfl)
theorem lkL_109 : Cond.methodLink RL 109 yX10_worst ∈ gTT := (gt3 163 rfl rfl)
theorem lkL_112 : Cond.methodLink RL 112 yX11_worst ∈ gTT := (gt5 130 rfl rfl)
theorem lkL_113 : Cond.methodLink RL 113 yX10_best ∈ gTT := (gt3 179 rfl rfl)
theorem lkL_116 : Cond.methodLink RL 116 yX11_best ∈ gTT := (gt5 150 rfl rfl)
theorem lkL_117 : Cond.methodLink RL 117 yX10_paper ∈ gTT := (gt3 210 rfl rfl)
theorem lkL_120 : Cond.methodLink RL 120 yX11_paper ∈ gTT := (gt5 160 rfl rfl)
theorem lkL_121 : Cond.methodLink RL 121 yX10_day ∈ gTT := (gt3 219 rfl rfl)
theorem lkL_124 : Cond.methodLink RL 124 yX11_day ∈ gTT := (gt5 164 rfl rfl)
theorem lkL_125 : Cond.methodLink RL 125 yX10_anew ∈ gTT := (gt3 223 rfl rfl)
theorem lkL_128 : Cond.methodLink RL 128 yX11_anew ∈ gTT := (gt5 168 rfl rfl)
theorem lkL_129 : Cond.methodLink RL 129 yX10_mean ∈ gTT := (gt3 231 rfl rfl)
theorem lkL_132 : Cond.methodLink RL 132 yX11_mean ∈ gTT := (gt5 172 rfl rfl)
theorem lkL_133 : Cond.methodLink RL 133 yX10_change ∈ gTT := (gt4 14 rfl rfl)
theorem lkL_136 : Cond.methodLink RL 136 yX11_change ∈ gTT := (gt5 180 rfl rfl)
theorem lkL_137 : Cond.methodLink RL 137 yX10_tell ∈ gTT := (gt4 26 rfl rfl)
theorem lkL_140 : Cond.methodLink RL 140 yX11_tell ∈ gTT := (gt5 184 rfl rfl)
theorem lkL_141 : Cond.methodLink RL 141 yX10_check ∈ gTT := (gt4 30 rfl rfl)
theorem lkL_144 : Cond.methodLink RL 144 yX11_check ∈ gTT := (gt5 188 rfl rfl)
theorem lkL_145 : Cond.methodLink RL 145 yX10_keep ∈ gTT := (gt4 43 rfl rfl)
theorem lkL_148 : Cond.methodLink RL 148 yX11_keep ∈ gTT := (gt5 198 rfl rfl)
theorem lkL_149 : Cond.methodLink RL 149 yX10_back ∈ gTT := (gt4 69 rfl rfl)
theorem lkL_152 : Cond.methodLink RL 152 yX11_back ∈ gTT := (gt5 202 rfl rfl)
theorem lkL_153 : Cond.methodLink RL 153 yX10_count ∈ gTT := (gt4 77 rfl rfl)
theorem lkL_156 : Cond.methodLink RL 156 yX11_count ∈ gTT := (gt5 206 rfl rfl)
theorem lkL_157 : Cond.methodLink RL 157 yX10_found ∈ gTT := (gt4 81 rfl rfl)
theorem lkL_160 : Cond.methodLink RL 160 yX11_found ∈ gTT := (gt5 210 rfl rfl)
theorem mJ13_compare_74951 : gMS yJ13_compare_74951 cJ13_compare_74951 4 (some .int) 2 := ⟨(gt3 116 rfl rfl), (gt3 115 rfl rfl), (gt1 16 rfl rfl), ⟨by decide, by decide⟩, by decide +kernel⟩
theorem mJ6_bitCount_0f7a4 : gMS yJ6_bitCount_0f7a4 cJ6_bitCount_0f7a4 1 (some .int) 1 := ⟨(gt2 208 rfl rfl), (gt2 207 rfl rfl), (gt1 15 rfl rfl), ⟨by decide, by decide⟩, by decide +kernel⟩
theorem mJ7_fill_53178 : gMS yJ7_fill_53178 cJ7_fill_53178 4 none 2 := ⟨(gt1 118 rfl rfl), (gt1 117 rfl rfl), (gt1 8 rfl rfl), ⟨by decide, by decide⟩, by decide +kernel⟩
theorem mJ7_fill_d0a16 : gMS yJ7_fill_d0a16 cJ7_fill_d0a16 5 none 2 := ⟨(gt2 218 rfl rfl), (gt2 217 rfl rfl), (gt1 8 rfl rfl), ⟨by decide, by decide⟩, by decide +kernel⟩
theorem mJ7_fill_fb410 : gMS yJ7_fill_fb410 cJ7_fill_fb410 4 none 2 := ⟨(gt2 147 rfl rfl), (gt2 146 rfl rfl), (gt1 8 rfl rfl), ⟨by decide, by decide⟩, by decide +kernel⟩
theorem mJ9_abs_067f4 : gMS yJ9_abs_067f4 cJ9_abs_067f4 2 (some .long) 1 := ⟨(gt3 66 rfl rfl), (gt3 65 rfl rfl), (gt1 5 rfl rfl), ⟨by decide, by decide⟩, by decide +kernel⟩
theorem mJ9_abs_0f7a4 : gMS yJ9_abs_0f7a4 cJ9_abs_0f7a4 1 (some .int) 1 := ⟨(gt4 24 rfl rfl), (gt4 23 rfl rfl), (gt1 5 rfl rfl), ⟨by decide, by decide⟩, by decide +kernel⟩
theorem mJ9_floorDiv_f86c9 : gMS yJ9_floorDiv_f86c9 cJ9_floorDiv_f86c9 6 (some .long) 2 := ⟨(gt3 113 rfl rfl), (gt3 112 rfl rfl), (gt1 5 rfl rfl), ⟨by decide, by decide⟩, by decide +kernel⟩
theorem mJ9_floorMod_f86c9 : gMS yJ9_floorMod_f86c9 cJ9_floorMod_f86c9 6 (some .long) 2 := ⟨(gt5 101 rfl rfl), (gt5 100 rfl rfl), (gt1 5 rfl rfl), ⟨by decide, by decide⟩, by decide +kernel⟩
theorem mJ9_max_7cf53 : gMS yJ9_max_7cf53 cJ9_max_7cf53 2 (some .int) 2 := ⟨(gt1 46 rfl rfl), (gt1 45 rfl rfl), (gt1 5 rfl rfl), ⟨by decide, by decide⟩, by decide +kernel⟩
theorem mJ9_max_f86c9 : gMS yJ9_max_f86c9 cJ9_max_f86c9 4 (some .long) 2 := ⟨(gt3 178 rfl rfl), (gt3 177 rfl rfl), (gt1 5 rfl rfl), ⟨by decide, by decide⟩, by decide +kernel⟩
theorem mJ9_min_7cf53 : gMS yJ9_min_7cf53 cJ9_min_7cf53 2 (some .int) 2 := ⟨(gt3 190 rfl rfl), (gt3 189 rfl rfl), (gt1 5 rfl rfl), ⟨by decide, by decide⟩, by decide +kernel⟩
theorem mX0_allows : gMS yX0_allows cX0_allows 3 (some .boolean) 3 := ⟨(gt2 16 rfl rfl), (gt2 15 rfl rfl), (gt1 3 rfl rfl), ⟨by decide, by decide⟩, by decide +kernel⟩
theorem mX0_append : gMV RX0 yX0_append cX0_append 4 (some .int) 3 := ⟨(gt2 41 rfl rfl), (gt2 39 rfl rfl), (gt2 40 rfl rfl), (gt1 3 rfl rfl), ⟨by decide, by decide⟩, by decide +kernel⟩
theorem mX0_copyFrom : gMV RX0 yX0_copyFrom cX0_copyFrom 2 none 1 := ⟨(gt4 54 rfl rfl), (gt4 52 rfl rfl), (gt4 53 rfl rfl), (gt1 3 rfl rfl), ⟨by decide, by decide⟩, by decide +kernel⟩
theorem mX0_hanging : gMS yX0_hanging cX0_hanging 5 (some .int) 4 := ⟨(gt2 91 rfl rfl), (gt2 90 rfl rfl), (gt1 3 rfl rfl), ⟨by decide, by decide⟩, by decide +kernel⟩
theorem mX0_has : gMV RX0 yX0_has cX0_has 2 (some .boolean) 1 := ⟨(gt2 66 rfl rfl), (gt2 64 rfl rfl), (gt2 65 rfl rfl), (gt1 3 rfl rfl), ⟨by decide, by decide⟩, by decide +kernel⟩
theorem mX0_init : gMI yX0_init cX0_init 1 0 := ⟨(gt1 36 rfl rfl), (gt1 35 rfl rfl), (gt1 3 rfl rfl), rfl, ⟨by decide, by decide⟩, by decide +kernel⟩
theorem mX0_isFull : gMV RX0 yX0_isFull cX0_isFull 1 (some .boolean) 0 := ⟨(gt2 29 rfl rfl), (gt2 27 rfl rfl), (gt2 28 rfl rfl), (gt1 3 rfl rfl), ⟨by decide, by decide⟩, by decide +kernel⟩
theorem mX0_isKind : gMS yX0_isKind cX0_isKind 1 (some .boolean) 1 := ⟨(gt2 45 rfl rfl), (gt2 44 rfl rfl), (gt1 3 rfl rfl), ⟨by decide, by decide⟩, by decide +kernel⟩
theorem mX0_isOf : gMV RX0 yX0_isOf cX0_isOf 5 (some .boolean) 2 := ⟨(gt2 100 rfl rfl), (gt2 98 rfl rfl), (gt2 99 rfl rfl), (gt1 3 rfl rfl), ⟨by decide, by decide⟩, by decide +kernel⟩
theorem mX0_length : gMV RX0 yX0_length cX0_length 1 (some .int) 0 := ⟨(gt2 49 rfl rfl), (gt2 47 rfl rfl), (gt2 48 rfl rfl), (gt1 3 rfl rfl), ⟨by decide, by decide⟩, by decide +kernel⟩
theorem mX0_numberA : gMV RX0 yX0_numberA cX0_numberA 2 (some .int) 1 := ⟨(gt2 106 rfl rfl), (gt2 104 rfl rfl), (gt2 105 rfl rfl), (gt1 3 rfl rfl), ⟨by decide, by decide⟩, by decide +kernel⟩
theorem mX0_shownIn : gMV RX0 yX0_shownIn cX0_shownIn 8 (some .int) 2 := ⟨(gt2 77 rfl rfl), (gt2 75 rfl rfl), (gt2 76 rfl rfl), (gt1 3 rfl rfl), ⟨by decide, by decide⟩, by decide +kernel⟩
theorem mX1_init : gMI yX1_init cX1_init 1 0 := ⟨(gt1 179 rfl rfl), (gt1 178 rfl rfl), (gt1 11 rfl rfl), rfl, ⟨by decide, by decide⟩, by decide +kernel⟩
theorem mX1_prepare : gMV RX1 yX1_prepare cX1_prepare 5 none 2 := ⟨(gt3 186 rfl rfl), (gt3 184 rfl rfl), (gt3 185 rfl rfl), (gt1 11 rfl rfl), ⟨by decide, by decide⟩, by decide +kernel⟩
theorem mX1_run : gMV RX1 yX1_run cX1_run 3 (some .long) 0 := ⟨(gt3 197 rfl rfl), (gt3 195 rfl rfl), (gt3 196 rfl rfl), (gt1 11 rfl rfl), ⟨by decide, by decide⟩, by decide +kernel⟩
theorem mX1_tryOut : gMV RX1 yX1_tryOut cX1_tryOut 12 none 4 := ⟨(gt3 202 rfl rfl), (gt3 201 rfl rfl), (gt0 8 rfl rfl), (gt1 11 rfl rfl), ⟨by decide, by decide⟩, by decide +kernel⟩
theorem mX1_trySecond : gMV RX1 yX1_trySecond cX1_trySecond 5 none 2 := ⟨(gt3 209 rfl rfl), (gt3 208 rfl rfl), (gt0 9 rfl rfl), (gt1 11 rfl rfl), ⟨by decide, by decide⟩, by decide +kernel⟩
theorem mX10_anew : gMV RX10 yX10_anew cX10_anew 2 (some .long) 0 := ⟨(gt3 226 rfl rfl), (gt3 224 rfl rfl), (gt3 225 rfl rfl), (gt1 1 rfl rfl), ⟨by decide, by decide⟩, by decide +kernel⟩
theorem mX10_as : gMV RX10 yX10_as cX10_as 3 (some .long) 2 := ⟨(gt2 95 rfl rfl), (gt2 93 rfl rfl), (gt2 94 rfl rfl), (gt1 1 rfl rfl), ⟨by decide, by decide⟩, by decide +kernel⟩
theorem mX10_back : gMV RX10 yX10_back cX10_back 1 (some .long) 0 := ⟨(gt4 72 rfl rfl), (gt4 70 rfl rfl), (gt4 71 rfl rfl), (gt1 1 rfl rfl), ⟨by decide, by decide⟩, by decide +kernel⟩
theorem mX10_behind : gMV RX10 yX10_behind cX10_behind 11 (some .long) 6 := ⟨(gt3 153 rfl rfl), (gt3 151 rfl rfl), (gt3 152 rfl rfl), (gt1 1 rfl rfl), ⟨by decide, by decide⟩, by decide +kernel⟩
theorem mX10_best : gMV RX10 yX10_best cX10_best 2 (some .long) 0 := ⟨(gt3 182 rfl rfl), (gt3 180 rfl rfl), (gt3 181 rfl rfl), (gt1 1 rfl rfl), ⟨by decide, by decide⟩, by decide +kernel⟩
theorem mX10_cause : gMV RX10 yX10_cause cX10_cause 4 (some .long) 3 := ⟨(gt2 13 rfl rfl), (gt2 11 rfl rfl), (gt2 12 rfl rfl), (gt1 1 rfl rfl), ⟨by decide, by decide⟩, by decide +kernel⟩
theorem mX10_change : gMV RX10 yX10_change cX10_change 2 (some .long) 1 := ⟨(gt4 17 rfl rfl), (gt4 15 rfl rfl), (gt4 16 rfl rfl), (gt1 1 rfl rfl), ⟨by decide, by decide⟩, by decide +kernel⟩
theorem mX10_check : gMV RX10 yX10_check cX10_check 3 (some .long) 0 := ⟨(gt4 33 rfl rfl), (gt4 31 rfl rfl), (gt4 32 rfl rfl), (gt1 1 rfl rfl), ⟨by decide, by decide⟩, by decide +kernel⟩
theorem mX10_count : gMV RX10 yX10_count cX10_count 2 (some .long) 1 := ⟨(gt4 80 rfl rfl), (gt4 78 rfl rfl), (gt4 79 rfl rfl), (gt1 1 rfl rfl), ⟨by decide, by decide⟩, by decide +kernel⟩
theorem mX10_day : gMV RX10 yX10_day cX10_day 3 (some .long) 2 := ⟨(gt3 222 rfl rfl), (gt3 220 rfl rfl), (gt3 221 rfl rfl), (gt1 1 rfl rfl), ⟨by decide, by decide⟩, by decide +kernel⟩
theorem mX10_doubt : gMV RX10 yX10_doubt cX10_doubt 16 (some .long) 3 := ⟨(gt3 120 rfl rfl), (gt3 118 rfl rfl), (gt3 119 rfl rfl), (gt1 1 rfl rfl), ⟨by decide, by decide⟩, by decide +kernel⟩
theorem mX10_drop : gMV RX10 yX10_drop cX10_drop 2 (some .long) 1 := ⟨(gt2 119 rfl rfl), (gt2 117 rfl rfl), (gt2 118 rfl rfl), (gt1 1 rfl rfl), ⟨by decide, by decide⟩, by decide +kernel⟩
theorem mX10_few : gMV RX10 yX10_few cX10_few 4 (some .long) 1 := ⟨(gt3 102 rfl rfl), (gt3 100 rfl rfl), (gt3 101 rfl rfl), (gt1 1 rfl rfl), ⟨by decide, by decide⟩, by decide +kernel⟩
theorem mX10_find : gMV RX10 yX10_find cX10_find 2 (some .long) 1 := ⟨(gt2 200 rfl rfl), (gt2 198 rfl rfl), (gt2 199 rfl rfl), (gt1 1 rfl rfl), ⟨by decide, by decide⟩, by decide +kernel⟩
theorem mX10_foretold : gMV RX10 yX10_foretold cX10_foretold 4 (some .long) 2 := ⟨(gt3 90 rfl rfl), (gt3 88 rfl rfl), (gt3 89 rfl rfl), (gt1 1 rfl rfl), ⟨by decide, by decide⟩, by decide +kernel⟩
theorem mX10_found : gMV RX10 yX10_found cX10_found 2 (some .long) 1 := ⟨(gt4 84 rfl rfl), (gt4 82 rfl rfl), (gt4 83 rfl rfl), (gt1 1 rfl rfl), ⟨by decide, by decide⟩, by decide +kernel⟩
theorem mX10_init : gMI yX10_init cX10_init 1 0 := ⟨(gt1 22 rfl rfl), (gt1 21 rfl rfl), (gt1 1 rfl rfl), rfl, ⟨by decide, by decide⟩, by decide +kernel⟩
theorem mX10_isModel : gMV RX10 yX10_isModel cX10_isModel 3 (some .boolean) 1 := ⟨(gt2 204 rfl rfl), (gt2 203 rfl rfl), (gt0 2 rfl rfl), (gt1 1 rfl rfl), ⟨by decide, by decide⟩, by decide +kernel⟩
theorem mX10_isRate : gMS yX10_isRate cX10_isRate 1 (some .boolean) 1 := ⟨(gt2 113 rfl rfl), (gt2 112 rfl rfl), (gt1 1 rfl rfl), ⟨by decide, by decide⟩, by decide +kernel⟩
theorem mX10_isState : gMS yX10_isState cX10_isState 1 (some .boolean) 1 := ⟨(gt2 73 rfl rfl), (gt2 72 rfl rfl), (gt1 1 rfl rfl), ⟨by decide, by decide⟩, by decide +kernel⟩
theorem mX10_isSteps : gMS yX10_isSteps cX10_isSteps 1 (some .boolean) 1 := ⟨(gt3 156 rfl rfl), (gt3 155 rfl rfl), (gt1 1 rfl rfl), ⟨by decide, by decide⟩, by decide +kernel⟩
theorem mX10_judge : gMV RX10 yX10_judge cX10_judge 5 (some .int) 1 := ⟨(gt4 37 rfl rfl), (gt4 36 rfl rfl), (gt0 11 rfl rfl), (gt1 1 rfl rfl), ⟨by decide, by decide⟩, by decide +kernel⟩
theorem mX10_keep : gMV RX10 yX10_keep cX10_keep 1 (some .long) 0 := ⟨(gt4 46 rfl rfl), (gt4 44 rfl rfl), (gt4 45 rfl rfl), (gt1 1 rfl rfl), ⟨by decide, by decide⟩, by decide +kernel⟩
theorem mX10_lay : gMV RX10 yX10_lay cX10_lay 5 (some .long) 2 := ⟨(gt2 176 rfl rfl), (gt2 174 rfl rfl), (gt2 175 rfl rfl), (gt1 1 rfl rfl), ⟨by decide, by decide⟩, by decide +kernel⟩
theorem mX10_left : gMV RX10 yX10_left cX10_left 8 (some .long) 2 := ⟨(gt3 73 rfl rfl), (gt3 71 rfl rfl), (gt3 72 rfl rfl), (gt1 1 rfl rfl), ⟨by decide, by decide⟩, by decide +kernel⟩
theorem mX10_loose : gMV RX10 yX10_loose cX10_loose 1 (some .long) 0 := ⟨(gt3 35 rfl rfl), (gt3 33 rfl rfl), (gt3 34 rfl rfl), (gt1 1 rfl rfl), ⟨by decide, by decide⟩, by decide +kernel⟩
theorem mX10_mean : gMV RX10 yX10_mean cX10_mean 4 (some .long) 2 := ⟨(gt3 234 rfl rfl), (gt3 232 rfl rfl), (gt3 233 rfl rfl), (gt1 1 rfl rfl), ⟨by decide, by decide⟩, by decide +kernel⟩
theorem mX10_mend : gMV RX10 yX10_mend cX10_mend 3 (some .long) 2 := ⟨(gt3 136 rfl rfl), (gt3 134 rfl rfl), (gt3 135 rfl rfl), (gt1 1 rfl rfl), ⟨by decide, by decide⟩, by decide +kernel⟩
theorem mX10_model : gMV RX10 yX10_model cX10_model 2 (some .long) 0 := ⟨(gt3 94 rfl rfl), (gt3 92 rfl rfl), (gt3 93 rfl rfl), (gt1 1 rfl rfl), ⟨by decide, by decide⟩, by decide +kernel⟩
theorem mX10_paper : gMV RX10 yX10_paper cX10_paper 5 (some .long) 0 := ⟨(gt3 213 rfl rfl), (gt3 211 rfl rfl), (gt3 212 rfl rfl), (gt1 1 rfl rfl), ⟨by decide, by decide⟩, by decide +kernel⟩
theorem mX10_put : gMV RX10 yX10_put cX10_put 4 (some .long) 3 := ⟨(gt2 151 rfl rfl), (gt2 149 rfl rfl), (gt2 150 rfl rfl), (gt1 1 rfl rfl), ⟨by decide, by decide⟩, by decide +kernel⟩
theorem mX10_read : gMV RX10 yX10_read cX10_read 3 (some .long) 2 := ⟨(gt2 110 rfl rfl), (gt2 108 rfl rfl), (gt2 109 rfl rfl), (gt1 1 rfl rfl), ⟨by decide, by decide⟩, by decide +kernel⟩
theorem mX10_reading : gMV RX10 yX10_reading cX10_reading 3 (some .long) 2 := ⟨(gt2 129 rfl rfl), (gt2 127 rfl rfl), (gt2 128 rfl rfl), (gt1 1 rfl rfl), ⟨by decide, by decide⟩, by decide +kernel⟩
theorem mX10_refuse : gMV RX10 yX10_refuse cX10_refuse 2 (some .long) 1 := ⟨(gt2 23 rfl rfl), (gt2 22 rfl rfl), (gt0 0 rfl rfl), (gt1 1 rfl rfl), ⟨by decide, by decide⟩, by decide +kernel⟩
theorem mX10_sheet : gMV RX10 yX10_sheet cX10_sheet 3 (some .long) 2 := ⟨(gt2 135 rfl rfl), (gt2 133 rfl rfl), (gt2 134 rfl rfl), (gt1 1 rfl rfl), ⟨by decide, by decide⟩, by decide +kernel⟩
theorem mX10_shows : gMV RX10 yX10_shows cX10_shows 3 (some .long) 2 := ⟨(gt2 62 rfl rfl), (gt2 60 rfl rfl), (gt2 61 rfl rfl), (gt1 1 rfl rfl), ⟨by decide, by decide⟩, by decide +kernel⟩
theorem mX10_size : gMV RX10 yX10_size cX10_size 4 (some .long) 2 := ⟨(gt3 39 rfl rfl), (gt3 37 rfl rfl), (gt3 38 rfl rfl), (gt1 1 rfl rfl), ⟨by decide, by decide⟩, by decide +kernel⟩
theorem mX10_span : gMV RX10 yX10_span cX10_span 5 (some .long) 3 := ⟨(gt3 140 rfl rfl), (gt3 138 rfl rfl), (gt3 139 rfl rfl), (gt1 1 rfl rfl), ⟨by decide, by decide⟩, by decide +kernel⟩
theorem mX10_spare : gMV RX10 yX10_spare cX10_spare 4 (some .long) 0 := ⟨(gt3 132 rfl rfl), (gt3 130 rfl rfl), (gt3 131 rfl rfl), (gt1 1 rfl rfl), ⟨by decide, by decide⟩, by decide +kernel⟩
theorem mX10_sum : gMV RX10 yX10_sum cX10_sum 3 (some .long) 1 := ⟨(gt3 82 rfl rfl), (gt3 80 rfl rfl), (gt3 81 rfl rfl), (gt1 1 rfl rfl), ⟨by decide, by decide⟩, by decide +kernel⟩
theorem mX10_tell : gMV RX10 yX10_tell cX10_tell 2 (some .long) 1 := ⟨(gt4 29 rfl rfl), (gt4 27 rfl rfl), (gt4 28 rfl rfl), (gt1 1 rfl rfl), ⟨by decide, by decide⟩, by decide +kernel⟩
theorem mX10_whyNoLaying : gMV RX10 yX10_whyNoLaying cX10_whyNoLaying 3 (some .int) 2 := ⟨(gt2 180 rfl rfl), (gt2 179 rfl rfl), (gt0 1 rfl rfl), (gt1 1 rfl rfl), ⟨by decide, by decide⟩, by decide +kernel⟩
theorem mX10_whyNoPaper : gMV RX10 yX10_whyNoPaper cX10_whyNoPaper 2 (some .int) 0 := ⟨(gt3 170 rfl rfl), (gt3 169 rfl rfl), (gt0 7 rfl rfl), (gt1 1 rfl rfl), ⟨by decide, by decide⟩, by decide +kernel⟩
theorem mX10_whyNoSizes : gMV RX10 yX10_whyNoSizes cX10_whyNoSizes 1 (some .int) 0 := ⟨(gt3 43 rfl rfl), (gt3 42 rfl rfl), (gt0 6 rfl rfl), (gt1 1 rfl rfl), ⟨by decide, by decide⟩, by decide +kernel⟩
theorem mX10_worst : gMV RX10 yX10_worst cX10_worst 6 (some .long) 1 := ⟨(gt3 166 rfl rfl), (gt3 164 rfl rfl), (gt3 165 rfl rfl), (gt1 1 rfl rfl), ⟨by decide, by decide⟩, by decide +kernel⟩
theorem mX11_addReading : gMV RX11 yX11_addReading cX11_addReading 4 none 2 := ⟨(gt4 214 rfl rfl), (gt4 213 rfl rfl), (gt0 15 rfl rfl), (gt1 13 rfl rfl), ⟨by decide, by decide⟩, by decide +kernel⟩
theorem mX11_anew : gMV RX11 yX11_anew cX11_anew 2 (some .long) 0 := ⟨(gt5 171 rfl rfl), (gt5 169 rfl rfl), (gt5 170 rfl rfl), (gt1 13 rfl rfl), ⟨by decide, by decide⟩, by decide +kernel⟩
theorem mX11_as : gMV RX11 yX11_as cX11_as 5 (some .long) 2 := ⟨(gt4 205 rfl rfl), (gt4 203 rfl rfl), (gt4 204 rfl rfl), (gt1 13 rfl rfl), ⟨by decide, by decide⟩, by decide +kernel⟩
theorem mX11_back : gMV RX11 yX11_back cX11_back 2 (some .long) 0 := ⟨(gt5 205 rfl rfl), (gt5 203 rfl rfl), (gt5 204 rfl rfl), (gt1 13 rfl rfl), ⟨by decide, by decide⟩, by decide +kernel⟩
theorem mX11_becomesFound : gMV RX11 yX11_becomesFound cX11_becomesFound 3 none 1 := ⟨(gt5 38 rfl rfl), (gt5 37 rfl rfl), (gt0 23 rfl rfl), (gt1 13 rfl rfl), ⟨by decide, by decide⟩, by decide +kernel⟩
theorem mX11_behind : gMV RX11 yX11_behind cX11_behind 9 (some .long) 6 := ⟨(gt5 121 rfl rfl), (gt5 119 rfl rfl), (gt5 120 rfl rfl), (gt1 13 rfl rfl), ⟨by decide, by decide⟩, by decide +kernel⟩
theorem mX11_best : gMV RX11 yX11_best cX11_best 12 (some .long) 0 := ⟨(gt5 153 rfl rfl), (gt5 151 rfl rfl), (gt5 152 rfl rfl), (gt1 13 rfl rfl), ⟨by decide, by decide⟩, by decide +kernel⟩
theorem mX11_bits : gMS yX11_bits cX11_bits 3 (some .int) 1 := ⟨(gt5 10 rfl rfl), (gt5 9 rfl rfl), (gt1 13 rfl rfl), ⟨by decide, by decide⟩, by decide +kernel⟩
theorem mX11_cause : gMV RX11 yX11_cause cX11_cause 6 (some .long) 3 := ⟨(gt4 176 rfl rfl), (gt4 174 rfl rfl), (gt4 175 rfl rfl), (gt1 13 rfl rfl), ⟨by decide, by decide⟩, by decide +kernel⟩
theorem mX11_change : gMV RX11 yX11_change cX11_change 6 (some .long) 1 := ⟨(gt5 183 rfl rfl), (gt5 181 rfl rfl), (gt5 182 rfl rfl), (gt1 13 rfl rfl), ⟨by decide, by decide⟩, by decide +kernel⟩
theorem mX11_check : gMV RX11 yX11_check cX11_check 7 (some .long) 0 := ⟨(gt5 191 rfl rfl), (gt5 189 rfl rfl), (gt5 190 rfl rfl), (gt1 13 rfl rfl), ⟨by decide, by decide⟩, by decide +kernel⟩
theorem mX11_code : gMS yX11_code cX11_code 4 (some .long) 4 := ⟨(gt5 156 rfl rfl), (gt5 155 rfl rfl), (gt1 13 rfl rfl), ⟨by decide, by decide⟩, by decide +kernel⟩
theorem mX11_common : gMS yX11_common cX11_common 10 (some .long) 2 := ⟨(gt5 70 rfl rfl), (gt5 69 rfl rfl), (gt1 13 rfl rfl), ⟨by decide, by decide⟩, by decide +kernel⟩
theorem mX11_compare : gMS yX11_compare cX11_compare 24 (some .int) 4 := ⟨(gt5 97 rfl rfl), (gt5 96 rfl rfl), (gt1 13 rfl rfl), ⟨by decide, by decide⟩, by decide +kernel⟩
theorem mX11_count : gMV RX11 yX11_count cX11_count 2 (some .long) 1 := ⟨(gt5 209 rfl rfl), (gt5 207 rfl rfl), (gt5 208 rfl rfl), (gt1 13 rfl rfl), ⟨by decide, by decide⟩, by decide +kernel⟩
theorem mX11_day : gMV RX11 yX11_day cX11_day 3 (some .long) 2 := ⟨(gt5 167 rfl rfl), (gt5 165 rfl rfl), (gt5 166 rfl rfl), (gt1 13 rfl rfl), ⟨by decide, by decide⟩, by decide +kernel⟩
theorem mX11_doubt : gMV RX11 yX11_doubt cX11_doubt 11 (some .long) 3 := ⟨(gt5 105 rfl rfl), (gt5 103 rfl rfl), (gt5 104 rfl rfl), (gt1 13 rfl rfl), ⟨by decide, by decide⟩, by decide +kernel⟩
theorem mX11_drop : gMV RX11 yX11_drop cX11_drop 3 (some .long) 1 := ⟨(gt4 218 rfl rfl), (gt4 216 rfl rfl), (gt4 217 rfl rfl), (gt1 13 rfl rfl), ⟨by decide, by decide⟩, by decide +kernel⟩
theorem mX11_entry : gMV RX11 yX11_entry cX11_entry 4 (some .long) 3 := ⟨(gt5 26 rfl rfl), (gt5 25 rfl rfl), (gt0 20 rfl rfl), (gt1 13 rfl rfl), ⟨by decide, by decide⟩, by decide +kernel⟩
theorem mX11_few : gMV RX11 yX11_few cX11_few 11 (some .long) 1 := ⟨(gt5 94 rfl rfl), (gt5 92 rfl rfl), (gt5 93 rfl rfl), (gt1 13 rfl rfl), ⟨by decide, by decide⟩, by decide +kernel⟩
theorem mX11_find : gMV RX11 yX11_find cX11_find 4 (some .long) 1 := ⟨(gt5 7 rfl rfl), (gt5 5 rfl rfl), (gt5 6 rfl rfl), (gt1 13 rfl rfl), ⟨by decide, by decide⟩, by decide +kernel⟩
theorem mX11_foretold : gMV RX11 yX11_foretold cX11_foretold 3 (some .long) 2 := ⟨(gt5 86 rfl rfl), (gt5 84 rfl rfl), (gt5 85 rfl rfl), (gt1 13 rfl rfl), ⟨by decide, by decide⟩, by decide +kernel⟩
theorem mX11_foretoldAt : gMV RX11 yX11_foretoldAt cX11_foretoldAt 5 (some .long) 1 := ⟨(gt5 78 rfl rfl), (gt5 77 rfl rfl), (gt0 28 rfl rfl), (gt1 13 rfl rfl), ⟨by decide, by decide⟩, by decide +kernel⟩
theorem mX11_found : gMV RX11 yX11_found cX11_found 2 (some .long) 1 := ⟨(gt5 213 rfl rfl), (gt5 211 rfl rfl), (gt5 212 rfl rfl), (gt1 13 rfl rfl), ⟨by decide, by decide⟩, by decide +kernel⟩
theorem mX11_hasSpan : gMV RX11 yX11_hasSpan cX11_hasSpan 2 (some .boolean) 1 := ⟨(gt5 145 rfl rfl), (gt5 144 rfl rfl), (gt0 33 rfl rfl), (gt1 13 rfl rfl), ⟨by decide, by decide⟩, by decide +kernel⟩
theorem mX11_in : gMS yX11_in cX11_in 3 (some .boolean) 3 := ⟨(gt4 179 rfl rfl), (gt4 178 rfl rfl), (gt1 13 rfl rfl), ⟨by decide, by decide⟩, by decide +kernel⟩
theorem mX11_init : gMI yX11_init cX11_init 2 0 := ⟨(gt4 89 rfl rfl), (gt4 88 rfl rfl), (gt1 13 rfl rfl), rfl, ⟨by decide, by decide⟩, by decide +kernel⟩
theorem mX11_isAt : gMV RX11 yX11_isAt cX11_isAt 3 (some .boolean) 2 := ⟨(gt5 179 rfl rfl), (gt5 178 rfl rfl), (gt0 35 rfl rfl), (gt1 13 rfl rfl), ⟨by decide, by decide⟩, by decide +kernel⟩
theorem mX11_isCause : gMV RX11 yX11_isCause cX11_isCause 2 (some .boolean) 1 := ⟨(gt4 194 rfl rfl), (gt4 193 rfl rfl), (gt0 13 rfl rfl), (gt1 13 rfl rfl), ⟨by decide, by decide⟩, by decide +kernel⟩
theorem mX11_isFraction : gMS yX11_isFraction cX11_isFraction 8 (some .boolean) 4 := ⟨(gt5 194 rfl rfl), (gt5 193 rfl rfl), (gt1 13 rfl rfl), ⟨by decide, by decide⟩, by decide +kernel⟩
theorem mX11_isMend : gMV RX11 yX11_isMend cX11_isMend 2 (some .boolean) 1 := ⟨(gt5 125 rfl rfl), (gt5 124 rfl rfl), (gt0 29 rfl rfl), (gt1 13 rfl rfl), ⟨by decide, by decide⟩, by decide +kernel⟩
theorem mX11_isReading : gMV RX11 yX11_isReading cX11_isReading 2 (some .boolean) 1 := ⟨(gt4 222 rfl rfl), (gt4 221 rfl rfl), (gt0 16 rfl rfl), (gt1 13 rfl rfl), ⟨by decide, by decide⟩, by decide +kernel⟩
theorem mX11_isState : gMS yX11_isState cX11_isState 1 (some .boolean) 1 := ⟨(gt4 197 rfl rfl), (gt4 196 rfl rfl), (gt1 13 rfl rfl), ⟨by decide, by decide⟩, by decide +kernel⟩
theorem mX11_keep : gMV RX11 yX11_keep cX11_keep 2 (some .long) 0 := ⟨(gt5 201 rfl rfl), (gt5 199 rfl rfl), (gt5 200 rfl rfl), (gt1 13 rfl rfl), ⟨by decide, by decide⟩, by decide +kernel⟩
theorem mX11_lay : gMV RX11 yX11_lay cX11_lay 7 (some .long) 2 := ⟨(gt5 3 rfl rfl), (gt5 1 rfl rfl), (gt5 2 rfl rfl), (gt1 13 rfl rfl), ⟨by decide, by decide⟩, by decide +kernel⟩
theorem mX11_left : gMV RX11 yX11_left cX11_left 3 (some .long) 2 := ⟨(gt5 74 rfl rfl), (gt5 72 rfl rfl), (gt5 73 rfl rfl), (gt1 13 rfl rfl), ⟨by decide, by decide⟩, by decide +kernel⟩
theorem mX11_loose : gMV RX11 yX11_loose cX11_loose 1 (some .long) 0 := ⟨(gt5 51 rfl rfl), (gt5 49 rfl rfl), (gt5 50 rfl rfl), (gt1 13 rfl rfl), ⟨by decide, by decide⟩, by decide +kernel⟩
theorem mX11_mean : gMV RX11 yX11_mean cX11_mean 8 (some .long) 2 := ⟨(gt5 175 rfl rfl), (gt5 173 rfl rfl), (gt5 174 rfl rfl), (gt1 13 rfl rfl), ⟨by decide, by decide⟩, by decide +kernel⟩
theorem mX11_mend : gMV RX11 yX11_mend cX11_mend 4 (some .long) 2 := ⟨(gt5 113 rfl rfl), (gt5 111 rfl rfl), (gt5 112 rfl rfl), (gt1 13 rfl rfl), ⟨by decide, by decide⟩, by decide +kernel⟩
theorem mX11_mended : gMV RX11 yX11_mended cX11_mended 4 (some .long) 3 := ⟨(gt5 129 rfl rfl), (gt5 128 rfl rfl), (gt0 30 rfl rfl), (gt1 13 rfl rfl), ⟨by decide, by decide⟩, by decide +kernel⟩
theorem mX11_model : gMV RX11 yX11_model cX11_model 1 (some .long) 0 := ⟨(gt5 90 rfl rfl), (gt5 88 rfl rfl), (gt5 89 rfl rfl), (gt1 13 rfl rfl), ⟨by decide, by decide⟩, by decide +kernel⟩
theorem mX11_noWorst : gMV RX11 yX11_noWorst cX11_noWorst 1 (some .long) 0 := ⟨(gt5 137 rfl rfl), (gt5 136 rfl rfl), (gt0 31 rfl rfl), (gt1 13 rfl rfl), ⟨by decide, by decide⟩, by decide +kernel⟩
theorem mX11_notFound : gMV RX11 yX11_notFound cX11_notFound 1 (some .long) 0 := ⟨(gt5 59 rfl rfl), (gt5 58 rfl rfl), (gt0 26 rfl rfl), (gt1 13 rfl rfl), ⟨by decide, by decide⟩, by decide +kernel⟩
theorem mX11_paper : gMV RX11 yX11_paper cX11_paper 4 (some .long) 0 := ⟨(gt5 163 rfl rfl), (gt5 161 rfl rfl), (gt5 162 rfl rfl), (gt1 13 rfl rfl), ⟨by decide, by decide⟩, by decide +kernel⟩
theorem mX11_part : gMS yX11_part cX11_part 7 (some .long) 3 := ⟨(gt5 67 rfl rfl), (gt5 66 rfl rfl), (gt1 13 rfl rfl), ⟨by decide, by decide⟩, by decide +kernel⟩
theorem mX11_placeOf : gMV RX11 yX11_placeOf cX11_placeOf 4 (some .int) 1 := ⟨(gt5 64 rfl rfl), (gt5 63 rfl rfl), (gt0 27 rfl rfl), (gt1 13 rfl rfl), ⟨by decide, by decide⟩, by decide +kernel⟩
theorem mX11_put : gMV RX11 yX11_put cX11_put 5 (some .long) 3 := ⟨(gt4 235 rfl rfl), (gt4 233 rfl rfl), (gt4 234 rfl rfl), (gt1 13 rfl rfl), ⟨by decide, by decide⟩, by decide +kernel⟩
theorem mX11_rank : gMV RX11 yX11_rank cX11_rank 10 (some .int) 1 := ⟨(gt5 46 rfl rfl), (gt5 45 rfl rfl), (gt0 25 rfl rfl), (gt1 13 rfl rfl), ⟨by decide, by decide⟩, by decide +kernel⟩
theorem mX11_read : gMV RX11 yX11_read cX11_read 3 (some .long) 2 := ⟨(gt4 210 rfl rfl), (gt4 208 rfl rfl), (gt4 209 rfl rfl), (gt1 13 rfl rfl), ⟨by decide, by decide⟩, by decide +kernel⟩
theorem mX11_reading : gMV RX11 yX11_reading cX11_reading 3 (some .long) 2 := ⟨(gt4 226 rfl rfl), (gt4 224 rfl rfl), (gt4 225 rfl rfl), (gt1 13 rfl rfl), ⟨by decide, by decide⟩, by decide +kernel⟩
theorem mX11_sheet : gMV RX11 yX11_sheet cX11_sheet 4 (some .long) 2 := ⟨(gt4 230 rfl rfl), (gt4 228 rfl rfl), (gt4 229 rfl rfl), (gt1 13 rfl rfl), ⟨by decide, by decide⟩, by decide +kernel⟩
theorem mX11_shown : gMV RX11 yX11_shown cX11_shown 9 (some .long) 2 := ⟨(gt4 201 rfl rfl), (gt4 200 rfl rfl), (gt0 14 rfl rfl), (gt1 13 rfl rfl), ⟨by decide, by decide⟩, by decide +kernel⟩
theorem mX11_shows : gMV RX11 yX11_shows cX11_shows 3 (some .long) 2 := ⟨(gt4 190 rfl rfl), (gt4 188 rfl rfl), (gt4 189 rfl rfl), (gt1 13 rfl rfl), ⟨by decide, by decide⟩, by decide +kernel⟩
theorem mX11_size : gMV RX11 yX11_size cX11_size 4 (some .long) 2 := ⟨(gt5 55 rfl rfl), (gt5 53 rfl rfl), (gt5 54 rfl rfl), (gt1 13 rfl rfl), ⟨by decide, by decide⟩, by decide +kernel⟩
theorem mX11_solve : gMV RX11 yX11_solve cX11_solve 8 (some .boolean) 1 := ⟨(gt5 18 rfl rfl), (gt5 17 rfl rfl), (gt0 18 rfl rfl), (gt1 13 rfl rfl), ⟨by decide, by decide⟩, by decide +kernel⟩
theorem mX11_span : gMV RX11 yX11_span cX11_span 4 (some .long) 3 := ⟨(gt5 117 rfl rfl), (gt5 115 rfl rfl), (gt5 116 rfl rfl), (gt1 13 rfl rfl), ⟨by decide, by decide⟩, by decide +kernel⟩
theorem mX11_spans : gMV RX11 yX11_spans cX11_spans 3 (some .int) 0 := ⟨(gt5 141 rfl rfl), (gt5 140 rfl rfl), (gt0 32 rfl rfl), (gt1 13 rfl rfl), ⟨by decide, by decide⟩, by decide +kernel⟩
theorem mX11_spare : gMV RX11 yX11_spare cX11_spare 3 (some .long) 0 := ⟨(gt5 109 rfl rfl), (gt5 107 rfl rfl), (gt5 108 rfl rfl), (gt1 13 rfl rfl), ⟨by decide, by decide⟩, by decide +kernel⟩
theorem mX11_sum : gMV RX11 yX11_sum cX11_sum 2 (some .long) 1 := ⟨(gt5 82 rfl rfl), (gt5 80 rfl rfl), (gt5 81 rfl rfl), (gt1 13 rfl rfl), ⟨by decide, by decide⟩, by decide +kernel⟩
theorem mX11_sumLeft : gMV RX11 yX11_sumLeft cX11_sumLeft 6 (some .long) 0 := ⟨(gt5 42 rfl rfl), (gt5 41 rfl rfl), (gt0 24 rfl rfl), (gt1 13 rfl rfl), ⟨by decide, by decide⟩, by decide +kernel⟩
theorem mX11_takeModel : gMV RX11 yX11_takeModel cX11_takeModel 3 none 1 := ⟨(gt5 14 rfl rfl), (gt5 13 rfl rfl), (gt0 17 rfl rfl), (gt1 13 rfl rfl), ⟨by decide, by decide⟩, by decide +kernel⟩
theorem mX11_tell : gMV RX11 yX11_tell cX11_tell 2 (some .long) 1 := ⟨(gt5 187 rfl rfl), (gt5 185 rfl rfl), (gt5 186 rfl rfl), (gt1 13 rfl rfl), ⟨by decide, by decide⟩, by decide +kernel⟩
theorem mX11_tellFinding : gMV RX11 yX11_tellFinding cX11_tellFinding 3 (some .long) 1 := ⟨(gt4 184 rfl rfl), (gt4 183 rfl rfl), (gt0 12 rfl rfl), (gt1 13 rfl rfl), ⟨by decide, by decide⟩, by decide +kernel⟩
theorem mX11_three : gMV RX11 yX11_three cX11_three 8 (some .long) 7 := ⟨(gt5 34 rfl rfl), (gt5 33 rfl rfl), (gt0 22 rfl rfl), (gt1 13 rfl rfl), ⟨by decide, by decide⟩, by decide +kernel⟩
theorem mX11_two : gMV RX11 yX11_two cX11_two 6 (some .long) 5 := ⟨(gt5 30 rfl rfl), (gt5 29 rfl rfl), (gt0 21 rfl rfl), (gt1 13 rfl rfl), ⟨by decide, by decide⟩, by decide +kernel⟩
theorem mX11_whole : gMV RX11 yX11_whole cX11_whole 2 (some .long) 1 := ⟨(gt5 22 rfl rfl), (gt5 21 rfl rfl), (gt0 19 rfl rfl), (gt1 13 rfl rfl), ⟨by decide, by decide⟩, by decide +kernel⟩
theorem mX11_worst : gMV RX11 yX11_worst cX11_worst 2 (some .long) 1 := ⟨(gt5 133 rfl rfl), (gt5 131 rfl rfl), (gt5 132 rfl rfl), (gt1 13 rfl rfl), ⟨by decide, by decide⟩, by decide +kernel⟩
theorem mX11_worstWith : gMV RX11 yX11_worstWith cX11_worstWith 10 (some .long) 4 := ⟨(gt5 149 rfl rfl), (gt5 148 rfl rfl), (gt0 34 rfl rfl), (gt1 13 rfl rfl), ⟨by decide, by decide⟩, by decide +kernel⟩
theorem mX2_commonOf : gMS yX2_commonOf cX2_commonOf 7 (some .long) 2 := ⟨(gt3 69 rfl rfl), (gt3 68 rfl rfl), (gt1 14 rfl rfl), ⟨by decide, by decide⟩, by decide +kernel⟩
theorem mX2_lowest : gMS yX2_lowest cX2_lowest 9 (some .long) 3 := ⟨(gt3 63 rfl rfl), (gt3 62 rfl rfl), (gt1 14 rfl rfl), ⟨by decide, by decide⟩, by decide +kernel⟩
theorem mX2_order : gMS yX2_order cX2_order 17 (some .int) 4 := ⟨(gt3 110 rfl rfl), (gt3 109 rfl rfl), (gt1 14 rfl rfl), ⟨by decide, by decide⟩, by decide +kernel⟩
theorem mX2_within : gMS yX2_within cX2_within 3 (some .boolean) 3 := ⟨(gt2 19 rfl rfl), (gt2 18 rfl rfl), (gt1 14 rfl rfl), ⟨by decide, by decide⟩, by decide +kernel⟩
theorem mX3_append : gMV RX3 yX3_append cX3_append 3 (some .int) 2 := ⟨(gt2 57 rfl rfl), (gt2 55 rfl rfl), (gt2 56 rfl rfl), (gt1 4 rfl rfl), ⟨by decide, by decide⟩, by decide +kernel⟩
theorem mX3_clear : gMV RX3 yX3_clear cX3_clear 1 none 0 := ⟨(gt3 230 rfl rfl), (gt3 228 rfl rfl), (gt3 229 rfl rfl), (gt1 4 rfl rfl), ⟨by decide, by decide⟩, by decide +kernel⟩
theorem mX3_copyFrom : gMV RX3 yX3_copyFrom cX3_copyFrom 3 none 1 := ⟨(gt4 61 rfl rfl), (gt4 59 rfl rfl), (gt4 60 rfl rfl), (gt1 4 rfl rfl), ⟨by decide, by decide⟩, by decide +kernel⟩
theorem mX3_first : gMV RX3 yX3_first cX3_first 2 (some .int) 1 := ⟨(gt2 83 rfl rfl), (gt2 81 rfl rfl), (gt2 82 rfl rfl), (gt1 4 rfl rfl), ⟨by decide, by decide⟩, by decide +kernel⟩
theorem mX3_has : gMV RX3 yX3_has cX3_has 2 (some .boolean) 1 := ⟨(gt2 70 rfl rfl), (gt2 68 rfl rfl), (gt2 69 rfl rfl), (gt1 4 rfl rfl), ⟨by decide, by decide⟩, by decide +kernel⟩
theorem mX3_init : gMI yX3_init cX3_init 3 1 := ⟨(gt1 42 rfl rfl), (gt1 41 rfl rfl), (gt1 4 rfl rfl), rfl, ⟨by decide, by decide⟩, by decide +kernel⟩
theorem mX3_isFull : gMV RX3 yX3_isFull cX3_isFull 1 (some .boolean) 0 := ⟨(gt2 33 rfl rfl), (gt2 31 rfl rfl), (gt2 32 rfl rfl), (gt1 4 rfl rfl), ⟨by decide, by decide⟩, by decide +kernel⟩
theorem mX3_length : gMV RX3 yX3_length cX3_length 1 (some .int) 0 := ⟨(gt2 53 rfl rfl), (gt2 51 rfl rfl), (gt2 52 rfl rfl), (gt1 4 rfl rfl), ⟨by decide, by decide⟩, by decide +kernel⟩
theorem mX3_removeAt : gMV RX3 yX3_removeAt cX3_removeAt 3 none 1 := ⟨(gt2 124 rfl rfl), (gt2 122 rfl rfl), (gt2 123 rfl rfl), (gt1 4 rfl rfl), ⟨by decide, by decide⟩, by decide +kernel⟩
theorem mX3_second : gMV RX3 yX3_second cX3_second 2 (some .int) 1 := ⟨(gt2 88 rfl rfl), (gt2 86 rfl rfl), (gt2 87 rfl rfl), (gt1 4 rfl rfl), ⟨by decide, by decide⟩, by decide +kernel⟩
theorem mX4_above : gMV RX4 yX4_above cX4_above 4 (some .long) 1 := ⟨(gt3 31 rfl rfl), (gt3 29 rfl rfl), (gt3 30 rfl rfl), (gt1 9 rfl rfl), ⟨by decide, by decide⟩, by decide +kernel⟩
theorem mX4_below : gMV RX4 yX4_below cX4_below 1 (some .long) 0 := ⟨(gt3 4 rfl rfl), (gt3 2 rfl rfl), (gt3 3 rfl rfl), (gt1 9 rfl rfl), ⟨by decide, by decide⟩, by decide +kernel⟩
theorem mX4_fewestOf : gMV RX4 yX4_fewestOf cX4_fewestOf 10 (some .int) 2 := ⟨(gt3 106 rfl rfl), (gt3 104 rfl rfl), (gt3 105 rfl rfl), (gt1 9 rfl rfl), ⟨by decide, by decide⟩, by decide +kernel⟩
theorem mX4_gather : gMV RX4 yX4_gather cX4_gather 3 none 1 := ⟨(gt2 215 rfl rfl), (gt2 213 rfl rfl), (gt2 214 rfl rfl), (gt1 9 rfl rfl), ⟨by decide, by decide⟩, by decide +kernel⟩
theorem mX4_init : gMI yX4_init cX4_init 1 0 := ⟨(gt1 131 rfl rfl), (gt1 130 rfl rfl), (gt1 9 rfl rfl), rfl, ⟨by decide, by decide⟩, by decide +kernel⟩
theorem mX4_looseOf : gMV RX4 yX4_looseOf cX4_looseOf 7 (some .int) 1 := ⟨(gt3 8 rfl rfl), (gt3 6 rfl rfl), (gt3 7 rfl rfl), (gt1 9 rfl rfl), ⟨by decide, by decide⟩, by decide +kernel⟩
theorem mX4_minorOf : gMV RX4 yX4_minorOf cX4_minorOf 10 (some .long) 1 := ⟨(gt2 238 rfl rfl), (gt2 237 rfl rfl), (gt0 5 rfl rfl), (gt1 9 rfl rfl), ⟨by decide, by decide⟩, by decide +kernel⟩
theorem mX4_pickColumns : gMV RX4 yX4_pickColumns cX4_pickColumns 3 none 1 := ⟨(gt2 234 rfl rfl), (gt2 233 rfl rfl), (gt0 4 rfl rfl), (gt1 9 rfl rfl), ⟨by decide, by decide⟩, by decide +kernel⟩
theorem mX4_solve : gMV RX4 yX4_solve cX4_solve 4 (some .boolean) 1 := ⟨(gt2 230 rfl rfl), (gt2 228 rfl rfl), (gt2 229 rfl rfl), (gt1 9 rfl rfl), ⟨by decide, by decide⟩, by decide +kernel⟩
theorem mX4_solveWithout : gMV RX4 yX4_solveWithout cX4_solveWithout 5 (some .boolean) 3 := ⟨(gt3 124 rfl rfl), (gt3 122 rfl rfl), (gt3 123 rfl rfl), (gt1 9 rfl rfl), ⟨by decide, by decide⟩, by decide +kernel⟩
theorem mX4_squares : gMV RX4 yX4_squares cX4_squares 1 (some .long) 0 := ⟨(gt3 18 rfl rfl), (gt3 16 rfl rfl), (gt3 17 rfl rfl), (gt1 9 rfl rfl), ⟨by decide, by decide⟩, by decide +kernel⟩
theorem mX4_weigh : gMV RX4 yX4_weigh cX4_weigh 9 none 3 := ⟨(gt2 223 rfl rfl), (gt2 222 rfl rfl), (gt0 3 rfl rfl), (gt1 9 rfl rfl), ⟨by decide, by decide⟩, by decide +kernel⟩
theorem mX5_hasPlace : gMV RX5 yX5_hasPlace cX5_hasPlace 3 (some .boolean) 2 := ⟨(gt2 163 rfl rfl), (gt2 161 rfl rfl), (gt2 162 rfl rfl), (gt1 7 rfl rfl), ⟨by decide, by decide⟩, by decide +kernel⟩
theorem mX5_holdsRates : gMV RX5 yX5_holdsRates cX5_holdsRates 4 (some .boolean) 2 := ⟨(gt2 185 rfl rfl), (gt2 183 rfl rfl), (gt2 184 rfl rfl), (gt1 7 rfl rfl), ⟨by decide, by decide⟩, by decide +kernel⟩
theorem mX5_howManyRead : gMV RX5 yX5_howManyRead cX5_howManyRead 5 (some .int) 2 := ⟨(gt2 194 rfl rfl), (gt2 192 rfl rfl), (gt2 193 rfl rfl), (gt1 7 rfl rfl), ⟨by decide, by decide⟩, by decide +kernel⟩
theorem mX5_init : gMI yX5_init cX5_init 1 0 := ⟨(gt1 112 rfl rfl), (gt1 111 rfl rfl), (gt1 7 rfl rfl), rfl, ⟨by decide, by decide⟩, by decide +kernel⟩
theorem mX5_isMissing : gMV RX5 yX5_isMissing cX5_isMissing 2 (some .boolean) 1 := ⟨(gt2 155 rfl rfl), (gt2 153 rfl rfl), (gt2 154 rfl rfl), (gt1 7 rfl rfl), ⟨by decide, by decide⟩, by decide +kernel⟩
theorem mX5_isSheet : gMS yX5_isSheet cX5_isSheet 1 (some .boolean) 1 := ⟨(gt2 138 rfl rfl), (gt2 137 rfl rfl), (gt1 7 rfl rfl), ⟨by decide, by decide⟩, by decide +kernel⟩
theorem mX5_layOut : gMV RX5 yX5_layOut cX5_layOut 3 none 2 := ⟨(gt2 143 rfl rfl), (gt2 141 rfl rfl), (gt2 142 rfl rfl), (gt1 7 rfl rfl), ⟨by decide, by decide⟩, by decide +kernel⟩
theorem mX5_placesOf : gMV RX5 yX5_placesOf cX5_placesOf 2 (some .int) 1 := ⟨(gt2 159 rfl rfl), (gt2 157 rfl rfl), (gt2 158 rfl rfl), (gt1 7 rfl rfl), ⟨by decide, by decide⟩, by decide +kernel⟩
theorem mX5_rateAt : gMV RX5 yX5_rateAt cX5_rateAt 3 (some .int) 2 := ⟨(gt2 172 rfl rfl), (gt2 170 rfl rfl), (gt2 171 rfl rfl), (gt1 7 rfl rfl), ⟨by decide, by decide⟩, by decide +kernel⟩
theorem mX5_wasRead : gMV RX5 yX5_wasRead cX5_wasRead 3 (some .boolean) 2 := ⟨(gt2 189 rfl rfl), (gt2 187 rfl rfl), (gt2 188 rfl rfl), (gt1 7 rfl rfl), ⟨by decide, by decide⟩, by decide +kernel⟩
theorem mX5_write : gMV RX5 yX5_write cX5_write 4 (some .int) 3 := ⟨(gt2 167 rfl rfl), (gt2 165 rfl rfl), (gt2 166 rfl rfl), (gt1 7 rfl rfl), ⟨by decide, by decide⟩, by decide +kernel⟩
theorem mX6_above : gMV RX6 yX6_above cX6_above 2 (some .long) 1 := ⟨(gt3 56 rfl rfl), (gt3 54 rfl rfl), (gt3 55 rfl rfl), (gt1 10 rfl rfl), ⟨by decide, by decide⟩, by decide +kernel⟩
theorem mX6_aboveIn : gMV RX6 yX6_aboveIn cX6_aboveIn 6 (some .long) 2 := ⟨(gt3 77 rfl rfl), (gt3 75 rfl rfl), (gt3 76 rfl rfl), (gt1 10 rfl rfl), ⟨by decide, by decide⟩, by decide +kernel⟩
theorem mX6_areFound : gMV RX6 yX6_areFound cX6_areFound 1 (some .boolean) 0 := ⟨(gt3 47 rfl rfl), (gt3 45 rfl rfl), (gt3 46 rfl rfl), (gt1 10 rfl rfl), ⟨by decide, by decide⟩, by decide +kernel⟩
theorem mX6_areStale : gMV RX6 yX6_areStale cX6_areStale 1 (some .boolean) 0 := ⟨(gt3 51 rfl rfl), (gt3 49 rfl rfl), (gt3 50 rfl rfl), (gt1 10 rfl rfl), ⟨by decide, by decide⟩, by decide +kernel⟩
theorem mX6_below : gMV RX6 yX6_below cX6_below 1 (some .long) 0 := ⟨(gt3 60 rfl rfl), (gt3 58 rfl rfl), (gt3 59 rfl rfl), (gt1 10 rfl rfl), ⟨by decide, by decide⟩, by decide +kernel⟩
theorem mX6_causeSet : gMV RX6 yX6_causeSet cX6_causeSet 1 (some .int) 0 := ⟨(gt3 98 rfl rfl), (gt3 96 rfl rfl), (gt3 97 rfl rfl), (gt1 10 rfl rfl), ⟨by decide, by decide⟩, by decide +kernel⟩
theorem mX6_forget : gMV RX6 yX6_forget cX6_forget 1 none 0 := ⟨(gt4 76 rfl rfl), (gt4 74 rfl rfl), (gt4 75 rfl rfl), (gt1 10 rfl rfl), ⟨by decide, by decide⟩, by decide +kernel⟩
theorem mX6_growStale : gMV RX6 yX6_growStale cX6_growStale 1 none 0 := ⟨(gt2 37 rfl rfl), (gt2 35 rfl rfl), (gt2 36 rfl rfl), (gt1 10 rfl rfl), ⟨by decide, by decide⟩, by decide +kernel⟩
theorem mX6_has : gMV RX6 yX6_has cX6_has 2 (some .boolean) 1 := ⟨(gt3 22 rfl rfl), (gt3 20 rfl rfl), (gt3 21 rfl rfl), (gt1 10 rfl rfl), ⟨by decide, by decide⟩, by decide +kernel⟩
theorem mX6_init : gMI yX6_init cX6_init 1 0 := ⟨(gt1 154 rfl rfl), (gt1 153 rfl rfl), (gt1 10 rfl rfl), rfl, ⟨by decide, by decide⟩, by decide +kernel⟩
theorem mX6_isSize : gMV RX6 yX6_isSize cX6_isSize 8 (some .boolean) 3 := ⟨(gt4 41 rfl rfl), (gt4 39 rfl rfl), (gt4 40 rfl rfl), (gt1 10 rfl rfl), ⟨by decide, by decide⟩, by decide +kernel⟩
theorem mX6_placeOf : gMV RX6 yX6_placeOf cX6_placeOf 2 (some .int) 1 := ⟨(gt3 26 rfl rfl), (gt3 24 rfl rfl), (gt3 25 rfl rfl), (gt1 10 rfl rfl), ⟨by decide, by decide⟩, by decide +kernel⟩
theorem mX6_squares : gMV RX6 yX6_squares cX6_squares 1 (some .long) 0 := ⟨(gt3 86 rfl rfl), (gt3 84 rfl rfl), (gt3 85 rfl rfl), (gt1 10 rfl rfl), ⟨by decide, by decide⟩, by decide +kernel⟩
theorem mX6_stepIn : gMV RX6 yX6_stepIn cX6_stepIn 5 (some .long) 3 := ⟨(gt3 160 rfl rfl), (gt3 158 rfl rfl), (gt3 159 rfl rfl), (gt1 10 rfl rfl), ⟨by decide, by decide⟩, by decide +kernel⟩
theorem mX6_take : gMV RX6 yX6_take cX6_take 4 none 2 := ⟨(gt3 13 rfl rfl), (gt3 11 rfl rfl), (gt3 12 rfl rfl), (gt1 10 rfl rfl), ⟨by decide, by decide⟩, by decide +kernel⟩
theorem mX7_copyFrom : gMV RX7 yX7_copyFrom cX7_copyFrom 3 none 1 := ⟨(gt4 68 rfl rfl), (gt4 66 rfl rfl), (gt4 67 rfl rfl), (gt1 6 rfl rfl), ⟨by decide, by decide⟩, by decide +kernel⟩
theorem mX7_has : gMV RX7 yX7_has cX7_has 2 (some .boolean) 1 := ⟨(gt3 149 rfl rfl), (gt3 147 rfl rfl), (gt3 148 rfl rfl), (gt1 6 rfl rfl), ⟨by decide, by decide⟩, by decide +kernel⟩
theorem mX7_holds : gMV RX7 yX7_holds cX7_holds 6 (some .boolean) 3 := ⟨(gt3 217 rfl rfl), (gt3 215 rfl rfl), (gt3 216 rfl rfl), (gt1 6 rfl rfl), ⟨by decide, by decide⟩, by decide +kernel⟩
theorem mX7_howMany : gMV RX7 yX7_howMany cX7_howMany 6 (some .int) 0 := ⟨(gt3 174 rfl rfl), (gt3 172 rfl rfl), (gt3 173 rfl rfl), (gt1 6 rfl rfl), ⟨by decide, by decide⟩, by decide +kernel⟩
theorem mX7_init : gMI yX7_init cX7_init 1 0 := ⟨(gt1 71 rfl rfl), (gt1 70 rfl rfl), (gt1 6 rfl rfl), rfl, ⟨by decide, by decide⟩, by decide +kernel⟩
theorem mX7_write : gMV RX7 yX7_write cX7_write 4 none 3 := ⟨(gt3 144 rfl rfl), (gt3 142 rfl rfl), (gt3 143 rfl rfl), (gt1 6 rfl rfl), ⟨by decide, by decide⟩, by decide +kernel⟩
theorem mX8_copyFrom : gMV RX8 yX8_copyFrom cX8_copyFrom 2 none 1 := ⟨(gt4 50 rfl rfl), (gt4 48 rfl rfl), (gt4 49 rfl rfl), (gt1 2 rfl rfl), ⟨by decide, by decide⟩, by decide +kernel⟩
theorem mX8_init : gMI yX8_init cX8_init 1 0 := ⟨(gt1 30 rfl rfl), (gt1 29 rfl rfl), (gt1 2 rfl rfl), rfl, ⟨by decide, by decide⟩, by decide +kernel⟩
theorem mX9_daysAt : gMV RX9 yX9_daysAt cX9_daysAt 4 (some .int) 1 := ⟨(gt4 2 rfl rfl), (gt4 0 rfl rfl), (gt4 1 rfl rfl), (gt1 12 rfl rfl), ⟨by decide, by decide⟩, by decide +kernel⟩
theorem mX9_gainAt : gMV RX9 yX9_gainAt cX9_gainAt 4 (some .int) 1 := ⟨(gt4 12 rfl rfl), (gt4 10 rfl rfl), (gt4 11 rfl rfl), (gt1 12 rfl rfl), ⟨by decide, by decide⟩, by decide +kernel⟩
theorem mX9_greatestTurnAt : gMV RX9 yX9_greatestTurnAt cX9_greatestTurnAt 7 (some .int) 1 := ⟨(gt4 21 rfl rfl), (gt4 19 rfl rfl), (gt4 20 rfl rfl), (gt1 12 rfl rfl), ⟨by decide, by decide⟩, by decide +kernel⟩
theorem mX9_init : gMI yX9_init cX9_init 1 0 := ⟨(gt1 204 rfl rfl), (gt1 203 rfl rfl), (gt1 12 rfl rfl), rfl, ⟨by decide, by decide⟩, by decide +kernel⟩
theorem mX9_isAt : gMV RX9 yX9_isAt cX9_isAt 3 (some .boolean) 2 := ⟨(gt4 7 rfl rfl), (gt4 6 rfl rfl), (gt0 10 rfl rfl), (gt1 12 rfl rfl), ⟨by decide, by decide⟩, by decide +kernel⟩
theorem mX9_isPlace : gMS yX9_isPlace cX9_isPlace 1 (some .boolean) 1 := ⟨(gt3 237 rfl rfl), (gt3 236 rfl rfl), (gt1 12 rfl rfl), ⟨by decide, by decide⟩, by decide +kernel⟩
theorem gftX0 : gFT RX0 TX0 2 := ⟨tyX0, tyX0_ok, nmX0⟩
theorem gftX1 : gFT RX1 TX1 6 := ⟨tyX1, tyX1_ok, nmX1⟩
theorem gftX3 : gFT RX3 TX3 3 := ⟨tyX3, tyX3_ok, nmX3⟩
theorem gftX4 : gFT RX4 TX4 5 := ⟨tyX4, tyX4_ok, nmX4⟩
theorem gftX5 : gFT RX5 TX5 2 := ⟨tyX5, tyX5_ok, nmX5⟩
theorem gftX6 : gFT RX6 TX6 6 := ⟨tyX6, tyX6_ok, nmX6⟩
theorem gftX7 : gFT RX7 TX7 3 := ⟨tyX7, tyX7_ok, nmX7⟩
theorem gftX8 : gFT RX8 TX8 4 := ⟨tyX8, tyX8_ok, nmX8⟩
theorem gftX9 : gFT RX9 TX9 1 := ⟨tyX9, tyX9_ok, nmX9⟩
theorem gftX10 : gFT RX10 TX10 12 := ⟨tyX10, tyX10_ok, nmX10⟩
theorem gftX11 : gFT RX11 TX11 27 := ⟨tyX11, tyX11_ok, nmX11⟩
theorem goi1 : Cond.instanceMethod objectInit ∈ gTT := (gt1 24 rfl rfl)
theorem goi2 : Cond.code objectInit ⟨#[0xb1]⟩ 1 none ∈ gTT := (gt1 25 rfl rfl)
theorem gar_int : Cond.arrayClass .int ∈ gTT := gtm (by decide +kernel)
theorem gar_long : Cond.arrayClass .long ∈ gTT := gtm (by decide +kernel)
theorem gar_short : Cond.arrayClass .short ∈ gTT := gtm (by decide +kernel)
theorem gar_boolean : Cond.arrayClass .boolean ∈ gTT := gtm (by decide +kernel)
end
section
/-! The walk's own layer: a machine at a point of a method's code, with named locals, a stack and a world of cells, as one predicate; a row an instruction. -/
/-- the locals by their places -/
abbrev gLV : Type := List (Option Value)
def gL (ls : Array Slot) (nL : Nat) (lv : gLV) : Prop := lv_has ls nL [] ∧ ∀ (i : Nat) (v : Value), lv[i]? = some (some v) → ls[i]? = some (.val v)
def gkill (o : Option Value) : Option Value := match o with
  | some v => if v.category = 2 then none else some v
  | none => none
def gset1 (lv : gLV) (i : Nat) (v : Value) : gLV := match i with
  | 0 => lv.set 0 (some v)
  | j + 1 => (lv.modify j gkill).set (j + 1) (some v)
def gset2 (lv : gLV) (i : Nat) (v : Value) : gLV := (gset1 lv i v).set (i + 1) none
theorem gkill_some {o : Option Value} {w : Value} (h : gkill o = some w) : o = some w ∧ ¬ w.category = 2 := by
  cases o with
  | none => cases h
  | some v =>
    unfold gkill at h
    by_cases hc : v.category = 2
    · simp [hc] at h
    · simp [hc] at h
      exact ⟨by rw [h], by rw [← h]; exact hc⟩
theorem gset1_get {lv : gLV} {i j : Nat} {v w : Value} (h : (gset1 lv i v)[j]? = some (some w)) : (j = i ∧ w = v) ∨ (j ≠ i ∧ lv[j]? = some (some w) ∧ ¬ (j + 1 = i ∧ w.category = 2)) := by
  by_cases hj : j = i
  · subst hj
    left
    refine ⟨rfl, ?_⟩
    cases j with
    | zero =>
      rw [show gset1 lv 0 v = lv.set 0 (some v) from rfl, List.getElem?_set] at h
      simp at h
      exact h.2.symm
    | succ k =>
      rw [show gset1 lv (k + 1) v = (lv.modify k gkill).set (k + 1) (some v) from rfl, List.getElem?_set] at h
      simp at h
      exact h.2.symm
  · right
    refine ⟨hj, ?_⟩
    cases i with
    | zero =>
      rw [show gset1 lv 0 v = lv.set 0 (some v) from rfl, List.getElem?_set_ne (Ne.symm hj)] at h
      exact ⟨h, fun q => absurd q.1 (by omega)⟩
    | succ k =>
      rw [show gset1 lv (k + 1) v = (lv.modify k gkill).set (k + 1) (some v) from rfl, List.getElem?_set_ne (Ne.symm hj), List.getElem?_modify] at h
      by_cases hk : k = j
      · subst hk
        cases hl : lv[k]? with
        | none => rw [hl] at h; simp at h
        | some o =>
          rw [hl] at h
          simp at h
          obtain ⟨h1, h2⟩ := gkill_some h
          exact ⟨by rw [h1], fun q => h2 q.2⟩
      · cases hl : lv[j]? with
        | none => rw [hl] at h; simp at h
        | some o =>
          rw [hl] at h
          simp [hk] at h
          exact ⟨by rw [h], fun q => hk (by omega)⟩
theorem gset2_get {lv : gLV} {i j : Nat} {v w : Value} (h : (gset2 lv i v)[j]? = some (some w)) : j ≠ i + 1 ∧ ((j = i ∧ w = v) ∨ (j ≠ i ∧ lv[j]? = some (some w) ∧ ¬ (j + 1 = i ∧ w.category = 2))) := by
  unfold gset2 at h
  by_cases hj : j = i + 1
  · subst hj
    rw [List.getElem?_set] at h
    simp at h
  · rw [List.getElem?_set_ne (Ne.symm hj)] at h
    exact ⟨hj, gset1_get h⟩
/-- all that is known of the locals, as the kit lists it -/
theorem gL_list {ls : Array Slot} {nL : Nat} {lv : gLV} (h : gL ls nL lv) (l : List (Nat × Value)) (hl : ∀ q ∈ l, lv[q.1]? = some (some q.2)) : lv_has ls nL l := ⟨h.1.1, h.1.2.1, fun q hq => h.2 q.1 q.2 (hl q hq)⟩
def gpairs (lv : gLV) (k : Nat) : List (Nat × Value) := match lv with
  | [] => []
  | none :: t => gpairs t (k + 1)
  | some v :: t => (k, v) :: gpairs t (k + 1)
theorem gpairs_in (lv : gLV) : ∀ (k : Nat) (q : Nat × Value), q ∈ gpairs lv k → k ≤ q.1 ∧ lv[q.1 - k]? = some (some q.2) := by
  induction lv with
  | nil => intro k q h; cases h
  | cons a t ih =>
    intro k q h
    cases a with
    | none =>
      obtain ⟨h1, h2⟩ := ih (k + 1) q h
      refine ⟨by omega, ?_⟩
      rw [show q.1 - k = (q.1 - (k + 1)) + 1 by omega, List.getElem?_cons_succ]
      exact h2
    | some v =>
      rcases List.mem_cons.mp h with h | h
      · subst h
        simp
      · obtain ⟨h1, h2⟩ := ih (k + 1) q h
        refine ⟨by omega, ?_⟩
        rw [show q.1 - k = (q.1 - (k + 1)) + 1 by omega, List.getElem?_cons_succ]
        exact h2
theorem gpairs_of (lv : gLV) : ∀ (k i : Nat) (v : Value), lv[i]? = some (some v) → (k + i, v) ∈ gpairs lv k := by
  induction lv with
  | nil => intro k i v h; simp at h
  | cons a t ih =>
    intro k i v h
    cases i with
    | zero =>
      rw [List.getElem?_cons_zero] at h
      cases h
      exact List.mem_cons_self
    | succ i =>
      rw [List.getElem?_cons_succ] at h
      have h2 := ih (k + 1) i v h
      rw [show k + 1 + i = k + (i + 1) by omega] at h2
      cases a with
      | none => exact h2
      | some w => exact List.mem_cons_of_mem _ h2
theorem gL_all {ls : Array Slot} {nL : Nat} {lv : gLV} (h : gL ls nL lv) : lv_has ls nL (gpairs lv 0) := gL_list h _ fun q hq => by
  have := (gpairs_in lv 0 q hq).2
  simpa using this
theorem gL_set1 {ls' : Array Slot} {nL i : Nat} {lv : gLV} {v : Value} (h : lv_has ls' nL ((i, v) :: (gpairs lv 0).filter (fun q => !(q.1 == i) && !(q.1 + 1 == i && q.2.category == 2)))) : gL ls' nL (gset1 lv i v) := by
  refine ⟨⟨h.1, h.2.1, fun q hq => by cases hq⟩, fun j w hw => ?_⟩
  rcases gset1_get hw with ⟨rfl, rfl⟩ | ⟨h1, h2, h3⟩
  · exact h.2.2 _ List.mem_cons_self
  · refine h.2.2 (j, w) (List.mem_cons_of_mem _ (List.mem_filter.mpr ⟨?_, ?_⟩))
    · have := gpairs_of lv 0 j w h2
      simpa using this
    · simp [h1]
      exact Decidable.not_and_iff_not_or_not.mp h3
theorem gL_set2 {ls' : Array Slot} {nL i : Nat} {lv : gLV} {v : Value} (h : lv_has ls' nL ((i, v) :: (gpairs lv 0).filter (fun q => !(q.1 == i) && (!(q.1 == i + 1) && !(q.1 + 1 == i && q.2.category == 2))))) : gL ls' nL (gset2 lv i v) := by
  refine ⟨⟨h.1, h.2.1, fun q hq => by cases hq⟩, fun j w hw => ?_⟩
  obtain ⟨h0, h1⟩ := gset2_get hw
  rcases h1 with ⟨rfl, rfl⟩ | ⟨h1, h2, h3⟩
  · exact h.2.2 _ List.mem_cons_self
  · refine h.2.2 (j, w) (List.mem_cons_of_mem _ (List.mem_filter.mpr ⟨?_, ?_⟩))
    · have := gpairs_of lv 0 j w h2
      simpa using this
    · simp [h1, h0]
      exact Decidable.not_and_iff_not_or_not.mp h3
def gargs : List Value → gLV
  | [] => []
  | v :: vs => if v.category = 2 then some v :: none :: gargs vs else some v :: gargs vs
def gent (vs : List Value) (n : Nat) : gLV := gargs vs ++ List.replicate (n - (gargs vs).length) none
theorem gargs_in (k : Nat) : ∀ (vs : List Value) (o i : Nat) (v : Value), (gargs vs ++ List.replicate k none)[i]? = some (some v) → (o + i, v) ∈ lv_args o vs
  | [], o, i, v, h => by
    have : (List.replicate k (none : Option Value))[i]? = some (some v) := h
    rw [List.getElem?_replicate] at this
    by_cases hk : i < k
    · simp [hk] at this
    · simp [hk] at this
  | w :: vs, o, i, v, h => by
    by_cases hc : w.category = 2
    · rw [show gargs (w :: vs) = some w :: none :: gargs vs by simp [gargs, hc]] at h
      cases i with
      | zero =>
        simp at h
        subst h
        simp [lv_args]
      | succ i =>
        cases i with
        | zero => simp at h
        | succ i =>
          simp only [List.cons_append, List.getElem?_cons_succ] at h
          have := gargs_in k vs (o + 2) i v h
          simp only [lv_args, hc, if_true]
          rw [show o + (i + 1 + 1) = o + 2 + i by omega]
          exact List.mem_cons_of_mem _ this
    · rw [show gargs (w :: vs) = some w :: gargs vs by simp [gargs, hc]] at h
      cases i with
      | zero =>
        simp at h
        subst h
        simp [lv_args]
      | succ i =>
        simp only [List.cons_append, List.getElem?_cons_succ] at h
        have := gargs_in k vs (o + 1) i v h
        simp only [lv_args, hc, if_false]
        rw [show o + (i + 1) = o + 1 + i by omega]
        exact List.mem_cons_of_mem _ this
theorem gL_entry (vs : List Value) {n : Nat} (h : (lg_sl vs).length ≤ n) : gL ((lg_sl vs ++ List.replicate (n - (lg_sl vs).length) Slot.unset).toArray) n (gent vs n) := by
  have h0 := lv_entry vs h
  refine ⟨⟨h0.1, h0.2.1, fun q hq => by cases hq⟩, fun i v hv => ?_⟩
  have := gargs_in _ vs 0 i v hv
  exact h0.2.2 (i, v) (by simpa using this)
/-- the words of nest mates, which no list of words carries -/
def gIsNest : Cond → Bool
  | .methodLinkNest .. => true
  | _ => false
def gNest (U : State) : Prop := ∀ w ∈ lw_tbl, gIsNest w = true → va_Nw w U
theorem gNest.warm {s U : State} (hW : s.WarmedH U.vm) (h : gNest s) : gNest U := fun w hw hn => by
  cases w <;> first | exact va_Nw.warmM hW (h _ hw rfl) | cases hn
theorem gNest.same {u U : State} (hv : u.vm = U.vm) (h : gNest u) : gNest U := fun w hw hn => by
  cases w <;> first | exact va_Nw.same rfl hv (h _ hw rfl) | cases hn
/-- the one static row of the class -/
def gOf (j : Nat) : Value := .int (([0, 0, 0, 2, 0, 1] : List Int32).getD j 0)
def gOv (A : Nat → Prop) (U : State) (H : Heap) : Prop := ∃ t : Nat, va_Z "WatchBench$Causes" "OVER" "[I" (.ref t) A U H ∧ va_T .int t 6 gOf A U H
/-- the ids of the classes, the places of their fields, the ids of the array classes -/
abbrev gE : Type := va_G × (Nat → ClassId)
abbrev gty (E : gE) : List (ClassId × FieldType) := [(E.2 0, .int), (E.2 1, .long), (E.2 2, .short), (E.2 3, .boolean), (E.2 4, .array .short)]
/-- what holds all along a method: machine, code, tables -/
def gK (p : Program) (s : State) (m : MethodId) (args : Array Value) (c : Code) (cc : ByteArray) (nL : Nat) (own : String) (E : gE) (A : Nat → Prop) : Prop :=
  p.tables.exec = Jvm.exec ∧ c.code = cc ∧ c.maxLocals = nL ∧ s.vm.findClass own = some m.cls ∧ (∀ w ∈ gTT, w.before args s = true) ∧ va_K E.1 vwCl (gty E) s ∧ (∀ q : Nat, s.heap.size ≤ q → A q) ∧ gNest s ∧ gOv A s s.heap
def gG (p : Program) (l : Launch) (e : Env) (R : Room) (s : State) (m : MethodId) (args : Array Value) (below : List Frame) (meth : Method) (c : Code) (nL : Nat) (E : gE) (A : Nat → Prop) (Q : State → Prop) : Nat → Nat → Nat → gLV → List Value → va_W → Prop := fun u z pc lv st ws =>
  ∀ (H : Heap) (locs : List Loc) (ls : Array Slot), gL ls nL lv → va_P E.1 vwCl ws H → va_D A ws → va_S A s.heap H locs → W p l e R s m args below meth c H locs u z Q (F0 m pc ls st)
abbrev gT : Type := Nat → Nat → Nat → gLV → List Value → va_W → Prop
/-- Γ is the walk of a method: its rows hold; 'post' is asked at its end -/
def IsG (Γ : gT) (l : Launch) (R : Room) (cc : ByteArray) (nL : Nat) (own : String) (E : gE) (ret : Option FieldType) (init : Bool) (post : Option Value → Nat → Nat → va_W → Prop) : Prop :=
  ∃ (p : Program) (e : Env) (s : State) (m : MethodId) (args : Array Value) (below : List Frame) (meth : Method) (c : Code) (A : Nat → Prop) (Q : State → Prop),
    gK p s m args c cc nL own E A ∧ Γ = gG p l e R s m args below meth c nL E A Q ∧ (init = true → meth.name = "<init>") ∧
    (∀ (v : Option Value) (u z : Nat) (ws : va_W), post v u z ws → ∀ (pc : Nat) (lv : gLV),
      ((∃ (x : Int32) (ty : FieldType), v = some (.int x) ∧ decode cc pc = .ok (.ireturn, 1) ∧ ret = some ty ∧ narrow ty (.int x) = .int x) ∨ (∃ x : Int64, v = some (.long x) ∧ decode cc pc = .ok (.lreturn, 1) ∧ ret = some .long) ∨ (v = none ∧ decode cc pc = .ok (.return_, 1) ∧ ret = none)) → Γ u z pc lv v.toList ws)
/-! a contract: from any heap that holds the world wc the method returns, with an answer and a world that 'post' names; its cells keep their places -/
def gPre (E : gE) (wc : va_W) (sz : Nat) (U : State) : Prop := U.heap.size = sz ∧ va_P E.1 vwCl wc U.heap ∧ va_K E.1 vwCl (gty E) U ∧ va_D (fun _ => True) wc ∧ gNest U ∧ gOv (va_A wc sz) U U.heap
def gQc (E : gE) (wc : va_W) (sz : Nat) (post : Option Value → va_W → Prop) : Array Value → State → Outcome → State → Prop := fun _ st oc t => (∃ (v : Option Value) (w1 : va_W), oc = .returned v ∧ post v w1 ∧ va_P E.1 vwCl w1 t.heap ∧ va_D (va_A wc sz) w1 ∧ (w1.take wc.length).map Prod.fst = wc.map Prod.fst) ∧ va_F (va_A wc sz) st t
def Ctr (l : Launch) (y : MethodName) (cc : ByteArray) (maxL : Nat) (ret : Option FieldType) (rm : Room) (E : gE) (av : List Value) (wc : va_W) (post : Option Value → va_W → Prop) : Prop :=
  ∀ sz : Nat, Met l y (.code y cc maxL ret :: gTT) rm (va_Pc av (gPre E wc sz)) (gQc E wc sz post) rm.cells rm.slots (va_A wc sz)
/-- what is asked at a method's end -/
abbrev gEnd (rm : Room) (wc : va_W) (post : Option Value → va_W → Prop) : Option Value → Nat → Nat → va_W → Prop := fun v u z ws => u ≤ rm.cells ∧ z ≤ rm.slots ∧ (ws.take wc.length).map Prod.fst = wc.map Prod.fst ∧ post v ws
theorem g_met {l : Launch} {y : MethodName} {ws ws' : List Cond} {rm : Room} {Pc : Array Value → State → Prop} {Qc : Array Value → State → Outcome → State → Prop} {mc ms : Nat} {free : Addr → Prop} {cc : ByteArray} {maxL : Nat} {ret : Option FieldType}
    (hy : plainFor y = true) (hw : ws = Cond.code y cc maxL ret :: ws')
    (body : ∀ p e s m args below meth c s₁, BodyLoose p l y (headSpec ws rm) cc maxL ret e s m args below meth c s₁ → c.maxLocals = maxL → Pc args s →
      W p l e (headSpec ws rm).room s m args below meth c s.heap [] 0 0 (MQ below Qc args s mc ms free) (entryFrame m args maxL)) : Met l y ws rm Pc Qc mc ms free := by
  refine MetFree.of_bodySF (code := cc) (maxLocals := maxL) (ret := ret) hy ?_ ?_
  · intro args s m h hn
    obtain ⟨meth, c, h1, h2, h3, h4, h5, h6, -, -⟩ := Cond.code_spec hn (atoms_spec (ws := ws) h _ (by rw [hw]; exact List.mem_cons_self))
    exact ⟨meth, c, h1, h2, h3, h4, h5, h6⟩
  · intro p e s m args below meth c s₁ B hml hP _
    have hh0 : s₁.heap = s.heap := by rw [B.state]; rfl
    obtain ⟨t, a1, o, b1, b2, b3⟩ := body p e s m args below meth c s₁ B hml hP s₁ hh0 (Stand.of_body B)
    exact ⟨t, o, a1, b1, b2, ⟨b3.1, b3.2⟩⟩
theorem ctr_of {l : Launch} {y : MethodName} {cc : ByteArray} {maxL : Nat} {ret : Option FieldType} {rm : Room} {E : gE} {av : List Value} {wc : va_W} {post : Option Value → va_W → Prop} (init : Bool) (hy : plainFor y = true) (hl : (lg_sl av).length ≤ maxL) (hin : init = true → y.name = "<init>")
    (body : ∀ Γ : gT, IsG Γ l rm cc maxL y.cls E ret init (gEnd rm wc post) → Γ 0 0 0 (gent av maxL) [] wc) : Ctr l y cc maxL ret rm E av wc post := by
  intro sz
  refine g_met (cc := cc) (maxL := maxL) (ret := ret) hy rfl ?_
  intro p e s m args below meth c s₁ B hml hv
  obtain ⟨rfl, hsz, hP, hK, hD0, hN, hO⟩ := hv
  have hx := B.exec
  have hb := B.bytes
  have hr := B.returns
  have hts := atoms_spec (ws := .code y cc maxL ret :: gTT) B.pre
  have hown : s.vm.findClass y.cls = some m.cls := findClass_of_methodNamed B.named
  have hlocks := B.notSynchronized
  subst hsz
  have hD := hD0.self (sz := s.heap.size)
  have hA : ∀ q : Nat, s.heap.size ≤ q → va_A wc s.heap.size q := fun q h => Or.inr h
  rw [lg_entry_eq]
  refine body (gG p l e rm s m av.toArray below meth c maxL E (va_A wc s.heap.size) (MQ below (gQc E wc s.heap.size post) av.toArray s rm.cells rm.slots (va_A wc s.heap.size))) ⟨p, e, s, m, av.toArray, below, meth, c, va_A wc s.heap.size, _, ⟨hx, hb, hml, hown, fun w hw => hts w (List.mem_cons_of_mem _ hw), hK, hA, hN, hO⟩, rfl, fun h => (name_of_methodNamed B.named B.method).1.trans (hin h), ?_⟩ s.heap [] _ (gL_entry av hl) hP hD va_S.rf
  intro v u z ws hpost pc lv hd H locs ls hl hP hD hS
  obtain ⟨hu, hz, hf, hp⟩ := hpost
  refine W.widen hu hz ?_
  rcases hd with ⟨x, ty, rfl, hd, hty, hn⟩ | ⟨x, rfl, hd, hty⟩ | ⟨rfl, hd, hty⟩
  · exact W.zret hx hb (hr.trans hty) hn (fun t ht hW => ⟨⟨_, ws, rfl, hp, by rw [ht]; exact hP, hD, hf⟩, hS.F ht⟩) hS.2.2 hd
  · exact W.lret hx hb (hr.trans hty) (fun t ht hW => ⟨⟨_, ws, rfl, hp, by rw [ht]; exact hP, hD, hf⟩, hS.F ht⟩) hS.2.2 hd
  · exact W.vret hx hb (hr.trans hty) (fun t ht hW => ⟨⟨_, ws, rfl, hp, by rw [ht]; exact hP, hD, hf⟩, hS.F ht⟩) hS.2.2 hd
/-! behind a call: the callee's cells go back to their places, new ones behind all -/
def gmerge : List Nat → va_W → va_W → va_W
  | [], w1, ws => ws ++ w1
  | i :: is, x :: w1, ws => gmerge is w1 (ws.set i x)
  | _ :: _, [], ws => ws
theorem gmerge_P {D : va_G} {cl : List vw_C} {H : Heap} : ∀ (is : List Nat) (w1 ws : va_W), (∀ (k : Nat) (q : Nat × va_E), w1[k]? = some q → va_at D cl q H) → (∀ (k : Nat) (q : Nat × va_E), ws[k]? = some q → k ∉ is → va_at D cl q H) → is.length ≤ w1.length → va_P D cl (gmerge is w1 ws) H
  | [], w1, ws, h1, h2, _ => va_P.app (fun k q hk => h2 k q hk List.not_mem_nil) h1
  | i :: is, [], ws, _, _, hl => by simp at hl
  | i :: is, x :: w1, ws, h1, h2, hl => by
    refine gmerge_P is w1 (ws.set i x) (fun k q hk => h1 (k + 1) q (by rw [List.getElem?_cons_succ]; exact hk)) (fun k q hk hn => ?_) (by simp at hl; exact hl)
    by_cases hki : k = i
    · subst hki
      rw [List.getElem?_set] at hk
      simp at hk
      exact h1 0 q (by rw [List.getElem?_cons_zero, hk.2])
    · rw [List.getElem?_set_ne (Ne.symm hki)] at hk
      exact h2 k q hk (fun hm => (List.mem_cons.mp hm).elim hki hn)
theorem gmerge_D {A : Nat → Prop} : ∀ (is : List Nat) (w1 ws : va_W), va_D A ws → (∀ (j i : Nat) (x : Nat × va_E), is[j]? = some i → w1[j]? = some x → ∃ e0, ws[i]? = some (x.1, e0)) → va_D A (w1.drop is.length) → (∀ (i j : Nat) (x y : Nat × va_E), ws[i]? = some x → (w1.drop is.length)[j]? = some y → x.1 ≠ y.1) → va_D A (gmerge is w1 ws)
  | [], w1, ws, hD, _, hE, hx => hD.app hE hx
  | i :: is, [], ws, hD, _, _, _ => hD
  | i :: is, x :: w1, ws, hD, ha, hE, hx => by
    obtain ⟨e0, h0⟩ := ha 0 i x rfl rfl
    have hl := (List.getElem?_eq_some_iff.mp h0).1
    have hD' : va_D A (ws.set i x) := by
      obtain ⟨a, e⟩ := x
      exact hD.set h0
    refine gmerge_D is w1 (ws.set i x) hD' (fun j i' x' h1 h2 => ?_) hE (fun k j p q h1 h2 => ?_)
    · obtain ⟨e1, h3⟩ := ha (j + 1) i' x' (by rw [List.getElem?_cons_succ]; exact h1) (by rw [List.getElem?_cons_succ]; exact h2)
      by_cases hi : i' = i
      · subst hi
        rw [h0] at h3
        have h4 : x.1 = x'.1 := (Prod.mk.inj (Option.some.inj h3)).1
        exact ⟨x.2, by rw [List.getElem?_set_self hl, ← h4]⟩
      · exact ⟨e1, by rw [List.getElem?_set_ne (Ne.symm hi)]; exact h3⟩
    · by_cases hk : k = i
      · subst hk
        rw [List.getElem?_set_self hl] at h1
        cases h1
        exact hx k j (x.1, e0) q h0 h2
      · rw [List.getElem?_set_ne (Ne.symm hk)] at h1
        exact hx k j p q h1 h2
theorem g_at {ws : va_W} {is : List Nat} {w : va_W} (hs : is.map (fun i => ws[i]?) = w.map some) {k : Nat} {q : Nat × va_E} (hq : w[k]? = some q) : ∃ i, is[k]? = some i ∧ ws[i]? = some q := by
  have h1 : (is.map (fun i => ws[i]?))[k]? = some (some q) := by rw [hs, List.getElem?_map, hq]; rfl
  rw [List.getElem?_map] at h1
  cases hi : is[k]? with
  | none => rw [hi] at h1; cases h1
  | some i => rw [hi] at h1; exact ⟨i, rfl, Option.some.inj h1⟩
theorem g_fst {w1 wc : va_W} (hf : (w1.take wc.length).map Prod.fst = wc.map Prod.fst) : wc.length ≤ w1.length ∧ ∀ (k : Nat) (x y : Nat × va_E), wc[k]? = some x → w1[k]? = some y → y.1 = x.1 := by
  have hlen : (w1.take wc.length).length = wc.length := by
    have := congrArg List.length hf
    simpa using this
  rw [List.length_take] at hlen
  refine ⟨by omega, fun k x y hx hy => ?_⟩
  have hk : k < wc.length := (List.getElem?_eq_some_iff.mp hx).1
  have h1 : ((w1.take wc.length).map Prod.fst)[k]? = some y.1 := by
    rw [List.getElem?_map, List.getElem?_take, if_pos hk, hy]; rfl
  rw [hf, List.getElem?_map, hx] at h1
  exact (Option.some.inj h1).symm
theorem g_after {p : Program} {l : Launch} {e : Env} {R : Room} {s : State} {m : MethodId} {args : Array Value} {below : List Frame} {meth : Method} {c : Code} {nL : Nat} {E : gE} {A : Nat → Prop} {Q : State → Prop} {H : Heap} {locs : List Loc} {u z mc ms pc : Nat} {ls : Array Slot} {lv : gLV} {st0 rest : List Value} {ws wc : va_W} {postc : Option Value → va_W → Prop} {a : Array Value}
    (hr : va_Run p l e R s m args below meth c H locs u z mc ms (F0 m pc ls st0) rest (gQc E wc H.size postc a) (va_A wc H.size)) (hl : gL ls nL lv) (hP : va_P E.1 vwCl ws H) (hD : va_D A ws) (hS : va_S A s.heap H locs) (hA : ∀ q : Nat, s.heap.size ≤ q → A q)
    (is : List Nat) (his : is.map (fun i => ws[i]?) = wc.map some) (k : ∀ (v : Option Value) (w1 : va_W), postc v w1 → gG p l e R s m args below meth c nL E A Q (u + mc) (z + ms) (pc + 3) lv (v.toList ++ rest) (gmerge is w1 ws)) : W p l e R s m args below meth c H locs u z Q (F0 m pc ls st0) := by
  intro T hT X
  obtain ⟨v, st₀, t, T', L, h0, X', hL, e1, e2, ⟨⟨v', w1, hv, hp, hP1, hD1, hf⟩, hz, hk⟩, st⟩ := hr T hT X
  cases hv
  rw [h0] at hz hk
  have hFc : ∀ q, va_A wc H.size q → A q := va_free hD hS hA is his
  obtain ⟨hlen, hfst⟩ := g_fst hf
  have hisl : is.length = wc.length := by
    have := congrArg List.length his
    simpa using this
  have hkept : ∀ (k : Nat) (q : Nat × va_E), ws[k]? = some q → k ∉ is → T'.heap[q.1]? = H[q.1]? := by
    intro k q hq hn
    have hlt := (hP k q hq).lt
    rw [e1]
    refine hk q.1 hlt (fun ha => ?_)
    rcases ha with ⟨k2, e', h⟩ | h
    · obtain ⟨i, h3, h4⟩ := g_at his h
      have := hD.1 k i q (q.1, e') hq h4 rfl
      subst this
      exact hn (List.mem_of_getElem? h3)
    · omega
  have hP' : va_P E.1 vwCl (gmerge is w1 ws) T'.heap := gmerge_P is w1 ws (fun k q hq => by rw [e1]; exact hP1 k q hq) (fun k q hq hn => (hP k q hq).kept (hkept k q hq hn)) (by omega)
  have hD' : va_D A (gmerge is w1 ws) := by
    refine gmerge_D is w1 ws hD (fun j i x h1 h2 => ?_) ?_ (fun i j x y h1 h2 hxy => ?_)
    · have hj : j < wc.length := by rw [← hisl]; exact (List.getElem?_eq_some_iff.mp h1).1
      have hw : wc[j]? = some wc[j] := List.getElem?_eq_getElem hj
      obtain ⟨i2, h3, h4⟩ := g_at his hw
      rw [h1] at h3
      cases h3
      have h5 := hfst j _ x hw h2
      exact ⟨wc[j].2, by rw [h4, h5]⟩
    · refine ⟨fun i j x y h1 h2 hxy => ?_, fun k q hq => ?_⟩
      · rw [List.getElem?_drop] at h1 h2
        have := hD1.1 _ _ x y h1 h2 hxy
        omega
      · rw [List.getElem?_drop] at hq
        exact hFc _ (hD1.2 _ q hq)
    · rw [List.getElem?_drop] at h2
      have hlt := (hP i x h1).lt
      rcases hD1.2 _ y h2 with ⟨k2, e', h⟩ | h
      · have hk2 : k2 < wc.length := (List.getElem?_eq_some_iff.mp h).1
        have hw1 : w1[k2]? = some w1[k2] := List.getElem?_eq_getElem (by omega)
        have h5 := hfst k2 _ _ h hw1
        have := hD1.1 _ _ y w1[k2] h2 hw1 (by rw [h5])
        omega
      · omega
  obtain ⟨t2, a1, b1⟩ := k v w1 hp T'.heap (locs ++ L) ls hl hP' hD' ⟨Nat.le_trans hS.1 (by rw [e1]; exact hz), fun q h1 h2 => by rw [e1, hk q (Nat.lt_of_lt_of_le h1 hS.1) (fun z => h2 (hFc q z))]; exact hS.2.1 q h1 h2, fun q hq => by
      rcases List.mem_append.mp hq with h | h
      · exact hS.2.2 q h
      · exact hFc _ (hL q h)⟩ T' rfl X'
  exact ⟨t2, st t2 a1, b1⟩
theorem g_blind {E : gE} {wc : va_W} {sz : Nat} {av : List Value} : FrameBlind (va_Pc av (gPre E wc sz)) := by
  intro a U g mk q
  obtain ⟨q0, q1, qP, qK, qD, qN, t, qZ, qT⟩ := q
  exact ⟨q0, q1, qP, va_K.moved (u := U) (U := U.calling g mk a) (Vm.Alike.refl U.vm) qK, qD, gNest.same (u := U) (U := U.calling g mk a) rfl qN, t, va_Z.moved (u := U) (U := U.calling g mk a) (Vm.Alike.refl U.vm) qZ, va_T.moved (u := U) (U := U.calling g mk a) (Vm.Alike.refl U.vm) qT⟩
theorem g_pre {s : State} {E : gE} {A : Nat → Prop} {H : Heap} {locs : List Loc} {ws wc : va_W} {av : List Value} (hK : va_K E.1 vwCl (gty E) s) (hN : gNest s) (hO : gOv A s s.heap) (hP : va_P E.1 vwCl ws H) (hD : va_D A ws) (hS : va_S A s.heap H locs) (hA : ∀ q : Nat, s.heap.size ≤ q → A q) (is : List Nat) (his : is.map (fun i => ws[i]?) = wc.map some) (hnd : va_nd is = true) : ∀ U : State, U.heap = H → s.WarmedH U.vm → va_Pc av (gPre E wc H.size) av.toArray U := by
  intro U hU hW
  have hFc : ∀ q, va_A wc H.size q → A q := va_free hD hS hA is his
  obtain ⟨t, hZ, hT⟩ := hO
  refine ⟨rfl, by rw [hU], ?_, va_K.moved hW.alike hK, (hD.sub is hnd his).weaken (fun _ _ _ _ => trivial), hN.warm hW, t, ?_, ?_⟩
  · rw [hU]
    intro k q hq
    obtain ⟨i, -, h⟩ := g_at his hq
    exact hP i q h
  · rw [hU]
    exact (((hZ.kept (fun a h1 h2 => hS.2.1 a h1 h2)).moved hW.alike).narrow hFc)
  · rw [hU]
    exact (((hT.kept (fun a h1 h2 => hS.2.1 a h1 h2)).moved hW.alike).narrow hFc)
end
section
theorem g_iconst {Γ : gT} {l : Launch} {R : Room} {cc : ByteArray} {nL : Nat} {own : String} {E : gE} {ret : Option FieldType} {init : Bool} {post : Option Value → Nat → Nat → va_W → Prop} {u z pc : Nat} {lv : gLV} {st : List Value} {ws : va_W} (h : IsG Γ l R cc nL own E ret init post) {n : Int} {v : Int32} (d : decode cc pc = .ok (.iconst n, 1)) (hv : Int32.ofInt n = v) (k : Γ u z (pc + 1) lv (.int v :: st) ws) : Γ u z pc lv st ws := by
  obtain ⟨p, e, s, m, args, below, meth, c, A, Q, ⟨hx, hb, hml, ho, hts, hK, hA, hN, hO⟩, rfl, hin, hr⟩ := h
  intro H locs ls hl hP hD hS
  exact lv_iconst hx hb d hv (k H locs ls hl hP hD hS)
theorem g_bipush {Γ : gT} {l : Launch} {R : Room} {cc : ByteArray} {nL : Nat} {own : String} {E : gE} {ret : Option FieldType} {init : Bool} {post : Option Value → Nat → Nat → va_W → Prop} {u z pc : Nat} {lv : gLV} {st : List Value} {ws : va_W} (h : IsG Γ l R cc nL own E ret init post) {n : Int} {v : Int32} (d : decode cc pc = .ok (.bipush n, 2)) (hv : (Int8.ofInt n).toInt32 = v) (k : Γ u z (pc + 2) lv (.int v :: st) ws) : Γ u z pc lv st ws := by
  obtain ⟨p, e, s, m, args, below, meth, c, A, Q, ⟨hx, hb, hml, ho, hts, hK, hA, hN, hO⟩, rfl, hin, hr⟩ := h
  intro H locs ls hl hP hD hS
  exact lv_bipush hx hb d hv (k H locs ls hl hP hD hS)
theorem g_sipush {Γ : gT} {l : Launch} {R : Room} {cc : ByteArray} {nL : Nat} {own : String} {E : gE} {ret : Option FieldType} {init : Bool} {post : Option Value → Nat → Nat → va_W → Prop} {u z pc : Nat} {lv : gLV} {st : List Value} {ws : va_W} (h : IsG Γ l R cc nL own E ret init post) {n : Int} {v : Int32} (d : decode cc pc = .ok (.sipush n, 3)) (hv : (Int16.ofInt n).toInt32 = v) (k : Γ u z (pc + 3) lv (.int v :: st) ws) : Γ u z pc lv st ws := by
  obtain ⟨p, e, s, m, args, below, meth, c, A, Q, ⟨hx, hb, hml, ho, hts, hK, hA, hN, hO⟩, rfl, hin, hr⟩ := h
  intro H locs ls hl hP hD hS
  exact lv_sipush hx hb d hv (k H locs ls hl hP hD hS)
theorem g_lconst {Γ : gT} {l : Launch} {R : Room} {cc : ByteArray} {nL : Nat} {own : String} {E : gE} {ret : Option FieldType} {init : Bool} {post : Option Value → Nat → Nat → va_W → Prop} {u z pc : Nat} {lv : gLV} {st : List Value} {ws : va_W} (h : IsG Γ l R cc nL own E ret init post) {n : Fin 2} {v : Int64} (d : decode cc pc = .ok (.lconst n, 1)) (hv : Int64.ofNat (n : Nat) = v) (k : Γ u z (pc + 1) lv (.long v :: st) ws) : Γ u z pc lv st ws := by
  obtain ⟨p, e, s, m, args, below, meth, c, A, Q, ⟨hx, hb, hml, ho, hts, hK, hA, hN, hO⟩, rfl, hin, hr⟩ := h
  intro H locs ls hl hP hD hS
  exact lv_lconst hx hb d hv (k H locs ls hl hP hD hS)
theorem g_ldc {Γ : gT} {l : Launch} {R : Room} {cc : ByteArray} {nL : Nat} {own : String} {E : gE} {ret : Option FieldType} {init : Bool} {post : Option Value → Nat → Nat → va_W → Prop} {u z pc : Nat} {lv : gLV} {st : List Value} {ws : va_W} (h : IsG Γ l R cc nL own E ret init post) {i : Nat} {v : Int32} (d : decode cc pc = .ok (.ldc i, 2)) (hw : Cond.constant own i v ∈ gTT) (k : Γ u z (pc + 2) lv (.int v :: st) ws) : Γ u z pc lv st ws := by
  obtain ⟨p, e, s, m, args, below, meth, c, A, Q, ⟨hx, hb, hml, ho, hts, hK, hA, hN, hO⟩, rfl, hin, hr⟩ := h
  intro H locs ls hl hP hD hS
  exact lv_ldc hx hb ho (hts _ hw) d (k H locs ls hl hP hD hS)
theorem g_ldcw {Γ : gT} {l : Launch} {R : Room} {cc : ByteArray} {nL : Nat} {own : String} {E : gE} {ret : Option FieldType} {init : Bool} {post : Option Value → Nat → Nat → va_W → Prop} {u z pc : Nat} {lv : gLV} {st : List Value} {ws : va_W} (h : IsG Γ l R cc nL own E ret init post) {i : Nat} {v : Int32} (d : decode cc pc = .ok (.ldc_w i, 3)) (hw : Cond.constant own i v ∈ gTT) (k : Γ u z (pc + 3) lv (.int v :: st) ws) : Γ u z pc lv st ws := by
  obtain ⟨p, e, s, m, args, below, meth, c, A, Q, ⟨hx, hb, hml, ho, hts, hK, hA, hN, hO⟩, rfl, hin, hr⟩ := h
  intro H locs ls hl hP hD hS
  exact lv_ldcw hx hb ho (hts _ hw) d (k H locs ls hl hP hD hS)
theorem g_ldc2 {Γ : gT} {l : Launch} {R : Room} {cc : ByteArray} {nL : Nat} {own : String} {E : gE} {ret : Option FieldType} {init : Bool} {post : Option Value → Nat → Nat → va_W → Prop} {u z pc : Nat} {lv : gLV} {st : List Value} {ws : va_W} (h : IsG Γ l R cc nL own E ret init post) {i : Nat} {v : Int64} (d : decode cc pc = .ok (.ldc2_w i, 3)) (hw : Cond.constantLong own i v ∈ gTT) (k : Γ u z (pc + 3) lv (.long v :: st) ws) : Γ u z pc lv st ws := by
  obtain ⟨p, e, s, m, args, below, meth, c, A, Q, ⟨hx, hb, hml, ho, hts, hK, hA, hN, hO⟩, rfl, hin, hr⟩ := h
  intro H locs ls hl hP hD hS
  exact lv_ldc2 hx hb ho (hts _ hw) d (k H locs ls hl hP hD hS)
theorem g_iload_n {Γ : gT} {l : Launch} {R : Room} {cc : ByteArray} {nL : Nat} {own : String} {E : gE} {ret : Option FieldType} {init : Bool} {post : Option Value → Nat → Nat → va_W → Prop} {u z pc : Nat} {lv : gLV} {st : List Value} {ws : va_W} (h : IsG Γ l R cc nL own E ret init post) {k0 : Fin 4} {x : Int32} (d : decode cc pc = .ok (.iload_n k0, 1)) (hv : lv[(k0 : Nat)]? = some (some (.int x))) (k : Γ u z (pc + 1) lv (.int x :: st) ws) : Γ u z pc lv st ws := by
  obtain ⟨p, e, s, m, args, below, meth, c, A, Q, ⟨hx, hb, hml, ho, hts, hK, hA, hN, hO⟩, rfl, hin, hr⟩ := h
  intro H locs ls hl hP hD hS
  exact lv_iload_n hx hb d rfl (hl.2 _ _ hv) (k H locs ls hl hP hD hS)
theorem g_iload {Γ : gT} {l : Launch} {R : Room} {cc : ByteArray} {nL : Nat} {own : String} {E : gE} {ret : Option FieldType} {init : Bool} {post : Option Value → Nat → Nat → va_W → Prop} {u z pc : Nat} {lv : gLV} {st : List Value} {ws : va_W} (h : IsG Γ l R cc nL own E ret init post) {i : Nat} {x : Int32} (d : decode cc pc = .ok (.iload i, 2)) (hv : lv[i]? = some (some (.int x))) (k : Γ u z (pc + 2) lv (.int x :: st) ws) : Γ u z pc lv st ws := by
  obtain ⟨p, e, s, m, args, below, meth, c, A, Q, ⟨hx, hb, hml, ho, hts, hK, hA, hN, hO⟩, rfl, hin, hr⟩ := h
  intro H locs ls hl hP hD hS
  exact lv_iload hx hb d (hl.2 _ _ hv) (k H locs ls hl hP hD hS)
theorem g_lload_n {Γ : gT} {l : Launch} {R : Room} {cc : ByteArray} {nL : Nat} {own : String} {E : gE} {ret : Option FieldType} {init : Bool} {post : Option Value → Nat → Nat → va_W → Prop} {u z pc : Nat} {lv : gLV} {st : List Value} {ws : va_W} (h : IsG Γ l R cc nL own E ret init post) {k0 : Fin 4} {x : Int64} (d : decode cc pc = .ok (.lload_n k0, 1)) (hv : lv[(k0 : Nat)]? = some (some (.long x))) (k : Γ u z (pc + 1) lv (.long x :: st) ws) : Γ u z pc lv st ws := by
  obtain ⟨p, e, s, m, args, below, meth, c, A, Q, ⟨hx, hb, hml, ho, hts, hK, hA, hN, hO⟩, rfl, hin, hr⟩ := h
  intro H locs ls hl hP hD hS
  exact lv_lload_n hx hb d rfl (hl.2 _ _ hv) (k H locs ls hl hP hD hS)
theorem g_lload {Γ : gT} {l : Launch} {R : Room} {cc : ByteArray} {nL : Nat} {own : String} {E : gE} {ret : Option FieldType} {init : Bool} {post : Option Value → Nat → Nat → va_W → Prop} {u z pc : Nat} {lv : gLV} {st : List Value} {ws : va_W} (h : IsG Γ l R cc nL own E ret init post) {i : Nat} {x : Int64} (d : decode cc pc = .ok (.lload i, 2)) (hv : lv[i]? = some (some (.long x))) (k : Γ u z (pc + 2) lv (.long x :: st) ws) : Γ u z pc lv st ws := by
  obtain ⟨p, e, s, m, args, below, meth, c, A, Q, ⟨hx, hb, hml, ho, hts, hK, hA, hN, hO⟩, rfl, hin, hr⟩ := h
  intro H locs ls hl hP hD hS
  exact lv_lload hx hb d (hl.2 _ _ hv) (k H locs ls hl hP hD hS)
theorem g_aload_n {Γ : gT} {l : Launch} {R : Room} {cc : ByteArray} {nL : Nat} {own : String} {E : gE} {ret : Option FieldType} {init : Bool} {post : Option Value → Nat → Nat → va_W → Prop} {u z pc : Nat} {lv : gLV} {st : List Value} {ws : va_W} (h : IsG Γ l R cc nL own E ret init post) {k0 : Fin 4} {x : Nat} (d : decode cc pc = .ok (.aload_n k0, 1)) (hv : lv[(k0 : Nat)]? = some (some (.ref x))) (k : Γ u z (pc + 1) lv (.ref x :: st) ws) : Γ u z pc lv st ws := by
  obtain ⟨p, e, s, m, args, below, meth, c, A, Q, ⟨hx, hb, hml, ho, hts, hK, hA, hN, hO⟩, rfl, hin, hr⟩ := h
  intro H locs ls hl hP hD hS
  exact lv_aload_n hx hb d rfl (hl.2 _ _ hv) (k H locs ls hl hP hD hS)
theorem g_aload {Γ : gT} {l : Launch} {R : Room} {cc : ByteArray} {nL : Nat} {own : String} {E : gE} {ret : Option FieldType} {init : Bool} {post : Option Value → Nat → Nat → va_W → Prop} {u z pc : Nat} {lv : gLV} {st : List Value} {ws : va_W} (h : IsG Γ l R cc nL own E ret init post) {i : Nat} {x : Nat} (d : decode cc pc = .ok (.aload i, 2)) (hv : lv[i]? = some (some (.ref x))) (k : Γ u z (pc + 2) lv (.ref x :: st) ws) : Γ u z pc lv st ws := by
  obtain ⟨p, e, s, m, args, below, meth, c, A, Q, ⟨hx, hb, hml, ho, hts, hK, hA, hN, hO⟩, rfl, hin, hr⟩ := h
  intro H locs ls hl hP hD hS
  exact lv_aload hx hb d (hl.2 _ _ hv) (k H locs ls hl hP hD hS)
theorem g_istore_n {Γ : gT} {l : Launch} {R : Room} {cc : ByteArray} {nL : Nat} {own : String} {E : gE} {ret : Option FieldType} {init : Bool} {post : Option Value → Nat → Nat → va_W → Prop} {u z pc : Nat} {lv : gLV} {st : List Value} {ws : va_W} (h : IsG Γ l R cc nL own E ret init post) {lv' : gLV} {k0 : Fin 4} {x : Int32} (d : decode cc pc = .ok (.istore_n k0, 1)) (hn : (k0 : Nat) < nL) (he : gset1 lv (k0 : Nat) (.int x) = lv') (k : Γ u z (pc + 1) lv' st ws) : Γ u z pc lv (.int x :: st) ws := by
  obtain ⟨p, e, s, m, args, below, meth, c, A, Q, ⟨hx, hb, hml, ho, hts, hK, hA, hN, hO⟩, rfl, hin, hr⟩ := h
  intro H locs ls hl hP hD hS
  subst he
  exact lv_istore_n hx hb d rfl (gL_all hl) hn rfl (fun ls' h' => k H locs ls' (gL_set1 h') hP hD hS)
theorem g_istore {Γ : gT} {l : Launch} {R : Room} {cc : ByteArray} {nL : Nat} {own : String} {E : gE} {ret : Option FieldType} {init : Bool} {post : Option Value → Nat → Nat → va_W → Prop} {u z pc : Nat} {lv : gLV} {st : List Value} {ws : va_W} (h : IsG Γ l R cc nL own E ret init post) {lv' : gLV} {i : Nat} {x : Int32} (d : decode cc pc = .ok (.istore i, 2)) (hn : i < nL) (he : gset1 lv i (.int x) = lv') (k : Γ u z (pc + 2) lv' st ws) : Γ u z pc lv (.int x :: st) ws := by
  obtain ⟨p, e, s, m, args, below, meth, c, A, Q, ⟨hx, hb, hml, ho, hts, hK, hA, hN, hO⟩, rfl, hin, hr⟩ := h
  intro H locs ls hl hP hD hS
  subst he
  exact lv_istore hx hb d (gL_all hl) hn rfl (fun ls' h' => k H locs ls' (gL_set1 h') hP hD hS)
theorem g_lstore_n {Γ : gT} {l : Launch} {R : Room} {cc : ByteArray} {nL : Nat} {own : String} {E : gE} {ret : Option FieldType} {init : Bool} {post : Option Value → Nat → Nat → va_W → Prop} {u z pc : Nat} {lv : gLV} {st : List Value} {ws : va_W} (h : IsG Γ l R cc nL own E ret init post) {lv' : gLV} {k0 : Fin 4} {x : Int64} (d : decode cc pc = .ok (.lstore_n k0, 1)) (hn : (k0 : Nat) + 1 < nL) (he : gset2 lv (k0 : Nat) (.long x) = lv') (k : Γ u z (pc + 1) lv' st ws) : Γ u z pc lv (.long x :: st) ws := by
  obtain ⟨p, e, s, m, args, below, meth, c, A, Q, ⟨hx, hb, hml, ho, hts, hK, hA, hN, hO⟩, rfl, hin, hr⟩ := h
  intro H locs ls hl hP hD hS
  subst he
  exact lv_lstore_n hx hb d rfl (gL_all hl) hn rfl (fun ls' h' => k H locs ls' (gL_set2 h') hP hD hS)
theorem g_lstore {Γ : gT} {l : Launch} {R : Room} {cc : ByteArray} {nL : Nat} {own : String} {E : gE} {ret : Option FieldType} {init : Bool} {post : Option Value → Nat → Nat → va_W → Prop} {u z pc : Nat} {lv : gLV} {st : List Value} {ws : va_W} (h : IsG Γ l R cc nL own E ret init post) {lv' : gLV} {i : Nat} {x : Int64} (d : decode cc pc = .ok (.lstore i, 2)) (hn : i + 1 < nL) (he : gset2 lv i (.long x) = lv') (k : Γ u z (pc + 2) lv' st ws) : Γ u z pc lv (.long x :: st) ws := by
  obtain ⟨p, e, s, m, args, below, meth, c, A, Q, ⟨hx, hb, hml, ho, hts, hK, hA, hN, hO⟩, rfl, hin, hr⟩ := h
  intro H locs ls hl hP hD hS
  subst he
  exact lv_lstore hx hb d (gL_all hl) hn rfl (fun ls' h' => k H locs ls' (gL_set2 h') hP hD hS)
theorem g_astore_n {Γ : gT} {l : Launch} {R : Room} {cc : ByteArray} {nL : Nat} {own : String} {E : gE} {ret : Option FieldType} {init : Bool} {post : Option Value → Nat → Nat → va_W → Prop} {u z pc : Nat} {lv : gLV} {st : List Value} {ws : va_W} (h : IsG Γ l R cc nL own E ret init post) {lv' : gLV} {k0 : Fin 4} {x : Nat} (d : decode cc pc = .ok (.astore_n k0, 1)) (hn : (k0 : Nat) < nL) (he : gset1 lv (k0 : Nat) (.ref x) = lv') (k : Γ u z (pc + 1) lv' st ws) : Γ u z pc lv (.ref x :: st) ws := by
  obtain ⟨p, e, s, m, args, below, meth, c, A, Q, ⟨hx, hb, hml, ho, hts, hK, hA, hN, hO⟩, rfl, hin, hr⟩ := h
  intro H locs ls hl hP hD hS
  subst he
  exact lv_astore_n hx hb d rfl (gL_all hl) hn rfl (fun ls' h' => k H locs ls' (gL_set1 h') hP hD hS)
theorem g_astore {Γ : gT} {l : Launch} {R : Room} {cc : ByteArray} {nL : Nat} {own : String} {E : gE} {ret : Option FieldType} {init : Bool} {post : Option Value → Nat → Nat → va_W → Prop} {u z pc : Nat} {lv : gLV} {st : List Value} {ws : va_W} (h : IsG Γ l R cc nL own E ret init post) {lv' : gLV} {i : Nat} {x : Nat} (d : decode cc pc = .ok (.astore i, 2)) (hn : i < nL) (he : gset1 lv i (.ref x) = lv') (k : Γ u z (pc + 2) lv' st ws) : Γ u z pc lv (.ref x :: st) ws := by
  obtain ⟨p, e, s, m, args, below, meth, c, A, Q, ⟨hx, hb, hml, ho, hts, hK, hA, hN, hO⟩, rfl, hin, hr⟩ := h
  intro H locs ls hl hP hD hS
  subst he
  exact lv_astore hx hb d (gL_all hl) hn rfl (fun ls' h' => k H locs ls' (gL_set1 h') hP hD hS)
theorem g_nth {α : Type} {l : List α} {a : α} (h : a ∈ l) : ∃ k : Nat, l[k]? = some a := List.getElem?_of_mem h
theorem g_iinc {Γ : gT} {l : Launch} {R : Room} {cc : ByteArray} {nL : Nat} {own : String} {E : gE} {ret : Option FieldType} {init : Bool} {post : Option Value → Nat → Nat → va_W → Prop} {u z pc : Nat} {lv : gLV} {st : List Value} {ws : va_W} (h : IsG Γ l R cc nL own E ret init post) {lv' : gLV} {i : Nat} {n : Int} {x v : Int32} (d : decode cc pc = .ok (.iinc i n, 3)) (hg : lv[i]? = some (some (.int x))) (hv : x + Int32.ofInt n = v) (hn : i < nL) (he : gset1 lv i (.int v) = lv') (k : Γ u z (pc + 3) lv' st ws) : Γ u z pc lv st ws := by
  obtain ⟨p, e, s, m, args, below, meth, c, A, Q, ⟨hx, hb, hml, ho, hts, hK, hA, hN, hO⟩, rfl, hin, hr⟩ := h
  intro H locs ls hl hP hD hS
  subst he
  obtain ⟨k0, hk0⟩ := g_nth (gpairs_of lv 0 i _ hg)
  rw [Nat.zero_add] at hk0
  exact lv_iinc hx hb d (gL_all hl) hk0 hv hn rfl (fun ls' h' => k H locs ls' (gL_set1 h') hP hD hS)
theorem g_iadd {Γ : gT} {l : Launch} {R : Room} {cc : ByteArray} {nL : Nat} {own : String} {E : gE} {ret : Option FieldType} {init : Bool} {post : Option Value → Nat → Nat → va_W → Prop} {u z pc : Nat} {lv : gLV} {st : List Value} {ws : va_W} (h : IsG Γ l R cc nL own E ret init post) {x y : Int32} (d : decode cc pc = .ok (.iadd, 1)) (k : Γ u z (pc + 1) lv (.int (x + y) :: st) ws) : Γ u z pc lv (.int y :: .int x :: st) ws := by
  obtain ⟨p, e, s, m, args, below, meth, c, A, Q, ⟨hx, hb, hml, ho, hts, hK, hA, hN, hO⟩, rfl, hin, hr⟩ := h
  intro H locs ls hl hP hD hS
  exact lv_iadd hx hb d (k H locs ls hl hP hD hS)
theorem g_isub {Γ : gT} {l : Launch} {R : Room} {cc : ByteArray} {nL : Nat} {own : String} {E : gE} {ret : Option FieldType} {init : Bool} {post : Option Value → Nat → Nat → va_W → Prop} {u z pc : Nat} {lv : gLV} {st : List Value} {ws : va_W} (h : IsG Γ l R cc nL own E ret init post) {x y : Int32} (d : decode cc pc = .ok (.isub, 1)) (k : Γ u z (pc + 1) lv (.int (x - y) :: st) ws) : Γ u z pc lv (.int y :: .int x :: st) ws := by
  obtain ⟨p, e, s, m, args, below, meth, c, A, Q, ⟨hx, hb, hml, ho, hts, hK, hA, hN, hO⟩, rfl, hin, hr⟩ := h
  intro H locs ls hl hP hD hS
  exact lv_isub hx hb d (k H locs ls hl hP hD hS)
theorem g_imul {Γ : gT} {l : Launch} {R : Room} {cc : ByteArray} {nL : Nat} {own : String} {E : gE} {ret : Option FieldType} {init : Bool} {post : Option Value → Nat → Nat → va_W → Prop} {u z pc : Nat} {lv : gLV} {st : List Value} {ws : va_W} (h : IsG Γ l R cc nL own E ret init post) {x y : Int32} (d : decode cc pc = .ok (.imul, 1)) (k : Γ u z (pc + 1) lv (.int (x * y) :: st) ws) : Γ u z pc lv (.int y :: .int x :: st) ws := by
  obtain ⟨p, e, s, m, args, below, meth, c, A, Q, ⟨hx, hb, hml, ho, hts, hK, hA, hN, hO⟩, rfl, hin, hr⟩ := h
  intro H locs ls hl hP hD hS
  exact lv_imul hx hb d (k H locs ls hl hP hD hS)
theorem g_iand {Γ : gT} {l : Launch} {R : Room} {cc : ByteArray} {nL : Nat} {own : String} {E : gE} {ret : Option FieldType} {init : Bool} {post : Option Value → Nat → Nat → va_W → Prop} {u z pc : Nat} {lv : gLV} {st : List Value} {ws : va_W} (h : IsG Γ l R cc nL own E ret init post) {x y : Int32} (d : decode cc pc = .ok (.iand, 1)) (k : Γ u z (pc + 1) lv (.int (x &&& y) :: st) ws) : Γ u z pc lv (.int y :: .int x :: st) ws := by
  obtain ⟨p, e, s, m, args, below, meth, c, A, Q, ⟨hx, hb, hml, ho, hts, hK, hA, hN, hO⟩, rfl, hin, hr⟩ := h
  intro H locs ls hl hP hD hS
  exact lv_iand hx hb d (k H locs ls hl hP hD hS)
theorem g_ior {Γ : gT} {l : Launch} {R : Room} {cc : ByteArray} {nL : Nat} {own : String} {E : gE} {ret : Option FieldType} {init : Bool} {post : Option Value → Nat → Nat → va_W → Prop} {u z pc : Nat} {lv : gLV} {st : List Value} {ws : va_W} (h : IsG Γ l R cc nL own E ret init post) {x y : Int32} (d : decode cc pc = .ok (.ior, 1)) (k : Γ u z (pc + 1) lv (.int (x ||| y) :: st) ws) : Γ u z pc lv (.int y :: .int x :: st) ws := by
  obtain ⟨p, e, s, m, args, below, meth, c, A, Q, ⟨hx, hb, hml, ho, hts, hK, hA, hN, hO⟩, rfl, hin, hr⟩ := h
  intro H locs ls hl hP hD hS
  exact lv_ior hx hb d (k H locs ls hl hP hD hS)
theorem g_ixor {Γ : gT} {l : Launch} {R : Room} {cc : ByteArray} {nL : Nat} {own : String} {E : gE} {ret : Option FieldType} {init : Bool} {post : Option Value → Nat → Nat → va_W → Prop} {u z pc : Nat} {lv : gLV} {st : List Value} {ws : va_W} (h : IsG Γ l R cc nL own E ret init post) {x y : Int32} (d : decode cc pc = .ok (.ixor, 1)) (k : Γ u z (pc + 1) lv (.int (x ^^^ y) :: st) ws) : Γ u z pc lv (.int y :: .int x :: st) ws := by
  obtain ⟨p, e, s, m, args, below, meth, c, A, Q, ⟨hx, hb, hml, ho, hts, hK, hA, hN, hO⟩, rfl, hin, hr⟩ := h
  intro H locs ls hl hP hD hS
  exact lv_ixor hx hb d (k H locs ls hl hP hD hS)
theorem g_ishl {Γ : gT} {l : Launch} {R : Room} {cc : ByteArray} {nL : Nat} {own : String} {E : gE} {ret : Option FieldType} {init : Bool} {post : Option Value → Nat → Nat → va_W → Prop} {u z pc : Nat} {lv : gLV} {st : List Value} {ws : va_W} (h : IsG Γ l R cc nL own E ret init post) {x y : Int32} (d : decode cc pc = .ok (.ishl, 1)) (k : Γ u z (pc + 1) lv (.int (x <<< (y &&& 31)) :: st) ws) : Γ u z pc lv (.int y :: .int x :: st) ws := by
  obtain ⟨p, e, s, m, args, below, meth, c, A, Q, ⟨hx, hb, hml, ho, hts, hK, hA, hN, hO⟩, rfl, hin, hr⟩ := h
  intro H locs ls hl hP hD hS
  exact lv_ishl hx hb d (k H locs ls hl hP hD hS)
theorem g_ishr {Γ : gT} {l : Launch} {R : Room} {cc : ByteArray} {nL : Nat} {own : String} {E : gE} {ret : Option FieldType} {init : Bool} {post : Option Value → Nat → Nat → va_W → Prop} {u z pc : Nat} {lv : gLV} {st : List Value} {ws : va_W} (h : IsG Γ l R cc nL own E ret init post) {x y : Int32} (d : decode cc pc = .ok (.ishr, 1)) (k : Γ u z (pc + 1) lv (.int (x >>> (y &&& 31)) :: st) ws) : Γ u z pc lv (.int y :: .int x :: st) ws := by
  obtain ⟨p, e, s, m, args, below, meth, c, A, Q, ⟨hx, hb, hml, ho, hts, hK, hA, hN, hO⟩, rfl, hin, hr⟩ := h
  intro H locs ls hl hP hD hS
  exact lv_ishr hx hb d (k H locs ls hl hP hD hS)
theorem g_idiv {Γ : gT} {l : Launch} {R : Room} {cc : ByteArray} {nL : Nat} {own : String} {E : gE} {ret : Option FieldType} {init : Bool} {post : Option Value → Nat → Nat → va_W → Prop} {u z pc : Nat} {lv : gLV} {st : List Value} {ws : va_W} (h : IsG Γ l R cc nL own E ret init post) {x y : Int32} (d : decode cc pc = .ok (.idiv, 1)) (hne : ¬ y = 0) (k : Γ u z (pc + 1) lv (.int (x / y) :: st) ws) : Γ u z pc lv (.int y :: .int x :: st) ws := by
  obtain ⟨p, e, s, m, args, below, meth, c, A, Q, ⟨hx, hb, hml, ho, hts, hK, hA, hN, hO⟩, rfl, hin, hr⟩ := h
  intro H locs ls hl hP hD hS
  exact lv_idiv hx hb d hne (k H locs ls hl hP hD hS)
theorem g_irem {Γ : gT} {l : Launch} {R : Room} {cc : ByteArray} {nL : Nat} {own : String} {E : gE} {ret : Option FieldType} {init : Bool} {post : Option Value → Nat → Nat → va_W → Prop} {u z pc : Nat} {lv : gLV} {st : List Value} {ws : va_W} (h : IsG Γ l R cc nL own E ret init post) {x y : Int32} (d : decode cc pc = .ok (.irem, 1)) (hne : ¬ y = 0) (k : Γ u z (pc + 1) lv (.int (x - x / y * y) :: st) ws) : Γ u z pc lv (.int y :: .int x :: st) ws := by
  obtain ⟨p, e, s, m, args, below, meth, c, A, Q, ⟨hx, hb, hml, ho, hts, hK, hA, hN, hO⟩, rfl, hin, hr⟩ := h
  intro H locs ls hl hP hD hS
  exact lv_irem hx hb d hne (k H locs ls hl hP hD hS)
theorem g_ineg {Γ : gT} {l : Launch} {R : Room} {cc : ByteArray} {nL : Nat} {own : String} {E : gE} {ret : Option FieldType} {init : Bool} {post : Option Value → Nat → Nat → va_W → Prop} {u z pc : Nat} {lv : gLV} {st : List Value} {ws : va_W} (h : IsG Γ l R cc nL own E ret init post) {x : Int32} (d : decode cc pc = .ok (.ineg, 1)) (k : Γ u z (pc + 1) lv (.int (-x) :: st) ws) : Γ u z pc lv (.int x :: st) ws := by
  obtain ⟨p, e, s, m, args, below, meth, c, A, Q, ⟨hx, hb, hml, ho, hts, hK, hA, hN, hO⟩, rfl, hin, hr⟩ := h
  intro H locs ls hl hP hD hS
  exact lv_ineg hx hb d (k H locs ls hl hP hD hS)
theorem g_iushr {Γ : gT} {l : Launch} {R : Room} {cc : ByteArray} {nL : Nat} {own : String} {E : gE} {ret : Option FieldType} {init : Bool} {post : Option Value → Nat → Nat → va_W → Prop} {u z pc : Nat} {lv : gLV} {st : List Value} {ws : va_W} (h : IsG Γ l R cc nL own E ret init post) {x y : Int32} (d : decode cc pc = .ok (.iushr, 1)) (k : Γ u z (pc + 1) lv (.int ((x.toUInt32 >>> (y.toUInt32 &&& Int32.toUInt32 31)).toInt32) :: st) ws) : Γ u z pc lv (.int y :: .int x :: st) ws := by
  obtain ⟨p, e, s, m, args, below, meth, c, A, Q, ⟨hx, hb, hml, ho, hts, hK, hA, hN, hO⟩, rfl, hin, hr⟩ := h
  intro H locs ls hl hP hD hS
  exact lv_iushr hx hb d rfl (k H locs ls hl hP hD hS)
theorem g_ladd {Γ : gT} {l : Launch} {R : Room} {cc : ByteArray} {nL : Nat} {own : String} {E : gE} {ret : Option FieldType} {init : Bool} {post : Option Value → Nat → Nat → va_W → Prop} {u z pc : Nat} {lv : gLV} {st : List Value} {ws : va_W} (h : IsG Γ l R cc nL own E ret init post) {x y : Int64} (d : decode cc pc = .ok (.ladd, 1)) (k : Γ u z (pc + 1) lv (.long (x + y) :: st) ws) : Γ u z pc lv (.long y :: .long x :: st) ws := by
  obtain ⟨p, e, s, m, args, below, meth, c, A, Q, ⟨hx, hb, hml, ho, hts, hK, hA, hN, hO⟩, rfl, hin, hr⟩ := h
  intro H locs ls hl hP hD hS
  exact lv_ladd hx hb d (k H locs ls hl hP hD hS)
theorem g_lsub {Γ : gT} {l : Launch} {R : Room} {cc : ByteArray} {nL : Nat} {own : String} {E : gE} {ret : Option FieldType} {init : Bool} {post : Option Value → Nat → Nat → va_W → Prop} {u z pc : Nat} {lv : gLV} {st : List Value} {ws : va_W} (h : IsG Γ l R cc nL own E ret init post) {x y : Int64} (d : decode cc pc = .ok (.lsub, 1)) (k : Γ u z (pc + 1) lv (.long (x - y) :: st) ws) : Γ u z pc lv (.long y :: .long x :: st) ws := by
  obtain ⟨p, e, s, m, args, below, meth, c, A, Q, ⟨hx, hb, hml, ho, hts, hK, hA, hN, hO⟩, rfl, hin, hr⟩ := h
  intro H locs ls hl hP hD hS
  exact lv_lsub hx hb d (k H locs ls hl hP hD hS)
theorem g_lmul {Γ : gT} {l : Launch} {R : Room} {cc : ByteArray} {nL : Nat} {own : String} {E : gE} {ret : Option FieldType} {init : Bool} {post : Option Value → Nat → Nat → va_W → Prop} {u z pc : Nat} {lv : gLV} {st : List Value} {ws : va_W} (h : IsG Γ l R cc nL own E ret init post) {x y : Int64} (d : decode cc pc = .ok (.lmul, 1)) (k : Γ u z (pc + 1) lv (.long (x * y) :: st) ws) : Γ u z pc lv (.long y :: .long x :: st) ws := by
  obtain ⟨p, e, s, m, args, below, meth, c, A, Q, ⟨hx, hb, hml, ho, hts, hK, hA, hN, hO⟩, rfl, hin, hr⟩ := h
  intro H locs ls hl hP hD hS
  exact lv_lmul hx hb d (k H locs ls hl hP hD hS)
theorem g_land {Γ : gT} {l : Launch} {R : Room} {cc : ByteArray} {nL : Nat} {own : String} {E : gE} {ret : Option FieldType} {init : Bool} {post : Option Value → Nat → Nat → va_W → Prop} {u z pc : Nat} {lv : gLV} {st : List Value} {ws : va_W} (h : IsG Γ l R cc nL own E ret init post) {x y : Int64} (d : decode cc pc = .ok (.land, 1)) (k : Γ u z (pc + 1) lv (.long (x &&& y) :: st) ws) : Γ u z pc lv (.long y :: .long x :: st) ws := by
  obtain ⟨p, e, s, m, args, below, meth, c, A, Q, ⟨hx, hb, hml, ho, hts, hK, hA, hN, hO⟩, rfl, hin, hr⟩ := h
  intro H locs ls hl hP hD hS
  exact lv_land hx hb d (k H locs ls hl hP hD hS)
theorem g_lor {Γ : gT} {l : Launch} {R : Room} {cc : ByteArray} {nL : Nat} {own : String} {E : gE} {ret : Option FieldType} {init : Bool} {post : Option Value → Nat → Nat → va_W → Prop} {u z pc : Nat} {lv : gLV} {st : List Value} {ws : va_W} (h : IsG Γ l R cc nL own E ret init post) {x y : Int64} (d : decode cc pc = .ok (.lor, 1)) (k : Γ u z (pc + 1) lv (.long (x ||| y) :: st) ws) : Γ u z pc lv (.long y :: .long x :: st) ws := by
  obtain ⟨p, e, s, m, args, below, meth, c, A, Q, ⟨hx, hb, hml, ho, hts, hK, hA, hN, hO⟩, rfl, hin, hr⟩ := h
  intro H locs ls hl hP hD hS
  exact lv_lor hx hb d (k H locs ls hl hP hD hS)
theorem g_lxor {Γ : gT} {l : Launch} {R : Room} {cc : ByteArray} {nL : Nat} {own : String} {E : gE} {ret : Option FieldType} {init : Bool} {post : Option Value → Nat → Nat → va_W → Prop} {u z pc : Nat} {lv : gLV} {st : List Value} {ws : va_W} (h : IsG Γ l R cc nL own E ret init post) {x y : Int64} (d : decode cc pc = .ok (.lxor, 1)) (k : Γ u z (pc + 1) lv (.long (x ^^^ y) :: st) ws) : Γ u z pc lv (.long y :: .long x :: st) ws := by
  obtain ⟨p, e, s, m, args, below, meth, c, A, Q, ⟨hx, hb, hml, ho, hts, hK, hA, hN, hO⟩, rfl, hin, hr⟩ := h
  intro H locs ls hl hP hD hS
  exact lv_lxor hx hb d (k H locs ls hl hP hD hS)
theorem g_ldiv {Γ : gT} {l : Launch} {R : Room} {cc : ByteArray} {nL : Nat} {own : String} {E : gE} {ret : Option FieldType} {init : Bool} {post : Option Value → Nat → Nat → va_W → Prop} {u z pc : Nat} {lv : gLV} {st : List Value} {ws : va_W} (h : IsG Γ l R cc nL own E ret init post) {x y : Int64} (d : decode cc pc = .ok (.ldiv, 1)) (hne : ¬ y = 0) (k : Γ u z (pc + 1) lv (.long (x / y) :: st) ws) : Γ u z pc lv (.long y :: .long x :: st) ws := by
  obtain ⟨p, e, s, m, args, below, meth, c, A, Q, ⟨hx, hb, hml, ho, hts, hK, hA, hN, hO⟩, rfl, hin, hr⟩ := h
  intro H locs ls hl hP hD hS
  exact lv_ldiv hx hb d hne (k H locs ls hl hP hD hS)
theorem g_lrem {Γ : gT} {l : Launch} {R : Room} {cc : ByteArray} {nL : Nat} {own : String} {E : gE} {ret : Option FieldType} {init : Bool} {post : Option Value → Nat → Nat → va_W → Prop} {u z pc : Nat} {lv : gLV} {st : List Value} {ws : va_W} (h : IsG Γ l R cc nL own E ret init post) {x y : Int64} (d : decode cc pc = .ok (.lrem, 1)) (hne : ¬ y = 0) (k : Γ u z (pc + 1) lv (.long (x - x / y * y) :: st) ws) : Γ u z pc lv (.long y :: .long x :: st) ws := by
  obtain ⟨p, e, s, m, args, below, meth, c, A, Q, ⟨hx, hb, hml, ho, hts, hK, hA, hN, hO⟩, rfl, hin, hr⟩ := h
  intro H locs ls hl hP hD hS
  exact lv_lrem hx hb d hne (k H locs ls hl hP hD hS)
theorem g_lneg {Γ : gT} {l : Launch} {R : Room} {cc : ByteArray} {nL : Nat} {own : String} {E : gE} {ret : Option FieldType} {init : Bool} {post : Option Value → Nat → Nat → va_W → Prop} {u z pc : Nat} {lv : gLV} {st : List Value} {ws : va_W} (h : IsG Γ l R cc nL own E ret init post) {x : Int64} (d : decode cc pc = .ok (.lneg, 1)) (k : Γ u z (pc + 1) lv (.long (-x) :: st) ws) : Γ u z pc lv (.long x :: st) ws := by
  obtain ⟨p, e, s, m, args, below, meth, c, A, Q, ⟨hx, hb, hml, ho, hts, hK, hA, hN, hO⟩, rfl, hin, hr⟩ := h
  intro H locs ls hl hP hD hS
  exact lv_lneg hx hb d (k H locs ls hl hP hD hS)
theorem g_lshl {Γ : gT} {l : Launch} {R : Room} {cc : ByteArray} {nL : Nat} {own : String} {E : gE} {ret : Option FieldType} {init : Bool} {post : Option Value → Nat → Nat → va_W → Prop} {u z pc : Nat} {lv : gLV} {st : List Value} {ws : va_W} (h : IsG Γ l R cc nL own E ret init post) {x : Int64} {y : Int32} (d : decode cc pc = .ok (.lshl, 1)) (k : Γ u z (pc + 1) lv (.long (x <<< (y.toInt64 &&& 63)) :: st) ws) : Γ u z pc lv (.int y :: .long x :: st) ws := by
  obtain ⟨p, e, s, m, args, below, meth, c, A, Q, ⟨hx, hb, hml, ho, hts, hK, hA, hN, hO⟩, rfl, hin, hr⟩ := h
  intro H locs ls hl hP hD hS
  exact lv_lshl hx hb d rfl (k H locs ls hl hP hD hS)
theorem g_i2l {Γ : gT} {l : Launch} {R : Room} {cc : ByteArray} {nL : Nat} {own : String} {E : gE} {ret : Option FieldType} {init : Bool} {post : Option Value → Nat → Nat → va_W → Prop} {u z pc : Nat} {lv : gLV} {st : List Value} {ws : va_W} (h : IsG Γ l R cc nL own E ret init post) {x : Int32} (d : decode cc pc = .ok (.i2l, 1)) (k : Γ u z (pc + 1) lv (.long x.toInt64 :: st) ws) : Γ u z pc lv (.int x :: st) ws := by
  obtain ⟨p, e, s, m, args, below, meth, c, A, Q, ⟨hx, hb, hml, ho, hts, hK, hA, hN, hO⟩, rfl, hin, hr⟩ := h
  intro H locs ls hl hP hD hS
  exact lv_i2l hx hb d rfl (k H locs ls hl hP hD hS)
theorem g_l2i {Γ : gT} {l : Launch} {R : Room} {cc : ByteArray} {nL : Nat} {own : String} {E : gE} {ret : Option FieldType} {init : Bool} {post : Option Value → Nat → Nat → va_W → Prop} {u z pc : Nat} {lv : gLV} {st : List Value} {ws : va_W} (h : IsG Γ l R cc nL own E ret init post) {x : Int64} (d : decode cc pc = .ok (.l2i, 1)) (k : Γ u z (pc + 1) lv (.int x.toInt32 :: st) ws) : Γ u z pc lv (.long x :: st) ws := by
  obtain ⟨p, e, s, m, args, below, meth, c, A, Q, ⟨hx, hb, hml, ho, hts, hK, hA, hN, hO⟩, rfl, hin, hr⟩ := h
  intro H locs ls hl hP hD hS
  exact lv_l2i hx hb d rfl (k H locs ls hl hP hD hS)
theorem g_i2s {Γ : gT} {l : Launch} {R : Room} {cc : ByteArray} {nL : Nat} {own : String} {E : gE} {ret : Option FieldType} {init : Bool} {post : Option Value → Nat → Nat → va_W → Prop} {u z pc : Nat} {lv : gLV} {st : List Value} {ws : va_W} (h : IsG Γ l R cc nL own E ret init post) {x : Int32} (d : decode cc pc = .ok (.i2s, 1)) (k : Γ u z (pc + 1) lv (.int x.toInt16.toInt32 :: st) ws) : Γ u z pc lv (.int x :: st) ws := by
  obtain ⟨p, e, s, m, args, below, meth, c, A, Q, ⟨hx, hb, hml, ho, hts, hK, hA, hN, hO⟩, rfl, hin, hr⟩ := h
  intro H locs ls hl hP hD hS
  exact lv_i2s hx hb d rfl (k H locs ls hl hP hD hS)
theorem g_lcmp {Γ : gT} {l : Launch} {R : Room} {cc : ByteArray} {nL : Nat} {own : String} {E : gE} {ret : Option FieldType} {init : Bool} {post : Option Value → Nat → Nat → va_W → Prop} {u z pc : Nat} {lv : gLV} {st : List Value} {ws : va_W} (h : IsG Γ l R cc nL own E ret init post) {x y : Int64} (d : decode cc pc = .ok (.lcmp, 1)) (k : Γ u z (pc + 1) lv (.int (lg_cmp x y) :: st) ws) : Γ u z pc lv (.long y :: .long x :: st) ws := by
  obtain ⟨p, e, s, m, args, below, meth, c, A, Q, ⟨hx, hb, hml, ho, hts, hK, hA, hN, hO⟩, rfl, hin, hr⟩ := h
  intro H locs ls hl hP hD hS
  exact W.lcmp hx hb d (k H locs ls hl hP hD hS)
theorem g_dup {Γ : gT} {l : Launch} {R : Room} {cc : ByteArray} {nL : Nat} {own : String} {E : gE} {ret : Option FieldType} {init : Bool} {post : Option Value → Nat → Nat → va_W → Prop} {u z pc : Nat} {lv : gLV} {st : List Value} {ws : va_W} (h : IsG Γ l R cc nL own E ret init post) {a : Value} (d : decode cc pc = .ok (.dup, 1)) (ha : a.category = 1) (k : Γ u z (pc + 1) lv (a :: a :: st) ws) : Γ u z pc lv (a :: st) ws := by
  obtain ⟨p, e, s, m, args, below, meth, c, A, Q, ⟨hx, hb, hml, ho, hts, hK, hA, hN, hO⟩, rfl, hin, hr⟩ := h
  intro H locs ls hl hP hD hS
  exact lv_dup hx hb d ha (k H locs ls hl hP hD hS)
theorem g_pop {Γ : gT} {l : Launch} {R : Room} {cc : ByteArray} {nL : Nat} {own : String} {E : gE} {ret : Option FieldType} {init : Bool} {post : Option Value → Nat → Nat → va_W → Prop} {u z pc : Nat} {lv : gLV} {st : List Value} {ws : va_W} (h : IsG Γ l R cc nL own E ret init post) {a : Value} (d : decode cc pc = .ok (.pop, 1)) (ha : a.category = 1) (k : Γ u z (pc + 1) lv st ws) : Γ u z pc lv (a :: st) ws := by
  obtain ⟨p, e, s, m, args, below, meth, c, A, Q, ⟨hx, hb, hml, ho, hts, hK, hA, hN, hO⟩, rfl, hin, hr⟩ := h
  intro H locs ls hl hP hD hS
  exact lv_pop hx hb d ha (k H locs ls hl hP hD hS)
theorem g_dup2_11 {Γ : gT} {l : Launch} {R : Room} {cc : ByteArray} {nL : Nat} {own : String} {E : gE} {ret : Option FieldType} {init : Bool} {post : Option Value → Nat → Nat → va_W → Prop} {u z pc : Nat} {lv : gLV} {st : List Value} {ws : va_W} (h : IsG Γ l R cc nL own E ret init post) {a b : Value} (d : decode cc pc = .ok (.dup2, 1)) (ha : a.category = 1) (hb2 : b.category = 1) (k : Γ u z (pc + 1) lv (a :: b :: a :: b :: st) ws) : Γ u z pc lv (a :: b :: st) ws := by
  obtain ⟨p, e, s, m, args, below, meth, c, A, Q, ⟨hx, hb, hml, ho, hts, hK, hA, hN, hO⟩, rfl, hin, hr⟩ := h
  intro H locs ls hl hP hD hS
  exact lv_dup2_11 hx hb d ha hb2 (k H locs ls hl hP hD hS)
theorem g_dup2_2 {Γ : gT} {l : Launch} {R : Room} {cc : ByteArray} {nL : Nat} {own : String} {E : gE} {ret : Option FieldType} {init : Bool} {post : Option Value → Nat → Nat → va_W → Prop} {u z pc : Nat} {lv : gLV} {st : List Value} {ws : va_W} (h : IsG Γ l R cc nL own E ret init post) {a : Value} (d : decode cc pc = .ok (.dup2, 1)) (ha : a.category = 2) (k : Γ u z (pc + 1) lv (a :: a :: st) ws) : Γ u z pc lv (a :: st) ws := by
  obtain ⟨p, e, s, m, args, below, meth, c, A, Q, ⟨hx, hb, hml, ho, hts, hK, hA, hN, hO⟩, rfl, hin, hr⟩ := h
  intro H locs ls hl hP hD hS
  exact lv_dup2_2 hx hb d ha (k H locs ls hl hP hD hS)
theorem g_if_eq {Γ : gT} {l : Launch} {R : Room} {cc : ByteArray} {nL : Nat} {own : String} {E : gE} {ret : Option FieldType} {init : Bool} {post : Option Value → Nat → Nat → va_W → Prop} {u z pc : Nat} {lv : gLV} {st : List Value} {ws : va_W} (h : IsG Γ l R cc nL own E ret init post) {x : Int32} {off : Int} {tgt : Nat} (d : decode cc pc = .ok (.ifCond .eq off, 3)) (ht : (pc : Int) + off = (tgt : Int)) (kt : x = 0 → Γ u z tgt lv st ws) (kf : ¬ x = 0 → Γ u z (pc + 3) lv st ws) : Γ u z pc lv (.int x :: st) ws := by
  obtain ⟨p, e, s, m, args, below, meth, c, A, Q, ⟨hx, hb, hml, ho, hts, hK, hA, hN, hO⟩, rfl, hin, hr⟩ := h
  intro H locs ls hl hP hD hS
  exact lv_if_eq hx hb d ht (fun q => kt q H locs ls hl hP hD hS) (fun q => kf q H locs ls hl hP hD hS)
theorem g_ic_eq {Γ : gT} {l : Launch} {R : Room} {cc : ByteArray} {nL : Nat} {own : String} {E : gE} {ret : Option FieldType} {init : Bool} {post : Option Value → Nat → Nat → va_W → Prop} {u z pc : Nat} {lv : gLV} {st : List Value} {ws : va_W} (h : IsG Γ l R cc nL own E ret init post) {x y : Int32} {off : Int} {tgt : Nat} (d : decode cc pc = .ok (.if_icmp .eq off, 3)) (ht : (pc : Int) + off = (tgt : Int)) (kt : x = y → Γ u z tgt lv st ws) (kf : ¬ x = y → Γ u z (pc + 3) lv st ws) : Γ u z pc lv (.int y :: .int x :: st) ws := by
  obtain ⟨p, e, s, m, args, below, meth, c, A, Q, ⟨hx, hb, hml, ho, hts, hK, hA, hN, hO⟩, rfl, hin, hr⟩ := h
  intro H locs ls hl hP hD hS
  exact lv_icmp_eq hx hb d ht (fun q => kt q H locs ls hl hP hD hS) (fun q => kf q H locs ls hl hP hD hS)
theorem g_lif_eq {Γ : gT} {l : Launch} {R : Room} {cc : ByteArray} {nL : Nat} {own : String} {E : gE} {ret : Option FieldType} {init : Bool} {post : Option Value → Nat → Nat → va_W → Prop} {u z pc : Nat} {lv : gLV} {st : List Value} {ws : va_W} (h : IsG Γ l R cc nL own E ret init post) {x y : Int64} {off : Int} {tgt : Nat} (d : decode cc pc = .ok (.ifCond .eq off, 3)) (ht : (pc : Int) + off = (tgt : Int)) (kt : x = y → Γ u z tgt lv st ws) (kf : ¬ x = y → Γ u z (pc + 3) lv st ws) : Γ u z pc lv (.int (lg_cmp x y) :: st) ws := by
  obtain ⟨p, e, s, m, args, below, meth, c, A, Q, ⟨hx, hb, hml, ho, hts, hK, hA, hN, hO⟩, rfl, hin, hr⟩ := h
  intro H locs ls hl hP hD hS
  exact lv_if_eq hx hb d ht (fun q => kt ((lg_cmp_eq x y).mp q) H locs ls hl hP hD hS) (fun q => kf (fun w => q ((lg_cmp_eq x y).mpr w)) H locs ls hl hP hD hS)
theorem g_if_ne {Γ : gT} {l : Launch} {R : Room} {cc : ByteArray} {nL : Nat} {own : String} {E : gE} {ret : Option FieldType} {init : Bool} {post : Option Value → Nat → Nat → va_W → Prop} {u z pc : Nat} {lv : gLV} {st : List Value} {ws : va_W} (h : IsG Γ l R cc nL own E ret init post) {x : Int32} {off : Int} {tgt : Nat} (d : decode cc pc = .ok (.ifCond .ne off, 3)) (ht : (pc : Int) + off = (tgt : Int)) (kt : ¬ x = 0 → Γ u z tgt lv st ws) (kf : x = 0 → Γ u z (pc + 3) lv st ws) : Γ u z pc lv (.int x :: st) ws := by
  obtain ⟨p, e, s, m, args, below, meth, c, A, Q, ⟨hx, hb, hml, ho, hts, hK, hA, hN, hO⟩, rfl, hin, hr⟩ := h
  intro H locs ls hl hP hD hS
  exact lv_if_ne hx hb d ht (fun q => kt q H locs ls hl hP hD hS) (fun q => kf q H locs ls hl hP hD hS)
theorem g_ic_ne {Γ : gT} {l : Launch} {R : Room} {cc : ByteArray} {nL : Nat} {own : String} {E : gE} {ret : Option FieldType} {init : Bool} {post : Option Value → Nat → Nat → va_W → Prop} {u z pc : Nat} {lv : gLV} {st : List Value} {ws : va_W} (h : IsG Γ l R cc nL own E ret init post) {x y : Int32} {off : Int} {tgt : Nat} (d : decode cc pc = .ok (.if_icmp .ne off, 3)) (ht : (pc : Int) + off = (tgt : Int)) (kt : ¬ x = y → Γ u z tgt lv st ws) (kf : x = y → Γ u z (pc + 3) lv st ws) : Γ u z pc lv (.int y :: .int x :: st) ws := by
  obtain ⟨p, e, s, m, args, below, meth, c, A, Q, ⟨hx, hb, hml, ho, hts, hK, hA, hN, hO⟩, rfl, hin, hr⟩ := h
  intro H locs ls hl hP hD hS
  exact lv_icmp_ne hx hb d ht (fun q => kt q H locs ls hl hP hD hS) (fun q => kf q H locs ls hl hP hD hS)
theorem g_lif_ne {Γ : gT} {l : Launch} {R : Room} {cc : ByteArray} {nL : Nat} {own : String} {E : gE} {ret : Option FieldType} {init : Bool} {post : Option Value → Nat → Nat → va_W → Prop} {u z pc : Nat} {lv : gLV} {st : List Value} {ws : va_W} (h : IsG Γ l R cc nL own E ret init post) {x y : Int64} {off : Int} {tgt : Nat} (d : decode cc pc = .ok (.ifCond .ne off, 3)) (ht : (pc : Int) + off = (tgt : Int)) (kt : ¬ x = y → Γ u z tgt lv st ws) (kf : x = y → Γ u z (pc + 3) lv st ws) : Γ u z pc lv (.int (lg_cmp x y) :: st) ws := by
  obtain ⟨p, e, s, m, args, below, meth, c, A, Q, ⟨hx, hb, hml, ho, hts, hK, hA, hN, hO⟩, rfl, hin, hr⟩ := h
  intro H locs ls hl hP hD hS
  exact lv_if_ne hx hb d ht (fun q => kt (fun w => q ((lg_cmp_eq x y).mpr w)) H locs ls hl hP hD hS) (fun q => kf ((lg_cmp_eq x y).mp q) H locs ls hl hP hD hS)
theorem g_if_lt {Γ : gT} {l : Launch} {R : Room} {cc : ByteArray} {nL : Nat} {own : String} {E : gE} {ret : Option FieldType} {init : Bool} {post : Option Value → Nat → Nat → va_W → Prop} {u z pc : Nat} {lv : gLV} {st : List Value} {ws : va_W} (h : IsG Γ l R cc nL own E ret init post) {x : Int32} {off : Int} {tgt : Nat} (d : decode cc pc = .ok (.ifCond .lt off, 3)) (ht : (pc : Int) + off = (tgt : Int)) (kt : x < 0 → Γ u z tgt lv st ws) (kf : ¬ x < 0 → Γ u z (pc + 3) lv st ws) : Γ u z pc lv (.int x :: st) ws := by
  obtain ⟨p, e, s, m, args, below, meth, c, A, Q, ⟨hx, hb, hml, ho, hts, hK, hA, hN, hO⟩, rfl, hin, hr⟩ := h
  intro H locs ls hl hP hD hS
  exact lv_if_lt hx hb d ht (fun q => kt q H locs ls hl hP hD hS) (fun q => kf q H locs ls hl hP hD hS)
theorem g_ic_lt {Γ : gT} {l : Launch} {R : Room} {cc : ByteArray} {nL : Nat} {own : String} {E : gE} {ret : Option FieldType} {init : Bool} {post : Option Value → Nat → Nat → va_W → Prop} {u z pc : Nat} {lv : gLV} {st : List Value} {ws : va_W} (h : IsG Γ l R cc nL own E ret init post) {x y : Int32} {off : Int} {tgt : Nat} (d : decode cc pc = .ok (.if_icmp .lt off, 3)) (ht : (pc : Int) + off = (tgt : Int)) (kt : x < y → Γ u z tgt lv st ws) (kf : ¬ x < y → Γ u z (pc + 3) lv st ws) : Γ u z pc lv (.int y :: .int x :: st) ws := by
  obtain ⟨p, e, s, m, args, below, meth, c, A, Q, ⟨hx, hb, hml, ho, hts, hK, hA, hN, hO⟩, rfl, hin, hr⟩ := h
  intro H locs ls hl hP hD hS
  exact lv_icmp_lt hx hb d ht (fun q => kt q H locs ls hl hP hD hS) (fun q => kf q H locs ls hl hP hD hS)
theorem g_lif_lt {Γ : gT} {l : Launch} {R : Room} {cc : ByteArray} {nL : Nat} {own : String} {E : gE} {ret : Option FieldType} {init : Bool} {post : Option Value → Nat → Nat → va_W → Prop} {u z pc : Nat} {lv : gLV} {st : List Value} {ws : va_W} (h : IsG Γ l R cc nL own E ret init post) {x y : Int64} {off : Int} {tgt : Nat} (d : decode cc pc = .ok (.ifCond .lt off, 3)) (ht : (pc : Int) + off = (tgt : Int)) (kt : x < y → Γ u z tgt lv st ws) (kf : ¬ x < y → Γ u z (pc + 3) lv st ws) : Γ u z pc lv (.int (lg_cmp x y) :: st) ws := by
  obtain ⟨p, e, s, m, args, below, meth, c, A, Q, ⟨hx, hb, hml, ho, hts, hK, hA, hN, hO⟩, rfl, hin, hr⟩ := h
  intro H locs ls hl hP hD hS
  exact lv_if_lt hx hb d ht (fun q => kt ((lg_cmp_lt x y).mp q) H locs ls hl hP hD hS) (fun q => kf (fun w => q ((lg_cmp_lt x y).mpr w)) H locs ls hl hP hD hS)
theorem g_if_ge {Γ : gT} {l : Launch} {R : Room} {cc : ByteArray} {nL : Nat} {own : String} {E : gE} {ret : Option FieldType} {init : Bool} {post : Option Value → Nat → Nat → va_W → Prop} {u z pc : Nat} {lv : gLV} {st : List Value} {ws : va_W} (h : IsG Γ l R cc nL own E ret init post) {x : Int32} {off : Int} {tgt : Nat} (d : decode cc pc = .ok (.ifCond .ge off, 3)) (ht : (pc : Int) + off = (tgt : Int)) (kt : 0 ≤ x → Γ u z tgt lv st ws) (kf : ¬ 0 ≤ x → Γ u z (pc + 3) lv st ws) : Γ u z pc lv (.int x :: st) ws := by
  obtain ⟨p, e, s, m, args, below, meth, c, A, Q, ⟨hx, hb, hml, ho, hts, hK, hA, hN, hO⟩, rfl, hin, hr⟩ := h
  intro H locs ls hl hP hD hS
  exact lv_if_ge hx hb d ht (fun q => kt q H locs ls hl hP hD hS) (fun q => kf q H locs ls hl hP hD hS)
theorem g_ic_ge {Γ : gT} {l : Launch} {R : Room} {cc : ByteArray} {nL : Nat} {own : String} {E : gE} {ret : Option FieldType} {init : Bool} {post : Option Value → Nat → Nat → va_W → Prop} {u z pc : Nat} {lv : gLV} {st : List Value} {ws : va_W} (h : IsG Γ l R cc nL own E ret init post) {x y : Int32} {off : Int} {tgt : Nat} (d : decode cc pc = .ok (.if_icmp .ge off, 3)) (ht : (pc : Int) + off = (tgt : Int)) (kt : y ≤ x → Γ u z tgt lv st ws) (kf : ¬ y ≤ x → Γ u z (pc + 3) lv st ws) : Γ u z pc lv (.int y :: .int x :: st) ws := by
  obtain ⟨p, e, s, m, args, below, meth, c, A, Q, ⟨hx, hb, hml, ho, hts, hK, hA, hN, hO⟩, rfl, hin, hr⟩ := h
  intro H locs ls hl hP hD hS
  exact lv_icmp_ge hx hb d ht (fun q => kt q H locs ls hl hP hD hS) (fun q => kf q H locs ls hl hP hD hS)
theorem g_lif_ge {Γ : gT} {l : Launch} {R : Room} {cc : ByteArray} {nL : Nat} {own : String} {E : gE} {ret : Option FieldType} {init : Bool} {post : Option Value → Nat → Nat → va_W → Prop} {u z pc : Nat} {lv : gLV} {st : List Value} {ws : va_W} (h : IsG Γ l R cc nL own E ret init post) {x y : Int64} {off : Int} {tgt : Nat} (d : decode cc pc = .ok (.ifCond .ge off, 3)) (ht : (pc : Int) + off = (tgt : Int)) (kt : y ≤ x → Γ u z tgt lv st ws) (kf : ¬ y ≤ x → Γ u z (pc + 3) lv st ws) : Γ u z pc lv (.int (lg_cmp x y) :: st) ws := by
  obtain ⟨p, e, s, m, args, below, meth, c, A, Q, ⟨hx, hb, hml, ho, hts, hK, hA, hN, hO⟩, rfl, hin, hr⟩ := h
  intro H locs ls hl hP hD hS
  exact lv_if_ge hx hb d ht (fun q => kt ((lg_cmp_ge x y).mp q) H locs ls hl hP hD hS) (fun q => kf (fun w => q ((lg_cmp_ge x y).mpr w)) H locs ls hl hP hD hS)
theorem g_if_gt {Γ : gT} {l : Launch} {R : Room} {cc : ByteArray} {nL : Nat} {own : String} {E : gE} {ret : Option FieldType} {init : Bool} {post : Option Value → Nat → Nat → va_W → Prop} {u z pc : Nat} {lv : gLV} {st : List Value} {ws : va_W} (h : IsG Γ l R cc nL own E ret init post) {x : Int32} {off : Int} {tgt : Nat} (d : decode cc pc = .ok (.ifCond .gt off, 3)) (ht : (pc : Int) + off = (tgt : Int)) (kt : 0 < x → Γ u z tgt lv st ws) (kf : ¬ 0 < x → Γ u z (pc + 3) lv st ws) : Γ u z pc lv (.int x :: st) ws := by
  obtain ⟨p, e, s, m, args, below, meth, c, A, Q, ⟨hx, hb, hml, ho, hts, hK, hA, hN, hO⟩, rfl, hin, hr⟩ := h
  intro H locs ls hl hP hD hS
  exact lv_if_gt hx hb d ht (fun q => kt q H locs ls hl hP hD hS) (fun q => kf q H locs ls hl hP hD hS)
theorem g_ic_gt {Γ : gT} {l : Launch} {R : Room} {cc : ByteArray} {nL : Nat} {own : String} {E : gE} {ret : Option FieldType} {init : Bool} {post : Option Value → Nat → Nat → va_W → Prop} {u z pc : Nat} {lv : gLV} {st : List Value} {ws : va_W} (h : IsG Γ l R cc nL own E ret init post) {x y : Int32} {off : Int} {tgt : Nat} (d : decode cc pc = .ok (.if_icmp .gt off, 3)) (ht : (pc : Int) + off = (tgt : Int)) (kt : y < x → Γ u z tgt lv st ws) (kf : ¬ y < x → Γ u z (pc + 3) lv st ws) : Γ u z pc lv (.int y :: .int x :: st) ws := by
  obtain ⟨p, e, s, m, args, below, meth, c, A, Q, ⟨hx, hb, hml, ho, hts, hK, hA, hN, hO⟩, rfl, hin, hr⟩ := h
  intro H locs ls hl hP hD hS
  exact lv_icmp_gt hx hb d ht (fun q => kt q H locs ls hl hP hD hS) (fun q => kf q H locs ls hl hP hD hS)
theorem g_lif_gt {Γ : gT} {l : Launch} {R : Room} {cc : ByteArray} {nL : Nat} {own : String} {E : gE} {ret : Option FieldType} {init : Bool} {post : Option Value → Nat → Nat → va_W → Prop} {u z pc : Nat} {lv : gLV} {st : List Value} {ws : va_W} (h : IsG Γ l R cc nL own E ret init post) {x y : Int64} {off : Int} {tgt : Nat} (d : decode cc pc = .ok (.ifCond .gt off, 3)) (ht : (pc : Int) + off = (tgt : Int)) (kt : y < x → Γ u z tgt lv st ws) (kf : ¬ y < x → Γ u z (pc + 3) lv st ws) : Γ u z pc lv (.int (lg_cmp x y) :: st) ws := by
  obtain ⟨p, e, s, m, args, below, meth, c, A, Q, ⟨hx, hb, hml, ho, hts, hK, hA, hN, hO⟩, rfl, hin, hr⟩ := h
  intro H locs ls hl hP hD hS
  exact lv_if_gt hx hb d ht (fun q => kt ((lg_cmp_gt x y).mp q) H locs ls hl hP hD hS) (fun q => kf (fun w => q ((lg_cmp_gt x y).mpr w)) H locs ls hl hP hD hS)
theorem g_if_le {Γ : gT} {l : Launch} {R : Room} {cc : ByteArray} {nL : Nat} {own : String} {E : gE} {ret : Option FieldType} {init : Bool} {post : Option Value → Nat → Nat → va_W → Prop} {u z pc : Nat} {lv : gLV} {st : List Value} {ws : va_W} (h : IsG Γ l R cc nL own E ret init post) {x : Int32} {off : Int} {tgt : Nat} (d : decode cc pc = .ok (.ifCond .le off, 3)) (ht : (pc : Int) + off = (tgt : Int)) (kt : x ≤ 0 → Γ u z tgt lv st ws) (kf : ¬ x ≤ 0 → Γ u z (pc + 3) lv st ws) : Γ u z pc lv (.int x :: st) ws := by
  obtain ⟨p, e, s, m, args, below, meth, c, A, Q, ⟨hx, hb, hml, ho, hts, hK, hA, hN, hO⟩, rfl, hin, hr⟩ := h
  intro H locs ls hl hP hD hS
  exact lv_if_le hx hb d ht (fun q => kt q H locs ls hl hP hD hS) (fun q => kf q H locs ls hl hP hD hS)
theorem g_ic_le {Γ : gT} {l : Launch} {R : Room} {cc : ByteArray} {nL : Nat} {own : String} {E : gE} {ret : Option FieldType} {init : Bool} {post : Option Value → Nat → Nat → va_W → Prop} {u z pc : Nat} {lv : gLV} {st : List Value} {ws : va_W} (h : IsG Γ l R cc nL own E ret init post) {x y : Int32} {off : Int} {tgt : Nat} (d : decode cc pc = .ok (.if_icmp .le off, 3)) (ht : (pc : Int) + off = (tgt : Int)) (kt : x ≤ y → Γ u z tgt lv st ws) (kf : ¬ x ≤ y → Γ u z (pc + 3) lv st ws) : Γ u z pc lv (.int y :: .int x :: st) ws := by
  obtain ⟨p, e, s, m, args, below, meth, c, A, Q, ⟨hx, hb, hml, ho, hts, hK, hA, hN, hO⟩, rfl, hin, hr⟩ := h
  intro H locs ls hl hP hD hS
  exact lv_icmp_le hx hb d ht (fun q => kt q H locs ls hl hP hD hS) (fun q => kf q H locs ls hl hP hD hS)
theorem g_lif_le {Γ : gT} {l : Launch} {R : Room} {cc : ByteArray} {nL : Nat} {own : String} {E : gE} {ret : Option FieldType} {init : Bool} {post : Option Value → Nat → Nat → va_W → Prop} {u z pc : Nat} {lv : gLV} {st : List Value} {ws : va_W} (h : IsG Γ l R cc nL own E ret init post) {x y : Int64} {off : Int} {tgt : Nat} (d : decode cc pc = .ok (.ifCond .le off, 3)) (ht : (pc : Int) + off = (tgt : Int)) (kt : x ≤ y → Γ u z tgt lv st ws) (kf : ¬ x ≤ y → Γ u z (pc + 3) lv st ws) : Γ u z pc lv (.int (lg_cmp x y) :: st) ws := by
  obtain ⟨p, e, s, m, args, below, meth, c, A, Q, ⟨hx, hb, hml, ho, hts, hK, hA, hN, hO⟩, rfl, hin, hr⟩ := h
  intro H locs ls hl hP hD hS
  exact lv_if_le hx hb d ht (fun q => kt ((lg_cmp_le x y).mp q) H locs ls hl hP hD hS) (fun q => kf (fun w => q ((lg_cmp_le x y).mpr w)) H locs ls hl hP hD hS)
theorem g_goto {Γ : gT} {l : Launch} {R : Room} {cc : ByteArray} {nL : Nat} {own : String} {E : gE} {ret : Option FieldType} {init : Bool} {post : Option Value → Nat → Nat → va_W → Prop} {u z pc : Nat} {lv : gLV} {st : List Value} {ws : va_W} (h : IsG Γ l R cc nL own E ret init post) {off : Int} {tgt : Nat} (d : decode cc pc = .ok (.goto off, 3)) (ht : (pc : Int) + off = (tgt : Int)) (k : Γ u z tgt lv st ws) : Γ u z pc lv st ws := by
  obtain ⟨p, e, s, m, args, below, meth, c, A, Q, ⟨hx, hb, hml, ho, hts, hK, hA, hN, hO⟩, rfl, hin, hr⟩ := h
  intro H locs ls hl hP hD hS
  exact lv_goto hx hb d ht (k H locs ls hl hP hD hS)
theorem g_tsIn {Γ : gT} {l : Launch} {R : Room} {cc : ByteArray} {nL : Nat} {own : String} {E : gE} {ret : Option FieldType} {init : Bool} {post : Option Value → Nat → Nat → va_W → Prop} {u z pc : Nat} {lv : gLV} {st : List Value} {ws : va_W} (h : IsG Γ l R cc nL own E ret init post) {dflt lo hi : Int} {offs : Array Int} {len : Nat} {x : Int32} {off : Int} {tgt : Nat} (n : Int) (hn : x.toInt = n) (d : decode cc pc = .ok (.tableswitch dflt lo hi offs, len)) (h1 : ¬ n < lo) (h2 : ¬ hi < n) (ho : offs[(n - lo).toNat]? = some off) (ht : (pc : Int) + off = (tgt : Int)) (k : Γ u z tgt lv st ws) : Γ u z pc lv (.int x :: st) ws := by
  obtain ⟨p, e, s, m, args, below, meth, c, A, Q, ⟨hx, hb, hml, ho, hts, hK, hA, hN, hO⟩, rfl, hin, hr⟩ := h
  intro H locs ls hl hP hD hS
  subst hn
  exact lv_tableIn hx hb d h1 h2 ho ht (k H locs ls hl hP hD hS)
theorem g_tsOut {Γ : gT} {l : Launch} {R : Room} {cc : ByteArray} {nL : Nat} {own : String} {E : gE} {ret : Option FieldType} {init : Bool} {post : Option Value → Nat → Nat → va_W → Prop} {u z pc : Nat} {lv : gLV} {st : List Value} {ws : va_W} (h : IsG Γ l R cc nL own E ret init post) {dflt lo hi : Int} {offs : Array Int} {len : Nat} {x : Int32} {tgt : Nat} (d : decode cc pc = .ok (.tableswitch dflt lo hi offs, len)) (hq : x.toInt < lo ∨ hi < x.toInt) (ht : (pc : Int) + dflt = (tgt : Int)) (k : Γ u z tgt lv st ws) : Γ u z pc lv (.int x :: st) ws := by
  obtain ⟨p, e, s, m, args, below, meth, c, A, Q, ⟨hx, hb, hml, ho, hts, hK, hA, hN, hO⟩, rfl, hin, hr⟩ := h
  intro H locs ls hl hP hD hS
  exact lv_tableOut hx hb d hq ht (k H locs ls hl hP hD hS)
theorem g_ireturn {Γ : gT} {l : Launch} {R : Room} {cc : ByteArray} {nL : Nat} {own : String} {E : gE} {ret : Option FieldType} {init : Bool} {post : Option Value → Nat → Nat → va_W → Prop} {u z pc : Nat} {lv : gLV} {ws : va_W} (h : IsG Γ l R cc nL own E ret init post) {x : Int32} {ty : FieldType} (d : decode cc pc = .ok (.ireturn, 1)) (ht : ret = some ty) (hn : narrow ty (.int x) = .int x) (hp : post (some (.int x)) u z ws) : Γ u z pc lv [.int x] ws := by
  obtain ⟨p, e, s, m, args, below, meth, c, A, Q, ⟨hx, hb, hml, ho, hts, hK, hA, hN, hO⟩, rfl, hin, hr⟩ := h
  intro H locs ls hl hP hD hS
  exact hr _ u z ws hp pc lv (Or.inl ⟨x, ty, rfl, d, ht, hn⟩) H locs ls hl hP hD hS
theorem g_lreturn {Γ : gT} {l : Launch} {R : Room} {cc : ByteArray} {nL : Nat} {own : String} {E : gE} {ret : Option FieldType} {init : Bool} {post : Option Value → Nat → Nat → va_W → Prop} {u z pc : Nat} {lv : gLV} {ws : va_W} (h : IsG Γ l R cc nL own E ret init post) {x : Int64} (d : decode cc pc = .ok (.lreturn, 1)) (ht : ret = some .long) (hp : post (some (.long x)) u z ws) : Γ u z pc lv [.long x] ws := by
  obtain ⟨p, e, s, m, args, below, meth, c, A, Q, ⟨hx, hb, hml, ho, hts, hK, hA, hN, hO⟩, rfl, hin, hr⟩ := h
  intro H locs ls hl hP hD hS
  exact hr _ u z ws hp pc lv (Or.inr (Or.inl ⟨x, rfl, d, ht⟩)) H locs ls hl hP hD hS
theorem g_return {Γ : gT} {l : Launch} {R : Room} {cc : ByteArray} {nL : Nat} {own : String} {E : gE} {ret : Option FieldType} {init : Bool} {post : Option Value → Nat → Nat → va_W → Prop} {u z pc : Nat} {lv : gLV} {ws : va_W} (h : IsG Γ l R cc nL own E ret init post) (d : decode cc pc = .ok (.return_, 1)) (ht : ret = none) (hp : post none u z ws) : Γ u z pc lv [] ws := by
  obtain ⟨p, e, s, m, args, below, meth, c, A, Q, ⟨hx, hb, hml, ho, hts, hK, hA, hN, hO⟩, rfl, hin, hr⟩ := h
  intro H locs ls hl hP hD hS
  exact hr _ u z ws hp pc lv (Or.inr (Or.inr ⟨rfl, d, ht⟩)) H locs ls hl hP hD hS
theorem g_get {Γ : gT} {l : Launch} {R : Room} {cc : ByteArray} {nL : Nat} {own : String} {E : gE} {ret : Option FieldType} {init : Bool} {post : Option Value → Nat → Nat → va_W → Prop} {u z pc : Nat} {lv : gLV} {st : List Value} {ws : va_W} (h : IsG Γ l R cc nL own E ret init post) {index ci k0 N a : Nat} {C : String} {T : u_T} {fs : List Value} {v : Value} (hf : gFL own index ci k0 C T N) (d : decode cc pc = .ok (.getfield index, 3)) (q0 : Nat) (he : ws[q0]? = some (a, .inr (ci, fs))) (hv : fs[k0]? = some v) (k : Γ u z (pc + 3) lv (v :: st) ws) : Γ u z pc lv (.ref a :: st) ws := by
  obtain ⟨p, e, s, m, args, below, meth, c, A, Q, ⟨hx, hb, hml, ho, hts, hK, hA, hN, hO⟩, rfl, hin, hr⟩ := h
  intro H locs ls hl hP hD hS
  exact va_get hx hb hts hf.2.2.1 ho hK hP q0 he hf.1 k0 hf.2.1 (hts _ hf.2.2.2) (fun _ h9 => h9) hv d (k H locs ls hl hP hD hS)
theorem g_put {Γ : gT} {l : Launch} {R : Room} {cc : ByteArray} {nL : Nat} {own : String} {E : gE} {ret : Option FieldType} {init : Bool} {post : Option Value → Nat → Nat → va_W → Prop} {u z pc : Nat} {lv : gLV} {st : List Value} {ws : va_W} (h : IsG Γ l R cc nL own E ret init post) {ws' : va_W} {index ci k0 N a : Nat} {C : String} {T : u_T} {fs : List Value} {v : Value} {ty : FieldType} (hf : gFL own index ci k0 C T N) (hT : gFT C T N) (hfin : (T k0).2.2.2 = false) (hd : parseFieldDescriptor (T k0).2.2.1 = some ty) (d : decode cc pc = .ok (.putfield index, 3)) (q0 : Nat) (he : ws[q0]? = some (a, .inr (ci, fs))) (hn : narrow ty v = v) (hfit : fits ty v = true) (hl0 : k0 < fs.length) (hw' : ws.set q0 (a, .inr (ci, fs.set k0 v)) = ws') (k : Γ u z (pc + 3) lv st ws') : Γ u z pc lv (v :: .ref a :: st) ws := by
  obtain ⟨p, e, s, m, args, below, meth, c, A, Q, ⟨hx, hb, hml, ho, hts, hK, hA, hN, hO⟩, rfl, hin, hr⟩ := h
  intro H locs ls hl hP hD hS
  subst hw'
  obtain ⟨ty0, hty, hnm⟩ := hT
  exact va_put hx hb hts hf.2.2.1 ty0 hty hnm ho hK hP hD hS q0 he hf.1 k0 hf.2.1 (hts _ hf.2.2.2) (fun _ h9 => h9) hfin hd hn hfit hl0 d (fun H1 locs1 hP hD hS => k H1 locs1 ls hl hP hD hS)
theorem g_putF {Γ : gT} {l : Launch} {R : Room} {cc : ByteArray} {nL : Nat} {own : String} {E : gE} {ret : Option FieldType} {init : Bool} {post : Option Value → Nat → Nat → va_W → Prop} {u z pc : Nat} {lv : gLV} {st : List Value} {ws : va_W} (h : IsG Γ l R cc nL own E ret init post) {ws' : va_W} {index ci k0 N a : Nat} {C : String} {T : u_T} {fs : List Value} {v : Value} {ty : FieldType} (hi : init = true) (hf : gFL own index ci k0 C T N) (hT : gFT C T N) (hfin : (T k0).2.2.2 = true) (hdecl : (T k0).1 = own) (hd : parseFieldDescriptor (T k0).2.2.1 = some ty) (d : decode cc pc = .ok (.putfield index, 3)) (q0 : Nat) (he : ws[q0]? = some (a, .inr (ci, fs))) (hn : narrow ty v = v) (hfit : fits ty v = true) (hl0 : k0 < fs.length) (hw' : ws.set q0 (a, .inr (ci, fs.set k0 v)) = ws') (k : Γ u z (pc + 3) lv st ws') : Γ u z pc lv (v :: .ref a :: st) ws := by
  obtain ⟨p, e, s, m, args, below, meth, c, A, Q, ⟨hx, hb, hml, ho, hts, hK, hA, hN, hO⟩, rfl, hin, hr⟩ := h
  intro H locs ls hl hP hD hS
  subst hw'
  obtain ⟨ty0, hty, hnm⟩ := hT
  exact va_putF hx hb hts hf.2.2.1 ty0 hty hnm ho hK hP hD hS q0 he hf.1 k0 hf.2.1 (hts _ hf.2.2.2) (fun _ h9 => h9) hfin (hin hi) hdecl hd hn hfit hl0 d (fun H1 locs1 hP hD hS => k H1 locs1 ls hl hP hD hS)
theorem g_iald {Γ : gT} {l : Launch} {R : Room} {cc : ByteArray} {nL : Nat} {own : String} {E : gE} {ret : Option FieldType} {init : Bool} {post : Option Value → Nat → Nat → va_W → Prop} {u z pc : Nat} {lv : gLV} {st : List Value} {ws : va_W} (h : IsG Γ l R cc nL own E ret init post) {a n : Nat} {f : Nat → Int32} {i : Int32} (d : decode cc pc = .ok (.iaload, 1)) (q0 k0 : Nat) (he : ws[q0]? = some (a, .inl (E.2 0, n, .inl f))) (hi : i = nI k0) (hlt : k0 < n) (hn : n < 2 ^ 31) (k : Γ u z (pc + 1) lv (.int (f k0) :: st) ws) : Γ u z pc lv (.int i :: .ref a :: st) ws := by
  obtain ⟨p, e, s, m, args, below, meth, c, A, Q, ⟨hx, hb, hml, ho, hts, hK, hA, hN, hO⟩, rfl, hin, hr⟩ := h
  intro H locs ls hl hP hD hS
  subst hi
  refine va_iald hx hb hK hP q0 0 he rfl (vp_in_nI hlt hn) d ?_
  rw [nI_clamp (Nat.lt_trans hlt hn)]
  exact k H locs ls hl hP hD hS
theorem g_sald {Γ : gT} {l : Launch} {R : Room} {cc : ByteArray} {nL : Nat} {own : String} {E : gE} {ret : Option FieldType} {init : Bool} {post : Option Value → Nat → Nat → va_W → Prop} {u z pc : Nat} {lv : gLV} {st : List Value} {ws : va_W} (h : IsG Γ l R cc nL own E ret init post) {a n : Nat} {f : Nat → Int32} {i : Int32} (d : decode cc pc = .ok (.saload, 1)) (q0 k0 : Nat) (he : ws[q0]? = some (a, .inl (E.2 2, n, .inl f))) (hi : i = nI k0) (hlt : k0 < n) (hn : n < 2 ^ 31) (k : Γ u z (pc + 1) lv (.int (f k0) :: st) ws) : Γ u z pc lv (.int i :: .ref a :: st) ws := by
  obtain ⟨p, e, s, m, args, below, meth, c, A, Q, ⟨hx, hb, hml, ho, hts, hK, hA, hN, hO⟩, rfl, hin, hr⟩ := h
  intro H locs ls hl hP hD hS
  subst hi
  refine va_sald hx hb hK hP q0 2 he rfl (vp_in_nI hlt hn) d ?_
  rw [nI_clamp (Nat.lt_trans hlt hn)]
  exact k H locs ls hl hP hD hS
theorem g_zald {Γ : gT} {l : Launch} {R : Room} {cc : ByteArray} {nL : Nat} {own : String} {E : gE} {ret : Option FieldType} {init : Bool} {post : Option Value → Nat → Nat → va_W → Prop} {u z pc : Nat} {lv : gLV} {st : List Value} {ws : va_W} (h : IsG Γ l R cc nL own E ret init post) {a n : Nat} {f : Nat → Int32} {i : Int32} (d : decode cc pc = .ok (.baload, 1)) (q0 k0 : Nat) (he : ws[q0]? = some (a, .inl (E.2 3, n, .inl f))) (hi : i = nI k0) (hlt : k0 < n) (hn : n < 2 ^ 31) (k : Γ u z (pc + 1) lv (.int (f k0) :: st) ws) : Γ u z pc lv (.int i :: .ref a :: st) ws := by
  obtain ⟨p, e, s, m, args, below, meth, c, A, Q, ⟨hx, hb, hml, ho, hts, hK, hA, hN, hO⟩, rfl, hin, hr⟩ := h
  intro H locs ls hl hP hD hS
  subst hi
  refine va_zald hx hb hK hP q0 3 he rfl (vp_in_nI hlt hn) d ?_
  rw [nI_clamp (Nat.lt_trans hlt hn)]
  exact k H locs ls hl hP hD hS
theorem g_lald {Γ : gT} {l : Launch} {R : Room} {cc : ByteArray} {nL : Nat} {own : String} {E : gE} {ret : Option FieldType} {init : Bool} {post : Option Value → Nat → Nat → va_W → Prop} {u z pc : Nat} {lv : gLV} {st : List Value} {ws : va_W} (h : IsG Γ l R cc nL own E ret init post) {a n : Nat} {f : Nat → Int64} {i : Int32} (d : decode cc pc = .ok (.laload, 1)) (q0 k0 : Nat) (he : ws[q0]? = some (a, .inl (E.2 1, n, .inr (.inl f)))) (hi : i = nI k0) (hlt : k0 < n) (hn : n < 2 ^ 31) (k : Γ u z (pc + 1) lv (.long (f k0) :: st) ws) : Γ u z pc lv (.int i :: .ref a :: st) ws := by
  obtain ⟨p, e, s, m, args, below, meth, c, A, Q, ⟨hx, hb, hml, ho, hts, hK, hA, hN, hO⟩, rfl, hin, hr⟩ := h
  intro H locs ls hl hP hD hS
  subst hi
  refine va_lald hx hb hK hP q0 1 he rfl (vp_in_nI hlt hn) d ?_
  rw [nI_clamp (Nat.lt_trans hlt hn)]
  exact k H locs ls hl hP hD hS
theorem g_iast {Γ : gT} {l : Launch} {R : Room} {cc : ByteArray} {nL : Nat} {own : String} {E : gE} {ret : Option FieldType} {init : Bool} {post : Option Value → Nat → Nat → va_W → Prop} {u z pc : Nat} {lv : gLV} {st : List Value} {ws : va_W} (h : IsG Γ l R cc nL own E ret init post) {ws' : va_W} {a n : Nat} {f : Nat → Int32} {i : Int32} {x : Int32} (d : decode cc pc = .ok (.iastore, 1)) (q0 k0 : Nat) (he : ws[q0]? = some (a, .inl (E.2 0, n, .inl f))) (hi : i = nI k0) (hlt : k0 < n) (hn : n < 2 ^ 31) (hw' : ws.set q0 (a, .inl (E.2 0, n, .inl (upd f k0 x))) = ws') (k : Γ u z (pc + 1) lv st ws') : Γ u z pc lv (.int x :: .int i :: .ref a :: st) ws := by
  obtain ⟨p, e, s, m, args, below, meth, c, A, Q, ⟨hx, hb, hml, ho, hts, hK, hA, hN, hO⟩, rfl, hin, hr⟩ := h
  intro H locs ls hl hP hD hS
  subst hw'; subst hi
  refine va_iast hx hb hK hP hD hS q0 0 he rfl (vp_in_nI hlt hn) d (fun H1 locs1 hP hD hS => ?_)
  rw [nI_clamp (Nat.lt_trans hlt hn)] at hP hD
  exact k H1 locs1 ls hl hP hD hS
theorem g_sast {Γ : gT} {l : Launch} {R : Room} {cc : ByteArray} {nL : Nat} {own : String} {E : gE} {ret : Option FieldType} {init : Bool} {post : Option Value → Nat → Nat → va_W → Prop} {u z pc : Nat} {lv : gLV} {st : List Value} {ws : va_W} (h : IsG Γ l R cc nL own E ret init post) {ws' : va_W} {a n : Nat} {f : Nat → Int32} {i : Int32} {x : Int32} (d : decode cc pc = .ok (.sastore, 1)) (q0 k0 : Nat) (he : ws[q0]? = some (a, .inl (E.2 2, n, .inl f))) (hi : i = nI k0) (hlt : k0 < n) (hn : n < 2 ^ 31) (hw' : ws.set q0 (a, .inl (E.2 2, n, .inl (upd f k0 (vp_nar .short x)))) = ws') (k : Γ u z (pc + 1) lv st ws') : Γ u z pc lv (.int x :: .int i :: .ref a :: st) ws := by
  obtain ⟨p, e, s, m, args, below, meth, c, A, Q, ⟨hx, hb, hml, ho, hts, hK, hA, hN, hO⟩, rfl, hin, hr⟩ := h
  intro H locs ls hl hP hD hS
  subst hw'; subst hi
  refine va_sast hx hb hK hP hD hS q0 2 he rfl (vp_in_nI hlt hn) d (fun H1 locs1 hP hD hS => ?_)
  rw [nI_clamp (Nat.lt_trans hlt hn)] at hP hD
  exact k H1 locs1 ls hl hP hD hS
theorem g_zast {Γ : gT} {l : Launch} {R : Room} {cc : ByteArray} {nL : Nat} {own : String} {E : gE} {ret : Option FieldType} {init : Bool} {post : Option Value → Nat → Nat → va_W → Prop} {u z pc : Nat} {lv : gLV} {st : List Value} {ws : va_W} (h : IsG Γ l R cc nL own E ret init post) {ws' : va_W} {a n : Nat} {f : Nat → Int32} {i : Int32} {x : Int32} (d : decode cc pc = .ok (.bastore, 1)) (q0 k0 : Nat) (he : ws[q0]? = some (a, .inl (E.2 3, n, .inl f))) (hi : i = nI k0) (hlt : k0 < n) (hn : n < 2 ^ 31) (hw' : ws.set q0 (a, .inl (E.2 3, n, .inl (upd f k0 (vp_nar .boolean x)))) = ws') (k : Γ u z (pc + 1) lv st ws') : Γ u z pc lv (.int x :: .int i :: .ref a :: st) ws := by
  obtain ⟨p, e, s, m, args, below, meth, c, A, Q, ⟨hx, hb, hml, ho, hts, hK, hA, hN, hO⟩, rfl, hin, hr⟩ := h
  intro H locs ls hl hP hD hS
  subst hw'; subst hi
  refine va_zast hx hb hK hP hD hS q0 3 he rfl (vp_in_nI hlt hn) d (fun H1 locs1 hP hD hS => ?_)
  rw [nI_clamp (Nat.lt_trans hlt hn)] at hP hD
  exact k H1 locs1 ls hl hP hD hS
theorem g_last {Γ : gT} {l : Launch} {R : Room} {cc : ByteArray} {nL : Nat} {own : String} {E : gE} {ret : Option FieldType} {init : Bool} {post : Option Value → Nat → Nat → va_W → Prop} {u z pc : Nat} {lv : gLV} {st : List Value} {ws : va_W} (h : IsG Γ l R cc nL own E ret init post) {ws' : va_W} {a n : Nat} {f : Nat → Int64} {i : Int32} {x : Int64} (d : decode cc pc = .ok (.lastore, 1)) (q0 k0 : Nat) (he : ws[q0]? = some (a, .inl (E.2 1, n, .inr (.inl f)))) (hi : i = nI k0) (hlt : k0 < n) (hn : n < 2 ^ 31) (hw' : ws.set q0 (a, .inl (E.2 1, n, .inr (.inl (vp_updL f k0 x)))) = ws') (k : Γ u z (pc + 1) lv st ws') : Γ u z pc lv (.long x :: .int i :: .ref a :: st) ws := by
  obtain ⟨p, e, s, m, args, below, meth, c, A, Q, ⟨hx, hb, hml, ho, hts, hK, hA, hN, hO⟩, rfl, hin, hr⟩ := h
  intro H locs ls hl hP hD hS
  subst hw'; subst hi
  refine va_last hx hb hK hP hD hS q0 1 he rfl (vp_in_nI hlt hn) d (fun H1 locs1 hP hD hS => ?_)
  rw [nI_clamp (Nat.lt_trans hlt hn)] at hP hD
  exact k H1 locs1 ls hl hP hD hS
theorem g_aald {Γ : gT} {l : Launch} {R : Room} {cc : ByteArray} {nL : Nat} {own : String} {E : gE} {ret : Option FieldType} {init : Bool} {post : Option Value → Nat → Nat → va_W → Prop} {u z pc : Nat} {lv : gLV} {st : List Value} {ws : va_W} (h : IsG Γ l R cc nL own E ret init post) {a n : Nat} {f : Nat → Option Nat} {i : Int32} {b : Nat} (d : decode cc pc = .ok (.aaload, 1)) (q0 k0 : Nat) (he : ws[q0]? = some (a, .inl (E.2 4, n, .inr (.inr (.inr (.inr f)))))) (hi : i = nI k0) (hlt : k0 < n) (hn : n < 2 ^ 31) (hb2 : f k0 = some b) (k : Γ u z (pc + 1) lv (.ref b :: st) ws) : Γ u z pc lv (.int i :: .ref a :: st) ws := by
  obtain ⟨p, e, s, m, args, below, meth, c, A, Q, ⟨hx, hb, hml, ho, hts, hK, hA, hN, hO⟩, rfl, hin, hr⟩ := h
  intro H locs ls hl hP hD hS
  subst hi
  have hlt' : (nI k0).toNatClampNeg < n := by rw [nI_clamp (Nat.lt_trans hlt hn)]; exact hlt
  refine W.aald (v := .ref b) (ty := .array .short) hx hb (hP q0 _ he) ((hK.2 4 _ rfl).1 n (fun j => va_rf (f j))) rfl (fun q => by cases q) (by show ¬ (nI k0 < 0 ∨ (arrV _ _ _).slots.size ≤ _); rw [arrV_size]; exact vp_in_nI hlt hn) (by show (arrV _ _ _).slots[_]? = _; rw [arrV_read _ _ hlt', nI_clamp (Nat.lt_trans hlt hn), hb2]; rfl) rfl rfl d (k H locs ls hl hP hD hS)
theorem g_alen0 {Γ : gT} {l : Launch} {R : Room} {cc : ByteArray} {nL : Nat} {own : String} {E : gE} {ret : Option FieldType} {init : Bool} {post : Option Value → Nat → Nat → va_W → Prop} {u z pc : Nat} {lv : gLV} {st : List Value} {ws : va_W} (h : IsG Γ l R cc nL own E ret init post) {a n : Nat} {x : (Nat → Int32) ⊕ (Nat → Int64) ⊕ (Nat → UInt32) ⊕ (Nat → UInt64) ⊕ (Nat → Option Nat)} (d : decode cc pc = .ok (.arraylength, 1)) (q0 : Nat) (he : ws[q0]? = some (a, .inl (E.2 0, (n, x)))) (k : Γ u z (pc + 1) lv (.int (nI n) :: st) ws) : Γ u z pc lv (.ref a :: st) ws := by
  obtain ⟨p, e, s, m, args, below, meth, c, A, Q, ⟨hx, hb, hml, ho, hts, hK, hA, hN, hO⟩, rfl, hin, hr⟩ := h
  intro H locs ls hl hP hD hS
  exact va_alen hx hb hK hP q0 0 he rfl rfl d (k H locs ls hl hP hD hS)
theorem g_alen1 {Γ : gT} {l : Launch} {R : Room} {cc : ByteArray} {nL : Nat} {own : String} {E : gE} {ret : Option FieldType} {init : Bool} {post : Option Value → Nat → Nat → va_W → Prop} {u z pc : Nat} {lv : gLV} {st : List Value} {ws : va_W} (h : IsG Γ l R cc nL own E ret init post) {a n : Nat} {x : (Nat → Int32) ⊕ (Nat → Int64) ⊕ (Nat → UInt32) ⊕ (Nat → UInt64) ⊕ (Nat → Option Nat)} (d : decode cc pc = .ok (.arraylength, 1)) (q0 : Nat) (he : ws[q0]? = some (a, .inl (E.2 1, (n, x)))) (k : Γ u z (pc + 1) lv (.int (nI n) :: st) ws) : Γ u z pc lv (.ref a :: st) ws := by
  obtain ⟨p, e, s, m, args, below, meth, c, A, Q, ⟨hx, hb, hml, ho, hts, hK, hA, hN, hO⟩, rfl, hin, hr⟩ := h
  intro H locs ls hl hP hD hS
  exact va_alen hx hb hK hP q0 1 he rfl rfl d (k H locs ls hl hP hD hS)
theorem g_alen2 {Γ : gT} {l : Launch} {R : Room} {cc : ByteArray} {nL : Nat} {own : String} {E : gE} {ret : Option FieldType} {init : Bool} {post : Option Value → Nat → Nat → va_W → Prop} {u z pc : Nat} {lv : gLV} {st : List Value} {ws : va_W} (h : IsG Γ l R cc nL own E ret init post) {a n : Nat} {x : (Nat → Int32) ⊕ (Nat → Int64) ⊕ (Nat → UInt32) ⊕ (Nat → UInt64) ⊕ (Nat → Option Nat)} (d : decode cc pc = .ok (.arraylength, 1)) (q0 : Nat) (he : ws[q0]? = some (a, .inl (E.2 2, (n, x)))) (k : Γ u z (pc + 1) lv (.int (nI n) :: st) ws) : Γ u z pc lv (.ref a :: st) ws := by
  obtain ⟨p, e, s, m, args, below, meth, c, A, Q, ⟨hx, hb, hml, ho, hts, hK, hA, hN, hO⟩, rfl, hin, hr⟩ := h
  intro H locs ls hl hP hD hS
  exact va_alen hx hb hK hP q0 2 he rfl rfl d (k H locs ls hl hP hD hS)
theorem g_alen3 {Γ : gT} {l : Launch} {R : Room} {cc : ByteArray} {nL : Nat} {own : String} {E : gE} {ret : Option FieldType} {init : Bool} {post : Option Value → Nat → Nat → va_W → Prop} {u z pc : Nat} {lv : gLV} {st : List Value} {ws : va_W} (h : IsG Γ l R cc nL own E ret init post) {a n : Nat} {x : (Nat → Int32) ⊕ (Nat → Int64) ⊕ (Nat → UInt32) ⊕ (Nat → UInt64) ⊕ (Nat → Option Nat)} (d : decode cc pc = .ok (.arraylength, 1)) (q0 : Nat) (he : ws[q0]? = some (a, .inl (E.2 3, (n, x)))) (k : Γ u z (pc + 1) lv (.int (nI n) :: st) ws) : Γ u z pc lv (.ref a :: st) ws := by
  obtain ⟨p, e, s, m, args, below, meth, c, A, Q, ⟨hx, hb, hml, ho, hts, hK, hA, hN, hO⟩, rfl, hin, hr⟩ := h
  intro H locs ls hl hP hD hS
  exact va_alen hx hb hK hP q0 3 he rfl rfl d (k H locs ls hl hP hD hS)
theorem g_acopy {Γ : gT} {l : Launch} {R : Room} {cc : ByteArray} {nL : Nat} {own : String} {E : gE} {ret : Option FieldType} {init : Bool} {post : Option Value → Nat → Nat → va_W → Prop} {u z pc : Nat} {lv : gLV} {st : List Value} {ws : va_W} (h : IsG Γ l R cc nL own E ret init post) {ws' : va_W} {a0 a n0 n1 N : Nat} {index : Nat} {f g : Nat → Int32} {n : Int32} (d : decode cc pc = .ok (.invokestatic index, 3)) (hw : Cond.methodLink own index arraycopyName ∈ gTT) (hw2 : Cond.native arraycopyName ∈ gTT) (hw3 : Cond.static arraycopyName ∈ gTT) (hw4 : Cond.initialized "java/lang/System" ∈ gTT) (q0 q1 : Nat) (h0 : ws[q0]? = some (a0, .inl (E.2 0, n0, .inl f))) (h1 : ws[q1]? = some (a, .inl (E.2 0, n1, .inl g))) (hn : n = nI N) (hNN : N < 2 ^ 31) (hn0 : N ≤ n0) (hn1 : N ≤ n1) (hf : 1 ≤ R.frames) (hl0 : (st.map fun v => v.category).sum + (nativeFrameWords "java/lang/System" "arraycopy" 5 + 11) ≤ R.locals) (hw' : ws.set q1 (a, .inl (E.2 0, n1, .inl (va_cpy f g 0 0 N))) = ws') (k : Γ u z (pc + 3) lv st ws') : Γ u z pc lv (.int n :: .int 0 :: .ref a :: .int 0 :: .ref a0 :: st) ws := by
  obtain ⟨p, e, s, m, args, below, meth, c, A, Q, ⟨hx, hb, hml, ho, hts, hK, hA, hN, hO⟩, rfl, hin, hr⟩ := h
  intro H locs ls hl hP hD hS
  subst hw'; subst hn
  refine va_copyi hx hb (by rw [hml]; exact hl.1.1.symm) ho (hts _ hw) (hts _ hw2) (hts _ hw3) (hts _ hw4) hK hP hD hS q0 q1 0 0 h0 h1 rfl rfl rfl (by decide) (by decide) (nI_pos hNN) (by rw [sb_cl0, nI_clamp hNN]; omega) (by rw [sb_cl0, nI_clamp hNN]; omega) (fun i _ => rfl) hf hl0 d (fun H1 locs1 hP hD hS => ?_)
  rw [sb_cl0, nI_clamp hNN] at hP hD
  exact k H1 locs1 ls hl hP hD hS
theorem g_over {Γ : gT} {l : Launch} {R : Room} {cc : ByteArray} {nL : Nat} {own : String} {E : gE} {ret : Option FieldType} {init : Bool} {post : Option Value → Nat → Nat → va_W → Prop} {u z pc : Nat} {lv : gLV} {st : List Value} {ws : va_W} (h : IsG Γ l R cc nL own E ret init post) {index : Nat} (d : decode cc pc = .ok (.getstatic index, 3)) (hw : Cond.fieldLink own index "WatchBench$Causes" "OVER" "[I" ∈ gTT) (k : ∀ t : Nat, (∀ (pc' : Nat) (i : Int32) (k0 : Nat) (lv' : gLV) (st' : List Value) (ws' : va_W) (u' z' : Nat), decode cc pc' = .ok (.iaload, 1) → i = nI k0 → k0 < 6 → Γ u' z' (pc' + 1) lv' (gOf k0 :: st') ws' → Γ u' z' pc' lv' (.int i :: .ref t :: st') ws') → (∀ (pc' : Nat) (lv' : gLV) (st' : List Value) (ws' : va_W) (u' z' : Nat), decode cc pc' = .ok (.arraylength, 1) → Γ u' z' (pc' + 1) lv' (.int 6 :: st') ws' → Γ u' z' pc' lv' (.ref t :: st') ws') → Γ u z (pc + 3) lv (.ref t :: st) ws) : Γ u z pc lv st ws := by
  obtain ⟨p, e, s, m, args, below, meth, c, A, Q, ⟨hx, hb, hml, ho, hts, hK, hA, hN, hO⟩, rfl, hin, hr⟩ := h
  intro H locs ls hl hP hD hS
  obtain ⟨t, hZ, hT⟩ := hO
  refine va_gets hx hb hZ hS ho (hts _ hw) (fun _ h9 => h9) d (k t ?_ ?_ H locs ls hl hP hD hS)
  · intro pc' i k0 lv' st' ws' u' z' d' hi hk kk H locs ls hl hP hD hS
    subst hi
    exact va_ti hx hb hT hS (vp_in_nI hk (by decide)) (by rw [nI_clamp (Nat.lt_trans hk (by decide))]) d' (kk H locs ls hl hP hD hS)
  · intro pc' lv' st' ws' u' z' d' kk H locs ls hl hP hD hS
    exact va_tlen hx hb hT hS rfl d' (kk H locs ls hl hP hD hS)
theorem g_new {Γ : gT} {l : Launch} {R : Room} {cc : ByteArray} {nL : Nat} {own : String} {E : gE} {ret : Option FieldType} {init : Bool} {post : Option Value → Nat → Nat → va_W → Prop} {u z pc : Nat} {lv : gLV} {st : List Value} {ws : va_W} (h : IsG Γ l R cc nL own E ret init post) {index ci N : Nat} {C : String} {T : u_T} {fs : List Value} (ty : Nat → FieldType) (hc : vwCl[ci]? = some (C, T, N)) (hin0 : ∀ w ∈ u_ws C T N, w ∈ gTT) (hty : ∀ k, k < N → parseFieldDescriptor (T k).2.2.1 = some (ty k)) (hw1 : Cond.classLink own index C ∈ gTT) (hw2 : Cond.instantiable C N ∈ gTT) (hw3 : Cond.initialized C ∈ gTT) (d : decode cc pc = .ok (.new index, 3)) (hfs : ∀ j, j < N → defaultValue (ty j) = vp_V fs j) (h1 : u + 1 ≤ R.cells) (h2 : z + N ≤ R.slots) (k : ∀ q : Nat, Γ (u + 1) (z + N) (pc + 3) lv (.ref q :: st) (ws ++ [(q, .inr (ci, fs))])) : Γ u z pc lv st ws := by
  obtain ⟨p, e, s, m, args, below, meth, c, A, Q, ⟨hx, hb, hml, ho, hts, hK, hA, hN, hO⟩, rfl, hin, hr⟩ := h
  intro H locs ls hl hP hD hS
  exact va_new hx hb hts hin0 ty hty ho (hts _ hw1) (hts _ hw2) (hts _ hw3) hK hP hD hS hA hc hfs h1 h2 d (fun q H1 hP hD hS => k q H1 locs ls hl hP hD hS)
theorem g_newaI {Γ : gT} {l : Launch} {R : Room} {cc : ByteArray} {nL : Nat} {own : String} {E : gE} {ret : Option FieldType} {init : Bool} {post : Option Value → Nat → Nat → va_W → Prop} {u z pc : Nat} {lv : gLV} {st : List Value} {ws : va_W} (h : IsG Γ l R cc nL own E ret init post) {n : Int32} {N : Nat} (d : decode cc pc = .ok (.newarray .int, 2)) (hw : Cond.arrayClass .int ∈ gTT) (hn : n = nI N) (hN : N < 65536) (h1 : u + 1 ≤ R.cells) (h2 : z + N ≤ R.slots) (k : ∀ q : Nat, Γ (u + 1) (z + N) (pc + 2) lv (.ref q :: st) (ws ++ [(q, .inl (E.2 0, N, .inl (fun _ => 0)))])) : Γ u z pc lv (.int n :: st) ws := by
  obtain ⟨p, e, s, m, args, below, meth, c, A, Q, ⟨hx, hb, hml, ho, hts, hK, hA, hN, hO⟩, rfl, hin, hr⟩ := h
  intro H locs ls hl hP hD hS
  subst hn
  refine va_newa (atype := .int) (ty := .int) (a0 := (N, .inl (fun _ => 0))) (N' := N) hx hb (hts _ hw) rfl hK hP hD hS hA (fun cA => rfl) (nI_pos (by omega)) (nI_clamp (by omega)) (show N * 4 ≤ 536870912 by omega) h1 h2 d (fun q cA H1 hK1 hP hD hS => ?_)
  have e1 := (hK1.2 5 (cA, .int) rfl).2
  have e2 := (hK.2 0 (E.2 0, .int) rfl).2
  have e3 : cA = E.2 0 := Option.some.inj (Eq.trans (Eq.symm e1) e2)
  rw [e3] at hP hD
  exact k q H1 locs ls hl hP hD hS
theorem g_newaJ {Γ : gT} {l : Launch} {R : Room} {cc : ByteArray} {nL : Nat} {own : String} {E : gE} {ret : Option FieldType} {init : Bool} {post : Option Value → Nat → Nat → va_W → Prop} {u z pc : Nat} {lv : gLV} {st : List Value} {ws : va_W} (h : IsG Γ l R cc nL own E ret init post) {n : Int32} {N : Nat} (d : decode cc pc = .ok (.newarray .long, 2)) (hw : Cond.arrayClass .long ∈ gTT) (hn : n = nI N) (hN : N < 65536) (h1 : u + 1 ≤ R.cells) (h2 : z + N ≤ R.slots) (k : ∀ q : Nat, Γ (u + 1) (z + N) (pc + 2) lv (.ref q :: st) (ws ++ [(q, .inl (E.2 1, N, .inr (.inl (fun _ => 0))))])) : Γ u z pc lv (.int n :: st) ws := by
  obtain ⟨p, e, s, m, args, below, meth, c, A, Q, ⟨hx, hb, hml, ho, hts, hK, hA, hN, hO⟩, rfl, hin, hr⟩ := h
  intro H locs ls hl hP hD hS
  subst hn
  refine va_newa (atype := .long) (ty := .long) (a0 := (N, .inr (.inl (fun _ => 0)))) (N' := N) hx hb (hts _ hw) rfl hK hP hD hS hA (fun cA => rfl) (nI_pos (by omega)) (nI_clamp (by omega)) (show N * 8 ≤ 536870912 by omega) h1 h2 d (fun q cA H1 hK1 hP hD hS => ?_)
  have e1 := (hK1.2 5 (cA, .long) rfl).2
  have e2 := (hK.2 1 (E.2 1, .long) rfl).2
  have e3 : cA = E.2 1 := Option.some.inj (Eq.trans (Eq.symm e1) e2)
  rw [e3] at hP hD
  exact k q H1 locs ls hl hP hD hS
theorem g_newaS {Γ : gT} {l : Launch} {R : Room} {cc : ByteArray} {nL : Nat} {own : String} {E : gE} {ret : Option FieldType} {init : Bool} {post : Option Value → Nat → Nat → va_W → Prop} {u z pc : Nat} {lv : gLV} {st : List Value} {ws : va_W} (h : IsG Γ l R cc nL own E ret init post) {n : Int32} {N : Nat} (d : decode cc pc = .ok (.newarray .short, 2)) (hw : Cond.arrayClass .short ∈ gTT) (hn : n = nI N) (hN : N < 65536) (h1 : u + 1 ≤ R.cells) (h2 : z + N ≤ R.slots) (k : ∀ q : Nat, Γ (u + 1) (z + N) (pc + 2) lv (.ref q :: st) (ws ++ [(q, .inl (E.2 2, N, .inl (fun _ => 0)))])) : Γ u z pc lv (.int n :: st) ws := by
  obtain ⟨p, e, s, m, args, below, meth, c, A, Q, ⟨hx, hb, hml, ho, hts, hK, hA, hN, hO⟩, rfl, hin, hr⟩ := h
  intro H locs ls hl hP hD hS
  subst hn
  refine va_newa (atype := .short) (ty := .short) (a0 := (N, .inl (fun _ => 0))) (N' := N) hx hb (hts _ hw) rfl hK hP hD hS hA (fun cA => rfl) (nI_pos (by omega)) (nI_clamp (by omega)) (show N * 2 ≤ 536870912 by omega) h1 h2 d (fun q cA H1 hK1 hP hD hS => ?_)
  have e1 := (hK1.2 5 (cA, .short) rfl).2
  have e2 := (hK.2 2 (E.2 2, .short) rfl).2
  have e3 : cA = E.2 2 := Option.some.inj (Eq.trans (Eq.symm e1) e2)
  rw [e3] at hP hD
  exact k q H1 locs ls hl hP hD hS
theorem g_newaZ {Γ : gT} {l : Launch} {R : Room} {cc : ByteArray} {nL : Nat} {own : String} {E : gE} {ret : Option FieldType} {init : Bool} {post : Option Value → Nat → Nat → va_W → Prop} {u z pc : Nat} {lv : gLV} {st : List Value} {ws : va_W} (h : IsG Γ l R cc nL own E ret init post) {n : Int32} {N : Nat} (d : decode cc pc = .ok (.newarray .boolean, 2)) (hw : Cond.arrayClass .boolean ∈ gTT) (hn : n = nI N) (hN : N < 65536) (h1 : u + 1 ≤ R.cells) (h2 : z + N ≤ R.slots) (k : ∀ q : Nat, Γ (u + 1) (z + N) (pc + 2) lv (.ref q :: st) (ws ++ [(q, .inl (E.2 3, N, .inl (fun _ => 0)))])) : Γ u z pc lv (.int n :: st) ws := by
  obtain ⟨p, e, s, m, args, below, meth, c, A, Q, ⟨hx, hb, hml, ho, hts, hK, hA, hN, hO⟩, rfl, hin, hr⟩ := h
  intro H locs ls hl hP hD hS
  subst hn
  refine va_newa (atype := .boolean) (ty := .boolean) (a0 := (N, .inl (fun _ => 0))) (N' := N) hx hb (hts _ hw) rfl hK hP hD hS hA (fun cA => rfl) (nI_pos (by omega)) (nI_clamp (by omega)) (show N * 1 ≤ 536870912 by omega) h1 h2 d (fun q cA H1 hK1 hP hD hS => ?_)
  have e1 := (hK1.2 5 (cA, .boolean) rfl).2
  have e2 := (hK.2 3 (E.2 3, .boolean) rfl).2
  have e3 : cA = E.2 3 := Option.some.inj (Eq.trans (Eq.symm e1) e2)
  rw [e3] at hP hD
  exact k q H1 locs ls hl hP hD hS
theorem g_objInit {Γ : gT} {l : Launch} {R : Room} {cc : ByteArray} {nL : Nat} {own : String} {E : gE} {ret : Option FieldType} {init : Bool} {post : Option Value → Nat → Nat → va_W → Prop} {u z pc : Nat} {lv : gLV} {st : List Value} {ws : va_W} (h : IsG Γ l R cc nL own E ret init post) {index a : Nat} (d : decode cc pc = .ok (.invokespecial index, 3)) (hw : Cond.methodLink own index objectInit ∈ gTT) (hw2 : Cond.instanceMethod objectInit ∈ gTT) (hw3 : Cond.code objectInit ⟨#[0xb1]⟩ 1 none ∈ gTT) (h1 : 1 ≤ R.frames) (h2 : (st.map fun v => v.category).sum ≤ 8) (h3 : 20 ≤ R.locals) (k : Γ u z (pc + 3) lv st ws) : Γ u z pc lv (.ref a :: st) ws := by
  obtain ⟨p, e, s, m, args, below, meth, c, A, Q, ⟨hx, hb, hml, ho, hts, hK, hA, hN, hO⟩, rfl, hin, hr⟩ := h
  intro H locs ls hl hP hD hS
  refine W.objInit hx hb ho (hts _ hw) (hts _ hw2) (hts _ hw3) rfl (by rw [hml]; exact hl.1.1) rfl d h1 ?_ (k H locs ls hl hP hD hS)
  have := lv_room (m := m) (pc := pc) (ls := ls) (rest := .ref a :: st) h2
  omega
theorem g_good {y : MethodName} {cy : ByteArray} {mL : Nat} {rt : Option FieldType} (h : Cond.code y cy mL rt ∈ gTT) : GoodIn gTT (.code y cy mL rt :: gTT) := by
  intro w hw
  have hm : w ∈ gTT := (List.mem_cons.mp hw).elim (fun e => by rw [e]; exact h) (fun e => e)
  exact ⟨hm, good_of_word (List.mem_filter.mp hm).2⟩
theorem g_sig {o : Option MethodDescriptor} {n : Nat} (h : o.map (fun d => d.parameters.length) = some n) : ∀ sig, o = some sig → n = sig.parameters.length := fun sig e => by
  rw [e] at h
  exact (Option.some.inj h).symm
theorem g_callV {Γ : gT} {l : Launch} {R : Room} {cc : ByteArray} {nL : Nat} {own : String} {E : gE} {ret : Option FieldType} {init : Bool} {post : Option Value → Nat → Nat → va_W → Prop} {u z pc : Nat} {lv : gLV} {ws : va_W} (h : IsG Γ l R cc nL own E ret init post) {y : MethodName} {cy : ByteArray} {mL n index b : Nat} {rt : Option FieldType} {rm : Room} {As rest st0 : List Value} {wc : va_W} {postc : Option Value → va_W → Prop} {C : String} {ci : Nat} {fs : List Value} {T : u_T} {N : Nat} (hC : Ctr l y cy mL rt rm E (.ref b :: As) wc postc) (hm : gMV C y cy mL rt n) (hlk : Cond.methodLink own index y ∈ gTT) (d : decode cc pc = .ok (.invokevirtual index, 3)) (hst : st0 = As.reverse ++ .ref b :: rest) (hn : As.length = n) (hR : rm.frames + 1 ≤ R.frames ∧ 8 + (mL + 11) + rm.locals ≤ R.locals) (hu : u + rm.cells ≤ R.cells ∧ z + rm.slots ≤ R.slots) (hw8 : (rest.map fun v => v.category).sum ≤ 8) (is : List Nat) (his : is.map (fun i => ws[i]?) = wc.map some) (hnd : va_nd is = true) (q0 : Nat) (he : ws[q0]? = some (b, .inr (ci, fs))) (hci : vwCl[ci]? = some (C, T, N)) (k : ∀ (v : Option Value) (w1 : va_W), postc v w1 → Γ (u + rm.cells) (z + rm.slots) (pc + 3) lv (v.toList ++ rest) (gmerge is w1 ws)) : Γ u z pc lv st0 ws := by
  obtain ⟨p, e, s, m, args, below, meth, c, A, Q, ⟨hx, hb, hml, ho, hts, hK, hA, hN, hO⟩, rfl, hin, hr⟩ := h
  intro H locs ls hl hP hD hS
  subst hst
  refine g_after (va_runV (g := F0 m pc ls (As.reverse ++ .ref b :: rest)) (n := n) (bytes := cy) (maxL := mL) (ret := rt) (C := C) ⟨hx, hb, hml, ho, hts⟩ (hC H.size) ⟨⟨rfl, rfl, hR.1, hR.2, pay_in hts (g_good hm.1), List.mem_cons_self, hts _ hm.1, hts _ hm.2.2.2.1, hm.2.2.2.2.1, g_sig hm.2.2.2.2.2, hts _ hlk⟩, hts _ hm.2.1, hts _ hm.2.2.1⟩ ⟨g_blind, va_recv hK hP hci he, g_pre hK hN hO hP hD hS hA is his hnd⟩ rfl hn hl.1.1 rfl (lv_room hw8) d hu) hl hP hD hS hA is his (fun v w1 hp => k v w1 hp)
theorem g_callS {Γ : gT} {l : Launch} {R : Room} {cc : ByteArray} {nL : Nat} {own : String} {E : gE} {ret : Option FieldType} {init : Bool} {post : Option Value → Nat → Nat → va_W → Prop} {u z pc : Nat} {lv : gLV} {ws : va_W} (h : IsG Γ l R cc nL own E ret init post) {y : MethodName} {cy : ByteArray} {mL n index b : Nat} {rt : Option FieldType} {rm : Room} {As rest st0 : List Value} {wc : va_W} {postc : Option Value → va_W → Prop} (hC : Ctr l y cy mL rt rm E As wc postc) (hm : gMS y cy mL rt n) (hlk : Cond.methodLink own index y ∈ gTT) (d : decode cc pc = .ok (.invokestatic index, 3)) (hst : st0 = As.reverse ++ rest) (hn : As.length = n) (hR : rm.frames + 1 ≤ R.frames ∧ 8 + (mL + 11) + rm.locals ≤ R.locals) (hu : u + rm.cells ≤ R.cells ∧ z + rm.slots ≤ R.slots) (hw8 : (rest.map fun v => v.category).sum ≤ 8) (is : List Nat) (his : is.map (fun i => ws[i]?) = wc.map some) (hnd : va_nd is = true) (k : ∀ (v : Option Value) (w1 : va_W), postc v w1 → Γ (u + rm.cells) (z + rm.slots) (pc + 3) lv (v.toList ++ rest) (gmerge is w1 ws)) : Γ u z pc lv st0 ws := by
  obtain ⟨p, e, s, m, args, below, meth, c, A, Q, ⟨hx, hb, hml, ho, hts, hK, hA, hN, hO⟩, rfl, hin, hr⟩ := h
  intro H locs ls hl hP hD hS
  subst hst
  refine g_after (va_runS (g := F0 m pc ls (As.reverse ++ rest)) (n := n) (bytes := cy) (maxL := mL) (ret := rt) ⟨hx, hb, hml, ho, hts⟩ (hC H.size) ⟨⟨rfl, rfl, hR.1, hR.2, pay_in hts (g_good hm.1), List.mem_cons_self, hts _ hm.1, hts _ hm.2.2.1, hm.2.2.2.1, g_sig hm.2.2.2.2, hts _ hlk⟩, hts _ hm.2.1⟩ ⟨g_blind, g_pre hK hN hO hP hD hS hA is his hnd⟩ rfl hn hl.1.1 rfl (lv_room hw8) d hu) hl hP hD hS hA is his (fun v w1 hp => k v w1 hp)
theorem g_callSN {Γ : gT} {l : Launch} {R : Room} {cc : ByteArray} {nL : Nat} {own : String} {E : gE} {ret : Option FieldType} {init : Bool} {post : Option Value → Nat → Nat → va_W → Prop} {u z pc : Nat} {lv : gLV} {ws : va_W} (h : IsG Γ l R cc nL own E ret init post) {y : MethodName} {cy : ByteArray} {mL n index b : Nat} {rt : Option FieldType} {rm : Room} {As rest st0 : List Value} {wc : va_W} {postc : Option Value → va_W → Prop} {host : String} (hC : Ctr l y cy mL rt rm E As wc postc) (hm : gMS y cy mL rt n) (hlk : Cond.methodLinkNest own index y host ∈ lw_tbl) (d : decode cc pc = .ok (.invokestatic index, 3)) (hst : st0 = As.reverse ++ rest) (hn : As.length = n) (hR : rm.frames + 1 ≤ R.frames ∧ 8 + (mL + 11) + rm.locals ≤ R.locals) (hu : u + rm.cells ≤ R.cells ∧ z + rm.slots ≤ R.slots) (hw8 : (rest.map fun v => v.category).sum ≤ 8) (is : List Nat) (his : is.map (fun i => ws[i]?) = wc.map some) (hnd : va_nd is = true) (k : ∀ (v : Option Value) (w1 : va_W), postc v w1 → Γ (u + rm.cells) (z + rm.slots) (pc + 3) lv (v.toList ++ rest) (gmerge is w1 ws)) : Γ u z pc lv st0 ws := by
  obtain ⟨p, e, s, m, args, below, meth, c, A, Q, ⟨hx, hb, hml, ho, hts, hK, hA, hN, hO⟩, rfl, hin, hr⟩ := h
  intro H locs ls hl hP hD hS
  subst hst
  refine g_after (va_runSN (g := F0 m pc ls (As.reverse ++ rest)) (n := n) (bytes := cy) (maxL := mL) (ret := rt) (host := host) ⟨hx, hb, hml, ho, hts⟩ (hC H.size) ⟨⟨⟨rfl, rfl, hR.1, hR.2, pay_in hts (g_good hm.1), List.mem_cons_self⟩, hts _ hm.1, hts _ hm.2.2.1, hm.2.2.2.1, g_sig hm.2.2.2.2, va_Nw.use rfl (hN _ hlk rfl)⟩, hts _ hm.2.1, trivial⟩ ⟨g_blind, g_pre hK hN hO hP hD hS hA is his hnd⟩ rfl hn hl.1.1 rfl (lv_room hw8) d hu) hl hP hD hS hA is his (fun v w1 hp => k v w1 hp)
theorem g_callI {Γ : gT} {l : Launch} {R : Room} {cc : ByteArray} {nL : Nat} {own : String} {E : gE} {ret : Option FieldType} {init : Bool} {post : Option Value → Nat → Nat → va_W → Prop} {u z pc : Nat} {lv : gLV} {ws : va_W} (h : IsG Γ l R cc nL own E ret init post) {y : MethodName} {cy : ByteArray} {mL n index b : Nat} {rm : Room} {As rest st0 : List Value} {wc : va_W} {postc : Option Value → va_W → Prop} (hC : Ctr l y cy mL none rm E (.ref b :: As) wc postc) (hm : gMI y cy mL n) (hlk : Cond.methodLink own index y ∈ gTT) (d : decode cc pc = .ok (.invokespecial index, 3)) (hst : st0 = As.reverse ++ .ref b :: rest) (hn : As.length = n) (hR : rm.frames + 1 ≤ R.frames ∧ 8 + (mL + 11) + rm.locals ≤ R.locals) (hu : u + rm.cells ≤ R.cells ∧ z + rm.slots ≤ R.slots) (hw8 : (rest.map fun v => v.category).sum ≤ 8) (is : List Nat) (his : is.map (fun i => ws[i]?) = wc.map some) (hnd : va_nd is = true) (k : ∀ (v : Option Value) (w1 : va_W), postc v w1 → Γ (u + rm.cells) (z + rm.slots) (pc + 3) lv (v.toList ++ rest) (gmerge is w1 ws)) : Γ u z pc lv st0 ws := by
  obtain ⟨p, e, s, m, args, below, meth, c, A, Q, ⟨hx, hb, hml, ho, hts, hK, hA, hN, hO⟩, rfl, hin, hr⟩ := h
  intro H locs ls hl hP hD hS
  subst hst
  refine g_after (va_runI (g := F0 m pc ls (As.reverse ++ .ref b :: rest)) (n := n) (bytes := cy) (maxL := mL) ⟨hx, hb, hml, ho, hts⟩ (hC H.size) ⟨⟨rfl, rfl, hR.1, hR.2, pay_in hts (g_good hm.1), List.mem_cons_self, hts _ hm.1, hts _ hm.2.2.1, hm.2.2.2.2.1, g_sig hm.2.2.2.2.2, hts _ hlk⟩, hm.2.2.2.1, hts _ hm.2.1⟩ ⟨g_blind, g_pre hK hN hO hP hD hS hA is his hnd⟩ rfl hn hl.1.1 rfl (lv_room hw8) d hu) hl hP hD hS hA is his (fun v w1 hp => k v w1 hp)
theorem g_callIN {Γ : gT} {l : Launch} {R : Room} {cc : ByteArray} {nL : Nat} {own : String} {E : gE} {ret : Option FieldType} {init : Bool} {post : Option Value → Nat → Nat → va_W → Prop} {u z pc : Nat} {lv : gLV} {ws : va_W} (h : IsG Γ l R cc nL own E ret init post) {y : MethodName} {cy : ByteArray} {mL n index b : Nat} {rm : Room} {As rest st0 : List Value} {wc : va_W} {postc : Option Value → va_W → Prop} {host : String} (hC : Ctr l y cy mL none rm E (.ref b :: As) wc postc) (hm : gMI y cy mL n) (hlk : Cond.methodLinkNest own index y host ∈ lw_tbl) (d : decode cc pc = .ok (.invokespecial index, 3)) (hst : st0 = As.reverse ++ .ref b :: rest) (hn : As.length = n) (hR : rm.frames + 1 ≤ R.frames ∧ 8 + (mL + 11) + rm.locals ≤ R.locals) (hu : u + rm.cells ≤ R.cells ∧ z + rm.slots ≤ R.slots) (hw8 : (rest.map fun v => v.category).sum ≤ 8) (is : List Nat) (his : is.map (fun i => ws[i]?) = wc.map some) (hnd : va_nd is = true) (k : ∀ (v : Option Value) (w1 : va_W), postc v w1 → Γ (u + rm.cells) (z + rm.slots) (pc + 3) lv (v.toList ++ rest) (gmerge is w1 ws)) : Γ u z pc lv st0 ws := by
  obtain ⟨p, e, s, m, args, below, meth, c, A, Q, ⟨hx, hb, hml, ho, hts, hK, hA, hN, hO⟩, rfl, hin, hr⟩ := h
  intro H locs ls hl hP hD hS
  subst hst
  refine g_after (va_runIN (g := F0 m pc ls (As.reverse ++ .ref b :: rest)) (n := n) (bytes := cy) (maxL := mL) (host := host) ⟨hx, hb, hml, ho, hts⟩ (hC H.size) ⟨⟨⟨rfl, rfl, hR.1, hR.2, pay_in hts (g_good hm.1), List.mem_cons_self⟩, hts _ hm.1, hts _ hm.2.2.1, hm.2.2.2.2.1, g_sig hm.2.2.2.2.2, va_Nw.use rfl (hN _ hlk rfl)⟩, hm.2.2.2.1, hts _ hm.2.1⟩ ⟨g_blind, g_pre hK hN hO hP hD hS hA is his hnd⟩ rfl hn hl.1.1 rfl (lv_room hw8) d hu) hl hP hD hS hA is his (fun v w1 hp => k v w1 hp)
/-- a boolean as the machine has it -/
def bI (b : Bool) : Int32 := if b then 1 else 0
theorem bI_nar (b : Bool) : narrow .boolean (.int (bI b)) = .int (bI b) := by cases b <;> rfl
theorem bI_0 {b : Bool} : bI b = 0 ↔ b = false := by cases b <;> decide
theorem bI_n0 {b : Bool} : ¬ bI b = 0 ↔ b = true := by cases b <;> decide
/-- a contract whose answer and world are told as functions -/
abbrev CtrF (l : Launch) (y : MethodName) (cc : ByteArray) (maxL : Nat) (ret : Option FieldType) (rm : Room) (E : gE) (av : List Value) (wc : va_W) (v0 : Option Value) (w0 : va_W) : Prop := Ctr l y cc maxL ret rm E av wc (fun v w => v = v0 ∧ w = w0)
abbrev gR (f n : Nat) : Room := { frames := f, cells := 0, slots := 0, locals := n }
theorem gset_self {ws : va_W} {i : Nat} {x : Nat × va_E} (h : ws[i]? = some x) : ws.set i x = ws := by
  obtain ⟨hl, he⟩ := List.getElem?_eq_some_iff.mp h
  rw [← he]
  exact List.set_getElem_self hl
theorem gmerge_self : ∀ (is : List Nat) (wc ws : va_W), is.map (fun i => ws[i]?) = wc.map some → gmerge is wc ws = ws
  | [], [], ws, _ => List.append_nil ws
  | [], x :: wc, ws, h => by cases h
  | i :: is, [], ws, _ => rfl
  | i :: is, x :: wc, ws, h => by
    simp only [List.map_cons, List.cons.injEq] at h
    show gmerge is wc (ws.set i x) = ws
    rw [gset_self h.1]
    exact gmerge_self is wc ws h.2
theorem g_cVr {Γ : gT} {l : Launch} {R : Room} {cc : ByteArray} {nL : Nat} {own : String} {E : gE} {ret : Option FieldType} {init : Bool} {post : Option Value → Nat → Nat → va_W → Prop} {u z pc : Nat} {lv : gLV} {ws : va_W} (h : IsG Γ l R cc nL own E ret init post) {y : MethodName} {cy : ByteArray} {mL n index b f lo : Nat} {rt : Option FieldType} {As rest st0 : List Value} {wc : va_W} {v0 : Value} {C : String} {ci : Nat} {fs : List Value} {T : u_T} {N : Nat} (hC : CtrF l y cy mL rt (gR f lo) E (.ref b :: As) wc (some v0) wc) (hm : gMV C y cy mL rt n) (hlk : Cond.methodLink own index y ∈ gTT) (d : decode cc pc = .ok (.invokevirtual index, 3)) (hst : st0 = As.reverse ++ .ref b :: rest) (hn : As.length = n) (hu : u ≤ R.cells ∧ z ≤ R.slots) (hR : f + 1 ≤ R.frames ∧ 8 + (mL + 11) + lo ≤ R.locals) (hw8 : (rest.map fun v => v.category).sum ≤ 8) (is : List Nat) (his : is.map (fun i => ws[i]?) = wc.map some) (hnd : va_nd is = true) (q0 : Nat) (he : ws[q0]? = some (b, .inr (ci, fs))) (hci : vwCl[ci]? = some (C, T, N)) (k : Γ u z (pc + 3) lv (v0 :: rest) ws) : Γ u z pc lv st0 ws := by
  refine g_callV h hC hm hlk d hst hn hR hu hw8 is his hnd q0 he hci (fun v w1 hp => ?_)
  obtain ⟨rfl, rfl⟩ := hp
  rw [gmerge_self is _ ws his]
  exact k
theorem g_cVw {Γ : gT} {l : Launch} {R : Room} {cc : ByteArray} {nL : Nat} {own : String} {E : gE} {ret : Option FieldType} {init : Bool} {post : Option Value → Nat → Nat → va_W → Prop} {u z pc : Nat} {lv : gLV} {ws : va_W} (h : IsG Γ l R cc nL own E ret init post) {ws' : va_W} {y : MethodName} {cy : ByteArray} {mL n index b f lo : Nat} {rt : Option FieldType} {As rest st0 : List Value} {wc w0 : va_W} {v0 : Value} {C : String} {ci : Nat} {fs : List Value} {T : u_T} {N : Nat} (hC : CtrF l y cy mL rt (gR f lo) E (.ref b :: As) wc (some v0) w0) (hm : gMV C y cy mL rt n) (hlk : Cond.methodLink own index y ∈ gTT) (d : decode cc pc = .ok (.invokevirtual index, 3)) (hst : st0 = As.reverse ++ .ref b :: rest) (hn : As.length = n) (hu : u ≤ R.cells ∧ z ≤ R.slots) (hR : f + 1 ≤ R.frames ∧ 8 + (mL + 11) + lo ≤ R.locals) (hw8 : (rest.map fun v => v.category).sum ≤ 8) (is : List Nat) (his : is.map (fun i => ws[i]?) = wc.map some) (hnd : va_nd is = true) (q0 : Nat) (he : ws[q0]? = some (b, .inr (ci, fs))) (hci : vwCl[ci]? = some (C, T, N)) (hw' : gmerge is w0 ws = ws') (k : Γ u z (pc + 3) lv (v0 :: rest) ws') : Γ u z pc lv st0 ws := by
  refine g_callV h hC hm hlk d hst hn hR hu hw8 is his hnd q0 he hci (fun v w1 hp => ?_)
  obtain ⟨rfl, rfl⟩ := hp
  rw [hw']
  exact k
theorem g_cVv {Γ : gT} {l : Launch} {R : Room} {cc : ByteArray} {nL : Nat} {own : String} {E : gE} {ret : Option FieldType} {init : Bool} {post : Option Value → Nat → Nat → va_W → Prop} {u z pc : Nat} {lv : gLV} {ws : va_W} (h : IsG Γ l R cc nL own E ret init post) {ws' : va_W} {y : MethodName} {cy : ByteArray} {mL n index b f lo : Nat} {rt : Option FieldType} {As rest st0 : List Value} {wc w0 : va_W} {C : String} {ci : Nat} {fs : List Value} {T : u_T} {N : Nat} (hC : CtrF l y cy mL rt (gR f lo) E (.ref b :: As) wc none w0) (hm : gMV C y cy mL rt n) (hlk : Cond.methodLink own index y ∈ gTT) (d : decode cc pc = .ok (.invokevirtual index, 3)) (hst : st0 = As.reverse ++ .ref b :: rest) (hn : As.length = n) (hu : u ≤ R.cells ∧ z ≤ R.slots) (hR : f + 1 ≤ R.frames ∧ 8 + (mL + 11) + lo ≤ R.locals) (hw8 : (rest.map fun v => v.category).sum ≤ 8) (is : List Nat) (his : is.map (fun i => ws[i]?) = wc.map some) (hnd : va_nd is = true) (q0 : Nat) (he : ws[q0]? = some (b, .inr (ci, fs))) (hci : vwCl[ci]? = some (C, T, N)) (hw' : gmerge is w0 ws = ws') (k : Γ u z (pc + 3) lv rest ws') : Γ u z pc lv st0 ws := by
  refine g_callV h hC hm hlk d hst hn hR hu hw8 is his hnd q0 he hci (fun v w1 hp => ?_)
  obtain ⟨rfl, rfl⟩ := hp
  rw [hw']
  exact k
theorem g_cSr {Γ : gT} {l : Launch} {R : Room} {cc : ByteArray} {nL : Nat} {own : String} {E : gE} {ret : Option FieldType} {init : Bool} {post : Option Value → Nat → Nat → va_W → Prop} {u z pc : Nat} {lv : gLV} {ws : va_W} (h : IsG Γ l R cc nL own E ret init post) {y : MethodName} {cy : ByteArray} {mL n index f lo : Nat} {rt : Option FieldType} {As rest st0 : List Value} {wc : va_W} {v0 : Value} (hC : CtrF l y cy mL rt (gR f lo) E As wc (some v0) wc) (hm : gMS y cy mL rt n) (hlk : Cond.methodLink own index y ∈ gTT) (d : decode cc pc = .ok (.invokestatic index, 3)) (hst : st0 = As.reverse ++ rest) (hn : As.length = n) (hu : u ≤ R.cells ∧ z ≤ R.slots) (hR : f + 1 ≤ R.frames ∧ 8 + (mL + 11) + lo ≤ R.locals) (hw8 : (rest.map fun v => v.category).sum ≤ 8) (is : List Nat) (his : is.map (fun i => ws[i]?) = wc.map some) (hnd : va_nd is = true) (k : Γ u z (pc + 3) lv (v0 :: rest) ws) : Γ u z pc lv st0 ws := by
  refine g_callS (b := 0) h hC hm hlk d hst hn hR hu hw8 is his hnd (fun v w1 hp => ?_)
  obtain ⟨rfl, rfl⟩ := hp
  rw [gmerge_self is _ ws his]
  exact k
theorem g_cSw {Γ : gT} {l : Launch} {R : Room} {cc : ByteArray} {nL : Nat} {own : String} {E : gE} {ret : Option FieldType} {init : Bool} {post : Option Value → Nat → Nat → va_W → Prop} {u z pc : Nat} {lv : gLV} {ws : va_W} (h : IsG Γ l R cc nL own E ret init post) {ws' : va_W} {y : MethodName} {cy : ByteArray} {mL n index f lo : Nat} {rt : Option FieldType} {As rest st0 : List Value} {wc w0 : va_W} {v0 : Value} (hC : CtrF l y cy mL rt (gR f lo) E As wc (some v0) w0) (hm : gMS y cy mL rt n) (hlk : Cond.methodLink own index y ∈ gTT) (d : decode cc pc = .ok (.invokestatic index, 3)) (hst : st0 = As.reverse ++ rest) (hn : As.length = n) (hu : u ≤ R.cells ∧ z ≤ R.slots) (hR : f + 1 ≤ R.frames ∧ 8 + (mL + 11) + lo ≤ R.locals) (hw8 : (rest.map fun v => v.category).sum ≤ 8) (is : List Nat) (his : is.map (fun i => ws[i]?) = wc.map some) (hnd : va_nd is = true) (hw' : gmerge is w0 ws = ws') (k : Γ u z (pc + 3) lv (v0 :: rest) ws') : Γ u z pc lv st0 ws := by
  refine g_callS (b := 0) h hC hm hlk d hst hn hR hu hw8 is his hnd (fun v w1 hp => ?_)
  obtain ⟨rfl, rfl⟩ := hp
  rw [hw']
  exact k
theorem g_cSv {Γ : gT} {l : Launch} {R : Room} {cc : ByteArray} {nL : Nat} {own : String} {E : gE} {ret : Option FieldType} {init : Bool} {post : Option Value → Nat → Nat → va_W → Prop} {u z pc : Nat} {lv : gLV} {ws : va_W} (h : IsG Γ l R cc nL own E ret init post) {ws' : va_W} {y : MethodName} {cy : ByteArray} {mL n index f lo : Nat} {rt : Option FieldType} {As rest st0 : List Value} {wc w0 : va_W} (hC : CtrF l y cy mL rt (gR f lo) E As wc none w0) (hm : gMS y cy mL rt n) (hlk : Cond.methodLink own index y ∈ gTT) (d : decode cc pc = .ok (.invokestatic index, 3)) (hst : st0 = As.reverse ++ rest) (hn : As.length = n) (hu : u ≤ R.cells ∧ z ≤ R.slots) (hR : f + 1 ≤ R.frames ∧ 8 + (mL + 11) + lo ≤ R.locals) (hw8 : (rest.map fun v => v.category).sum ≤ 8) (is : List Nat) (his : is.map (fun i => ws[i]?) = wc.map some) (hnd : va_nd is = true) (hw' : gmerge is w0 ws = ws') (k : Γ u z (pc + 3) lv rest ws') : Γ u z pc lv st0 ws := by
  refine g_callS (b := 0) h hC hm hlk d hst hn hR hu hw8 is his hnd (fun v w1 hp => ?_)
  obtain ⟨rfl, rfl⟩ := hp
  rw [hw']
  exact k
theorem g_cNr {Γ : gT} {l : Launch} {R : Room} {cc : ByteArray} {nL : Nat} {own : String} {E : gE} {ret : Option FieldType} {init : Bool} {post : Option Value → Nat → Nat → va_W → Prop} {u z pc : Nat} {lv : gLV} {ws : va_W} (h : IsG Γ l R cc nL own E ret init post) {y : MethodName} {cy : ByteArray} {mL n index f lo : Nat} {rt : Option FieldType} {As rest st0 : List Value} {wc : va_W} {v0 : Value} {host : String} (hC : CtrF l y cy mL rt (gR f lo) E As wc (some v0) wc) (hm : gMS y cy mL rt n) (hlk : Cond.methodLinkNest own index y host ∈ lw_tbl) (d : decode cc pc = .ok (.invokestatic index, 3)) (hst : st0 = As.reverse ++ rest) (hn : As.length = n) (hu : u ≤ R.cells ∧ z ≤ R.slots) (hR : f + 1 ≤ R.frames ∧ 8 + (mL + 11) + lo ≤ R.locals) (hw8 : (rest.map fun v => v.category).sum ≤ 8) (is : List Nat) (his : is.map (fun i => ws[i]?) = wc.map some) (hnd : va_nd is = true) (k : Γ u z (pc + 3) lv (v0 :: rest) ws) : Γ u z pc lv st0 ws := by
  refine g_callSN (b := 0) h hC hm hlk d hst hn hR hu hw8 is his hnd (fun v w1 hp => ?_)
  obtain ⟨rfl, rfl⟩ := hp
  rw [gmerge_self is _ ws his]
  exact k
theorem g_cNw {Γ : gT} {l : Launch} {R : Room} {cc : ByteArray} {nL : Nat} {own : String} {E : gE} {ret : Option FieldType} {init : Bool} {post : Option Value → Nat → Nat → va_W → Prop} {u z pc : Nat} {lv : gLV} {ws : va_W} (h : IsG Γ l R cc nL own E ret init post) {ws' : va_W} {y : MethodName} {cy : ByteArray} {mL n index f lo : Nat} {rt : Option FieldType} {As rest st0 : List Value} {wc w0 : va_W} {v0 : Value} {host : String} (hC : CtrF l y cy mL rt (gR f lo) E As wc (some v0) w0) (hm : gMS y cy mL rt n) (hlk : Cond.methodLinkNest own index y host ∈ lw_tbl) (d : decode cc pc = .ok (.invokestatic index, 3)) (hst : st0 = As.reverse ++ rest) (hn : As.length = n) (hu : u ≤ R.cells ∧ z ≤ R.slots) (hR : f + 1 ≤ R.frames ∧ 8 + (mL + 11) + lo ≤ R.locals) (hw8 : (rest.map fun v => v.category).sum ≤ 8) (is : List Nat) (his : is.map (fun i => ws[i]?) = wc.map some) (hnd : va_nd is = true) (hw' : gmerge is w0 ws = ws') (k : Γ u z (pc + 3) lv (v0 :: rest) ws') : Γ u z pc lv st0 ws := by
  refine g_callSN (b := 0) h hC hm hlk d hst hn hR hu hw8 is his hnd (fun v w1 hp => ?_)
  obtain ⟨rfl, rfl⟩ := hp
  rw [hw']
  exact k
theorem g_cNv {Γ : gT} {l : Launch} {R : Room} {cc : ByteArray} {nL : Nat} {own : String} {E : gE} {ret : Option FieldType} {init : Bool} {post : Option Value → Nat → Nat → va_W → Prop} {u z pc : Nat} {lv : gLV} {ws : va_W} (h : IsG Γ l R cc nL own E ret init post) {ws' : va_W} {y : MethodName} {cy : ByteArray} {mL n index f lo : Nat} {rt : Option FieldType} {As rest st0 : List Value} {wc w0 : va_W} {host : String} (hC : CtrF l y cy mL rt (gR f lo) E As wc none w0) (hm : gMS y cy mL rt n) (hlk : Cond.methodLinkNest own index y host ∈ lw_tbl) (d : decode cc pc = .ok (.invokestatic index, 3)) (hst : st0 = As.reverse ++ rest) (hn : As.length = n) (hu : u ≤ R.cells ∧ z ≤ R.slots) (hR : f + 1 ≤ R.frames ∧ 8 + (mL + 11) + lo ≤ R.locals) (hw8 : (rest.map fun v => v.category).sum ≤ 8) (is : List Nat) (his : is.map (fun i => ws[i]?) = wc.map some) (hnd : va_nd is = true) (hw' : gmerge is w0 ws = ws') (k : Γ u z (pc + 3) lv rest ws') : Γ u z pc lv st0 ws := by
  refine g_callSN (b := 0) h hC hm hlk d hst hn hR hu hw8 is his hnd (fun v w1 hp => ?_)
  obtain ⟨rfl, rfl⟩ := hp
  rw [hw']
  exact k
theorem g_ifb_eq {Γ : gT} {l : Launch} {R : Room} {cc : ByteArray} {nL : Nat} {own : String} {E : gE} {ret : Option FieldType} {init : Bool} {post : Option Value → Nat → Nat → va_W → Prop} {u z pc : Nat} {lv : gLV} {st : List Value} {ws : va_W} (h : IsG Γ l R cc nL own E ret init post) {bb : Bool} {off : Int} {tgt : Nat} (d : decode cc pc = .ok (.ifCond .eq off, 3)) (ht : (pc : Int) + off = (tgt : Int)) (kt : bb = false → Γ u z tgt lv st ws) (kf : bb = true → Γ u z (pc + 3) lv st ws) : Γ u z pc lv (.int (bI bb) :: st) ws := by
  exact g_if_eq h d ht (fun q => kt (bI_0.mp q)) (fun q => kf (bI_n0.mp q))
theorem g_ifb_ne {Γ : gT} {l : Launch} {R : Room} {cc : ByteArray} {nL : Nat} {own : String} {E : gE} {ret : Option FieldType} {init : Bool} {post : Option Value → Nat → Nat → va_W → Prop} {u z pc : Nat} {lv : gLV} {st : List Value} {ws : va_W} (h : IsG Γ l R cc nL own E ret init post) {bb : Bool} {off : Int} {tgt : Nat} (d : decode cc pc = .ok (.ifCond .ne off, 3)) (ht : (pc : Int) + off = (tgt : Int)) (kt : bb = true → Γ u z tgt lv st ws) (kf : bb = false → Γ u z (pc + 3) lv st ws) : Γ u z pc lv (.int (bI bb) :: st) ws := by
  exact g_if_ne h d ht (fun q => kt (bI_n0.mp q)) (fun q => kf (bI_0.mp q))
theorem g_topi {Γ : gT} {u z pc : Nat} {lv : gLV} {st : List Value} {ws : va_W} {x : Int32} (y : Int32) (h : x = y) (k : Γ u z pc lv (.int y :: st) ws) : Γ u z pc lv (.int x :: st) ws := h ▸ k
theorem g_topl {Γ : gT} {u z pc : Nat} {lv : gLV} {st : List Value} {ws : va_W} {x : Int64} (y : Int64) (h : x = y) (k : Γ u z pc lv (.long y :: st) ws) : Γ u z pc lv (.long x :: st) ws := h ▸ k
theorem g_lv {Γ : gT} {u z pc : Nat} {lv : gLV} {st : List Value} {ws : va_W} (lv' : gLV) (h : lv = lv') (k : Γ u z pc lv' st ws) : Γ u z pc lv st ws := h ▸ k
theorem g_as {Γ : gT} {u z pc pc' : Nat} {lv lv' : gLV} {st st' : List Value} {ws ws' : va_W} (h0 : pc = pc') (h1 : lv = lv') (h2 : st = st') (h3 : ws = ws') (k : Γ u z pc' lv' st' ws') : Γ u z pc lv st ws := by subst h0; subst h1; subst h2; subst h3; exact k
end
section
theorem nI_inc1 (k : Nat) : nI k + Int32.ofInt 1 = nI (k + 1) := nI_1 k
/-- a number within two bounds -/
def wit (v a b : Int32) : Bool := decide (a ≤ v) && decide (v ≤ b)
/-- i is a place below n -/
def pin (i : Int32) (n : Nat) : Bool := decide (0 ≤ i.toInt) && decide (i.toInt < n)
theorem pin_ex {i : Int32} {n : Nat} (h : pin i n = true) (hn : n < 2 ^ 31) : ∃ k, k < n ∧ i = nI k := by
  simp only [pin, Bool.and_eq_true, decide_eq_true_eq] at h
  exact vp_in_of (vp_in_iff.mpr h) hn
theorem pin_nI {k n : Nat} (hk : k < 2 ^ 31) : pin (nI k) n = decide (k < n) := by
  simp only [pin, nI_toInt hk]
  simp
theorem pin_lt {k n : Nat} (h : k < n) (hn : n < 2 ^ 31) : pin (nI k) n = true := by
  rw [pin_nI (by omega)]
  exact decide_eq_true h
theorem i32_lt (a b : Int32) : a < b ↔ a.toInt < b.toInt := Int32.lt_iff_toInt_lt
theorem i32_le (a b : Int32) : a ≤ b ↔ a.toInt ≤ b.toInt := Int32.le_iff_toInt_le
theorem i32_eq (a b : Int32) : a = b ↔ a.toInt = b.toInt := Int32.toInt_inj.symm
theorem i64_lt (a b : Int64) : a < b ↔ a.toInt < b.toInt := Int64.lt_iff_toInt_lt
theorem i64_le (a b : Int64) : a ≤ b ↔ a.toInt ≤ b.toInt := Int64.le_iff_toInt_le
theorem i64_eq (a b : Int64) : a = b ↔ a.toInt = b.toInt := Int64.toInt_inj.symm
/-- pairs: two rows and how many are used -/
abbrev wPr (E : gE) (h0 h1 h2 cap n : Nat) (fa fb : Nat → Int32) : va_W := [(h0, .inr (2, [.ref h1, .ref h2, .int (nI n)])), (h1, .inl (E.2 0, cap, .inl fa)), (h2, .inl (E.2 0, cap, .inl fb))]
def pget (f : Nat → Int32) (n : Nat) (i : Int32) : Int32 := if pin i n then f i.toNatClampNeg else 0
theorem pget_lt {f : Nat → Int32} {n k : Nat} (hk : k < n) (hn : n < 2 ^ 31) : pget f n (nI k) = f k := by
  rw [pget, if_pos (pin_lt hk hn), nI_clamp (by omega)]
theorem nI_m1 {n : Nat} (h : 0 < n) : nI n - 1 = nI (n - 1) := by
  obtain ⟨m, rfl⟩ : ∃ m, n = m + 1 := ⟨n - 1, by omega⟩
  exact nI_pred m
/-- the row f from k on, up to t, moved down by one -/
def shl (f : Nat → Int32) (k t : Nat) : Nat → Int32 := fun j => if k ≤ j ∧ j < t then f (j + 1) else f j
theorem shl_0 (f : Nat → Int32) (k : Nat) : shl f k k = f := by
  funext j
  unfold shl
  rw [if_neg (by omega)]
theorem shl_s (f : Nat → Int32) {k t : Nat} (h : k ≤ t) : upd (shl f k t) t (shl f k t (t + 1)) = shl f k (t + 1) := by
  funext j
  unfold upd shl
  by_cases hj : j = t
  · subst hj
    rw [if_pos rfl, if_neg (by omega), if_pos (by omega)]
  · rw [if_neg hj]
    by_cases h2 : k ≤ j ∧ j < t
    · rw [if_pos h2, if_pos (by omega)]
    · rw [if_neg h2, if_neg (by omega)]
/-- the first m of g, then f -/
def cpy {α : Type} (g f : Nat → α) (m : Nat) : Nat → α := fun j => if j < m then g j else f j
theorem cpy_0 {α : Type} (g f : Nat → α) : cpy g f 0 = f := by funext j; simp [cpy]
theorem cpy_s (g f : Nat → Int32) (m : Nat) : upd (cpy g f m) m (g m) = cpy g f (m + 1) := by
  funext j
  unfold upd cpy
  by_cases hj : j = m
  · subst hj; simp
  · rw [if_neg hj]
    by_cases h2 : j < m
    · rw [if_pos h2, if_pos (by omega)]
    · rw [if_neg h2, if_neg (by omega)]
theorem wit_f1 {v a b : Int32} (h : v < a) : wit v a b = false := by
  rw [wit, decide_eq_false (fun q => by rw [i32_le] at q; rw [i32_lt] at h; omega)]
  rfl
theorem wit_f2 {v a b : Int32} (h : b < v) : wit v a b = false := by
  rw [wit, decide_eq_false (p := v ≤ b) (fun q => by rw [i32_le] at q; rw [i32_lt] at h; omega), Bool.and_false]
theorem wit_t {v a b : Int32} (h : ¬ v < a) (h2 : ¬ b < v) : wit v a b = true := by
  rw [wit, decide_eq_true (by rw [i32_le]; rw [i32_lt] at h; omega), decide_eq_true (by rw [i32_le]; rw [i32_lt] at h2; omega)]
  rfl
theorem pin_f1 {i : Int32} {n : Nat} (h : i < 0) : pin i n = false := by
  rw [i32_lt] at h
  have h0 : (0 : Int32).toInt = 0 := rfl
  rw [pin, decide_eq_false (by omega)]
  rfl
theorem pin_f2 {i : Int32} {n : Nat} (hn : n < 2 ^ 31) (h : nI n ≤ i) : pin i n = false := by
  rw [i32_le, nI_toInt hn] at h
  rw [pin, decide_eq_false (p := i.toInt < n) (by omega), Bool.and_false]
theorem pin_t {i : Int32} {n : Nat} (hn : n < 2 ^ 31) (h : ¬ i < 0) (h2 : ¬ nI n ≤ i) : pin i n = true := by
  rw [i32_lt] at h
  have h0 : (0 : Int32).toInt = 0 := rfl
  rw [i32_le, nI_toInt hn] at h2
  rw [pin, decide_eq_true (by omega), decide_eq_true (by omega)]
  rfl
end
section
-- max
set_option maxHeartbeats 4000000 in
set_option maxRecDepth 100000 in
theorem kJ9_max_7cf53 {l : Launch} {E : gE} {x y : Int32}  : CtrF l yJ9_max_7cf53 cJ9_max_7cf53 2 (some .int) (gR 0 0) E [.int x, .int y] ([]) (some (.int (if x < y then y else x))) ([]) := by
  refine ctr_of false (by decide +kernel) (Nat.le_of_ble_eq_true rfl) (fun q => by cases q) (fun Γ h => ?_)
  refine g_lv [some _, some _] rfl ?_
  refine g_iload_n h dJ9_max_7cf53_0 rfl ?_
  refine g_iload_n h dJ9_max_7cf53_1 rfl ?_
  refine g_ic_lt h dJ9_max_7cf53_2 rfl (fun c2 => ?_) (fun c2 => ?_)
  · refine g_iload_n h dJ9_max_7cf53_9 rfl ?_
    refine g_ireturn h dJ9_max_7cf53_10 rfl rfl ⟨Nat.zero_le _, Nat.zero_le _, rfl, ?_, ?_⟩
    · simp [*]
    · rfl
  · refine g_iload_n h dJ9_max_7cf53_5 rfl ?_
    refine g_goto h dJ9_max_7cf53_6 rfl ?_
    refine g_ireturn h dJ9_max_7cf53_10 rfl rfl ⟨Nat.zero_le _, Nat.zero_le _, rfl, ?_, ?_⟩
    · simp [*]
    · rfl
set_option maxHeartbeats 4000000 in
set_option maxRecDepth 100000 in
theorem kJ9_min_7cf53 {l : Launch} {E : gE} {x y : Int32}  : CtrF l yJ9_min_7cf53 cJ9_min_7cf53 2 (some .int) (gR 0 0) E [.int x, .int y] ([]) (some (.int (if y < x then y else x))) ([]) := by
  refine ctr_of false (by decide +kernel) (Nat.le_of_ble_eq_true rfl) (fun q => by cases q) (fun Γ h => ?_)
  refine g_lv [some _, some _] rfl ?_
  refine g_iload_n h dJ9_min_7cf53_0 rfl ?_
  refine g_iload_n h dJ9_min_7cf53_1 rfl ?_
  refine g_ic_gt h dJ9_min_7cf53_2 rfl (fun c2 => ?_) (fun c2 => ?_)
  · refine g_iload_n h dJ9_min_7cf53_9 rfl ?_
    refine g_ireturn h dJ9_min_7cf53_10 rfl rfl ⟨Nat.zero_le _, Nat.zero_le _, rfl, ?_, ?_⟩
    · simp [*]
    · rfl
  · refine g_iload_n h dJ9_min_7cf53_5 rfl ?_
    refine g_goto h dJ9_min_7cf53_6 rfl ?_
    refine g_ireturn h dJ9_min_7cf53_10 rfl rfl ⟨Nat.zero_le _, Nat.zero_le _, rfl, ?_, ?_⟩
    · simp [*]
    · rfl
set_option maxHeartbeats 4000000 in
set_option maxRecDepth 100000 in
theorem kJ9_max_f86c9 {l : Launch} {E : gE} {x y : Int64}  : CtrF l yJ9_max_f86c9 cJ9_max_f86c9 4 (some .long) (gR 0 0) E [.long x, .long y] ([]) (some (.long (if x < y then y else x))) ([]) := by
  refine ctr_of false (by decide +kernel) (Nat.le_of_ble_eq_true rfl) (fun q => by cases q) (fun Γ h => ?_)
  refine g_lv [some _, none, some _, none] rfl ?_
  refine g_lload_n h dJ9_max_f86c9_0 rfl ?_
  refine g_lload_n h dJ9_max_f86c9_1 rfl ?_
  refine g_lcmp h dJ9_max_f86c9_2 ?_
  refine g_lif_lt h dJ9_max_f86c9_3 rfl (fun c3 => ?_) (fun c3 => ?_)
  · refine g_lload_n h dJ9_max_f86c9_10 rfl ?_
    refine g_lreturn h dJ9_max_f86c9_11 rfl ⟨Nat.zero_le _, Nat.zero_le _, rfl, ?_, ?_⟩
    · simp [*]
    · rfl
  · refine g_lload_n h dJ9_max_f86c9_6 rfl ?_
    refine g_goto h dJ9_max_f86c9_7 rfl ?_
    refine g_lreturn h dJ9_max_f86c9_11 rfl ⟨Nat.zero_le _, Nat.zero_le _, rfl, ?_, ?_⟩
    · simp [*]
    · rfl
set_option maxHeartbeats 4000000 in
set_option maxRecDepth 100000 in
theorem kJ9_abs_0f7a4 {l : Launch} {E : gE} {x : Int32}  : CtrF l yJ9_abs_0f7a4 cJ9_abs_0f7a4 1 (some .int) (gR 0 0) E [.int x] ([]) (some (.int (if 0 ≤ x then x else -x))) ([]) := by
  refine ctr_of false (by decide +kernel) (Nat.le_of_ble_eq_true rfl) (fun q => by cases q) (fun Γ h => ?_)
  refine g_lv [some _] rfl ?_
  refine g_iload_n h dJ9_abs_0f7a4_0 rfl ?_
  refine g_if_ge h dJ9_abs_0f7a4_1 rfl (fun c1 => ?_) (fun c1 => ?_)
  · refine g_iload_n h dJ9_abs_0f7a4_9 rfl ?_
    refine g_ireturn h dJ9_abs_0f7a4_10 rfl rfl ⟨Nat.zero_le _, Nat.zero_le _, rfl, ?_, ?_⟩
    · simp [*]
    · rfl
  · refine g_iload_n h dJ9_abs_0f7a4_4 rfl ?_
    refine g_ineg h dJ9_abs_0f7a4_5 ?_
    refine g_goto h dJ9_abs_0f7a4_6 rfl ?_
    refine g_ireturn h dJ9_abs_0f7a4_10 rfl rfl ⟨Nat.zero_le _, Nat.zero_le _, rfl, ?_, ?_⟩
    · simp [*]
    · rfl
set_option maxHeartbeats 4000000 in
set_option maxRecDepth 100000 in
theorem kJ9_abs_067f4 {l : Launch} {E : gE} {x : Int64}  : CtrF l yJ9_abs_067f4 cJ9_abs_067f4 2 (some .long) (gR 0 0) E [.long x] ([]) (some (.long (if 0 ≤ x then x else -x))) ([]) := by
  refine ctr_of false (by decide +kernel) (Nat.le_of_ble_eq_true rfl) (fun q => by cases q) (fun Γ h => ?_)
  refine g_lv [some _, none] rfl ?_
  refine g_lload_n h dJ9_abs_067f4_0 rfl ?_
  refine g_lconst (v := 0) h dJ9_abs_067f4_1 (by decide) ?_
  refine g_lcmp h dJ9_abs_067f4_2 ?_
  refine g_lif_ge h dJ9_abs_067f4_3 rfl (fun c3 => ?_) (fun c3 => ?_)
  · refine g_lload_n h dJ9_abs_067f4_11 rfl ?_
    refine g_lreturn h dJ9_abs_067f4_12 rfl ⟨Nat.zero_le _, Nat.zero_le _, rfl, ?_, ?_⟩
    · simp [*]
    · rfl
  · refine g_lload_n h dJ9_abs_067f4_6 rfl ?_
    refine g_lneg h dJ9_abs_067f4_7 ?_
    refine g_goto h dJ9_abs_067f4_8 rfl ?_
    refine g_lreturn h dJ9_abs_067f4_12 rfl ⟨Nat.zero_le _, Nat.zero_le _, rfl, ?_, ?_⟩
    · simp [*]
    · rfl
set_option maxHeartbeats 4000000 in
set_option maxRecDepth 100000 in
theorem kX2_within {l : Launch} {E : gE} {v a b : Int32}  : CtrF l yX2_within cX2_within 3 (some .boolean) (gR 0 0) E [.int v, .int a, .int b] ([]) (some (.int (bI (wit v a b)))) ([]) := by
  refine ctr_of false (plainFor_of_name (by decide)) (Nat.le_of_ble_eq_true rfl) (fun q => by cases q) (fun Γ h => ?_)
  refine g_lv [some _, some _, some _] rfl ?_
  refine g_iload_n h dX2_within_0 rfl ?_
  refine g_iload_n h dX2_within_1 rfl ?_
  refine g_ic_lt h dX2_within_2 rfl (fun c2 => ?_) (fun c2 => ?_)
  · refine g_iconst (v := 0) h dX2_within_14 (by decide) ?_
    refine g_ireturn h dX2_within_15 rfl (by first | rfl | exact bI_nar _) ⟨Nat.zero_le _, Nat.zero_le _, rfl, ?_, ?_⟩
    · first | (rw [wit_f1 c2]; rfl) | (rw [wit_f2 c7]; rfl) | (rw [wit_t c2 c7]; rfl)
    · rfl
  · refine g_iload_n h dX2_within_5 rfl ?_
    refine g_iload_n h dX2_within_6 rfl ?_
    refine g_ic_gt h dX2_within_7 rfl (fun c7 => ?_) (fun c7 => ?_)
    · refine g_iconst (v := 0) h dX2_within_14 (by decide) ?_
      refine g_ireturn h dX2_within_15 rfl (by first | rfl | exact bI_nar _) ⟨Nat.zero_le _, Nat.zero_le _, rfl, ?_, ?_⟩
      · first | (rw [wit_f1 c2]; rfl) | (rw [wit_f2 c7]; rfl) | (rw [wit_t c2 c7]; rfl)
      · rfl
    · refine g_iconst (v := 1) h dX2_within_10 (by decide) ?_
      refine g_goto h dX2_within_11 rfl ?_
      refine g_ireturn h dX2_within_15 rfl (by first | rfl | exact bI_nar _) ⟨Nat.zero_le _, Nat.zero_le _, rfl, ?_, ?_⟩
      · first | (rw [wit_f1 c2]; rfl) | (rw [wit_f2 c7]; rfl) | (rw [wit_t c2 c7]; rfl)
      · rfl
set_option maxHeartbeats 4000000 in
set_option maxRecDepth 100000 in
theorem kX3_length {l : Launch} {E : gE} {h0 h1 h2 cap n : Nat} {fa fb : Nat → Int32}  : CtrF l yX3_length cX3_length 1 (some .int) (gR 0 0) E [.ref h0] (wPr E h0 h1 h2 cap n fa fb) (some (.int (nI n))) (wPr E h0 h1 h2 cap n fa fb) := by
  refine ctr_of false (plainFor_of_name (by decide)) (Nat.le_of_ble_eq_true rfl) (fun q => by cases q) (fun Γ h => ?_)
  refine g_lv [some _] rfl ?_
  refine g_aload_n h dX3_length_0 rfl ?_
  refine g_get h flX3_22 dX3_length_1 0 rfl rfl ?_
  refine g_ireturn h dX3_length_4 rfl rfl ⟨Nat.zero_le _, Nat.zero_le _, rfl, ?_, ?_⟩
  · rfl
  · rfl
set_option maxHeartbeats 4000000 in
set_option maxRecDepth 100000 in
theorem kX3_has {l : Launch} {E : gE} {h0 h1 h2 cap n : Nat} {fa fb : Nat → Int32} {i : Int32} (hn : n < 2 ^ 31) : CtrF l yX3_has cX3_has 2 (some .boolean) (gR 0 0) E [.ref h0, .int i] (wPr E h0 h1 h2 cap n fa fb) (some (.int (bI (pin i n)))) (wPr E h0 h1 h2 cap n fa fb) := by
  refine ctr_of false (plainFor_of_name (by decide)) (Nat.le_of_ble_eq_true rfl) (fun q => by cases q) (fun Γ h => ?_)
  refine g_lv [some _, some _] rfl ?_
  refine g_iload_n h dX3_has_0 rfl ?_
  refine g_if_lt h dX3_has_1 rfl (fun c1 => ?_) (fun c1 => ?_)
  · refine g_iconst (v := 0) h dX3_has_16 (by decide) ?_
    refine g_ireturn h dX3_has_17 rfl (by first | rfl | exact bI_nar _) ⟨Nat.zero_le _, Nat.zero_le _, rfl, ?_, ?_⟩
    · first | (rw [pin_f1 c1]; rfl) | (rw [pin_f2 hn c9]; rfl) | (rw [pin_t hn c1 c9]; rfl)
    · rfl
  · refine g_iload_n h dX3_has_4 rfl ?_
    refine g_aload_n h dX3_has_5 rfl ?_
    refine g_get h flX3_22 dX3_has_6 0 rfl rfl ?_
    refine g_ic_ge h dX3_has_9 rfl (fun c9 => ?_) (fun c9 => ?_)
    · refine g_iconst (v := 0) h dX3_has_16 (by decide) ?_
      refine g_ireturn h dX3_has_17 rfl (by first | rfl | exact bI_nar _) ⟨Nat.zero_le _, Nat.zero_le _, rfl, ?_, ?_⟩
      · first | (rw [pin_f1 c1]; rfl) | (rw [pin_f2 hn c9]; rfl) | (rw [pin_t hn c1 c9]; rfl)
      · rfl
    · refine g_iconst (v := 1) h dX3_has_12 (by decide) ?_
      refine g_goto h dX3_has_13 rfl ?_
      refine g_ireturn h dX3_has_17 rfl (by first | rfl | exact bI_nar _) ⟨Nat.zero_le _, Nat.zero_le _, rfl, ?_, ?_⟩
      · first | (rw [pin_f1 c1]; rfl) | (rw [pin_f2 hn c9]; rfl) | (rw [pin_t hn c1 c9]; rfl)
      · rfl
set_option maxHeartbeats 4000000 in
set_option maxRecDepth 100000 in
theorem kX3_isFull {l : Launch} {E : gE} {h0 h1 h2 cap n : Nat} {fa fb : Nat → Int32} (hn : n < 2 ^ 31) (hc : cap < 2 ^ 31) : CtrF l yX3_isFull cX3_isFull 1 (some .boolean) (gR 0 0) E [.ref h0] (wPr E h0 h1 h2 cap n fa fb) (some (.int (bI (decide (cap ≤ n))))) (wPr E h0 h1 h2 cap n fa fb) := by
  refine ctr_of false (plainFor_of_name (by decide)) (Nat.le_of_ble_eq_true rfl) (fun q => by cases q) (fun Γ h => ?_)
  refine g_lv [some _] rfl ?_
  refine g_aload_n h dX3_isFull_0 rfl ?_
  refine g_get h flX3_22 dX3_isFull_1 0 rfl rfl ?_
  refine g_aload_n h dX3_isFull_4 rfl ?_
  refine g_get h flX3_13 dX3_isFull_5 0 rfl rfl ?_
  refine g_alen0 h dX3_isFull_8 1 rfl ?_
  refine g_ic_lt h dX3_isFull_9 rfl (fun c9 => ?_) (fun c9 => ?_)
  · replace c9 := (nI_ltI (by omega) (by omega)).mp c9
    refine g_iconst (v := 0) h dX3_isFull_16 (by decide) ?_
    refine g_ireturn h dX3_isFull_17 rfl (by first | rfl | exact bI_nar _) ⟨Nat.zero_le _, Nat.zero_le _, rfl, ?_, ?_⟩
    · simp_all [bI]
    · rfl
  · replace c9 := (not_congr (nI_ltI (by omega) (by omega))).mp c9
    refine g_iconst (v := 1) h dX3_isFull_12 (by decide) ?_
    refine g_goto h dX3_isFull_13 rfl ?_
    refine g_ireturn h dX3_isFull_17 rfl (by first | rfl | exact bI_nar _) ⟨Nat.zero_le _, Nat.zero_le _, rfl, ?_, ?_⟩
    · simp_all [bI]
    · rfl
set_option maxHeartbeats 4000000 in
set_option maxRecDepth 100000 in
theorem kX3_first {l : Launch} {E : gE} {h0 h1 h2 cap n : Nat} {fa fb : Nat → Int32} {i : Int32} (hn : n ≤ cap) (hc : cap < 2 ^ 31) : CtrF l yX3_first cX3_first 2 (some .int) (gR 1 21) E [.ref h0, .int i] (wPr E h0 h1 h2 cap n fa fb) (some (.int (pget fa n i))) (wPr E h0 h1 h2 cap n fa fb) := by
  refine ctr_of false (plainFor_of_name (by decide)) (Nat.le_of_ble_eq_true rfl) (fun q => by cases q) (fun Γ h => ?_)
  refine g_lv [some _, some _] rfl ?_
  refine g_aload_n h dX3_first_0 rfl ?_
  refine g_iload_n h dX3_first_1 rfl ?_
  refine g_cVr h (kX3_has (by omega)) mX3_has lkX3_26 dX3_first_2 rfl rfl ⟨Nat.zero_le _, Nat.zero_le _⟩ ⟨by decide, by decide⟩ (Nat.le_of_ble_eq_true rfl) [0, 1, 2] rfl rfl 0 rfl rfl ?_
  refine g_ifb_eq h dX3_first_5 rfl (fun c5 => ?_) (fun c5 => ?_)
  · refine g_iconst (v := 0) h dX3_first_17 (by decide) ?_
    refine g_ireturn h dX3_first_18 rfl rfl ⟨Nat.zero_le _, Nat.zero_le _, rfl, ?_, ?_⟩
    · first | (rw [pget_lt hk (by omega)]; done) | (simp [pget, c5]; done)
    · rfl
  · obtain ⟨k, hk, rfl⟩ := pin_ex c5 (by omega)
    refine g_aload_n h dX3_first_8 rfl ?_
    refine g_get h flX3_13 dX3_first_9 0 rfl rfl ?_
    refine g_iload_n h dX3_first_12 rfl ?_
    refine g_iald h dX3_first_13 1 _ rfl rfl (by omega) (by omega) ?_
    refine g_goto h dX3_first_14 rfl ?_
    refine g_ireturn h dX3_first_18 rfl rfl ⟨Nat.zero_le _, Nat.zero_le _, rfl, ?_, ?_⟩
    · first | (rw [pget_lt hk (by omega)]; done) | (simp [pget, c5]; done)
    · rfl
set_option maxHeartbeats 4000000 in
set_option maxRecDepth 100000 in
theorem kX3_second {l : Launch} {E : gE} {h0 h1 h2 cap n : Nat} {fa fb : Nat → Int32} {i : Int32} (hn : n ≤ cap) (hc : cap < 2 ^ 31) : CtrF l yX3_second cX3_second 2 (some .int) (gR 1 21) E [.ref h0, .int i] (wPr E h0 h1 h2 cap n fa fb) (some (.int (pget fb n i))) (wPr E h0 h1 h2 cap n fa fb) := by
  refine ctr_of false (plainFor_of_name (by decide)) (Nat.le_of_ble_eq_true rfl) (fun q => by cases q) (fun Γ h => ?_)
  refine g_lv [some _, some _] rfl ?_
  refine g_aload_n h dX3_second_0 rfl ?_
  refine g_iload_n h dX3_second_1 rfl ?_
  refine g_cVr h (kX3_has (by omega)) mX3_has lkX3_26 dX3_second_2 rfl rfl ⟨Nat.zero_le _, Nat.zero_le _⟩ ⟨by decide, by decide⟩ (Nat.le_of_ble_eq_true rfl) [0, 1, 2] rfl rfl 0 rfl rfl ?_
  refine g_ifb_eq h dX3_second_5 rfl (fun c5 => ?_) (fun c5 => ?_)
  · refine g_iconst (v := 0) h dX3_second_17 (by decide) ?_
    refine g_ireturn h dX3_second_18 rfl rfl ⟨Nat.zero_le _, Nat.zero_le _, rfl, ?_, ?_⟩
    · first | (rw [pget_lt hk (by omega)]; done) | (simp [pget, c5]; done)
    · rfl
  · obtain ⟨k, hk, rfl⟩ := pin_ex c5 (by omega)
    refine g_aload_n h dX3_second_8 rfl ?_
    refine g_get h flX3_19 dX3_second_9 0 rfl rfl ?_
    refine g_iload_n h dX3_second_12 rfl ?_
    refine g_iald h dX3_second_13 2 _ rfl rfl (by omega) (by omega) ?_
    refine g_goto h dX3_second_14 rfl ?_
    refine g_ireturn h dX3_second_18 rfl rfl ⟨Nat.zero_le _, Nat.zero_le _, rfl, ?_, ?_⟩
    · first | (rw [pget_lt hk (by omega)]; done) | (simp [pget, c5]; done)
    · rfl
set_option maxHeartbeats 4000000 in
set_option maxRecDepth 100000 in
theorem kX3_append {l : Launch} {E : gE} {h0 h1 h2 cap n : Nat} {fa fb : Nat → Int32} {x y : Int32} (hn : n < cap) (hc : cap < 2 ^ 31) : CtrF l yX3_append cX3_append 3 (some .int) (gR 1 20) E [.ref h0, .int x, .int y] (wPr E h0 h1 h2 cap n fa fb) (some (.int (nI n))) (wPr E h0 h1 h2 cap (n + 1) (upd fa n x) (upd fb n y)) := by
  refine ctr_of false (plainFor_of_name (by decide)) (Nat.le_of_ble_eq_true rfl) (fun q => by cases q) (fun Γ h => ?_)
  refine g_lv [some _, some _, some _] rfl ?_
  refine g_aload_n h dX3_append_0 rfl ?_
  refine g_cVr h (kX3_isFull (by omega) hc) mX3_isFull lkX3_30 dX3_append_1 rfl rfl ⟨Nat.zero_le _, Nat.zero_le _⟩ ⟨by decide, by decide⟩ (Nat.le_of_ble_eq_true rfl) [0, 1, 2] rfl rfl 0 rfl rfl ?_
  refine g_ifb_ne h dX3_append_4 rfl (fun c4 => ?_) (fun c4 => ?_)
  · exact absurd (of_decide_eq_true c4) (by omega)
  · refine g_aload_n h dX3_append_7 rfl ?_
    refine g_get h flX3_13 dX3_append_8 0 rfl rfl ?_
    refine g_aload_n h dX3_append_11 rfl ?_
    refine g_get h flX3_22 dX3_append_12 0 rfl rfl ?_
    refine g_iload_n h dX3_append_15 rfl ?_
    refine g_iast (ws' := [_, _, _]) h dX3_append_16 1 _ rfl rfl (by omega) (by omega) rfl ?_
    refine g_aload_n h dX3_append_17 rfl ?_
    refine g_get h flX3_19 dX3_append_18 0 rfl rfl ?_
    refine g_aload_n h dX3_append_21 rfl ?_
    refine g_get h flX3_22 dX3_append_22 0 rfl rfl ?_
    refine g_iload_n h dX3_append_25 rfl ?_
    refine g_iast (ws' := [_, _, _]) h dX3_append_26 2 _ rfl rfl (by omega) (by omega) rfl ?_
    refine g_aload_n h dX3_append_27 rfl ?_
    refine g_dup h dX3_append_28 rfl ?_
    refine g_get h flX3_22 dX3_append_29 0 rfl rfl ?_
    refine g_iconst (v := 1) h dX3_append_32 (by decide) ?_
    refine g_iadd h dX3_append_33 ?_
    refine g_topi _ (nI_add _ 1) ?_
    refine g_put (ws' := [_, _, _]) (ty := .int) h flX3_22 gftX3 rfl (by decide +kernel) dX3_append_34 0 rfl rfl rfl (Nat.le_of_ble_eq_true rfl) rfl ?_
    refine g_aload_n h dX3_append_37 rfl ?_
    refine g_get h flX3_22 dX3_append_38 0 rfl rfl ?_
    refine g_iconst (v := 1) h dX3_append_41 (by decide) ?_
    refine g_isub h dX3_append_42 ?_
    refine g_topi _ (nI_pred n) ?_
    refine g_ireturn h dX3_append_43 rfl rfl ⟨Nat.zero_le _, Nat.zero_le _, rfl, ?_, ?_⟩
    · rfl
    · rfl
set_option maxHeartbeats 4000000 in
set_option maxRecDepth 100000 in
theorem kX3_removeAt {l : Launch} {E : gE} {h0 h1 h2 cap n : Nat} {fa fb : Nat → Int32} {k : Nat} (hk : k < n) (hn : n ≤ cap) (hc : cap < 2 ^ 31) : CtrF l yX3_removeAt cX3_removeAt 3 none (gR 1 21) E [.ref h0, .int (nI k)] (wPr E h0 h1 h2 cap n fa fb) none (wPr E h0 h1 h2 cap (n - 1) (shl fa k (n - 1)) (shl fb k (n - 1))) := by
  refine ctr_of false (plainFor_of_name (by decide)) (Nat.le_of_ble_eq_true rfl) (fun q => by cases q) (fun Γ h => ?_)
  refine g_lv [some _, some _, _] rfl ?_
  refine g_aload_n h dX3_removeAt_0 rfl ?_
  refine g_iload_n h dX3_removeAt_1 rfl ?_
  refine g_cVr h (kX3_has (by omega)) mX3_has lkX3_26 dX3_removeAt_2 rfl rfl ⟨Nat.zero_le _, Nat.zero_le _⟩ ⟨by decide, by decide⟩ (Nat.le_of_ble_eq_true rfl) [0, 1, 2] rfl rfl 0 rfl rfl ?_
  refine g_ifb_eq h dX3_removeAt_5 rfl (fun c5 => ?_) (fun c5 => ?_)
  · rw [pin_lt hk (by omega)] at c5; cases c5
  · refine g_aload_n h dX3_removeAt_8 rfl ?_
    refine g_dup h dX3_removeAt_9 rfl ?_
    refine g_get h flX3_22 dX3_removeAt_10 0 rfl rfl ?_
    refine g_iconst (v := 1) h dX3_removeAt_13 (by decide) ?_
    refine g_isub h dX3_removeAt_14 ?_
    refine g_topi _ (nI_m1 (by omega)) ?_
    refine g_put (ws' := [_, _, _]) (ty := .int) h flX3_22 gftX3 rfl (by decide +kernel) dX3_removeAt_15 0 rfl rfl rfl (Nat.le_of_ble_eq_true rfl) rfl ?_
    refine g_iload_n h dX3_removeAt_18 rfl ?_
    refine g_istore_n (lv' := [some _, some _, some _]) h dX3_removeAt_19 (by decide) rfl ?_
    have loop20 : ∀ (j : Nat) (t : Nat) (_ : k ≤ t) (_ : t ≤ n - 1), n - 1 - t < j → Γ 0 0 20 [some (.ref h0), some (.int (nI k)), some (.int (nI t))] [] (wPr E h0 h1 h2 cap (n - 1) (shl fa k t) (shl fb k t)) := by
      intro j
      induction j with
      | zero => intro t ht1 ht2 hj; exact absurd hj (Nat.not_lt_zero _)
      | succ j ih =>
        intro t ht1 ht2 hj
        refine g_iload_n h dX3_removeAt_20 rfl ?_
        refine g_aload_n h dX3_removeAt_21 rfl ?_
        refine g_get h flX3_22 dX3_removeAt_22 0 rfl rfl ?_
        refine g_ic_ge h dX3_removeAt_25 rfl (fun c25 => ?_) (fun c25 => ?_)
        · replace c25 := (nI_leI (by omega) (by omega)).mp c25
          refine g_return h dX3_removeAt_62 rfl ⟨Nat.zero_le _, Nat.zero_le _, rfl, ?_, ?_⟩
          · rfl
          · rw [show t = n - 1 by omega]
        · replace c25 := (not_congr (nI_leI (by omega) (by omega))).mp c25
          refine g_aload_n h dX3_removeAt_28 rfl ?_
          refine g_get h flX3_13 dX3_removeAt_29 0 rfl rfl ?_
          refine g_iload_n h dX3_removeAt_32 rfl ?_
          refine g_aload_n h dX3_removeAt_33 rfl ?_
          refine g_get h flX3_13 dX3_removeAt_34 0 rfl rfl ?_
          refine g_iload_n h dX3_removeAt_37 rfl ?_
          refine g_iconst (v := 1) h dX3_removeAt_38 (by decide) ?_
          refine g_iadd h dX3_removeAt_39 ?_
          refine g_topi _ (nI_add _ 1) ?_
          refine g_iald h dX3_removeAt_40 1 _ rfl rfl (by omega) (by omega) ?_
          refine g_iast (ws' := [_, _, _]) h dX3_removeAt_41 1 _ rfl rfl (by omega) (by omega) rfl ?_
          refine g_aload_n h dX3_removeAt_42 rfl ?_
          refine g_get h flX3_19 dX3_removeAt_43 0 rfl rfl ?_
          refine g_iload_n h dX3_removeAt_46 rfl ?_
          refine g_aload_n h dX3_removeAt_47 rfl ?_
          refine g_get h flX3_19 dX3_removeAt_48 0 rfl rfl ?_
          refine g_iload_n h dX3_removeAt_51 rfl ?_
          refine g_iconst (v := 1) h dX3_removeAt_52 (by decide) ?_
          refine g_iadd h dX3_removeAt_53 ?_
          refine g_topi _ (nI_add _ 1) ?_
          refine g_iald h dX3_removeAt_54 2 _ rfl rfl (by omega) (by omega) ?_
          refine g_iast (ws' := [_, _, _]) h dX3_removeAt_55 2 _ rfl rfl (by omega) (by omega) rfl ?_
          refine g_iinc (lv' := [some _, some _, some _]) h dX3_removeAt_56 rfl (nI_inc1 _) (by decide) rfl ?_
          refine g_goto h dX3_removeAt_59 rfl ?_
          refine g_as rfl rfl rfl (show _ = wPr E h0 h1 h2 cap (n - 1) (shl fa k (t + 1)) (shl fb k (t + 1)) by rw [← shl_s fa ht1, ← shl_s fb ht1] <;> rfl) ?_
          exact ih (t + 1) (by omega) (by omega) (by omega)
    refine g_as rfl rfl rfl (show _ = wPr E h0 h1 h2 cap (n - 1) (shl fa k k) (shl fb k k) by rw [shl_0, shl_0] <;> rfl) ?_
    exact loop20 _ k (Nat.le_refl _) (by omega) (Nat.lt_succ_self _)
set_option maxHeartbeats 4000000 in
set_option maxRecDepth 100000 in
theorem kX3_clear {l : Launch} {E : gE} {h0 h1 h2 cap n : Nat} {fa fb : Nat → Int32}  : CtrF l yX3_clear cX3_clear 1 none (gR 0 0) E [.ref h0] (wPr E h0 h1 h2 cap n fa fb) none (wPr E h0 h1 h2 cap 0 fa fb) := by
  refine ctr_of false (plainFor_of_name (by decide)) (Nat.le_of_ble_eq_true rfl) (fun q => by cases q) (fun Γ h => ?_)
  refine g_lv [some _] rfl ?_
  refine g_aload_n h dX3_clear_0 rfl ?_
  refine g_iconst (v := 0) h dX3_clear_1 (by decide) ?_
  refine g_put (ws' := [_, _, _]) (ty := .int) h flX3_22 gftX3 rfl (by decide +kernel) dX3_clear_2 0 rfl rfl rfl (Nat.le_of_ble_eq_true rfl) rfl ?_
  refine g_return h dX3_clear_5 rfl ⟨Nat.zero_le _, Nat.zero_le _, rfl, ?_, ?_⟩
  · rfl
  · rfl
set_option maxHeartbeats 4000000 in
set_option maxRecDepth 100000 in
theorem kX3_copyFrom {l : Launch} {E : gE} {h0 h1 h2 h3 h4 h5 cap cap2 n m : Nat} {fa fb ga gb : Nat → Int32} (hm : m ≤ cap) (hm2 : m ≤ cap2) (hc : cap < 2 ^ 31) (hc2 : cap2 < 2 ^ 31) : CtrF l yX3_copyFrom cX3_copyFrom 3 none (gR 2 42) E [.ref h0, .ref h3] (wPr E h0 h1 h2 cap n fa fb ++ wPr E h3 h4 h5 cap2 m ga gb) none (wPr E h0 h1 h2 cap m (cpy ga fa m) (cpy gb fb m) ++ wPr E h3 h4 h5 cap2 m ga gb) := by
  refine ctr_of false (plainFor_of_name (by decide)) (Nat.le_of_ble_eq_true rfl) (fun q => by cases q) (fun Γ h => ?_)
  refine g_lv [some _, some _, _] rfl ?_
  refine g_aload_n h dX3_copyFrom_0 rfl ?_
  refine g_cVv (ws' := [_, _, _, _, _, _]) h kX3_clear mX3_clear lkX3_34 dX3_copyFrom_1 rfl rfl ⟨Nat.zero_le _, Nat.zero_le _⟩ ⟨by decide, by decide⟩ (Nat.le_of_ble_eq_true rfl) [0, 1, 2] rfl rfl 0 rfl rfl rfl ?_
  refine g_iconst (v := 0) h dX3_copyFrom_4 (by decide) ?_
  refine g_istore_n (lv' := [some _, some _, some _]) h dX3_copyFrom_5 (by decide) rfl ?_
  have loop6 : ∀ (j : Nat) (t : Nat) (_ : t ≤ m), m - t < j → Γ 0 0 6 [some (.ref h0), some (.ref h3), some (.int (nI t))] [] (wPr E h0 h1 h2 cap t (cpy ga fa t) (cpy gb fb t) ++ wPr E h3 h4 h5 cap2 m ga gb) := by
    intro j
    induction j with
    | zero => intro t ht hj; exact absurd hj (Nat.not_lt_zero _)
    | succ j ih =>
      intro t ht hj
      refine g_iload_n h dX3_copyFrom_6 rfl ?_
      refine g_aload_n h dX3_copyFrom_7 rfl ?_
      refine g_get h flX3_22 dX3_copyFrom_8 3 rfl rfl ?_
      refine g_ic_ge h dX3_copyFrom_11 rfl (fun c11 => ?_) (fun c11 => ?_)
      · replace c11 := (nI_leI (by omega) (by omega)).mp c11
        refine g_return h dX3_copyFrom_37 rfl ⟨Nat.zero_le _, Nat.zero_le _, rfl, ?_, ?_⟩
        · rfl
        · rw [show t = m by omega]
      · replace c11 := (not_congr (nI_leI (by omega) (by omega))).mp c11
        refine g_aload_n h dX3_copyFrom_14 rfl ?_
        refine g_aload_n h dX3_copyFrom_15 rfl ?_
        refine g_get h flX3_13 dX3_copyFrom_16 3 rfl rfl ?_
        refine g_iload_n h dX3_copyFrom_19 rfl ?_
        refine g_iald h dX3_copyFrom_20 4 _ rfl rfl (by omega) (by omega) ?_
        refine g_aload_n h dX3_copyFrom_21 rfl ?_
        refine g_get h flX3_19 dX3_copyFrom_22 3 rfl rfl ?_
        refine g_iload_n h dX3_copyFrom_25 rfl ?_
        refine g_iald h dX3_copyFrom_26 5 _ rfl rfl (by omega) (by omega) ?_
        refine g_cVw (ws' := [_, _, _, _, _, _]) h (kX3_append (by omega) hc) mX3_append lkX3_37 dX3_copyFrom_27 rfl rfl ⟨Nat.zero_le _, Nat.zero_le _⟩ ⟨by decide, by decide⟩ (Nat.le_of_ble_eq_true rfl) [0, 1, 2] rfl rfl 0 rfl rfl rfl ?_
        refine g_pop h dX3_copyFrom_30 rfl ?_
        refine g_iinc (lv' := [some _, some _, some _]) h dX3_copyFrom_31 rfl (nI_inc1 _) (by decide) rfl ?_
        refine g_goto h dX3_copyFrom_34 rfl ?_
        refine g_as rfl rfl rfl (show _ = wPr E h0 h1 h2 cap (t + 1) (cpy ga fa (t + 1)) (cpy gb fb (t + 1)) ++ wPr E h3 h4 h5 cap2 m ga gb by rw [← cpy_s, ← cpy_s] <;> rfl) ?_
        exact ih (t + 1) (by omega) (by omega)
  refine g_as rfl rfl rfl (show _ = wPr E h0 h1 h2 cap 0 (cpy ga fa 0) (cpy gb fb 0) ++ wPr E h3 h4 h5 cap2 m ga gb by rw [cpy_0, cpy_0] <;> rfl) ?_
  exact loop6 _ 0 (Nat.zero_le _) (Nat.lt_succ_self _)
end
section
def absL (x : Int64) : Int64 := if 0 ≤ x then x else -x
def remL (a b : Int64) : Int64 := a - a / b * b
/-- Euclid's steps, at most so many -/
def eu : Nat → Int64 → Int64 → Int64
  | 0, a, _ => a
  | n + 1, a, b => if b = 0 then a else eu n b (a - a / b * b)
theorem eu_z (n : Nat) (a : Int64) : eu n a 0 = a := by cases n <;> simp [eu]
theorem eu_s {n : Nat} {a b : Int64} (h : ¬ b = 0) : eu (n + 1) a b = eu n b (a - a / b * b) := by simp [eu, h]
/-- a part of a fraction in lowest terms -/
def lows (a u : Int64) (b : Bool) : Int64 := if eu 100 (absL a) u ≤ 1 then (if b then u else a) else (if b then u else a) / eu 100 (absL a) u
def fdv (a b : Int64) : Int64 := if 0 ≤ a ^^^ b then a / b else if a / b * b = a then a / b else a / b - 1
def fmd (a b : Int64) : Int64 := if 0 ≤ a ^^^ b then a - a / b * b else if a - a / b * b = 0 then a - a / b * b else a - a / b * b + b
def cmpL (x y : Int64) : Int32 := if y ≤ x then (if x = y then 0 else 1) else -1
/-- which fraction is the lesser: whole parts first, then what is left, turned round; at most so many steps -/
def ordr : Nat → Int64 → Int64 → Int64 → Int64 → Int32
  | 0, _, _, _, _ => 0
  | n + 1, a, b, c, d => if b ≤ 0 then 0 else if d ≤ 0 then 0 else if fdv a b = fdv c d then (if a - fdv a b * b = 0 then cmpL (a - fdv a b * b) (c - fdv c d * d) else if c - fdv c d * d = 0 then cmpL (a - fdv a b * b) (c - fdv c d * d) else ordr n d (c - fdv c d * d) b (a - fdv a b * b)) else cmpL (fdv a b) (fdv c d)
def ushr (x y : Int32) : Int32 := (x.toUInt32 >>> (y.toUInt32 &&& Int32.toUInt32 31)).toInt32
def bc1 (x : Int32) : Int32 := x - (ushr x 1 &&& 1431655765)
def bc2 (x : Int32) : Int32 := (x &&& 858993459) + (ushr x 2 &&& 858993459)
def bc3 (x : Int32) : Int32 := (x + ushr x 4) &&& 252645135
def bc4 (x : Int32) : Int32 := x + ushr x 8
def bc5 (x : Int32) : Int32 := x + ushr x 16
def bcE (x : Int32) : Int32 := bc5 (bc4 (bc3 (bc2 (bc1 x)))) &&& 63
/-- how many bits, of eight -/
def popc (k : Nat) : Nat := k % 2 + k / 2 % 2 + k / 4 % 2 + k / 8 % 2 + k / 16 % 2 + k / 32 % 2 + k / 64 % 2 + k / 128 % 2
theorem bcE_ok : ∀ k, k < 256 → bcE (nI k) = nI (popc k) := by decide +kernel
theorem wit_nat {s : Int32} {m : Nat} (M : Int32) (hM : M.toInt = m) (hm : m + 1 < 2 ^ 31) (h : wit s 0 M = true) : ∃ k, k ≤ m ∧ s = nI k := by
  simp only [wit, Bool.and_eq_true, decide_eq_true_eq, i32_le] at h
  have h0 : (0 : Int32).toInt = 0 := rfl
  rw [h0, hM] at h
  obtain ⟨k, h1, h2⟩ := vp_in_of (x := s) (n := m + 1) (vp_in_iff.mpr ⟨h.1, by omega⟩) (by omega)
  exact ⟨k, by omega, h2⟩
theorem wit_st {s : Int32} (h : wit s 0 35 = true) : ∃ k, k < 36 ∧ s = nI k := by
  obtain ⟨k, h1, h2⟩ := wit_nat (m := 35) 35 rfl (by decide) h
  exact ⟨k, by omega, h2⟩
theorem wit_nI {k m : Nat} (M : Int32) (hM : M = nI m) (hk : k < 2 ^ 31) (hm : m < 2 ^ 31) : wit (nI k) 0 M = decide (k ≤ m) := by
  subst hM
  simp only [wit, i32_le, nI_toInt hk, nI_toInt hm]
  have h0 : (0 : Int32).toInt = 0 := rfl
  rw [h0]
  simp
theorem st_ok {k : Nat} (hk : k < 36) : wit (nI k) 0 35 = true := by
  rw [wit_nI (m := 35) 35 rfl (by omega) (by decide)]
  exact decide_eq_true (by omega)
/-- spans: for each state whether it has one, from, to -/
abbrev wSp (E : gE) (h0 h1 h2 h3 : Nat) (th : Nat → Bool) (fr to : Nat → Int32) : va_W := [(h0, .inr (6, [.ref h1, .ref h2, .ref h3])), (h1, .inl (E.2 3, 36, .inl (fun j => bI (th j)))), (h2, .inl (E.2 0, 36, .inl fr)), (h3, .inl (E.2 0, 36, .inl to))]
def spHas (th : Nat → Bool) (s : Int32) : Bool := wit s 0 35 && th s.toNatClampNeg
theorem spHas_lt {th : Nat → Bool} {k : Nat} (hk : k < 36) : spHas th (nI k) = th k := by
  rw [spHas, st_ok hk, nI_clamp (by omega), Bool.true_and]
def updB (f : Nat → Bool) (k : Nat) (b : Bool) : Nat → Bool := fun j => if j = k then b else f j
theorem updB_eq (th : Nat → Bool) (k : Nat) (b : Bool) : upd (fun j => bI (th j)) k (vp_nar .boolean (bI b)) = fun j => bI (updB th k b j) := by
  funext j
  unfold upd updB
  by_cases hj : j = k
  · rw [if_pos hj, if_pos hj]; cases b <;> rfl
  · rw [if_neg hj, if_neg hj]
def cnt (p : Nat → Bool) : Nat → Nat
  | 0 => 0
  | n + 1 => cnt p n + (if p n then 1 else 0)
theorem cnt_t {p : Nat → Bool} {k : Nat} (h : p k = true) : cnt p k + 1 = cnt p (k + 1) := by simp [cnt, h]
theorem cnt_f {p : Nat → Bool} {k : Nat} (h : p k = false) : cnt p k = cnt p (k + 1) := by simp [cnt, h]
theorem cnt_le (p : Nat → Bool) : ∀ n, cnt p n ≤ n
  | 0 => Nat.le_refl 0
  | n + 1 => by
    have := cnt_le p n
    unfold cnt
    split <;> omega
theorem cpyB_s (g f : Nat → Bool) (m : Nat) : upd (fun j => bI (cpy g f m j)) m (vp_nar .boolean (bI (g m))) = fun j => bI (cpy g f (m + 1) j) := by
  rw [updB_eq]
  funext j
  unfold updB cpy
  by_cases hj : j = m
  · subst hj; simp
  · rw [if_neg hj]
    by_cases h2 : j < m
    · rw [if_pos h2, if_pos (by omega)]
    · rw [if_neg h2, if_neg (by omega)]
/-- the trial: days of a state and a gain -/
abbrev wTr (E : gE) (h0 h1 h2 h3 n : Nat) (fs fg : Nat → Int32) : va_W := (h0, .inr (8, [.ref h1])) :: wPr E h1 h2 h3 60 n fs fg
def atP (fs : Nat → Int32) (p : Int32) (k : Nat) : Bool := decide (p = -1) || decide (fs k / 6 = p)
def gsum (fs fg : Nat → Int32) (p : Int32) : Nat → Int32
  | 0 => 0
  | n + 1 => if atP fs p n then gsum fs fg p n + fg n else gsum fs fg p n
def absI (x : Int32) : Int32 := if 0 ≤ x then x else -x
def maxI (x y : Int32) : Int32 := if x < y then y else x
/-- greatest change so far, whether a day was, the last one's gain -/
def gturn (fs fg : Nat → Int32) (p : Int32) : Nat → Int32 × Bool × Int32
  | 0 => (0, false, 0)
  | n + 1 => if atP fs p n then (if (gturn fs fg p n).2.1 then maxI (gturn fs fg p n).1 (absI (fg n - (gturn fs fg p n).2.2)) else (gturn fs fg p n).1, true, fg n) else gturn fs fg p n
/-- causes: their kinds, and their two numbers -/
abbrev wCa (E : gE) (h0 h1 h2 h3 h4 : Nat) (kd : Nat → Int32) (n : Nat) (fa fb : Nat → Int32) : va_W := (h0, .inr (0, [.ref h1, .ref h2])) :: (h1, .inl (E.2 0, 8, .inl kd)) :: wPr E h2 h3 h4 8 n fa fb
def allw (kind a b : Int32) : Bool := if kind.toInt = 0 then true else if kind.toInt = 1 ∨ kind.toInt = 5 then wit a 0 3 && wit b 1 3 else if kind.toInt = 2 ∨ kind.toInt = 3 ∨ kind.toInt = 4 then wit a (-2) 2 && wit b (-2) 2 else false
def hang (p a b z : Int32) : Int32 := if 2 ≤ p then (if p - 2 - a + 4 - (p - 2 - a + 4) / 4 * 4 = 0 then b else if p - 2 - a + 4 - (p - 2 - a + 4) / 4 * 4 = 2 then -b else z) else 0
def shF (kind a b s : Int32) : Int32 :=
  if kind.toInt = 1 then hang (s / 6) a b 0
  else if kind.toInt = 2 then (if 3 ≤ s - s / 6 * 6 then b else a)
  else if kind.toInt = 3 then (if 3 ≤ s - s / 6 * 6 then b else a) + (if s - s / 3 * 3 = 0 then 1 else 0)
  else if kind.toInt = 4 then a * (s - s / 3 * 3 - 1) + (if s - s / 3 * 3 = 1 then b else 0)
  else if kind.toInt = 5 then hang (s / 6) a b 1 else 1
def shw (kd : Nat → Int32) (n : Nat) (fa fb : Nat → Int32) (c s : Int32) : Int32 := if pin c n && wit s 0 35 then shF (kd c.toNatClampNeg) (fa c.toNatClampNeg) (fb c.toNatClampNeg) s else 0
theorem shw_lt {kd : Nat → Int32} {n : Nat} {fa fb : Nat → Int32} {c : Nat} {s : Int32} (hc : c < n) (hn : n ≤ 8) (hs : wit s 0 35 = true) : shw kd n fa fb (nI c) s = shF (kd c) (fa c) (fb c) s := by
  rw [shw, pin_lt hc (by omega), hs, nI_clamp (by omega)]
  rfl
theorem wSp_as {E : gE} {h0 h1 h2 h3 : Nat} {f0 : Nat → Int32} {th : Nat → Bool} {fr to : Nat → Int32} (e : f0 = fun j => bI (th j)) : [(h0, .inr (6, [.ref h1, .ref h2, .ref h3])), (h1, .inl (E.2 3, 36, .inl f0)), (h2, .inl (E.2 0, 36, .inl fr)), (h3, .inl (E.2 0, 36, .inl to))] = wSp E h0 h1 h2 h3 th fr to := by rw [e]
theorem le_f {a b : Int32} (h : b < a) : decide (a ≤ b) = false := decide_eq_false (fun q => by rw [i32_le] at q; rw [i32_lt] at h; omega)
theorem le_t {a b : Int32} (h : ¬ b < a) : decide (a ≤ b) = true := decide_eq_true (by rw [i32_le]; rw [i32_lt] at h; omega)
theorem leL_f {a b : Int64} (h : b < a) : decide (a ≤ b) = false := decide_eq_false (fun q => by rw [i64_le] at q; rw [i64_lt] at h; omega)
theorem leL_t {a b : Int64} (h : ¬ b < a) : decide (a ≤ b) = true := decide_eq_true (by rw [i64_le]; rw [i64_lt] at h; omega)
end
section
set_option maxHeartbeats 4000000 in
set_option maxRecDepth 100000 in
theorem kX2_commonOf {l : Launch} {E : gE} {a0 b0 : Int64}  : CtrF l yX2_commonOf cX2_commonOf 7 (some .long) (gR 0 0) E [.long a0, .long b0] ([]) (some (.long (eu 100 a0 b0))) ([]) := by
  refine ctr_of false (plainFor_of_name (by decide)) (Nat.le_of_ble_eq_true rfl) (fun q => by cases q) (fun Γ h => ?_)
  refine g_lv [some _, none, some _, none, _, _, _] rfl ?_
  refine g_iconst (v := 0) h dX2_commonOf_0 (by decide) ?_
  refine g_istore (lv' := [some _, none, some _, none, some _, _, _]) h dX2_commonOf_1 (by decide) rfl ?_
  have loop3 : ∀ (j : Nat) (k : Nat) (a b : Int64) (o5 : Option Value) (_ : k ≤ 100) (_ : eu 100 a0 b0 = eu (100 - k) a b), 100 - k < j → Γ 0 0 3 [some (.long a), none, some (.long b), none, some (.int (nI k)), o5, none] [] [] := by
    intro j
    induction j with
    | zero => intro k a b o5 hk hinv hj; exact absurd hj (Nat.not_lt_zero _)
    | succ j ih =>
      intro k a b o5 hk hinv hj
      refine g_iload h dX2_commonOf_3 rfl ?_
      refine g_bipush (v := 100) h dX2_commonOf_5 (by decide) ?_
      refine g_ic_ge h dX2_commonOf_7 rfl (fun c7 => ?_) (fun c7 => ?_)
      · replace c7 := (nI_leI (a := 100) (by omega) (by omega)).mp c7
        refine g_lload_n h dX2_commonOf_32 rfl ?_
        refine g_lreturn h dX2_commonOf_33 rfl ⟨Nat.zero_le _, Nat.zero_le _, rfl, ?_, ?_⟩
        · first | (rw [hinv, show 100 - k = 0 by omega]; rfl) | (rw [hinv, c13, eu_z])
        · rfl
      · replace c7 := (not_congr (nI_leI (a := 100) (by omega) (by omega))).mp c7
        refine g_lload_n h dX2_commonOf_10 rfl ?_
        refine g_lconst (v := 0) h dX2_commonOf_11 (by decide) ?_
        refine g_lcmp h dX2_commonOf_12 ?_
        refine g_lif_eq h dX2_commonOf_13 rfl (fun c13 => ?_) (fun c13 => ?_)
        · refine g_lload_n h dX2_commonOf_32 rfl ?_
          refine g_lreturn h dX2_commonOf_33 rfl ⟨Nat.zero_le _, Nat.zero_le _, rfl, ?_, ?_⟩
          · first | (rw [hinv, show 100 - k = 0 by omega]; rfl) | (rw [hinv, c13, eu_z])
          · rfl
        · refine g_lload_n h dX2_commonOf_16 rfl ?_
          refine g_lload_n h dX2_commonOf_17 rfl ?_
          refine g_lrem h dX2_commonOf_18 c13 ?_
          refine g_lstore (lv' := [some _, none, some _, none, some _, some _, none]) h dX2_commonOf_19 (by decide) rfl ?_
          refine g_lload_n h dX2_commonOf_21 rfl ?_
          refine g_lstore_n (lv' := [some _, none, some _, none, some _, some _, none]) h dX2_commonOf_22 (by decide) rfl ?_
          refine g_lload h dX2_commonOf_23 rfl ?_
          refine g_lstore_n (lv' := [some _, none, some _, none, some _, some _, none]) h dX2_commonOf_25 (by decide) rfl ?_
          refine g_iinc (lv' := [some _, none, some _, none, some _, some _, none]) h dX2_commonOf_26 rfl (nI_inc1 _) (by decide) rfl ?_
          refine g_goto h dX2_commonOf_29 rfl ?_
          exact ih (k + 1) b _ _ (by omega) (by rw [hinv, show 100 - k = 100 - (k + 1) + 1 by omega, eu_s c13]) (by omega)
  exact loop3 _ 0 a0 b0 none (by omega) rfl (Nat.lt_succ_self _)
set_option maxHeartbeats 4000000 in
set_option maxRecDepth 100000 in
theorem kX2_lowest {l : Launch} {E : gE} {a u : Int64} {b : Bool}  : CtrF l yX2_lowest cX2_lowest 9 (some .long) (gR 1 26) E [.long a, .long u, .int (bI b)] ([]) (some (.long (lows a u b))) ([]) := by
  refine ctr_of false (plainFor_of_name (by decide)) (Nat.le_of_ble_eq_true rfl) (fun q => by cases q) (fun Γ h => ?_)
  refine g_lv [some _, none, some _, none, some _, _, _, _, _] rfl ?_
  refine g_iload h dX2_lowest_0 rfl ?_
  refine g_ifb_eq h dX2_lowest_2 rfl (fun c2 => ?_) (fun c2 => ?_)
  · refine g_lload_n h dX2_lowest_9 rfl ?_
    refine g_lstore (lv' := [some _, none, some _, none, some _, some _, none, _, _]) h dX2_lowest_10 (by decide) rfl ?_
    refine g_lload_n h dX2_lowest_12 rfl ?_
    refine g_cSr h kJ9_abs_067f4 mJ9_abs_067f4 lkX2_7 dX2_lowest_13 rfl rfl ⟨Nat.zero_le _, Nat.zero_le _⟩ ⟨by decide, by decide⟩ (Nat.le_of_ble_eq_true rfl) [] rfl rfl ?_
    refine g_lload_n h dX2_lowest_16 rfl ?_
    refine g_cSr h kX2_commonOf mX2_commonOf lkX2_13 dX2_lowest_17 rfl rfl ⟨Nat.zero_le _, Nat.zero_le _⟩ ⟨by decide, by decide⟩ (Nat.le_of_ble_eq_true rfl) [] rfl rfl ?_
    refine g_lstore (lv' := [some _, none, some _, none, some _, some _, none, some _, none]) h dX2_lowest_20 (by decide) rfl ?_
    refine g_lload h dX2_lowest_22 rfl ?_
    refine g_lconst (v := 1) h dX2_lowest_24 (by decide) ?_
    refine g_lcmp h dX2_lowest_25 ?_
    refine g_lif_le h dX2_lowest_26 rfl (fun c26 => ?_) (fun c26 => ?_)
    · refine g_lload h dX2_lowest_37 rfl ?_
      refine g_lreturn h dX2_lowest_39 rfl ⟨Nat.zero_le _, Nat.zero_le _, rfl, ?_, ?_⟩
      · subst c2
        first | exact congrArg (fun x => some (Value.long x)) (if_pos c26).symm | exact congrArg (fun x => some (Value.long x)) (if_neg c26).symm
      · rfl
    · refine g_lload h dX2_lowest_29 rfl ?_
      refine g_lload h dX2_lowest_31 rfl ?_
      refine g_ldiv h dX2_lowest_33 (fun q => by rw [q] at c26; exact c26 (by decide)) ?_
      refine g_goto h dX2_lowest_34 rfl ?_
      refine g_lreturn h dX2_lowest_39 rfl ⟨Nat.zero_le _, Nat.zero_le _, rfl, ?_, ?_⟩
      · subst c2
        first | exact congrArg (fun x => some (Value.long x)) (if_pos c26).symm | exact congrArg (fun x => some (Value.long x)) (if_neg c26).symm
      · rfl
  · refine g_lload_n h dX2_lowest_5 rfl ?_
    refine g_goto h dX2_lowest_6 rfl ?_
    refine g_lstore (lv' := [some _, none, some _, none, some _, some _, none, _, _]) h dX2_lowest_10 (by decide) rfl ?_
    refine g_lload_n h dX2_lowest_12 rfl ?_
    refine g_cSr h kJ9_abs_067f4 mJ9_abs_067f4 lkX2_7 dX2_lowest_13 rfl rfl ⟨Nat.zero_le _, Nat.zero_le _⟩ ⟨by decide, by decide⟩ (Nat.le_of_ble_eq_true rfl) [] rfl rfl ?_
    refine g_lload_n h dX2_lowest_16 rfl ?_
    refine g_cSr h kX2_commonOf mX2_commonOf lkX2_13 dX2_lowest_17 rfl rfl ⟨Nat.zero_le _, Nat.zero_le _⟩ ⟨by decide, by decide⟩ (Nat.le_of_ble_eq_true rfl) [] rfl rfl ?_
    refine g_lstore (lv' := [some _, none, some _, none, some _, some _, none, some _, none]) h dX2_lowest_20 (by decide) rfl ?_
    refine g_lload h dX2_lowest_22 rfl ?_
    refine g_lconst (v := 1) h dX2_lowest_24 (by decide) ?_
    refine g_lcmp h dX2_lowest_25 ?_
    refine g_lif_le h dX2_lowest_26 rfl (fun c26 => ?_) (fun c26 => ?_)
    · refine g_lload h dX2_lowest_37 rfl ?_
      refine g_lreturn h dX2_lowest_39 rfl ⟨Nat.zero_le _, Nat.zero_le _, rfl, ?_, ?_⟩
      · subst c2
        first | exact congrArg (fun x => some (Value.long x)) (if_pos c26).symm | exact congrArg (fun x => some (Value.long x)) (if_neg c26).symm
      · rfl
    · refine g_lload h dX2_lowest_29 rfl ?_
      refine g_lload h dX2_lowest_31 rfl ?_
      refine g_ldiv h dX2_lowest_33 (fun q => by rw [q] at c26; exact c26 (by decide)) ?_
      refine g_goto h dX2_lowest_34 rfl ?_
      refine g_lreturn h dX2_lowest_39 rfl ⟨Nat.zero_le _, Nat.zero_le _, rfl, ?_, ?_⟩
      · subst c2
        first | exact congrArg (fun x => some (Value.long x)) (if_pos c26).symm | exact congrArg (fun x => some (Value.long x)) (if_neg c26).symm
      · rfl
set_option maxHeartbeats 4000000 in
set_option maxRecDepth 100000 in
theorem kJ9_floorDiv_f86c9 {l : Launch} {E : gE} {a b : Int64} (hb : ¬ b = 0) : CtrF l yJ9_floorDiv_f86c9 cJ9_floorDiv_f86c9 6 (some .long) (gR 0 0) E [.long a, .long b] ([]) (some (.long (fdv a b))) ([]) := by
  refine ctr_of false (by decide +kernel) (Nat.le_of_ble_eq_true rfl) (fun q => by cases q) (fun Γ h => ?_)
  refine g_lv [some _, none, some _, none, _, _] rfl ?_
  refine g_lload_n h dJ9_floorDiv_f86c9_0 rfl ?_
  refine g_lload_n h dJ9_floorDiv_f86c9_1 rfl ?_
  refine g_ldiv h dJ9_floorDiv_f86c9_2 hb ?_
  refine g_lstore (lv' := [some _, none, some _, none, some _, none]) h dJ9_floorDiv_f86c9_3 (by decide) rfl ?_
  refine g_lload_n h dJ9_floorDiv_f86c9_5 rfl ?_
  refine g_lload_n h dJ9_floorDiv_f86c9_6 rfl ?_
  refine g_lxor h dJ9_floorDiv_f86c9_7 ?_
  refine g_lconst (v := 0) h dJ9_floorDiv_f86c9_8 (by decide) ?_
  refine g_lcmp h dJ9_floorDiv_f86c9_9 ?_
  refine g_lif_ge h dJ9_floorDiv_f86c9_10 rfl (fun c10 => ?_) (fun c10 => ?_)
  · refine g_lload h dJ9_floorDiv_f86c9_27 rfl ?_
    refine g_lreturn h dJ9_floorDiv_f86c9_29 rfl ⟨Nat.zero_le _, Nat.zero_le _, rfl, ?_, ?_⟩
    · first | (rw [fdv, if_pos c10]; done) | (rw [fdv, if_neg c10, if_pos c19]; done) | (rw [fdv, if_neg c10, if_neg c19]; done)
    · rfl
  · refine g_lload h dJ9_floorDiv_f86c9_13 rfl ?_
    refine g_lload_n h dJ9_floorDiv_f86c9_15 rfl ?_
    refine g_lmul h dJ9_floorDiv_f86c9_16 ?_
    refine g_lload_n h dJ9_floorDiv_f86c9_17 rfl ?_
    refine g_lcmp h dJ9_floorDiv_f86c9_18 ?_
    refine g_lif_eq h dJ9_floorDiv_f86c9_19 rfl (fun c19 => ?_) (fun c19 => ?_)
    · refine g_lload h dJ9_floorDiv_f86c9_27 rfl ?_
      refine g_lreturn h dJ9_floorDiv_f86c9_29 rfl ⟨Nat.zero_le _, Nat.zero_le _, rfl, ?_, ?_⟩
      · first | (rw [fdv, if_pos c10]; done) | (rw [fdv, if_neg c10, if_pos c19]; done) | (rw [fdv, if_neg c10, if_neg c19]; done)
      · rfl
    · refine g_lload h dJ9_floorDiv_f86c9_22 rfl ?_
      refine g_lconst (v := 1) h dJ9_floorDiv_f86c9_24 (by decide) ?_
      refine g_lsub h dJ9_floorDiv_f86c9_25 ?_
      refine g_lreturn h dJ9_floorDiv_f86c9_26 rfl ⟨Nat.zero_le _, Nat.zero_le _, rfl, ?_, ?_⟩
      · first | (rw [fdv, if_pos c10]; done) | (rw [fdv, if_neg c10, if_pos c19]; done) | (rw [fdv, if_neg c10, if_neg c19]; done)
      · rfl
set_option maxHeartbeats 4000000 in
set_option maxRecDepth 100000 in
theorem kJ9_floorMod_f86c9 {l : Launch} {E : gE} {a b : Int64} (hb : ¬ b = 0) : CtrF l yJ9_floorMod_f86c9 cJ9_floorMod_f86c9 6 (some .long) (gR 0 0) E [.long a, .long b] ([]) (some (.long (fmd a b))) ([]) := by
  refine ctr_of false (by decide +kernel) (Nat.le_of_ble_eq_true rfl) (fun q => by cases q) (fun Γ h => ?_)
  refine g_lv [some _, none, some _, none, _, _] rfl ?_
  refine g_lload_n h dJ9_floorMod_f86c9_0 rfl ?_
  refine g_lload_n h dJ9_floorMod_f86c9_1 rfl ?_
  refine g_lrem h dJ9_floorMod_f86c9_2 hb ?_
  refine g_lstore (lv' := [some _, none, some _, none, some _, none]) h dJ9_floorMod_f86c9_3 (by decide) rfl ?_
  refine g_lload_n h dJ9_floorMod_f86c9_5 rfl ?_
  refine g_lload_n h dJ9_floorMod_f86c9_6 rfl ?_
  refine g_lxor h dJ9_floorMod_f86c9_7 ?_
  refine g_lconst (v := 0) h dJ9_floorMod_f86c9_8 (by decide) ?_
  refine g_lcmp h dJ9_floorMod_f86c9_9 ?_
  refine g_lif_ge h dJ9_floorMod_f86c9_10 rfl (fun c10 => ?_) (fun c10 => ?_)
  · refine g_lload h dJ9_floorMod_f86c9_25 rfl ?_
    refine g_lreturn h dJ9_floorMod_f86c9_27 rfl ⟨Nat.zero_le _, Nat.zero_le _, rfl, ?_, ?_⟩
    · first | (rw [fmd, if_pos c10]; done) | (rw [fmd, if_neg c10, if_pos c17]; done) | (rw [fmd, if_neg c10, if_neg c17]; done)
    · rfl
  · refine g_lload h dJ9_floorMod_f86c9_13 rfl ?_
    refine g_lconst (v := 0) h dJ9_floorMod_f86c9_15 (by decide) ?_
    refine g_lcmp h dJ9_floorMod_f86c9_16 ?_
    refine g_lif_eq h dJ9_floorMod_f86c9_17 rfl (fun c17 => ?_) (fun c17 => ?_)
    · refine g_lload h dJ9_floorMod_f86c9_25 rfl ?_
      refine g_lreturn h dJ9_floorMod_f86c9_27 rfl ⟨Nat.zero_le _, Nat.zero_le _, rfl, ?_, ?_⟩
      · first | (rw [fmd, if_pos c10]; done) | (rw [fmd, if_neg c10, if_pos c17]; done) | (rw [fmd, if_neg c10, if_neg c17]; done)
      · rfl
    · refine g_lload h dJ9_floorMod_f86c9_20 rfl ?_
      refine g_lload_n h dJ9_floorMod_f86c9_22 rfl ?_
      refine g_ladd h dJ9_floorMod_f86c9_23 ?_
      refine g_lreturn h dJ9_floorMod_f86c9_24 rfl ⟨Nat.zero_le _, Nat.zero_le _, rfl, ?_, ?_⟩
      · first | (rw [fmd, if_pos c10]; done) | (rw [fmd, if_neg c10, if_pos c17]; done) | (rw [fmd, if_neg c10, if_neg c17]; done)
      · rfl
set_option maxHeartbeats 4000000 in
set_option maxRecDepth 100000 in
theorem kJ13_compare_74951 {l : Launch} {E : gE} {x y : Int64}  : CtrF l yJ13_compare_74951 cJ13_compare_74951 4 (some .int) (gR 0 0) E [.long x, .long y] ([]) (some (.int (cmpL x y))) ([]) := by
  refine ctr_of false (by decide +kernel) (Nat.le_of_ble_eq_true rfl) (fun q => by cases q) (fun Γ h => ?_)
  refine g_lv [some _, none, some _, none] rfl ?_
  refine g_lload_n h dJ13_compare_74951_0 rfl ?_
  refine g_lload_n h dJ13_compare_74951_1 rfl ?_
  refine g_lcmp h dJ13_compare_74951_2 ?_
  refine g_lif_ge h dJ13_compare_74951_3 rfl (fun c3 => ?_) (fun c3 => ?_)
  · refine g_lload_n h dJ13_compare_74951_10 rfl ?_
    refine g_lload_n h dJ13_compare_74951_11 rfl ?_
    refine g_lcmp h dJ13_compare_74951_12 ?_
    refine g_lif_ne h dJ13_compare_74951_13 rfl (fun c13 => ?_) (fun c13 => ?_)
    · refine g_iconst (v := 1) h dJ13_compare_74951_20 (by decide) ?_
      refine g_ireturn h dJ13_compare_74951_21 rfl rfl ⟨Nat.zero_le _, Nat.zero_le _, rfl, ?_, ?_⟩
      · first | (rw [cmpL, if_neg c3]; done) | (rw [cmpL, if_pos c3, if_pos c13]; done) | (rw [cmpL, if_pos c3, if_neg c13]; done)
      · rfl
    · refine g_iconst (v := 0) h dJ13_compare_74951_16 (by decide) ?_
      refine g_goto h dJ13_compare_74951_17 rfl ?_
      refine g_ireturn h dJ13_compare_74951_21 rfl rfl ⟨Nat.zero_le _, Nat.zero_le _, rfl, ?_, ?_⟩
      · first | (rw [cmpL, if_neg c3]; done) | (rw [cmpL, if_pos c3, if_pos c13]; done) | (rw [cmpL, if_pos c3, if_neg c13]; done)
      · rfl
  · refine g_iconst (v := (-1)) h dJ13_compare_74951_6 (by decide) ?_
    refine g_goto h dJ13_compare_74951_7 rfl ?_
    refine g_ireturn h dJ13_compare_74951_21 rfl rfl ⟨Nat.zero_le _, Nat.zero_le _, rfl, ?_, ?_⟩
    · first | (rw [cmpL, if_neg c3]; done) | (rw [cmpL, if_pos c3, if_pos c13]; done) | (rw [cmpL, if_pos c3, if_neg c13]; done)
    · rfl
set_option maxHeartbeats 4000000 in
set_option maxRecDepth 100000 in
theorem kJ6_bitCount_0f7a4 {l : Launch} {E : gE} {k : Nat} (hk : k < 256) : CtrF l yJ6_bitCount_0f7a4 cJ6_bitCount_0f7a4 1 (some .int) (gR 0 0) E [.int (nI k)] ([]) (some (.int (nI (popc k)))) ([]) := by
  refine ctr_of false (by decide +kernel) (Nat.le_of_ble_eq_true rfl) (fun q => by cases q) (fun Γ h => ?_)
  refine g_lv [some _] rfl ?_
  refine g_iload_n h dJ6_bitCount_0f7a4_0 rfl ?_
  refine g_iload_n h dJ6_bitCount_0f7a4_1 rfl ?_
  refine g_iconst (v := 1) h dJ6_bitCount_0f7a4_2 (by decide) ?_
  refine g_iushr h dJ6_bitCount_0f7a4_3 ?_
  refine g_ldcw (v := 1431655765) h dJ6_bitCount_0f7a4_4 (gtm (by decide +kernel)) ?_
  refine g_iand h dJ6_bitCount_0f7a4_7 ?_
  refine g_isub h dJ6_bitCount_0f7a4_8 ?_
  refine g_topi (bc1 (nI k)) rfl ?_
  refine g_istore_n (lv' := [some _]) h dJ6_bitCount_0f7a4_9 (by decide) rfl ?_
  refine g_iload_n h dJ6_bitCount_0f7a4_10 rfl ?_
  refine g_ldcw (v := 858993459) h dJ6_bitCount_0f7a4_11 (gtm (by decide +kernel)) ?_
  refine g_iand h dJ6_bitCount_0f7a4_14 ?_
  refine g_iload_n h dJ6_bitCount_0f7a4_15 rfl ?_
  refine g_iconst (v := 2) h dJ6_bitCount_0f7a4_16 (by decide) ?_
  refine g_iushr h dJ6_bitCount_0f7a4_17 ?_
  refine g_ldcw (v := 858993459) h dJ6_bitCount_0f7a4_18 (gtm (by decide +kernel)) ?_
  refine g_iand h dJ6_bitCount_0f7a4_21 ?_
  refine g_iadd h dJ6_bitCount_0f7a4_22 ?_
  refine g_topi (bc2 (bc1 (nI k))) rfl ?_
  refine g_istore_n (lv' := [some _]) h dJ6_bitCount_0f7a4_23 (by decide) rfl ?_
  refine g_iload_n h dJ6_bitCount_0f7a4_24 rfl ?_
  refine g_iload_n h dJ6_bitCount_0f7a4_25 rfl ?_
  refine g_iconst (v := 4) h dJ6_bitCount_0f7a4_26 (by decide) ?_
  refine g_iushr h dJ6_bitCount_0f7a4_27 ?_
  refine g_iadd h dJ6_bitCount_0f7a4_28 ?_
  refine g_ldcw (v := 252645135) h dJ6_bitCount_0f7a4_29 (gtm (by decide +kernel)) ?_
  refine g_iand h dJ6_bitCount_0f7a4_32 ?_
  refine g_topi (bc3 (bc2 (bc1 (nI k)))) rfl ?_
  refine g_istore_n (lv' := [some _]) h dJ6_bitCount_0f7a4_33 (by decide) rfl ?_
  refine g_iload_n h dJ6_bitCount_0f7a4_34 rfl ?_
  refine g_iload_n h dJ6_bitCount_0f7a4_35 rfl ?_
  refine g_bipush (v := 8) h dJ6_bitCount_0f7a4_36 (by decide) ?_
  refine g_iushr h dJ6_bitCount_0f7a4_38 ?_
  refine g_iadd h dJ6_bitCount_0f7a4_39 ?_
  refine g_topi (bc4 (bc3 (bc2 (bc1 (nI k))))) rfl ?_
  refine g_istore_n (lv' := [some _]) h dJ6_bitCount_0f7a4_40 (by decide) rfl ?_
  refine g_iload_n h dJ6_bitCount_0f7a4_41 rfl ?_
  refine g_iload_n h dJ6_bitCount_0f7a4_42 rfl ?_
  refine g_bipush (v := 16) h dJ6_bitCount_0f7a4_43 (by decide) ?_
  refine g_iushr h dJ6_bitCount_0f7a4_45 ?_
  refine g_iadd h dJ6_bitCount_0f7a4_46 ?_
  refine g_topi (bc5 (bc4 (bc3 (bc2 (bc1 (nI k)))))) rfl ?_
  refine g_istore_n (lv' := [some _]) h dJ6_bitCount_0f7a4_47 (by decide) rfl ?_
  refine g_iload_n h dJ6_bitCount_0f7a4_48 rfl ?_
  refine g_bipush (v := 63) h dJ6_bitCount_0f7a4_49 (by decide) ?_
  refine g_iand h dJ6_bitCount_0f7a4_51 ?_
  refine g_topi (nI (popc k)) (bcE_ok k hk) ?_
  refine g_ireturn h dJ6_bitCount_0f7a4_52 rfl rfl ⟨Nat.zero_le _, Nat.zero_le _, rfl, ?_, ?_⟩
  · rfl
  · rfl
end
section
set_option maxHeartbeats 4000000 in
set_option maxRecDepth 100000 in
theorem kX2_order {l : Launch} {E : gE} {a0 b0 c0 d0 : Int64}  : CtrF l yX2_order cX2_order 17 (some .int) (gR 1 25) E [.long a0, .long b0, .long c0, .long d0] ([]) (some (.int (ordr 100 a0 b0 c0 d0))) ([]) := by
  refine ctr_of false (plainFor_of_name (by decide)) (Nat.le_of_ble_eq_true rfl) (fun q => by cases q) (fun Γ h => ?_)
  refine g_lv [some _, none, some _, none, some _, none, some _, none, _, _, _, _, _, _, _, _, _] rfl ?_
  refine g_iconst (v := 0) h dX2_order_0 (by decide) ?_
  refine g_istore (lv' := [some _, none, some _, none, some _, none, some _, none, some _, _, _, _, _, _, _, _, _]) h dX2_order_1 (by decide) rfl ?_
  have loop3 : ∀ (j : Nat) (k : Nat) (a b c d : Int64) (o9 o11 o13 o15 : Option Value) (_ : k ≤ 100) (_ : ordr 100 a0 b0 c0 d0 = ordr (100 - k) a b c d), 100 - k < j → Γ 0 0 3 [some (.long a), none, some (.long b), none, some (.long c), none, some (.long d), none, some (.int (nI k)), o9, none, o11, none, o13, none, o15, none] [] [] := by
    intro j
    induction j with
    | zero => intro k a b c d o9 o11 o13 o15 hk hinv hj; exact absurd hj (Nat.not_lt_zero _)
    | succ j ih =>
      intro k a b c d o9 o11 o13 o15 hk hinv hj
      refine g_iload h dX2_order_3 rfl ?_
      refine g_bipush (v := 100) h dX2_order_5 (by decide) ?_
      refine g_ic_ge h dX2_order_7 rfl (fun c7 => ?_) (fun c7 => ?_)
      · replace c7 := (nI_leI (a := 100) (by omega) (by omega)).mp c7
        refine g_iconst (v := 0) h dX2_order_114 (by decide) ?_
        refine g_ireturn h dX2_order_115 rfl rfl ⟨Nat.zero_le _, Nat.zero_le _, rfl, ?_, ?_⟩
        · first | (rw [hinv, show 100 - k = 0 by omega]; rfl) | (rw [hinv, show 100 - k = 100 - (k + 1) + 1 by omega, ordr, if_pos c13]; done) | (rw [hinv, show 100 - k = 100 - (k + 1) + 1 by omega, ordr, if_neg c13, if_pos c20]; done) | (rw [hinv, show 100 - k = 100 - (k + 1) + 1 by omega, ordr, if_neg c13, if_neg c20, if_neg c44]; done) | (rw [hinv, show 100 - k = 100 - (k + 1) + 1 by omega, ordr, if_neg c13, if_neg c20, if_pos c44, if_pos c77]; done) | (rw [hinv, show 100 - k = 100 - (k + 1) + 1 by omega, ordr, if_neg c13, if_neg c20, if_pos c44, if_neg c77, if_pos c84]; done)
        · rfl
      · replace c7 := (not_congr (nI_leI (a := 100) (by omega) (by omega))).mp c7
        refine g_lload_n h dX2_order_10 rfl ?_
        refine g_lconst (v := 0) h dX2_order_11 (by decide) ?_
        refine g_lcmp h dX2_order_12 ?_
        refine g_lif_le h dX2_order_13 rfl (fun c13 => ?_) (fun c13 => ?_)
        · refine g_iconst (v := 0) h dX2_order_114 (by decide) ?_
          refine g_ireturn h dX2_order_115 rfl rfl ⟨Nat.zero_le _, Nat.zero_le _, rfl, ?_, ?_⟩
          · first | (rw [hinv, show 100 - k = 0 by omega]; rfl) | (rw [hinv, show 100 - k = 100 - (k + 1) + 1 by omega, ordr, if_pos c13]; done) | (rw [hinv, show 100 - k = 100 - (k + 1) + 1 by omega, ordr, if_neg c13, if_pos c20]; done) | (rw [hinv, show 100 - k = 100 - (k + 1) + 1 by omega, ordr, if_neg c13, if_neg c20, if_neg c44]; done) | (rw [hinv, show 100 - k = 100 - (k + 1) + 1 by omega, ordr, if_neg c13, if_neg c20, if_pos c44, if_pos c77]; done) | (rw [hinv, show 100 - k = 100 - (k + 1) + 1 by omega, ordr, if_neg c13, if_neg c20, if_pos c44, if_neg c77, if_pos c84]; done)
          · rfl
        · refine g_lload h dX2_order_16 rfl ?_
          refine g_lconst (v := 0) h dX2_order_18 (by decide) ?_
          refine g_lcmp h dX2_order_19 ?_
          refine g_lif_le h dX2_order_20 rfl (fun c20 => ?_) (fun c20 => ?_)
          · refine g_iconst (v := 0) h dX2_order_114 (by decide) ?_
            refine g_ireturn h dX2_order_115 rfl rfl ⟨Nat.zero_le _, Nat.zero_le _, rfl, ?_, ?_⟩
            · first | (rw [hinv, show 100 - k = 0 by omega]; rfl) | (rw [hinv, show 100 - k = 100 - (k + 1) + 1 by omega, ordr, if_pos c13]; done) | (rw [hinv, show 100 - k = 100 - (k + 1) + 1 by omega, ordr, if_neg c13, if_pos c20]; done) | (rw [hinv, show 100 - k = 100 - (k + 1) + 1 by omega, ordr, if_neg c13, if_neg c20, if_neg c44]; done) | (rw [hinv, show 100 - k = 100 - (k + 1) + 1 by omega, ordr, if_neg c13, if_neg c20, if_pos c44, if_pos c77]; done) | (rw [hinv, show 100 - k = 100 - (k + 1) + 1 by omega, ordr, if_neg c13, if_neg c20, if_pos c44, if_neg c77, if_pos c84]; done)
            · rfl
          · refine g_lload_n h dX2_order_23 rfl ?_
            refine g_lload_n h dX2_order_24 rfl ?_
            refine g_cSr h (kJ9_floorDiv_f86c9 (fun q => by rw [q] at c13; exact c13 (by decide))) mJ9_floorDiv_f86c9 lkX2_19 dX2_order_25 rfl rfl ⟨Nat.zero_le _, Nat.zero_le _⟩ ⟨by decide, by decide⟩ (Nat.le_of_ble_eq_true rfl) [] rfl rfl ?_
            refine g_lstore (lv' := [some _, none, some _, none, some _, none, some _, none, some _, some _, none, _, _, _, _, _, _]) h dX2_order_28 (by decide) rfl ?_
            refine g_lload h dX2_order_30 rfl ?_
            refine g_lload h dX2_order_32 rfl ?_
            refine g_cSr h (kJ9_floorDiv_f86c9 (fun q => by rw [q] at c20; exact c20 (by decide))) mJ9_floorDiv_f86c9 lkX2_19 dX2_order_34 rfl rfl ⟨Nat.zero_le _, Nat.zero_le _⟩ ⟨by decide, by decide⟩ (Nat.le_of_ble_eq_true rfl) [] rfl rfl ?_
            refine g_lstore (lv' := [some _, none, some _, none, some _, none, some _, none, some _, some _, none, some _, none, _, _, _, _]) h dX2_order_37 (by decide) rfl ?_
            refine g_lload h dX2_order_39 rfl ?_
            refine g_lload h dX2_order_41 rfl ?_
            refine g_lcmp h dX2_order_43 ?_
            refine g_lif_eq h dX2_order_44 rfl (fun c44 => ?_) (fun c44 => ?_)
            · refine g_lload_n h dX2_order_55 rfl ?_
              refine g_lload h dX2_order_56 rfl ?_
              refine g_lload_n h dX2_order_58 rfl ?_
              refine g_lmul h dX2_order_59 ?_
              refine g_lsub h dX2_order_60 ?_
              refine g_lstore (lv' := [some _, none, some _, none, some _, none, some _, none, some _, some _, none, some _, none, some _, none, _, _]) h dX2_order_61 (by decide) rfl ?_
              refine g_lload h dX2_order_63 rfl ?_
              refine g_lload h dX2_order_65 rfl ?_
              refine g_lload h dX2_order_67 rfl ?_
              refine g_lmul h dX2_order_69 ?_
              refine g_lsub h dX2_order_70 ?_
              refine g_lstore (lv' := [some _, none, some _, none, some _, none, some _, none, some _, some _, none, some _, none, some _, none, some _, none]) h dX2_order_71 (by decide) rfl ?_
              refine g_lload h dX2_order_73 rfl ?_
              refine g_lconst (v := 0) h dX2_order_75 (by decide) ?_
              refine g_lcmp h dX2_order_76 ?_
              refine g_lif_eq h dX2_order_77 rfl (fun c77 => ?_) (fun c77 => ?_)
              · refine g_lload h dX2_order_87 rfl ?_
                refine g_lload h dX2_order_89 rfl ?_
                refine g_cSr h kJ13_compare_74951 mJ13_compare_74951 lkX2_22 dX2_order_91 rfl rfl ⟨Nat.zero_le _, Nat.zero_le _⟩ ⟨by decide, by decide⟩ (Nat.le_of_ble_eq_true rfl) [] rfl rfl ?_
                refine g_ireturn h dX2_order_94 rfl rfl ⟨Nat.zero_le _, Nat.zero_le _, rfl, ?_, ?_⟩
                · first | (rw [hinv, show 100 - k = 0 by omega]; rfl) | (rw [hinv, show 100 - k = 100 - (k + 1) + 1 by omega, ordr, if_pos c13]; done) | (rw [hinv, show 100 - k = 100 - (k + 1) + 1 by omega, ordr, if_neg c13, if_pos c20]; done) | (rw [hinv, show 100 - k = 100 - (k + 1) + 1 by omega, ordr, if_neg c13, if_neg c20, if_neg c44]; done) | (rw [hinv, show 100 - k = 100 - (k + 1) + 1 by omega, ordr, if_neg c13, if_neg c20, if_pos c44, if_pos c77]; done) | (rw [hinv, show 100 - k = 100 - (k + 1) + 1 by omega, ordr, if_neg c13, if_neg c20, if_pos c44, if_neg c77, if_pos c84]; done)
                · rfl
              · refine g_lload h dX2_order_80 rfl ?_
                refine g_lconst (v := 0) h dX2_order_82 (by decide) ?_
                refine g_lcmp h dX2_order_83 ?_
                refine g_lif_ne h dX2_order_84 rfl (fun c84 => ?_) (fun c84 => ?_)
                · refine g_lload h dX2_order_95 rfl ?_
                  refine g_lstore_n (lv' := [some _, none, some _, none, some _, none, some _, none, some _, some _, none, some _, none, some _, none, some _, none]) h dX2_order_97 (by decide) rfl ?_
                  refine g_lload_n h dX2_order_98 rfl ?_
                  refine g_lstore (lv' := [some _, none, some _, none, some _, none, some _, none, some _, some _, none, some _, none, some _, none, some _, none]) h dX2_order_99 (by decide) rfl ?_
                  refine g_lload h dX2_order_101 rfl ?_
                  refine g_lstore_n (lv' := [some _, none, some _, none, some _, none, some _, none, some _, some _, none, some _, none, some _, none, some _, none]) h dX2_order_103 (by decide) rfl ?_
                  refine g_lload h dX2_order_104 rfl ?_
                  refine g_lstore (lv' := [some _, none, some _, none, some _, none, some _, none, some _, some _, none, some _, none, some _, none, some _, none]) h dX2_order_106 (by decide) rfl ?_
                  refine g_iinc (lv' := [some _, none, some _, none, some _, none, some _, none, some _, some _, none, some _, none, some _, none, some _, none]) h dX2_order_108 rfl (nI_inc1 _) (by decide) rfl ?_
                  refine g_goto h dX2_order_111 rfl ?_
                  exact ih (k + 1) d _ b _ _ _ _ _ (by omega) (by rw [hinv, show 100 - k = 100 - (k + 1) + 1 by omega, ordr, if_neg c13, if_neg c20, if_pos c44, if_neg c77, if_neg c84]) (by omega)
                · refine g_lload h dX2_order_87 rfl ?_
                  refine g_lload h dX2_order_89 rfl ?_
                  refine g_cSr h kJ13_compare_74951 mJ13_compare_74951 lkX2_22 dX2_order_91 rfl rfl ⟨Nat.zero_le _, Nat.zero_le _⟩ ⟨by decide, by decide⟩ (Nat.le_of_ble_eq_true rfl) [] rfl rfl ?_
                  refine g_ireturn h dX2_order_94 rfl rfl ⟨Nat.zero_le _, Nat.zero_le _, rfl, ?_, ?_⟩
                  · first | (rw [hinv, show 100 - k = 0 by omega]; rfl) | (rw [hinv, show 100 - k = 100 - (k + 1) + 1 by omega, ordr, if_pos c13]; done) | (rw [hinv, show 100 - k = 100 - (k + 1) + 1 by omega, ordr, if_neg c13, if_pos c20]; done) | (rw [hinv, show 100 - k = 100 - (k + 1) + 1 by omega, ordr, if_neg c13, if_neg c20, if_neg c44]; done) | (rw [hinv, show 100 - k = 100 - (k + 1) + 1 by omega, ordr, if_neg c13, if_neg c20, if_pos c44, if_pos c77]; done) | (rw [hinv, show 100 - k = 100 - (k + 1) + 1 by omega, ordr, if_neg c13, if_neg c20, if_pos c44, if_neg c77, if_pos c84]; done)
                  · rfl
            · refine g_lload h dX2_order_47 rfl ?_
              refine g_lload h dX2_order_49 rfl ?_
              refine g_cSr h kJ13_compare_74951 mJ13_compare_74951 lkX2_22 dX2_order_51 rfl rfl ⟨Nat.zero_le _, Nat.zero_le _⟩ ⟨by decide, by decide⟩ (Nat.le_of_ble_eq_true rfl) [] rfl rfl ?_
              refine g_ireturn h dX2_order_54 rfl rfl ⟨Nat.zero_le _, Nat.zero_le _, rfl, ?_, ?_⟩
              · first | (rw [hinv, show 100 - k = 0 by omega]; rfl) | (rw [hinv, show 100 - k = 100 - (k + 1) + 1 by omega, ordr, if_pos c13]; done) | (rw [hinv, show 100 - k = 100 - (k + 1) + 1 by omega, ordr, if_neg c13, if_pos c20]; done) | (rw [hinv, show 100 - k = 100 - (k + 1) + 1 by omega, ordr, if_neg c13, if_neg c20, if_neg c44]; done) | (rw [hinv, show 100 - k = 100 - (k + 1) + 1 by omega, ordr, if_neg c13, if_neg c20, if_pos c44, if_pos c77]; done) | (rw [hinv, show 100 - k = 100 - (k + 1) + 1 by omega, ordr, if_neg c13, if_neg c20, if_pos c44, if_neg c77, if_pos c84]; done)
              · rfl
  exact loop3 _ 0 a0 b0 c0 d0 none none none none (by omega) rfl (Nat.lt_succ_self _)
end
section
set_option maxHeartbeats 4000000 in
set_option maxRecDepth 100000 in
theorem kX10_isState {l : Launch} {E : gE} {s : Int32}  : CtrF l yX10_isState cX10_isState 1 (some .boolean) (gR 1 22) E [.int s] ([]) (some (.int (bI (wit s 0 35)))) ([]) := by
  refine ctr_of false (plainFor_of_name (by decide)) (Nat.le_of_ble_eq_true rfl) (fun q => by cases q) (fun Γ h => ?_)
  refine g_lv [some _] rfl ?_
  refine g_iload_n h dX10_isState_0 rfl ?_
  refine g_iconst (v := 0) h dX10_isState_1 (by decide) ?_
  refine g_bipush (v := 35) h dX10_isState_2 (by decide) ?_
  refine g_cSr h kX2_within mX2_within lkX10_129 dX10_isState_4 rfl rfl ⟨Nat.zero_le _, Nat.zero_le _⟩ ⟨by decide, by decide⟩ (Nat.le_of_ble_eq_true rfl) [] rfl rfl ?_
  refine g_ireturn h dX10_isState_7 rfl (bI_nar _) ⟨Nat.zero_le _, Nat.zero_le _, rfl, ?_, ?_⟩
  · rfl
  · rfl
set_option maxHeartbeats 4000000 in
set_option maxRecDepth 100000 in
theorem kX10_isRate {l : Launch} {E : gE} {s : Int32}  : CtrF l yX10_isRate cX10_isRate 1 (some .boolean) (gR 1 22) E [.int s] ([]) (some (.int (bI (wit s (-300) 300)))) ([]) := by
  refine ctr_of false (plainFor_of_name (by decide)) (Nat.le_of_ble_eq_true rfl) (fun q => by cases q) (fun Γ h => ?_)
  refine g_lv [some _] rfl ?_
  refine g_iload_n h dX10_isRate_0 rfl ?_
  refine g_sipush (v := (-300)) h dX10_isRate_1 (by decide) ?_
  refine g_sipush (v := 300) h dX10_isRate_4 (by decide) ?_
  refine g_cSr h kX2_within mX2_within lkX10_129 dX10_isRate_7 rfl rfl ⟨Nat.zero_le _, Nat.zero_le _⟩ ⟨by decide, by decide⟩ (Nat.le_of_ble_eq_true rfl) [] rfl rfl ?_
  refine g_ireturn h dX10_isRate_10 rfl (bI_nar _) ⟨Nat.zero_le _, Nat.zero_le _, rfl, ?_, ?_⟩
  · rfl
  · rfl
set_option maxHeartbeats 4000000 in
set_option maxRecDepth 100000 in
theorem kX10_isSteps {l : Launch} {E : gE} {s : Int32}  : CtrF l yX10_isSteps cX10_isSteps 1 (some .boolean) (gR 1 22) E [.int s] ([]) (some (.int (bI (wit s (-3) 3)))) ([]) := by
  refine ctr_of false (plainFor_of_name (by decide)) (Nat.le_of_ble_eq_true rfl) (fun q => by cases q) (fun Γ h => ?_)
  refine g_lv [some _] rfl ?_
  refine g_iload_n h dX10_isSteps_0 rfl ?_
  refine g_bipush (v := (-3)) h dX10_isSteps_1 (by decide) ?_
  refine g_iconst (v := 3) h dX10_isSteps_3 (by decide) ?_
  refine g_cSr h kX2_within mX2_within lkX10_129 dX10_isSteps_4 rfl rfl ⟨Nat.zero_le _, Nat.zero_le _⟩ ⟨by decide, by decide⟩ (Nat.le_of_ble_eq_true rfl) [] rfl rfl ?_
  refine g_ireturn h dX10_isSteps_7 rfl (bI_nar _) ⟨Nat.zero_le _, Nat.zero_le _, rfl, ?_, ?_⟩
  · rfl
  · rfl
set_option maxHeartbeats 4000000 in
set_option maxRecDepth 100000 in
theorem kX9_isPlace {l : Launch} {E : gE} {s : Int32}  : CtrF l yX9_isPlace cX9_isPlace 1 (some .boolean) (gR 1 22) E [.int s] ([]) (some (.int (bI (wit s (-1) 5)))) ([]) := by
  refine ctr_of false (plainFor_of_name (by decide)) (Nat.le_of_ble_eq_true rfl) (fun q => by cases q) (fun Γ h => ?_)
  refine g_lv [some _] rfl ?_
  refine g_iload_n h dX9_isPlace_0 rfl ?_
  refine g_iconst (v := (-1)) h dX9_isPlace_1 (by decide) ?_
  refine g_iconst (v := 5) h dX9_isPlace_2 (by decide) ?_
  refine g_cSr h kX2_within mX2_within lkX9_20 dX9_isPlace_3 rfl rfl ⟨Nat.zero_le _, Nat.zero_le _⟩ ⟨by decide, by decide⟩ (Nat.le_of_ble_eq_true rfl) [] rfl rfl ?_
  refine g_ireturn h dX9_isPlace_6 rfl (bI_nar _) ⟨Nat.zero_le _, Nat.zero_le _, rfl, ?_, ?_⟩
  · rfl
  · rfl
set_option maxHeartbeats 4000000 in
set_option maxRecDepth 100000 in
theorem kX0_isKind {l : Launch} {E : gE} {s : Int32}  : CtrF l yX0_isKind cX0_isKind 1 (some .boolean) (gR 1 22) E [.int s] ([]) (some (.int (bI (wit s 0 5)))) ([]) := by
  refine ctr_of false (plainFor_of_name (by decide)) (Nat.le_of_ble_eq_true rfl) (fun q => by cases q) (fun Γ h => ?_)
  refine g_lv [some _] rfl ?_
  refine g_iload_n h dX0_isKind_0 rfl ?_
  refine g_iconst (v := 0) h dX0_isKind_1 (by decide) ?_
  refine g_iconst (v := 5) h dX0_isKind_2 (by decide) ?_
  refine g_cSr h kX2_within mX2_within lkX0_24 dX0_isKind_3 rfl rfl ⟨Nat.zero_le _, Nat.zero_le _⟩ ⟨by decide, by decide⟩ (Nat.le_of_ble_eq_true rfl) [] rfl rfl ?_
  refine g_ireturn h dX0_isKind_6 rfl (bI_nar _) ⟨Nat.zero_le _, Nat.zero_le _, rfl, ?_, ?_⟩
  · rfl
  · rfl
set_option maxHeartbeats 4000000 in
set_option maxRecDepth 100000 in
theorem kX7_has {l : Launch} {E : gE} {h0 h1 h2 h3 : Nat} {th : Nat → Bool} {fr to : Nat → Int32} {s : Int32}  : CtrF l yX7_has cX7_has 2 (some .boolean) (gR 2 42) E [.ref h0, .int s] (wSp E h0 h1 h2 h3 th fr to) (some (.int (bI (spHas th s)))) (wSp E h0 h1 h2 h3 th fr to) := by
  refine ctr_of false (plainFor_of_name (by decide)) (Nat.le_of_ble_eq_true rfl) (fun q => by cases q) (fun Γ h => ?_)
  refine g_lv [some _, some _] rfl ?_
  refine g_iload_n h dX7_has_0 rfl ?_
  refine g_cNr h kX10_isState mX10_isState lkX7_22 dX7_has_1 rfl rfl ⟨Nat.zero_le _, Nat.zero_le _⟩ ⟨by decide, by decide⟩ (Nat.le_of_ble_eq_true rfl) [] rfl rfl ?_
  refine g_ifb_eq h dX7_has_4 rfl (fun c4 => ?_) (fun c4 => ?_)
  · refine g_iconst (v := 0) h dX7_has_20 (by decide) ?_
    refine g_ireturn h dX7_has_21 rfl (by first | rfl | exact bI_nar _) ⟨Nat.zero_le _, Nat.zero_le _, rfl, ?_, ?_⟩
    · first | (rw [spHas, c4]; rfl) | (rw [spHas_lt hk, c13]; rfl)
    · rfl
  · obtain ⟨k, hk, rfl⟩ := wit_st c4
    refine g_aload_n h dX7_has_7 rfl ?_
    refine g_get h flX7_9 dX7_has_8 0 rfl rfl ?_
    refine g_iload_n h dX7_has_11 rfl ?_
    refine g_zald h dX7_has_12 1 _ rfl rfl (by omega) (by omega) ?_
    refine g_ifb_eq h dX7_has_13 rfl (fun c13 => ?_) (fun c13 => ?_)
    · refine g_iconst (v := 0) h dX7_has_20 (by decide) ?_
      refine g_ireturn h dX7_has_21 rfl (by first | rfl | exact bI_nar _) ⟨Nat.zero_le _, Nat.zero_le _, rfl, ?_, ?_⟩
      · first | (rw [spHas, c4]; rfl) | (rw [spHas_lt hk, c13]; rfl)
      · rfl
    · refine g_iconst (v := 1) h dX7_has_16 (by decide) ?_
      refine g_goto h dX7_has_17 rfl ?_
      refine g_ireturn h dX7_has_21 rfl (by first | rfl | exact bI_nar _) ⟨Nat.zero_le _, Nat.zero_le _, rfl, ?_, ?_⟩
      · first | (rw [spHas, c4]; rfl) | (rw [spHas_lt hk, c13]; rfl)
      · rfl
set_option maxHeartbeats 4000000 in
set_option maxRecDepth 100000 in
theorem kX7_write {l : Launch} {E : gE} {h0 h1 h2 h3 : Nat} {th : Nat → Bool} {fr to : Nat → Int32} {k : Nat} {a b : Int32} (hk : k < 36) : CtrF l yX7_write cX7_write 4 none (gR 2 42) E [.ref h0, .int (nI k), .int a, .int b] (wSp E h0 h1 h2 h3 th fr to) none (wSp E h0 h1 h2 h3 (updB th k (decide (a ≤ b))) (upd fr k a) (upd to k b)) := by
  refine ctr_of false (plainFor_of_name (by decide)) (Nat.le_of_ble_eq_true rfl) (fun q => by cases q) (fun Γ h => ?_)
  refine g_lv [some _, some _, some _, some _] rfl ?_
  refine g_iload_n h dX7_write_0 rfl ?_
  refine g_cNr h kX10_isState mX10_isState lkX7_22 dX7_write_1 rfl rfl ⟨Nat.zero_le _, Nat.zero_le _⟩ ⟨by decide, by decide⟩ (Nat.le_of_ble_eq_true rfl) [] rfl rfl ?_
  refine g_ifb_eq h dX7_write_4 rfl (fun c4 => ?_) (fun c4 => ?_)
  · rw [st_ok hk] at c4; cases c4
  · refine g_aload_n h dX7_write_7 rfl ?_
    refine g_get h flX7_9 dX7_write_8 0 rfl rfl ?_
    refine g_iload_n h dX7_write_11 rfl ?_
    refine g_iload_n h dX7_write_12 rfl ?_
    refine g_iload_n h dX7_write_13 rfl ?_
    refine g_ic_gt h dX7_write_14 rfl (fun c14 => ?_) (fun c14 => ?_)
    · refine g_iconst (v := 0) h dX7_write_21 (by decide) ?_
      refine g_zast (ws' := [_, _, _, _]) h dX7_write_22 1 _ rfl rfl (by omega) (by omega) rfl ?_
      refine g_aload_n h dX7_write_23 rfl ?_
      refine g_get h flX7_15 dX7_write_24 0 rfl rfl ?_
      refine g_iload_n h dX7_write_27 rfl ?_
      refine g_iload_n h dX7_write_28 rfl ?_
      refine g_iast (ws' := [_, _, _, _]) h dX7_write_29 2 _ rfl rfl (by omega) (by omega) rfl ?_
      refine g_aload_n h dX7_write_30 rfl ?_
      refine g_get h flX7_19 dX7_write_31 0 rfl rfl ?_
      refine g_iload_n h dX7_write_34 rfl ?_
      refine g_iload_n h dX7_write_35 rfl ?_
      refine g_iast (ws' := [_, _, _, _]) h dX7_write_36 3 _ rfl rfl (by omega) (by omega) rfl ?_
      refine g_return h dX7_write_37 rfl ⟨Nat.zero_le _, Nat.zero_le _, rfl, ?_, ?_⟩
      · rfl
      · first | exact wSp_as (show upd (fun j => bI (th j)) k (vp_nar .boolean 0) = _ from by rw [le_f c14]; exact updB_eq th k false) | exact wSp_as (show upd (fun j => bI (th j)) k (vp_nar .boolean 1) = _ from by rw [le_t c14]; exact updB_eq th k true)
    · refine g_iconst (v := 1) h dX7_write_17 (by decide) ?_
      refine g_goto h dX7_write_18 rfl ?_
      refine g_zast (ws' := [_, _, _, _]) h dX7_write_22 1 _ rfl rfl (by omega) (by omega) rfl ?_
      refine g_aload_n h dX7_write_23 rfl ?_
      refine g_get h flX7_15 dX7_write_24 0 rfl rfl ?_
      refine g_iload_n h dX7_write_27 rfl ?_
      refine g_iload_n h dX7_write_28 rfl ?_
      refine g_iast (ws' := [_, _, _, _]) h dX7_write_29 2 _ rfl rfl (by omega) (by omega) rfl ?_
      refine g_aload_n h dX7_write_30 rfl ?_
      refine g_get h flX7_19 dX7_write_31 0 rfl rfl ?_
      refine g_iload_n h dX7_write_34 rfl ?_
      refine g_iload_n h dX7_write_35 rfl ?_
      refine g_iast (ws' := [_, _, _, _]) h dX7_write_36 3 _ rfl rfl (by omega) (by omega) rfl ?_
      refine g_return h dX7_write_37 rfl ⟨Nat.zero_le _, Nat.zero_le _, rfl, ?_, ?_⟩
      · rfl
      · first | exact wSp_as (show upd (fun j => bI (th j)) k (vp_nar .boolean 0) = _ from by rw [le_f c14]; exact updB_eq th k false) | exact wSp_as (show upd (fun j => bI (th j)) k (vp_nar .boolean 1) = _ from by rw [le_t c14]; exact updB_eq th k true)
set_option maxHeartbeats 4000000 in
set_option maxRecDepth 100000 in
theorem kX7_howMany {l : Launch} {E : gE} {h0 h1 h2 h3 : Nat} {th : Nat → Bool} {fr to : Nat → Int32}  : CtrF l yX7_howMany cX7_howMany 6 (some .int) (gR 0 0) E [.ref h0] (wSp E h0 h1 h2 h3 th fr to) (some (.int (nI (cnt th 36)))) (wSp E h0 h1 h2 h3 th fr to) := by
  refine ctr_of false (plainFor_of_name (by decide)) (Nat.le_of_ble_eq_true rfl) (fun q => by cases q) (fun Γ h => ?_)
  refine g_lv [some _, _, _, _, _, _] rfl ?_
  refine g_iconst (v := 0) h dX7_howMany_0 (by decide) ?_
  refine g_istore_n (lv' := [some _, some _, _, _, _, _]) h dX7_howMany_1 (by decide) rfl ?_
  refine g_aload_n h dX7_howMany_2 rfl ?_
  refine g_get h flX7_9 dX7_howMany_3 0 rfl rfl ?_
  refine g_astore_n (lv' := [some _, some _, some _, _, _, _]) h dX7_howMany_6 (by decide) rfl ?_
  refine g_aload_n h dX7_howMany_7 rfl ?_
  refine g_alen3 h dX7_howMany_8 1 rfl ?_
  refine g_istore_n (lv' := [some _, some _, some _, some _, _, _]) h dX7_howMany_9 (by decide) rfl ?_
  refine g_iconst (v := 0) h dX7_howMany_10 (by decide) ?_
  refine g_istore (lv' := [some _, some _, some _, some _, some _, _]) h dX7_howMany_11 (by decide) rfl ?_
  have loop13 : ∀ (j : Nat) (k : Nat) (o5 : Option Value) (_ : k ≤ 36), 36 - k < j → Γ 0 0 13 [some (.ref h0), some (.int (nI (cnt th k))), some (.ref h1), some (.int (nI 36)), some (.int (nI k)), o5] [] (wSp E h0 h1 h2 h3 th fr to) := by
    intro j
    induction j with
    | zero => intro k o5 hk hj; exact absurd hj (Nat.not_lt_zero _)
    | succ j ih =>
      intro k o5 hk hj
      refine g_iload h dX7_howMany_13 rfl ?_
      refine g_iload_n h dX7_howMany_15 rfl ?_
      refine g_ic_ge h dX7_howMany_16 rfl (fun c16 => ?_) (fun c16 => ?_)
      · replace c16 := (nI_leI (by omega) (by omega)).mp c16
        refine g_iload_n h dX7_howMany_39 rfl ?_
        refine g_ireturn h dX7_howMany_40 rfl rfl ⟨Nat.zero_le _, Nat.zero_le _, rfl, ?_, ?_⟩
        · rw [show k = 36 by omega]
        · rfl
      · replace c16 := (not_congr (nI_leI (by omega) (by omega))).mp c16
        refine g_aload_n h dX7_howMany_19 rfl ?_
        refine g_iload h dX7_howMany_20 rfl ?_
        refine g_zald h dX7_howMany_22 1 _ rfl rfl (by omega) (by omega) ?_
        refine g_istore (lv' := [some _, some _, some _, some _, some _, some _]) h dX7_howMany_23 (by decide) rfl ?_
        refine g_iload h dX7_howMany_25 rfl ?_
        refine g_ifb_eq h dX7_howMany_27 rfl (fun c27 => ?_) (fun c27 => ?_)
        · refine g_iinc (lv' := [some _, some _, some _, some _, some _, some _]) h dX7_howMany_33 rfl (nI_inc1 _) (by decide) rfl ?_
          refine g_goto h dX7_howMany_36 rfl ?_
          first
          | (refine g_as rfl (by rw [cnt_t c27]) rfl rfl ?_
             exact ih (k + 1) _ (by omega) (by omega))
          | (refine g_as rfl (by rw [cnt_f c27]) rfl rfl ?_
             exact ih (k + 1) _ (by omega) (by omega))
        · refine g_iinc (lv' := [some _, some _, some _, some _, some _, some _]) h dX7_howMany_30 rfl (nI_inc1 _) (by decide) rfl ?_
          refine g_iinc (lv' := [some _, some _, some _, some _, some _, some _]) h dX7_howMany_33 rfl (nI_inc1 _) (by decide) rfl ?_
          refine g_goto h dX7_howMany_36 rfl ?_
          first
          | (refine g_as rfl (by rw [cnt_t c27]) rfl rfl ?_
             exact ih (k + 1) _ (by omega) (by omega))
          | (refine g_as rfl (by rw [cnt_f c27]) rfl rfl ?_
             exact ih (k + 1) _ (by omega) (by omega))
  exact loop13 _ 0 none (by omega) (Nat.lt_succ_self _)
set_option maxHeartbeats 4000000 in
set_option maxRecDepth 100000 in
theorem kX7_holds {l : Launch} {E : gE} {h0 h1 h2 h3 : Nat} {th : Nat → Bool} {fr to : Nat → Int32} {k : Nat} {x y : Int64} (hk : k < 36) : CtrF l yX7_holds cX7_holds 6 (some .boolean) (gR 3 63) E [.ref h0, .int (nI k), .long x, .long y] (wSp E h0 h1 h2 h3 th fr to) (some (.int (bI (th k && decide ((fr k).toInt64 * y ≤ x) && decide (x ≤ (to k).toInt64 * y))))) (wSp E h0 h1 h2 h3 th fr to) := by
  refine ctr_of false (plainFor_of_name (by decide)) (Nat.le_of_ble_eq_true rfl) (fun q => by cases q) (fun Γ h => ?_)
  refine g_lv [some _, some _, some _, none, some _, none] rfl ?_
  refine g_aload_n h dX7_holds_0 rfl ?_
  refine g_iload_n h dX7_holds_1 rfl ?_
  refine g_cVr h kX7_has mX7_has lkX7_26 dX7_holds_2 rfl rfl ⟨Nat.zero_le _, Nat.zero_le _⟩ ⟨by decide, by decide⟩ (Nat.le_of_ble_eq_true rfl) [0, 1, 2, 3] rfl rfl 0 rfl rfl ?_
  refine g_ifb_eq h dX7_holds_5 rfl (fun c5 => ?_) (fun c5 => ?_)
  · rw [spHas_lt hk] at c5
    refine g_iconst (v := 0) h dX7_holds_42 (by decide) ?_
    refine g_ireturn h dX7_holds_43 rfl (by first | rfl | exact bI_nar _) ⟨Nat.zero_le _, Nat.zero_le _, rfl, ?_, ?_⟩
    · first | (rw [c5]; rfl) | (rw [c5, leL_f c20]; rfl) | (rw [c5, leL_t c20, leL_f c35]; rfl) | (rw [c5, leL_t c20, leL_t c35]; rfl)
    · rfl
  · rw [spHas_lt hk] at c5
    refine g_aload_n h dX7_holds_8 rfl ?_
    refine g_get h flX7_15 dX7_holds_9 0 rfl rfl ?_
    refine g_iload_n h dX7_holds_12 rfl ?_
    refine g_iald h dX7_holds_13 2 _ rfl rfl (by omega) (by omega) ?_
    refine g_i2l h dX7_holds_14 ?_
    refine g_lload h dX7_holds_15 rfl ?_
    refine g_lmul h dX7_holds_17 ?_
    refine g_lload_n h dX7_holds_18 rfl ?_
    refine g_lcmp h dX7_holds_19 ?_
    refine g_lif_gt h dX7_holds_20 rfl (fun c20 => ?_) (fun c20 => ?_)
    · refine g_iconst (v := 0) h dX7_holds_42 (by decide) ?_
      refine g_ireturn h dX7_holds_43 rfl (by first | rfl | exact bI_nar _) ⟨Nat.zero_le _, Nat.zero_le _, rfl, ?_, ?_⟩
      · first | (rw [c5]; rfl) | (rw [c5, leL_f c20]; rfl) | (rw [c5, leL_t c20, leL_f c35]; rfl) | (rw [c5, leL_t c20, leL_t c35]; rfl)
      · rfl
    · refine g_lload_n h dX7_holds_23 rfl ?_
      refine g_aload_n h dX7_holds_24 rfl ?_
      refine g_get h flX7_19 dX7_holds_25 0 rfl rfl ?_
      refine g_iload_n h dX7_holds_28 rfl ?_
      refine g_iald h dX7_holds_29 3 _ rfl rfl (by omega) (by omega) ?_
      refine g_i2l h dX7_holds_30 ?_
      refine g_lload h dX7_holds_31 rfl ?_
      refine g_lmul h dX7_holds_33 ?_
      refine g_lcmp h dX7_holds_34 ?_
      refine g_lif_gt h dX7_holds_35 rfl (fun c35 => ?_) (fun c35 => ?_)
      · refine g_iconst (v := 0) h dX7_holds_42 (by decide) ?_
        refine g_ireturn h dX7_holds_43 rfl (by first | rfl | exact bI_nar _) ⟨Nat.zero_le _, Nat.zero_le _, rfl, ?_, ?_⟩
        · first | (rw [c5]; rfl) | (rw [c5, leL_f c20]; rfl) | (rw [c5, leL_t c20, leL_f c35]; rfl) | (rw [c5, leL_t c20, leL_t c35]; rfl)
        · rfl
      · refine g_iconst (v := 1) h dX7_holds_38 (by decide) ?_
        refine g_goto h dX7_holds_39 rfl ?_
        refine g_ireturn h dX7_holds_43 rfl (by first | rfl | exact bI_nar _) ⟨Nat.zero_le _, Nat.zero_le _, rfl, ?_, ?_⟩
        · first | (rw [c5]; rfl) | (rw [c5, leL_f c20]; rfl) | (rw [c5, leL_t c20, leL_f c35]; rfl) | (rw [c5, leL_t c20, leL_t c35]; rfl)
        · rfl
set_option maxHeartbeats 4000000 in
set_option maxRecDepth 100000 in
theorem kX7_copyFrom {l : Launch} {E : gE} {h0 h1 h2 h3 h4 h5 h6 h7 : Nat} {th th2 : Nat → Bool} {fr to fr2 to2 : Nat → Int32}  : CtrF l yX7_copyFrom cX7_copyFrom 3 none (gR 0 0) E [.ref h0, .ref h4] (wSp E h0 h1 h2 h3 th fr to ++ wSp E h4 h5 h6 h7 th2 fr2 to2) none (wSp E h0 h1 h2 h3 (cpy th2 th 36) (cpy fr2 fr 36) (cpy to2 to 36) ++ wSp E h4 h5 h6 h7 th2 fr2 to2) := by
  refine ctr_of false (plainFor_of_name (by decide)) (Nat.le_of_ble_eq_true rfl) (fun q => by cases q) (fun Γ h => ?_)
  refine g_lv [some _, some _, _] rfl ?_
  refine g_iconst (v := 0) h dX7_copyFrom_0 (by decide) ?_
  refine g_istore_n (lv' := [some _, some _, some _]) h dX7_copyFrom_1 (by decide) rfl ?_
  have loop2 : ∀ (j : Nat) (t : Nat) (_ : t ≤ 36), 36 - t < j → Γ 0 0 2 [some (.ref h0), some (.ref h4), some (.int (nI t))] [] (wSp E h0 h1 h2 h3 (cpy th2 th t) (cpy fr2 fr t) (cpy to2 to t) ++ wSp E h4 h5 h6 h7 th2 fr2 to2) := by
    intro j
    induction j with
    | zero => intro t ht hj; exact absurd hj (Nat.not_lt_zero _)
    | succ j ih =>
      intro t ht hj
      refine g_iload_n h dX7_copyFrom_2 rfl ?_
      refine g_bipush (v := 36) h dX7_copyFrom_3 (by decide) ?_
      refine g_ic_ge h dX7_copyFrom_5 rfl (fun c5 => ?_) (fun c5 => ?_)
      · replace c5 := (nI_leI (a := 36) (by omega) (by omega)).mp c5
        refine g_return h dX7_copyFrom_50 rfl ⟨Nat.zero_le _, Nat.zero_le _, rfl, ?_, ?_⟩
        · rfl
        · rw [show t = 36 by omega]
      · replace c5 := (not_congr (nI_leI (a := 36) (by omega) (by omega))).mp c5
        refine g_aload_n h dX7_copyFrom_8 rfl ?_
        refine g_get h flX7_9 dX7_copyFrom_9 0 rfl rfl ?_
        refine g_iload_n h dX7_copyFrom_12 rfl ?_
        refine g_aload_n h dX7_copyFrom_13 rfl ?_
        refine g_get h flX7_9 dX7_copyFrom_14 4 rfl rfl ?_
        refine g_iload_n h dX7_copyFrom_17 rfl ?_
        refine g_zald h dX7_copyFrom_18 5 _ rfl rfl (by omega) (by omega) ?_
        refine g_zast (ws' := [_, _, _, _, _, _, _, _]) h dX7_copyFrom_19 1 _ rfl rfl (by omega) (by omega) rfl ?_
        refine g_aload_n h dX7_copyFrom_20 rfl ?_
        refine g_get h flX7_15 dX7_copyFrom_21 0 rfl rfl ?_
        refine g_iload_n h dX7_copyFrom_24 rfl ?_
        refine g_aload_n h dX7_copyFrom_25 rfl ?_
        refine g_get h flX7_15 dX7_copyFrom_26 4 rfl rfl ?_
        refine g_iload_n h dX7_copyFrom_29 rfl ?_
        refine g_iald h dX7_copyFrom_30 6 _ rfl rfl (by omega) (by omega) ?_
        refine g_iast (ws' := [_, _, _, _, _, _, _, _]) h dX7_copyFrom_31 2 _ rfl rfl (by omega) (by omega) rfl ?_
        refine g_aload_n h dX7_copyFrom_32 rfl ?_
        refine g_get h flX7_19 dX7_copyFrom_33 0 rfl rfl ?_
        refine g_iload_n h dX7_copyFrom_36 rfl ?_
        refine g_aload_n h dX7_copyFrom_37 rfl ?_
        refine g_get h flX7_19 dX7_copyFrom_38 4 rfl rfl ?_
        refine g_iload_n h dX7_copyFrom_41 rfl ?_
        refine g_iald h dX7_copyFrom_42 7 _ rfl rfl (by omega) (by omega) ?_
        refine g_iast (ws' := [_, _, _, _, _, _, _, _]) h dX7_copyFrom_43 3 _ rfl rfl (by omega) (by omega) rfl ?_
        refine g_iinc (lv' := [some _, some _, some _]) h dX7_copyFrom_44 rfl (nI_inc1 _) (by decide) rfl ?_
        refine g_goto h dX7_copyFrom_47 rfl ?_
        refine g_as rfl rfl rfl (show _ = wSp E h0 h1 h2 h3 (cpy th2 th (t + 1)) (cpy fr2 fr (t + 1)) (cpy to2 to (t + 1)) ++ wSp E h4 h5 h6 h7 th2 fr2 to2 from (by rw [← cpy_s, ← cpy_s]; exact congrArg (fun x => x ++ wSp E h4 h5 h6 h7 th2 fr2 to2) (wSp_as (cpyB_s th2 th t)))) ?_
        exact ih (t + 1) (by omega) (by omega)
  refine g_as rfl rfl rfl (show _ = wSp E h0 h1 h2 h3 (cpy th2 th 0) (cpy fr2 fr 0) (cpy to2 to 0) ++ wSp E h4 h5 h6 h7 th2 fr2 to2 by rw [cpy_0, cpy_0, cpy_0]) ?_
  exact loop2 _ 0 (Nat.zero_le _) (Nat.lt_succ_self _)
end
section
set_option maxHeartbeats 4000000 in
set_option maxRecDepth 100000 in
theorem kX9_isAt {l : Launch} {E : gE} {h0 h1 h2 h3 n : Nat} {fs fg : Nat → Int32} {k : Nat} {p : Int32} (hk : k < n) (hn : n ≤ 60) : CtrF l yX9_isAt cX9_isAt 3 (some .boolean) (gR 2 42) E [.ref h0, .int (nI k), .int p] (wTr E h0 h1 h2 h3 n fs fg) (some (.int (bI (atP fs p k)))) (wTr E h0 h1 h2 h3 n fs fg) := by
  refine ctr_of false (plainFor_of_name (by decide)) (Nat.le_of_ble_eq_true rfl) (fun q => by cases q) (fun Γ h => ?_)
  refine g_lv [some _, some _, some _] rfl ?_
  refine g_iload_n h dX9_isAt_0 rfl ?_
  refine g_iconst (v := (-1)) h dX9_isAt_1 (by decide) ?_
  refine g_ic_eq h dX9_isAt_2 rfl (fun c2 => ?_) (fun c2 => ?_)
  · refine g_iconst (v := 1) h dX9_isAt_20 (by decide) ?_
    refine g_goto h dX9_isAt_21 rfl ?_
    refine g_ireturn h dX9_isAt_25 rfl (by first | rfl | exact bI_nar _) ⟨Nat.zero_le _, Nat.zero_le _, rfl, ?_, ?_⟩
    · first | (rw [atP, decide_eq_true c2]; rfl) | (rw [atP, decide_eq_false c2, decide_eq_false c17]; rfl) | (rw [atP, decide_eq_false c2, decide_eq_true c17]; rfl)
    · rfl
  · refine g_aload_n h dX9_isAt_5 rfl ?_
    refine g_get h flX9_14 dX9_isAt_6 0 rfl rfl ?_
    refine g_iload_n h dX9_isAt_9 rfl ?_
    refine g_cVr h (kX3_first hn (by omega)) mX3_first lkX9_26 dX9_isAt_10 rfl rfl ⟨Nat.zero_le _, Nat.zero_le _⟩ ⟨by decide, by decide⟩ (Nat.le_of_ble_eq_true rfl) [1, 2, 3] rfl rfl 1 rfl rfl ?_
    rw [pget_lt hk (by omega)]
    refine g_bipush (v := 6) h dX9_isAt_13 (by decide) ?_
    refine g_idiv h dX9_isAt_15 (by decide) ?_
    refine g_iload_n h dX9_isAt_16 rfl ?_
    refine g_ic_ne h dX9_isAt_17 rfl (fun c17 => ?_) (fun c17 => ?_)
    · refine g_iconst (v := 0) h dX9_isAt_24 (by decide) ?_
      refine g_ireturn h dX9_isAt_25 rfl (by first | rfl | exact bI_nar _) ⟨Nat.zero_le _, Nat.zero_le _, rfl, ?_, ?_⟩
      · first | (rw [atP, decide_eq_true c2]; rfl) | (rw [atP, decide_eq_false c2, decide_eq_false c17]; rfl) | (rw [atP, decide_eq_false c2, decide_eq_true c17]; rfl)
      · rfl
    · refine g_iconst (v := 1) h dX9_isAt_20 (by decide) ?_
      refine g_goto h dX9_isAt_21 rfl ?_
      refine g_ireturn h dX9_isAt_25 rfl (by first | rfl | exact bI_nar _) ⟨Nat.zero_le _, Nat.zero_le _, rfl, ?_, ?_⟩
      · first | (rw [atP, decide_eq_true c2]; rfl) | (rw [atP, decide_eq_false c2, decide_eq_false c17]; rfl) | (rw [atP, decide_eq_false c2, decide_eq_true c17]; rfl)
      · rfl
set_option maxHeartbeats 4000000 in
set_option maxRecDepth 100000 in
theorem kX9_daysAt {l : Launch} {E : gE} {h0 h1 h2 h3 n : Nat} {fs fg : Nat → Int32} {p : Int32} (hn : n ≤ 60) : CtrF l yX9_daysAt cX9_daysAt 4 (some .int) (gR 3 64) E [.ref h0, .int p] (wTr E h0 h1 h2 h3 n fs fg) (some (.int (nI (cnt (atP fs p) n)))) (wTr E h0 h1 h2 h3 n fs fg) := by
  refine ctr_of false (plainFor_of_name (by decide)) (Nat.le_of_ble_eq_true rfl) (fun q => by cases q) (fun Γ h => ?_)
  refine g_lv [some _, some _, _, _] rfl ?_
  refine g_iconst (v := 0) h dX9_daysAt_0 (by decide) ?_
  refine g_istore_n (lv' := [some _, some _, some _, _]) h dX9_daysAt_1 (by decide) rfl ?_
  refine g_iconst (v := 0) h dX9_daysAt_2 (by decide) ?_
  refine g_istore_n (lv' := [some _, some _, some _, some _]) h dX9_daysAt_3 (by decide) rfl ?_
  have loop4 : ∀ (j : Nat) (k : Nat) (_ : k ≤ n), n - k < j → Γ 0 0 4 [some (.ref h0), some (.int p), some (.int (nI (cnt (atP fs p) k))), some (.int (nI k))] [] (wTr E h0 h1 h2 h3 n fs fg) := by
    intro j
    induction j with
    | zero => intro k hk hj; exact absurd hj (Nat.not_lt_zero _)
    | succ j ih =>
      intro k hk hj
      refine g_iload_n h dX9_daysAt_4 rfl ?_
      refine g_aload_n h dX9_daysAt_5 rfl ?_
      refine g_get h flX9_14 dX9_daysAt_6 0 rfl rfl ?_
      refine g_cVr h kX3_length mX3_length lkX9_30 dX9_daysAt_9 rfl rfl ⟨Nat.zero_le _, Nat.zero_le _⟩ ⟨by decide, by decide⟩ (Nat.le_of_ble_eq_true rfl) [1, 2, 3] rfl rfl 1 rfl rfl ?_
      refine g_ic_ge h dX9_daysAt_12 rfl (fun c12 => ?_) (fun c12 => ?_)
      · replace c12 := (nI_leI (by omega) (by omega)).mp c12
        refine g_iload_n h dX9_daysAt_33 rfl ?_
        refine g_ireturn h dX9_daysAt_34 rfl rfl ⟨Nat.zero_le _, Nat.zero_le _, rfl, ?_, ?_⟩
        · rw [show k = n by omega]
        · rfl
      · replace c12 := (not_congr (nI_leI (by omega) (by omega))).mp c12
        have c12 : k < n := by omega
        refine g_aload_n h dX9_daysAt_15 rfl ?_
        refine g_iload_n h dX9_daysAt_16 rfl ?_
        refine g_iload_n h dX9_daysAt_17 rfl ?_
        refine g_cVr h (kX9_isAt c12 hn) mX9_isAt lkX9_34 dX9_daysAt_18 rfl rfl ⟨Nat.zero_le _, Nat.zero_le _⟩ ⟨by decide, by decide⟩ (Nat.le_of_ble_eq_true rfl) [0, 1, 2, 3] rfl rfl 0 rfl rfl ?_
        refine g_ifb_eq h dX9_daysAt_21 rfl (fun c21 => ?_) (fun c21 => ?_)
        · refine g_iinc (lv' := [some _, some _, some _, some _]) h dX9_daysAt_27 rfl (nI_inc1 _) (by decide) rfl ?_
          refine g_goto h dX9_daysAt_30 rfl ?_
          first
          | (refine g_as rfl (by rw [cnt_t c21]) rfl rfl ?_
             exact ih (k + 1) (by omega) (by omega))
          | (refine g_as rfl (by rw [cnt_f c21]) rfl rfl ?_
             exact ih (k + 1) (by omega) (by omega))
        · refine g_iinc (lv' := [some _, some _, some _, some _]) h dX9_daysAt_24 rfl (nI_inc1 _) (by decide) rfl ?_
          refine g_iinc (lv' := [some _, some _, some _, some _]) h dX9_daysAt_27 rfl (nI_inc1 _) (by decide) rfl ?_
          refine g_goto h dX9_daysAt_30 rfl ?_
          first
          | (refine g_as rfl (by rw [cnt_t c21]) rfl rfl ?_
             exact ih (k + 1) (by omega) (by omega))
          | (refine g_as rfl (by rw [cnt_f c21]) rfl rfl ?_
             exact ih (k + 1) (by omega) (by omega))
  exact loop4 _ 0 (Nat.zero_le _) (Nat.lt_succ_self _)
set_option maxHeartbeats 4000000 in
set_option maxRecDepth 100000 in
theorem kX9_gainAt {l : Launch} {E : gE} {h0 h1 h2 h3 n : Nat} {fs fg : Nat → Int32} {p : Int32} (hn : n ≤ 60) : CtrF l yX9_gainAt cX9_gainAt 4 (some .int) (gR 3 64) E [.ref h0, .int p] (wTr E h0 h1 h2 h3 n fs fg) (some (.int (gsum fs fg p n))) (wTr E h0 h1 h2 h3 n fs fg) := by
  refine ctr_of false (plainFor_of_name (by decide)) (Nat.le_of_ble_eq_true rfl) (fun q => by cases q) (fun Γ h => ?_)
  refine g_lv [some _, some _, _, _] rfl ?_
  refine g_iconst (v := 0) h dX9_gainAt_0 (by decide) ?_
  refine g_istore_n (lv' := [some _, some _, some _, _]) h dX9_gainAt_1 (by decide) rfl ?_
  refine g_iconst (v := 0) h dX9_gainAt_2 (by decide) ?_
  refine g_istore_n (lv' := [some _, some _, some _, some _]) h dX9_gainAt_3 (by decide) rfl ?_
  have loop4 : ∀ (j : Nat) (k : Nat) (_ : k ≤ n), n - k < j → Γ 0 0 4 [some (.ref h0), some (.int p), some (.int (gsum fs fg p k)), some (.int (nI k))] [] (wTr E h0 h1 h2 h3 n fs fg) := by
    intro j
    induction j with
    | zero => intro k hk hj; exact absurd hj (Nat.not_lt_zero _)
    | succ j ih =>
      intro k hk hj
      refine g_iload_n h dX9_gainAt_4 rfl ?_
      refine g_aload_n h dX9_gainAt_5 rfl ?_
      refine g_get h flX9_14 dX9_gainAt_6 0 rfl rfl ?_
      refine g_cVr h kX3_length mX3_length lkX9_30 dX9_gainAt_9 rfl rfl ⟨Nat.zero_le _, Nat.zero_le _⟩ ⟨by decide, by decide⟩ (Nat.le_of_ble_eq_true rfl) [1, 2, 3] rfl rfl 1 rfl rfl ?_
      refine g_ic_ge h dX9_gainAt_12 rfl (fun c12 => ?_) (fun c12 => ?_)
      · replace c12 := (nI_leI (by omega) (by omega)).mp c12
        refine g_iload_n h dX9_gainAt_41 rfl ?_
        refine g_ireturn h dX9_gainAt_42 rfl rfl ⟨Nat.zero_le _, Nat.zero_le _, rfl, ?_, ?_⟩
        · rw [show k = n by omega]
        · rfl
      · replace c12 := (not_congr (nI_leI (by omega) (by omega))).mp c12
        have c12 : k < n := by omega
        refine g_aload_n h dX9_gainAt_15 rfl ?_
        refine g_iload_n h dX9_gainAt_16 rfl ?_
        refine g_iload_n h dX9_gainAt_17 rfl ?_
        refine g_cVr h (kX9_isAt c12 hn) mX9_isAt lkX9_34 dX9_gainAt_18 rfl rfl ⟨Nat.zero_le _, Nat.zero_le _⟩ ⟨by decide, by decide⟩ (Nat.le_of_ble_eq_true rfl) [0, 1, 2, 3] rfl rfl 0 rfl rfl ?_
        refine g_ifb_eq h dX9_gainAt_21 rfl (fun c21 => ?_) (fun c21 => ?_)
        · refine g_iinc (lv' := [some _, some _, some _, some _]) h dX9_gainAt_35 rfl (nI_inc1 _) (by decide) rfl ?_
          refine g_goto h dX9_gainAt_38 rfl ?_
          have e : gsum fs fg p (k + 1) = if atP fs p k then gsum fs fg p k + fg k else gsum fs fg p k := rfl
          rw [c21] at e
          refine g_as rfl (show _ = [some (.ref h0), some (.int p), some (.int (gsum fs fg p (k + 1))), some (.int (nI (k + 1)))] by rw [e] <;> rfl) rfl rfl ?_
          exact ih (k + 1) (by omega) (by omega)
        · refine g_iload_n h dX9_gainAt_24 rfl ?_
          refine g_aload_n h dX9_gainAt_25 rfl ?_
          refine g_get h flX9_14 dX9_gainAt_26 0 rfl rfl ?_
          refine g_iload_n h dX9_gainAt_29 rfl ?_
          refine g_cVr h (kX3_second hn (by omega)) mX3_second lkX9_38 dX9_gainAt_30 rfl rfl ⟨Nat.zero_le _, Nat.zero_le _⟩ ⟨by decide, by decide⟩ (Nat.le_of_ble_eq_true rfl) [1, 2, 3] rfl rfl 1 rfl rfl ?_
          rw [pget_lt c12 (by omega)]
          refine g_iadd h dX9_gainAt_33 ?_
          refine g_istore_n (lv' := [some _, some _, some _, some _]) h dX9_gainAt_34 (by decide) rfl ?_
          refine g_iinc (lv' := [some _, some _, some _, some _]) h dX9_gainAt_35 rfl (nI_inc1 _) (by decide) rfl ?_
          refine g_goto h dX9_gainAt_38 rfl ?_
          have e : gsum fs fg p (k + 1) = if atP fs p k then gsum fs fg p k + fg k else gsum fs fg p k := rfl
          rw [c21] at e
          refine g_as rfl (show _ = [some (.ref h0), some (.int p), some (.int (gsum fs fg p (k + 1))), some (.int (nI (k + 1)))] by rw [e] <;> rfl) rfl rfl ?_
          exact ih (k + 1) (by omega) (by omega)
  exact loop4 _ 0 (Nat.zero_le _) (Nat.lt_succ_self _)
end
section
theorem zz_last : True := trivial
end
