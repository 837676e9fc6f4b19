section
-- ===== PART A: goes FIRST, ahead of the names: the tables' words, and 'selects' of the private methods out of them =====
/-- a private method of a class that the tables say can be made, by its rows of tables_1 -/
def lw_okq (q : MethodName × Nat) : Prop := (q.1.cls ≠ "java/lang/invoke/MethodHandle" ∧ q.1.cls ≠ "java/lang/invoke/VarHandle") ∧ Cond.instantiable q.1.cls q.2 ∈ tables_1 ∧ Cond.privateMethod q.1 ∈ tables_1 ∧ Cond.instanceMethod q.1 ∈ tables_1
theorem lw_p0 : lw_okq (⟨"WatchBench", "refuse", "(I)J"⟩, 12) := ⟨⟨by decide +kernel, by decide +kernel⟩, List.mem_of_getElem? (i := 19) (by decide +kernel), List.mem_of_getElem? (i := 261) (by decide +kernel), List.mem_of_getElem? (i := 262) (by decide +kernel)⟩
theorem lw_p1 : lw_okq (⟨"WatchBench", "whyNoLaying", "(II)I"⟩, 12) := ⟨⟨by decide +kernel, by decide +kernel⟩, List.mem_of_getElem? (i := 19) (by decide +kernel), List.mem_of_getElem? (i := 418) (by decide +kernel), List.mem_of_getElem? (i := 419) (by decide +kernel)⟩
theorem lw_p2 : lw_okq (⟨"WatchBench", "isModel", "(I)Z"⟩, 12) := ⟨⟨by decide +kernel, by decide +kernel⟩, List.mem_of_getElem? (i := 19) (by decide +kernel), List.mem_of_getElem? (i := 442) (by decide +kernel), List.mem_of_getElem? (i := 443) (by decide +kernel)⟩
theorem lw_p3 : lw_okq (⟨"WatchBench$Products", "weigh", "(ILWatchBench$Stock;I)V"⟩, 5) := ⟨⟨by decide +kernel, by decide +kernel⟩, List.mem_of_getElem? (i := 128) (by decide +kernel), List.mem_of_getElem? (i := 461) (by decide +kernel), List.mem_of_getElem? (i := 462) (by decide +kernel)⟩
theorem lw_p4 : lw_okq (⟨"WatchBench$Products", "pickColumns", "(I)V"⟩, 5) := ⟨⟨by decide +kernel, by decide +kernel⟩, List.mem_of_getElem? (i := 128) (by decide +kernel), List.mem_of_getElem? (i := 472) (by decide +kernel), List.mem_of_getElem? (i := 473) (by decide +kernel)⟩
theorem lw_p5 : lw_okq (⟨"WatchBench$Products", "minorOf", "(I)J"⟩, 5) := ⟨⟨by decide +kernel, by decide +kernel⟩, List.mem_of_getElem? (i := 128) (by decide +kernel), List.mem_of_getElem? (i := 476) (by decide +kernel), List.mem_of_getElem? (i := 477) (by decide +kernel)⟩
theorem lw_p6 : lw_okq (⟨"WatchBench", "whyNoSizes", "()I"⟩, 12) := ⟨⟨by decide +kernel, by decide +kernel⟩, List.mem_of_getElem? (i := 19) (by decide +kernel), List.mem_of_getElem? (i := 521) (by decide +kernel), List.mem_of_getElem? (i := 522) (by decide +kernel)⟩
theorem lw_p7 : lw_okq (⟨"WatchBench", "whyNoPaper", "()I"⟩, 12) := ⟨⟨by decide +kernel, by decide +kernel⟩, List.mem_of_getElem? (i := 19) (by decide +kernel), List.mem_of_getElem? (i := 648) (by decide +kernel), List.mem_of_getElem? (i := 649) (by decide +kernel)⟩
theorem lw_p8 : lw_okq (⟨"WatchBench$MendSearch", "tryOut", "(IIII)V"⟩, 6) := ⟨⟨by decide +kernel, by decide +kernel⟩, List.mem_of_getElem? (i := 176) (by decide +kernel), List.mem_of_getElem? (i := 680) (by decide +kernel), List.mem_of_getElem? (i := 681) (by decide +kernel)⟩
theorem lw_p9 : lw_okq (⟨"WatchBench$MendSearch", "trySecond", "(II)V"⟩, 6) := ⟨⟨by decide +kernel, by decide +kernel⟩, List.mem_of_getElem? (i := 176) (by decide +kernel), List.mem_of_getElem? (i := 687) (by decide +kernel), List.mem_of_getElem? (i := 688) (by decide +kernel)⟩
theorem lw_p10 : lw_okq (⟨"WatchBench$Trial", "isAt", "(II)Z"⟩, 1) := ⟨⟨by decide +kernel, by decide +kernel⟩, List.mem_of_getElem? (i := 201) (by decide +kernel), List.mem_of_getElem? (i := 725) (by decide +kernel), List.mem_of_getElem? (i := 726) (by decide +kernel)⟩
theorem lw_p11 : lw_okq (⟨"WatchBench", "judge", "(I)I"⟩, 12) := ⟨⟨by decide +kernel, by decide +kernel⟩, List.mem_of_getElem? (i := 19) (by decide +kernel), List.mem_of_getElem? (i := 755) (by decide +kernel), List.mem_of_getElem? (i := 756) (by decide +kernel)⟩
theorem lw_p12 : lw_okq (⟨"WatchBenchModel", "tellFinding", "(J)J"⟩, 27) := ⟨⟨by decide +kernel, by decide +kernel⟩, List.mem_of_getElem? (i := 806) (by decide +kernel), List.mem_of_getElem? (i := 902) (by decide +kernel), List.mem_of_getElem? (i := 903) (by decide +kernel)⟩
theorem lw_p13 : lw_okq (⟨"WatchBenchModel", "isCause", "(I)Z"⟩, 27) := ⟨⟨by decide +kernel, by decide +kernel⟩, List.mem_of_getElem? (i := 806) (by decide +kernel), List.mem_of_getElem? (i := 912) (by decide +kernel), List.mem_of_getElem? (i := 913) (by decide +kernel)⟩
theorem lw_p14 : lw_okq (⟨"WatchBenchModel", "shown", "(II)J"⟩, 27) := ⟨⟨by decide +kernel, by decide +kernel⟩, List.mem_of_getElem? (i := 806) (by decide +kernel), List.mem_of_getElem? (i := 919) (by decide +kernel), List.mem_of_getElem? (i := 920) (by decide +kernel)⟩
theorem lw_p15 : lw_okq (⟨"WatchBenchModel", "addReading", "(II)V"⟩, 27) := ⟨⟨by decide +kernel, by decide +kernel⟩, List.mem_of_getElem? (i := 806) (by decide +kernel), List.mem_of_getElem? (i := 932) (by decide +kernel), List.mem_of_getElem? (i := 933) (by decide +kernel)⟩
def lw_privs_1 : List (MethodName × Nat) := [(⟨"WatchBench", "refuse", "(I)J"⟩, 12), (⟨"WatchBench", "whyNoLaying", "(II)I"⟩, 12), (⟨"WatchBench", "isModel", "(I)Z"⟩, 12), (⟨"WatchBench$Products", "weigh", "(ILWatchBench$Stock;I)V"⟩, 5), (⟨"WatchBench$Products", "pickColumns", "(I)V"⟩, 5), (⟨"WatchBench$Products", "minorOf", "(I)J"⟩, 5), (⟨"WatchBench", "whyNoSizes", "()I"⟩, 12), (⟨"WatchBench", "whyNoPaper", "()I"⟩, 12), (⟨"WatchBench$MendSearch", "tryOut", "(IIII)V"⟩, 6), (⟨"WatchBench$MendSearch", "trySecond", "(II)V"⟩, 6), (⟨"WatchBench$Trial", "isAt", "(II)Z"⟩, 1), (⟨"WatchBench", "judge", "(I)I"⟩, 12), (⟨"WatchBenchModel", "tellFinding", "(J)J"⟩, 27), (⟨"WatchBenchModel", "isCause", "(I)Z"⟩, 27), (⟨"WatchBenchModel", "shown", "(II)J"⟩, 27), (⟨"WatchBenchModel", "addReading", "(II)V"⟩, 27)]
theorem lw_r1 : ∀ q ∈ lw_privs_1, lw_okq q := List.forall_mem_cons.mpr ⟨lw_p0, List.forall_mem_cons.mpr ⟨lw_p1, List.forall_mem_cons.mpr ⟨lw_p2, List.forall_mem_cons.mpr ⟨lw_p3, List.forall_mem_cons.mpr ⟨lw_p4, List.forall_mem_cons.mpr ⟨lw_p5, List.forall_mem_cons.mpr ⟨lw_p6, List.forall_mem_cons.mpr ⟨lw_p7, List.forall_mem_cons.mpr ⟨lw_p8, List.forall_mem_cons.mpr ⟨lw_p9, List.forall_mem_cons.mpr ⟨lw_p10, List.forall_mem_cons.mpr ⟨lw_p11, List.forall_mem_cons.mpr ⟨lw_p12, List.forall_mem_cons.mpr ⟨lw_p13, List.forall_mem_cons.mpr ⟨lw_p14, List.forall_mem_cons.mpr ⟨lw_p15, fun _ h => absurd h List.not_mem_nil⟩⟩⟩⟩⟩⟩⟩⟩⟩⟩⟩⟩⟩⟩⟩⟩
theorem lw_p16 : lw_okq (⟨"WatchBenchModel", "isReading", "(I)Z"⟩, 27) := ⟨⟨by decide +kernel, by decide +kernel⟩, List.mem_of_getElem? (i := 806) (by decide +kernel), List.mem_of_getElem? (i := 940) (by decide +kernel), List.mem_of_getElem? (i := 941) (by decide +kernel)⟩
theorem lw_p17 : lw_okq (⟨"WatchBenchModel", "takeModel", "(I)V"⟩, 27) := ⟨⟨by decide +kernel, by decide +kernel⟩, List.mem_of_getElem? (i := 806) (by decide +kernel), List.mem_of_getElem? (i := 972) (by decide +kernel), List.mem_of_getElem? (i := 973) (by decide +kernel)⟩
theorem lw_p18 : lw_okq (⟨"WatchBenchModel", "solve", "(I)Z"⟩, 27) := ⟨⟨by decide +kernel, by decide +kernel⟩, List.mem_of_getElem? (i := 806) (by decide +kernel), List.mem_of_getElem? (i := 976) (by decide +kernel), List.mem_of_getElem? (i := 977) (by decide +kernel)⟩
theorem lw_p19 : lw_okq (⟨"WatchBenchModel", "whole", "(I)J"⟩, 27) := ⟨⟨by decide +kernel, by decide +kernel⟩, List.mem_of_getElem? (i := 806) (by decide +kernel), List.mem_of_getElem? (i := 980) (by decide +kernel), List.mem_of_getElem? (i := 981) (by decide +kernel)⟩
theorem lw_p20 : lw_okq (⟨"WatchBenchModel", "entry", "(III)J"⟩, 27) := ⟨⟨by decide +kernel, by decide +kernel⟩, List.mem_of_getElem? (i := 806) (by decide +kernel), List.mem_of_getElem? (i := 984) (by decide +kernel), List.mem_of_getElem? (i := 985) (by decide +kernel)⟩
theorem lw_p21 : lw_okq (⟨"WatchBenchModel", "two", "(IIIII)J"⟩, 27) := ⟨⟨by decide +kernel, by decide +kernel⟩, List.mem_of_getElem? (i := 806) (by decide +kernel), List.mem_of_getElem? (i := 988) (by decide +kernel), List.mem_of_getElem? (i := 989) (by decide +kernel)⟩
theorem lw_p22 : lw_okq (⟨"WatchBenchModel", "three", "(IIIIIII)J"⟩, 27) := ⟨⟨by decide +kernel, by decide +kernel⟩, List.mem_of_getElem? (i := 806) (by decide +kernel), List.mem_of_getElem? (i := 992) (by decide +kernel), List.mem_of_getElem? (i := 993) (by decide +kernel)⟩
theorem lw_p23 : lw_okq (⟨"WatchBenchModel", "becomesFound", "(I)V"⟩, 27) := ⟨⟨by decide +kernel, by decide +kernel⟩, List.mem_of_getElem? (i := 806) (by decide +kernel), List.mem_of_getElem? (i := 996) (by decide +kernel), List.mem_of_getElem? (i := 997) (by decide +kernel)⟩
theorem lw_p24 : lw_okq (⟨"WatchBenchModel", "sumLeft", "()J"⟩, 27) := ⟨⟨by decide +kernel, by decide +kernel⟩, List.mem_of_getElem? (i := 806) (by decide +kernel), List.mem_of_getElem? (i := 1000) (by decide +kernel), List.mem_of_getElem? (i := 1001) (by decide +kernel)⟩
theorem lw_p25 : lw_okq (⟨"WatchBenchModel", "rank", "(I)I"⟩, 27) := ⟨⟨by decide +kernel, by decide +kernel⟩, List.mem_of_getElem? (i := 806) (by decide +kernel), List.mem_of_getElem? (i := 1004) (by decide +kernel), List.mem_of_getElem? (i := 1005) (by decide +kernel)⟩
theorem lw_p26 : lw_okq (⟨"WatchBenchModel", "notFound", "()J"⟩, 27) := ⟨⟨by decide +kernel, by decide +kernel⟩, List.mem_of_getElem? (i := 806) (by decide +kernel), List.mem_of_getElem? (i := 1017) (by decide +kernel), List.mem_of_getElem? (i := 1018) (by decide +kernel)⟩
theorem lw_p27 : lw_okq (⟨"WatchBenchModel", "placeOf", "(I)I"⟩, 27) := ⟨⟨by decide +kernel, by decide +kernel⟩, List.mem_of_getElem? (i := 806) (by decide +kernel), List.mem_of_getElem? (i := 1022) (by decide +kernel), List.mem_of_getElem? (i := 1023) (by decide +kernel)⟩
theorem lw_p28 : lw_okq (⟨"WatchBenchModel", "foretoldAt", "(I)J"⟩, 27) := ⟨⟨by decide +kernel, by decide +kernel⟩, List.mem_of_getElem? (i := 806) (by decide +kernel), List.mem_of_getElem? (i := 1036) (by decide +kernel), List.mem_of_getElem? (i := 1037) (by decide +kernel)⟩
theorem lw_p29 : lw_okq (⟨"WatchBenchModel", "isMend", "(I)Z"⟩, 27) := ⟨⟨by decide +kernel, by decide +kernel⟩, List.mem_of_getElem? (i := 806) (by decide +kernel), List.mem_of_getElem? (i := 1083) (by decide +kernel), List.mem_of_getElem? (i := 1084) (by decide +kernel)⟩
theorem lw_p30 : lw_okq (⟨"WatchBenchModel", "mended", "(III)J"⟩, 27) := ⟨⟨by decide +kernel, by decide +kernel⟩, List.mem_of_getElem? (i := 806) (by decide +kernel), List.mem_of_getElem? (i := 1087) (by decide +kernel), List.mem_of_getElem? (i := 1088) (by decide +kernel)⟩
theorem lw_p31 : lw_okq (⟨"WatchBenchModel", "noWorst", "()J"⟩, 27) := ⟨⟨by decide +kernel, by decide +kernel⟩, List.mem_of_getElem? (i := 806) (by decide +kernel), List.mem_of_getElem? (i := 1095) (by decide +kernel), List.mem_of_getElem? (i := 1096) (by decide +kernel)⟩
def lw_privs_2 : List (MethodName × Nat) := [(⟨"WatchBenchModel", "isReading", "(I)Z"⟩, 27), (⟨"WatchBenchModel", "takeModel", "(I)V"⟩, 27), (⟨"WatchBenchModel", "solve", "(I)Z"⟩, 27), (⟨"WatchBenchModel", "whole", "(I)J"⟩, 27), (⟨"WatchBenchModel", "entry", "(III)J"⟩, 27), (⟨"WatchBenchModel", "two", "(IIIII)J"⟩, 27), (⟨"WatchBenchModel", "three", "(IIIIIII)J"⟩, 27), (⟨"WatchBenchModel", "becomesFound", "(I)V"⟩, 27), (⟨"WatchBenchModel", "sumLeft", "()J"⟩, 27), (⟨"WatchBenchModel", "rank", "(I)I"⟩, 27), (⟨"WatchBenchModel", "notFound", "()J"⟩, 27), (⟨"WatchBenchModel", "placeOf", "(I)I"⟩, 27), (⟨"WatchBenchModel", "foretoldAt", "(I)J"⟩, 27), (⟨"WatchBenchModel", "isMend", "(I)Z"⟩, 27), (⟨"WatchBenchModel", "mended", "(III)J"⟩, 27), (⟨"WatchBenchModel", "noWorst", "()J"⟩, 27)]
theorem lw_r2 : ∀ q ∈ lw_privs_2, lw_okq q := List.forall_mem_cons.mpr ⟨lw_p16, List.forall_mem_cons.mpr ⟨lw_p17, List.forall_mem_cons.mpr ⟨lw_p18, List.forall_mem_cons.mpr ⟨lw_p19, List.forall_mem_cons.mpr ⟨lw_p20, List.forall_mem_cons.mpr ⟨lw_p21, List.forall_mem_cons.mpr ⟨lw_p22, List.forall_mem_cons.mpr ⟨lw_p23, List.forall_mem_cons.mpr ⟨lw_p24, List.forall_mem_cons.mpr ⟨lw_p25, List.forall_mem_cons.mpr ⟨lw_p26, List.forall_mem_cons.mpr ⟨lw_p27, List.forall_mem_cons.mpr ⟨lw_p28, List.forall_mem_cons.mpr ⟨lw_p29, List.forall_mem_cons.mpr ⟨lw_p30, List.forall_mem_cons.mpr ⟨lw_p31, fun _ h => absurd h List.not_mem_nil⟩⟩⟩⟩⟩⟩⟩⟩⟩⟩⟩⟩⟩⟩⟩⟩
theorem lw_p32 : lw_okq (⟨"WatchBenchModel", "spans", "()I"⟩, 27) := ⟨⟨by decide +kernel, by decide +kernel⟩, List.mem_of_getElem? (i := 806) (by decide +kernel), List.mem_of_getElem? (i := 1099) (by decide +kernel), List.mem_of_getElem? (i := 1100) (by decide +kernel)⟩
theorem lw_p33 : lw_okq (⟨"WatchBenchModel", "hasSpan", "(I)Z"⟩, 27) := ⟨⟨by decide +kernel, by decide +kernel⟩, List.mem_of_getElem? (i := 806) (by decide +kernel), List.mem_of_getElem? (i := 1103) (by decide +kernel), List.mem_of_getElem? (i := 1104) (by decide +kernel)⟩
theorem lw_p34 : lw_okq (⟨"WatchBenchModel", "worstWith", "(IIII)J"⟩, 27) := ⟨⟨by decide +kernel, by decide +kernel⟩, List.mem_of_getElem? (i := 806) (by decide +kernel), List.mem_of_getElem? (i := 1107) (by decide +kernel), List.mem_of_getElem? (i := 1108) (by decide +kernel)⟩
theorem lw_p35 : lw_okq (⟨"WatchBenchModel", "isAt", "(II)Z"⟩, 27) := ⟨⟨by decide +kernel, by decide +kernel⟩, List.mem_of_getElem? (i := 806) (by decide +kernel), List.mem_of_getElem? (i := 1137) (by decide +kernel), List.mem_of_getElem? (i := 1138) (by decide +kernel)⟩
def lw_privs_3 : List (MethodName × Nat) := [(⟨"WatchBenchModel", "spans", "()I"⟩, 27), (⟨"WatchBenchModel", "hasSpan", "(I)Z"⟩, 27), (⟨"WatchBenchModel", "worstWith", "(IIII)J"⟩, 27), (⟨"WatchBenchModel", "isAt", "(II)Z"⟩, 27)]
theorem lw_r3 : ∀ q ∈ lw_privs_3, lw_okq q := List.forall_mem_cons.mpr ⟨lw_p32, List.forall_mem_cons.mpr ⟨lw_p33, List.forall_mem_cons.mpr ⟨lw_p34, List.forall_mem_cons.mpr ⟨lw_p35, fun _ h => absurd h List.not_mem_nil⟩⟩⟩⟩
def lw_privs : List (MethodName × Nat) := lw_privs_1 ++ (lw_privs_2 ++ (lw_privs_3))
def lw_tbl : List Cond := k2_sels lw_privs ++ tables_1
theorem lw_privs_ok : ∀ q ∈ lw_privs, lw_okq q := by
  show ∀ q ∈ lw_privs_1 ++ (lw_privs_2 ++ (lw_privs_3)), lw_okq q
  exact List.forall_mem_append.mpr ⟨lw_r1, List.forall_mem_append.mpr ⟨lw_r2, lw_r3⟩⟩
end
section
def RX0 : String := "WatchBench$Causes"
def TX0 : u_T := fun k => match k with
  | 0 => ("WatchBench$Causes", "kinds", "[I", true)
  | _ => ("WatchBench$Causes", "numbers", "LWatchBench$Pairs;", true)
def tyX0 : Nat → FieldType := fun k => match k with
  | 0 => .array .int
  | _ => .object "WatchBench$Pairs"
abbrev wsX00 : List Cond := u_ws RX0 TX0 2
theorem nmX0 : ∀ a, a < 2 → ∀ b, b < 2 → a ≠ b → (TX0 a).2.1 ≠ (TX0 b).2.1 := by decide +kernel
theorem tyX0_ok : ∀ k, k < 2 → parseFieldDescriptor (TX0 k).2.2.1 = some (tyX0 k) := by decide +kernel
abbrev cX0_init : ByteArray := prog_2_method_1_code
def yX0_init : MethodName := ⟨RX0, "<init>", "()V"⟩
abbrev cX0_isKind : ByteArray := prog_2_method_2_code
def yX0_isKind : MethodName := ⟨RX0, "isKind", "(I)Z"⟩
abbrev cX0_allows : ByteArray := prog_2_method_3_code
def yX0_allows : MethodName := ⟨RX0, "allows", "(III)Z"⟩
abbrev cX0_length : ByteArray := prog_2_method_4_code
def yX0_length : MethodName := ⟨RX0, "length", "()I"⟩
abbrev cX0_has : ByteArray := prog_2_method_5_code
def yX0_has : MethodName := ⟨RX0, "has", "(I)Z"⟩
abbrev cX0_isFull : ByteArray := prog_2_method_6_code
def yX0_isFull : MethodName := ⟨RX0, "isFull", "()Z"⟩
abbrev cX0_append : ByteArray := prog_2_method_7_code
def yX0_append : MethodName := ⟨RX0, "append", "(III)I"⟩
abbrev cX0_isOf : ByteArray := prog_2_method_8_code
def yX0_isOf : MethodName := ⟨RX0, "isOf", "(II)Z"⟩
abbrev cX0_numberA : ByteArray := prog_2_method_9_code
def yX0_numberA : MethodName := ⟨RX0, "numberA", "(I)I"⟩
abbrev cX0_shownIn : ByteArray := prog_2_method_10_code
def yX0_shownIn : MethodName := ⟨RX0, "shownIn", "(II)I"⟩
abbrev cX0_hanging : ByteArray := prog_2_method_11_code
def yX0_hanging : MethodName := ⟨RX0, "hanging", "(IIII)I"⟩
abbrev cX0_copyFrom : ByteArray := prog_2_method_12_code
def yX0_copyFrom : MethodName := ⟨RX0, "copyFrom", "(LWatchBench$Causes;)V"⟩
def RX1 : String := "WatchBench$MendSearch"
def TX1 : u_T := fun k => match k with
  | 0 => ("WatchBench$MendSearch", "rates", "[J", true)
  | 1 => ("WatchBench$MendSearch", "steps", "[J", true)
  | 2 => ("WatchBench$MendSearch", "places", "I", false)
  | 3 => ("WatchBench$MendSearch", "mends", "I", false)
  | 4 => ("WatchBench$MendSearch", "least", "J", false)
  | _ => ("WatchBench$MendSearch", "answer", "J", false)
def tyX1 : Nat → FieldType := fun k => match k with
  | 0 => .array .long
  | 1 => .array .long
  | 2 => .int
  | 3 => .int
  | 4 => .long
  | _ => .long
abbrev wsX10 : List Cond := u_ws RX1 TX1 6
theorem nmX1 : ∀ a, a < 6 → ∀ b, b < 6 → a ≠ b → (TX1 a).2.1 ≠ (TX1 b).2.1 := by decide +kernel
theorem tyX1_ok : ∀ k, k < 6 → parseFieldDescriptor (TX1 k).2.2.1 = some (tyX1 k) := by decide +kernel
abbrev cX1_init : ByteArray := prog_3_method_1_code
def yX1_init : MethodName := ⟨RX1, "<init>", "()V"⟩
abbrev cX1_prepare : ByteArray := prog_3_method_2_code
def yX1_prepare : MethodName := ⟨RX1, "prepare", "(LWatchBench$Stock;LWatchBench$Sizes;)V"⟩
abbrev cX1_run : ByteArray := prog_3_method_3_code
def yX1_run : MethodName := ⟨RX1, "run", "()J"⟩
abbrev cX1_trySecond : ByteArray := prog_3_method_4_code
def yX1_trySecond : MethodName := ⟨RX1, "trySecond", "(II)V"⟩
abbrev cX1_tryOut : ByteArray := prog_3_method_5_code
def yX1_tryOut : MethodName := ⟨RX1, "tryOut", "(IIII)V"⟩
def RX2 : String := "WatchBench$Numbers"
def TX2 : u_T := fun k => match k with
  | _ => ("", "", "", false)
def tyX2 : Nat → FieldType := fun k => match k with
  | _ => .int
abbrev wsX20 : List Cond := u_ws RX2 TX2 0
theorem nmX2 : ∀ a, a < 0 → ∀ b, b < 0 → a ≠ b → (TX2 a).2.1 ≠ (TX2 b).2.1 := by decide +kernel
theorem tyX2_ok : ∀ k, k < 0 → parseFieldDescriptor (TX2 k).2.2.1 = some (tyX2 k) := by decide +kernel
abbrev cX2_within : ByteArray := prog_4_method_2_code
def yX2_within : MethodName := ⟨RX2, "within", "(III)Z"⟩
abbrev cX2_lowest : ByteArray := prog_4_method_3_code
def yX2_lowest : MethodName := ⟨RX2, "lowest", "(JJZ)J"⟩
abbrev cX2_commonOf : ByteArray := prog_4_method_4_code
def yX2_commonOf : MethodName := ⟨RX2, "commonOf", "(JJ)J"⟩
abbrev cX2_order : ByteArray := prog_4_method_5_code
def yX2_order : MethodName := ⟨RX2, "order", "(JJJJ)I"⟩
def RX3 : String := "WatchBench$Pairs"
def TX3 : u_T := fun k => match k with
  | 0 => ("WatchBench$Pairs", "firsts", "[I", true)
  | 1 => ("WatchBench$Pairs", "seconds", "[I", true)
  | _ => ("WatchBench$Pairs", "length", "I", false)
def tyX3 : Nat → FieldType := fun k => match k with
  | 0 => .array .int
  | 1 => .array .int
  | _ => .int
abbrev wsX30 : List Cond := u_ws RX3 TX3 3
theorem nmX3 : ∀ a, a < 3 → ∀ b, b < 3 → a ≠ b → (TX3 a).2.1 ≠ (TX3 b).2.1 := by decide +kernel
theorem tyX3_ok : ∀ k, k < 3 → parseFieldDescriptor (TX3 k).2.2.1 = some (tyX3 k) := by decide +kernel
abbrev cX3_init : ByteArray := prog_5_method_1_code
def yX3_init : MethodName := ⟨RX3, "<init>", "(I)V"⟩
abbrev cX3_length : ByteArray := prog_5_method_2_code
def yX3_length : MethodName := ⟨RX3, "length", "()I"⟩
abbrev cX3_has : ByteArray := prog_5_method_3_code
def yX3_has : MethodName := ⟨RX3, "has", "(I)Z"⟩
abbrev cX3_isFull : ByteArray := prog_5_method_4_code
def yX3_isFull : MethodName := ⟨RX3, "isFull", "()Z"⟩
abbrev cX3_first : ByteArray := prog_5_method_5_code
def yX3_first : MethodName := ⟨RX3, "first", "(I)I"⟩
abbrev cX3_second : ByteArray := prog_5_method_6_code
def yX3_second : MethodName := ⟨RX3, "second", "(I)I"⟩
abbrev cX3_append : ByteArray := prog_5_method_7_code
def yX3_append : MethodName := ⟨RX3, "append", "(II)I"⟩
abbrev cX3_removeAt : ByteArray := prog_5_method_8_code
def yX3_removeAt : MethodName := ⟨RX3, "removeAt", "(I)V"⟩
abbrev cX3_clear : ByteArray := prog_5_method_9_code
def yX3_clear : MethodName := ⟨RX3, "clear", "()V"⟩
abbrev cX3_copyFrom : ByteArray := prog_5_method_10_code
def yX3_copyFrom : MethodName := ⟨RX3, "copyFrom", "(LWatchBench$Pairs;)V"⟩
def RX4 : String := "WatchBench$Products"
def TX4 : u_T := fun k => match k with
  | 0 => ("WatchBench$Products", "shown", "[J", true)
  | 1 => ("WatchBench$Products", "table", "[J", true)
  | 2 => ("WatchBench$Products", "columns", "[I", true)
  | 3 => ("WatchBench$Products", "causesIn", "I", false)
  | _ => ("WatchBench$Products", "minors", "[J", true)
def tyX4 : Nat → FieldType := fun k => match k with
  | 0 => .array .long
  | 1 => .array .long
  | 2 => .array .int
  | 3 => .int
  | _ => .array .long
abbrev wsX40 : List Cond := u_ws RX4 TX4 5
theorem nmX4 : ∀ a, a < 5 → ∀ b, b < 5 → a ≠ b → (TX4 a).2.1 ≠ (TX4 b).2.1 := by decide +kernel
theorem tyX4_ok : ∀ k, k < 5 → parseFieldDescriptor (TX4 k).2.2.1 = some (tyX4 k) := by decide +kernel
abbrev cX4_init : ByteArray := prog_6_method_1_code
def yX4_init : MethodName := ⟨RX4, "<init>", "()V"⟩
abbrev cX4_gather : ByteArray := prog_6_method_2_code
def yX4_gather : MethodName := ⟨RX4, "gather", "(LWatchBench$Stock;)V"⟩
abbrev cX4_weigh : ByteArray := prog_6_method_3_code
def yX4_weigh : MethodName := ⟨RX4, "weigh", "(ILWatchBench$Stock;I)V"⟩
abbrev cX4_solve : ByteArray := prog_6_method_4_code
def yX4_solve : MethodName := ⟨RX4, "solve", "(I)Z"⟩
abbrev cX4_solveWithout : ByteArray := prog_6_method_5_code
def yX4_solveWithout : MethodName := ⟨RX4, "solveWithout", "(IILWatchBench$Stock;)Z"⟩
abbrev cX4_pickColumns : ByteArray := prog_6_method_6_code
def yX4_pickColumns : MethodName := ⟨RX4, "pickColumns", "(I)V"⟩
abbrev cX4_minorOf : ByteArray := prog_6_method_7_code
def yX4_minorOf : MethodName := ⟨RX4, "minorOf", "(I)J"⟩
abbrev cX4_below : ByteArray := prog_6_method_8_code
def yX4_below : MethodName := ⟨RX4, "below", "()J"⟩
abbrev cX4_squares : ByteArray := prog_6_method_9_code
def yX4_squares : MethodName := ⟨RX4, "squares", "()J"⟩
abbrev cX4_above : ByteArray := prog_6_method_10_code
def yX4_above : MethodName := ⟨RX4, "above", "(I)J"⟩
abbrev cX4_looseOf : ByteArray := prog_6_method_11_code
def yX4_looseOf : MethodName := ⟨RX4, "looseOf", "(I)I"⟩
abbrev cX4_fewestOf : ByteArray := prog_6_method_12_code
def yX4_fewestOf : MethodName := ⟨RX4, "fewestOf", "(II)I"⟩
def RX5 : String := "WatchBench$Sheets"
def TX5 : u_T := fun k => match k with
  | 0 => ("WatchBench$Sheets", "lengths", "[I", true)
  | _ => ("WatchBench$Sheets", "rates", "[[S", true)
def tyX5 : Nat → FieldType := fun k => match k with
  | 0 => .array .int
  | _ => .array (.array .short)
abbrev wsX50 : List Cond := u_ws RX5 TX5 2
theorem nmX5 : ∀ a, a < 2 → ∀ b, b < 2 → a ≠ b → (TX5 a).2.1 ≠ (TX5 b).2.1 := by decide +kernel
theorem tyX5_ok : ∀ k, k < 2 → parseFieldDescriptor (TX5 k).2.2.1 = some (tyX5 k) := by decide +kernel
abbrev cX5_init : ByteArray := prog_7_method_1_code
def yX5_init : MethodName := ⟨RX5, "<init>", "()V"⟩
abbrev cX5_isSheet : ByteArray := prog_7_method_2_code
def yX5_isSheet : MethodName := ⟨RX5, "isSheet", "(I)Z"⟩
abbrev cX5_placesOf : ByteArray := prog_7_method_3_code
def yX5_placesOf : MethodName := ⟨RX5, "placesOf", "(I)I"⟩
abbrev cX5_isMissing : ByteArray := prog_7_method_4_code
def yX5_isMissing : MethodName := ⟨RX5, "isMissing", "(I)Z"⟩
abbrev cX5_hasPlace : ByteArray := prog_7_method_5_code
def yX5_hasPlace : MethodName := ⟨RX5, "hasPlace", "(II)Z"⟩
abbrev cX5_layOut : ByteArray := prog_7_method_6_code
def yX5_layOut : MethodName := ⟨RX5, "layOut", "(II)V"⟩
abbrev cX5_write : ByteArray := prog_7_method_7_code
def yX5_write : MethodName := ⟨RX5, "write", "(III)I"⟩
abbrev cX5_rateAt : ByteArray := prog_7_method_8_code
def yX5_rateAt : MethodName := ⟨RX5, "rateAt", "(II)I"⟩
abbrev cX5_wasRead : ByteArray := prog_7_method_9_code
def yX5_wasRead : MethodName := ⟨RX5, "wasRead", "(II)Z"⟩
abbrev cX5_howManyRead : ByteArray := prog_7_method_10_code
def yX5_howManyRead : MethodName := ⟨RX5, "howManyRead", "(II)I"⟩
abbrev cX5_holdsRates : ByteArray := prog_7_method_11_code
def yX5_holdsRates : MethodName := ⟨RX5, "holdsRates", "(II)Z"⟩
def RX6 : String := "WatchBench$Sizes"
def TX6 : u_T := fun k => match k with
  | 0 => ("WatchBench$Sizes", "areThere", "Z", false)
  | 1 => ("WatchBench$Sizes", "stale", "Z", false)
  | 2 => ("WatchBench$Sizes", "causeSet", "I", false)
  | 3 => ("WatchBench$Sizes", "aboves", "[J", true)
  | 4 => ("WatchBench$Sizes", "below", "J", false)
  | _ => ("WatchBench$Sizes", "squares", "J", false)
def tyX6 : Nat → FieldType := fun k => match k with
  | 0 => .boolean
  | 1 => .boolean
  | 2 => .int
  | 3 => .array .long
  | 4 => .long
  | _ => .long
abbrev wsX60 : List Cond := u_ws RX6 TX6 6
theorem nmX6 : ∀ a, a < 6 → ∀ b, b < 6 → a ≠ b → (TX6 a).2.1 ≠ (TX6 b).2.1 := by decide +kernel
theorem tyX6_ok : ∀ k, k < 6 → parseFieldDescriptor (TX6 k).2.2.1 = some (tyX6 k) := by decide +kernel
abbrev cX6_init : ByteArray := prog_8_method_1_code
def yX6_init : MethodName := ⟨RX6, "<init>", "()V"⟩
abbrev cX6_take : ByteArray := prog_8_method_2_code
def yX6_take : MethodName := ⟨RX6, "take", "(ILWatchBench$Products;)V"⟩
abbrev cX6_forget : ByteArray := prog_8_method_3_code
def yX6_forget : MethodName := ⟨RX6, "forget", "()V"⟩
abbrev cX6_growStale : ByteArray := prog_8_method_4_code
def yX6_growStale : MethodName := ⟨RX6, "growStale", "()V"⟩
abbrev cX6_areFound : ByteArray := prog_8_method_5_code
def yX6_areFound : MethodName := ⟨RX6, "areFound", "()Z"⟩
abbrev cX6_areStale : ByteArray := prog_8_method_6_code
def yX6_areStale : MethodName := ⟨RX6, "areStale", "()Z"⟩
abbrev cX6_causeSet : ByteArray := prog_8_method_7_code
def yX6_causeSet : MethodName := ⟨RX6, "causeSet", "()I"⟩
abbrev cX6_has : ByteArray := prog_8_method_8_code
def yX6_has : MethodName := ⟨RX6, "has", "(I)Z"⟩
abbrev cX6_placeOf : ByteArray := prog_8_method_9_code
def yX6_placeOf : MethodName := ⟨RX6, "placeOf", "(I)I"⟩
abbrev cX6_above : ByteArray := prog_8_method_10_code
def yX6_above : MethodName := ⟨RX6, "above", "(I)J"⟩
abbrev cX6_below : ByteArray := prog_8_method_11_code
def yX6_below : MethodName := ⟨RX6, "below", "()J"⟩
abbrev cX6_squares : ByteArray := prog_8_method_12_code
def yX6_squares : MethodName := ⟨RX6, "squares", "()J"⟩
abbrev cX6_aboveIn : ByteArray := prog_8_method_13_code
def yX6_aboveIn : MethodName := ⟨RX6, "aboveIn", "(ILWatchBench$Causes;)J"⟩
abbrev cX6_stepIn : ByteArray := prog_8_method_14_code
def yX6_stepIn : MethodName := ⟨RX6, "stepIn", "(IILWatchBench$Stock;)J"⟩
abbrev cX6_isSize : ByteArray := prog_8_method_15_code
def yX6_isSize : MethodName := ⟨RX6, "isSize", "(III)Z"⟩
def RX7 : String := "WatchBench$Spans"
def TX7 : u_T := fun k => match k with
  | 0 => ("WatchBench$Spans", "there", "[Z", true)
  | 1 => ("WatchBench$Spans", "froms", "[I", true)
  | _ => ("WatchBench$Spans", "tos", "[I", true)
def tyX7 : Nat → FieldType := fun k => match k with
  | 0 => .array .boolean
  | 1 => .array .int
  | _ => .array .int
abbrev wsX70 : List Cond := u_ws RX7 TX7 3
theorem nmX7 : ∀ a, a < 3 → ∀ b, b < 3 → a ≠ b → (TX7 a).2.1 ≠ (TX7 b).2.1 := by decide +kernel
theorem tyX7_ok : ∀ k, k < 3 → parseFieldDescriptor (TX7 k).2.2.1 = some (tyX7 k) := by decide +kernel
abbrev cX7_init : ByteArray := prog_9_method_1_code
def yX7_init : MethodName := ⟨RX7, "<init>", "()V"⟩
abbrev cX7_has : ByteArray := prog_9_method_2_code
def yX7_has : MethodName := ⟨RX7, "has", "(I)Z"⟩
abbrev cX7_write : ByteArray := prog_9_method_3_code
def yX7_write : MethodName := ⟨RX7, "write", "(III)V"⟩
abbrev cX7_howMany : ByteArray := prog_9_method_4_code
def yX7_howMany : MethodName := ⟨RX7, "howMany", "()I"⟩
abbrev cX7_holds : ByteArray := prog_9_method_5_code
def yX7_holds : MethodName := ⟨RX7, "holds", "(IJJ)Z"⟩
abbrev cX7_copyFrom : ByteArray := prog_9_method_6_code
def yX7_copyFrom : MethodName := ⟨RX7, "copyFrom", "(LWatchBench$Spans;)V"⟩
def RX8 : String := "WatchBench$Stock"
def TX8 : u_T := fun k => match k with
  | 0 => ("WatchBench$Stock", "causes", "LWatchBench$Causes;", true)
  | 1 => ("WatchBench$Stock", "readings", "LWatchBench$Pairs;", true)
  | 2 => ("WatchBench$Stock", "mends", "LWatchBench$Pairs;", true)
  | _ => ("WatchBench$Stock", "spans", "LWatchBench$Spans;", true)
def tyX8 : Nat → FieldType := fun k => match k with
  | 0 => .object "WatchBench$Causes"
  | 1 => .object "WatchBench$Pairs"
  | 2 => .object "WatchBench$Pairs"
  | _ => .object "WatchBench$Spans"
abbrev wsX80 : List Cond := u_ws RX8 TX8 4
theorem nmX8 : ∀ a, a < 4 → ∀ b, b < 4 → a ≠ b → (TX8 a).2.1 ≠ (TX8 b).2.1 := by decide +kernel
theorem tyX8_ok : ∀ k, k < 4 → parseFieldDescriptor (TX8 k).2.2.1 = some (tyX8 k) := by decide +kernel
abbrev cX8_init : ByteArray := prog_10_method_1_code
def yX8_init : MethodName := ⟨RX8, "<init>", "()V"⟩
abbrev cX8_copyFrom : ByteArray := prog_10_method_2_code
def yX8_copyFrom : MethodName := ⟨RX8, "copyFrom", "(LWatchBench$Stock;)V"⟩
def RX9 : String := "WatchBench$Trial"
def TX9 : u_T := fun k => match k with
  | _ => ("WatchBench$Trial", "days", "LWatchBench$Pairs;", true)
def tyX9 : Nat → FieldType := fun k => match k with
  | _ => .object "WatchBench$Pairs"
abbrev wsX90 : List Cond := u_ws RX9 TX9 1
theorem nmX9 : ∀ a, a < 1 → ∀ b, b < 1 → a ≠ b → (TX9 a).2.1 ≠ (TX9 b).2.1 := by decide +kernel
theorem tyX9_ok : ∀ k, k < 1 → parseFieldDescriptor (TX9 k).2.2.1 = some (tyX9 k) := by decide +kernel
abbrev cX9_init : ByteArray := prog_11_method_1_code
def yX9_init : MethodName := ⟨RX9, "<init>", "()V"⟩
abbrev cX9_isPlace : ByteArray := prog_11_method_2_code
def yX9_isPlace : MethodName := ⟨RX9, "isPlace", "(I)Z"⟩
abbrev cX9_isAt : ByteArray := prog_11_method_3_code
def yX9_isAt : MethodName := ⟨RX9, "isAt", "(II)Z"⟩
abbrev cX9_daysAt : ByteArray := prog_11_method_4_code
def yX9_daysAt : MethodName := ⟨RX9, "daysAt", "(I)I"⟩
abbrev cX9_gainAt : ByteArray := prog_11_method_5_code
def yX9_gainAt : MethodName := ⟨RX9, "gainAt", "(I)I"⟩
abbrev cX9_greatestTurnAt : ByteArray := prog_11_method_6_code
def yX9_greatestTurnAt : MethodName := ⟨RX9, "greatestTurnAt", "(I)I"⟩
def RX10 : String := "WatchBench"
def TX10 : u_T := fun k => match k with
  | 0 => ("WatchBench", "stock", "LWatchBench$Stock;", true)
  | 1 => ("WatchBench", "kept", "LWatchBench$Stock;", true)
  | 2 => ("WatchBench", "anyKept", "Z", false)
  | 3 => ("WatchBench", "sheets", "LWatchBench$Sheets;", true)
  | 4 => ("WatchBench", "products", "LWatchBench$Products;", true)
  | 5 => ("WatchBench", "sizes", "LWatchBench$Sizes;", true)
  | 6 => ("WatchBench", "looseSet", "I", false)
  | 7 => ("WatchBench", "mendSearch", "LWatchBench$MendSearch;", true)
  | 8 => ("WatchBench", "trial", "LWatchBench$Trial;", true)
  | 9 => ("WatchBench", "told", "[I", true)
  | 10 => ("WatchBench", "waiting", "I", false)
  | _ => ("WatchBench", "refusals", "[I", true)
def tyX10 : Nat → FieldType := fun k => match k with
  | 0 => .object "WatchBench$Stock"
  | 1 => .object "WatchBench$Stock"
  | 2 => .boolean
  | 3 => .object "WatchBench$Sheets"
  | 4 => .object "WatchBench$Products"
  | 5 => .object "WatchBench$Sizes"
  | 6 => .int
  | 7 => .object "WatchBench$MendSearch"
  | 8 => .object "WatchBench$Trial"
  | 9 => .array .int
  | 10 => .int
  | _ => .array .int
abbrev wsX100 : List Cond := u_ws RX10 TX10 12
theorem nmX10 : ∀ a, a < 12 → ∀ b, b < 12 → a ≠ b → (TX10 a).2.1 ≠ (TX10 b).2.1 := by decide +kernel
theorem tyX10_ok : ∀ k, k < 12 → parseFieldDescriptor (TX10 k).2.2.1 = some (tyX10 k) := by decide +kernel
abbrev cX10_init : ByteArray := prog_1_method_1_code
def yX10_init : MethodName := ⟨RX10, "<init>", "()V"⟩
abbrev cX10_cause : ByteArray := prog_1_method_2_code
def yX10_cause : MethodName := ⟨RX10, "cause", "(III)J"⟩
abbrev cX10_shows : ByteArray := prog_1_method_3_code
def yX10_shows : MethodName := ⟨RX10, "shows", "(II)J"⟩
abbrev cX10_as : ByteArray := prog_1_method_4_code
def yX10_as : MethodName := ⟨RX10, "as", "(II)J"⟩
abbrev cX10_read : ByteArray := prog_1_method_5_code
def yX10_read : MethodName := ⟨RX10, "read", "(II)J"⟩
abbrev cX10_drop : ByteArray := prog_1_method_6_code
def yX10_drop : MethodName := ⟨RX10, "drop", "(I)J"⟩
abbrev cX10_reading : ByteArray := prog_1_method_7_code
def yX10_reading : MethodName := ⟨RX10, "reading", "(II)J"⟩
abbrev cX10_sheet : ByteArray := prog_1_method_8_code
def yX10_sheet : MethodName := ⟨RX10, "sheet", "(II)J"⟩
abbrev cX10_put : ByteArray := prog_1_method_9_code
def yX10_put : MethodName := ⟨RX10, "put", "(III)J"⟩
abbrev cX10_lay : ByteArray := prog_1_method_10_code
def yX10_lay : MethodName := ⟨RX10, "lay", "(II)J"⟩
abbrev cX10_whyNoLaying : ByteArray := prog_1_method_11_code
def yX10_whyNoLaying : MethodName := ⟨RX10, "whyNoLaying", "(II)I"⟩
abbrev cX10_find : ByteArray := prog_1_method_12_code
def yX10_find : MethodName := ⟨RX10, "find", "(I)J"⟩
abbrev cX10_loose : ByteArray := prog_1_method_13_code
def yX10_loose : MethodName := ⟨RX10, "loose", "()J"⟩
abbrev cX10_size : ByteArray := prog_1_method_14_code
def yX10_size : MethodName := ⟨RX10, "size", "(IZ)J"⟩
abbrev cX10_left : ByteArray := prog_1_method_15_code
def yX10_left : MethodName := ⟨RX10, "left", "(IZ)J"⟩
abbrev cX10_sum : ByteArray := prog_1_method_16_code
def yX10_sum : MethodName := ⟨RX10, "sum", "(Z)J"⟩
abbrev cX10_foretold : ByteArray := prog_1_method_17_code
def yX10_foretold : MethodName := ⟨RX10, "foretold", "(IZ)J"⟩
abbrev cX10_model : ByteArray := prog_1_method_18_code
def yX10_model : MethodName := ⟨RX10, "model", "()J"⟩
abbrev cX10_few : ByteArray := prog_1_method_19_code
def yX10_few : MethodName := ⟨RX10, "few", "(I)J"⟩
abbrev cX10_doubt : ByteArray := prog_1_method_20_code
def yX10_doubt : MethodName := ⟨RX10, "doubt", "(IZZ)J"⟩
abbrev cX10_spare : ByteArray := prog_1_method_21_code
def yX10_spare : MethodName := ⟨RX10, "spare", "()J"⟩
abbrev cX10_mend : ByteArray := prog_1_method_22_code
def yX10_mend : MethodName := ⟨RX10, "mend", "(II)J"⟩
abbrev cX10_span : ByteArray := prog_1_method_23_code
def yX10_span : MethodName := ⟨RX10, "span", "(III)J"⟩
abbrev cX10_behind : ByteArray := prog_1_method_24_code
def yX10_behind : MethodName := ⟨RX10, "behind", "(IIIIIZ)J"⟩
abbrev cX10_worst : ByteArray := prog_1_method_25_code
def yX10_worst : MethodName := ⟨RX10, "worst", "(Z)J"⟩
abbrev cX10_best : ByteArray := prog_1_method_26_code
def yX10_best : MethodName := ⟨RX10, "best", "()J"⟩
abbrev cX10_paper : ByteArray := prog_1_method_27_code
def yX10_paper : MethodName := ⟨RX10, "paper", "()J"⟩
abbrev cX10_day : ByteArray := prog_1_method_28_code
def yX10_day : MethodName := ⟨RX10, "day", "(II)J"⟩
abbrev cX10_anew : ByteArray := prog_1_method_29_code
def yX10_anew : MethodName := ⟨RX10, "anew", "()J"⟩
abbrev cX10_mean : ByteArray := prog_1_method_30_code
def yX10_mean : MethodName := ⟨RX10, "mean", "(IZ)J"⟩
abbrev cX10_change : ByteArray := prog_1_method_31_code
def yX10_change : MethodName := ⟨RX10, "change", "(I)J"⟩
abbrev cX10_tell : ByteArray := prog_1_method_32_code
def yX10_tell : MethodName := ⟨RX10, "tell", "(I)J"⟩
abbrev cX10_check : ByteArray := prog_1_method_33_code
def yX10_check : MethodName := ⟨RX10, "check", "()J"⟩
abbrev cX10_judge : ByteArray := prog_1_method_34_code
def yX10_judge : MethodName := ⟨RX10, "judge", "(I)I"⟩
abbrev cX10_keep : ByteArray := prog_1_method_35_code
def yX10_keep : MethodName := ⟨RX10, "keep", "()J"⟩
abbrev cX10_back : ByteArray := prog_1_method_36_code
def yX10_back : MethodName := ⟨RX10, "back", "()J"⟩
abbrev cX10_count : ByteArray := prog_1_method_37_code
def yX10_count : MethodName := ⟨RX10, "count", "(I)J"⟩
abbrev cX10_found : ByteArray := prog_1_method_38_code
def yX10_found : MethodName := ⟨RX10, "found", "(I)J"⟩
abbrev cX10_refuse : ByteArray := prog_1_method_39_code
def yX10_refuse : MethodName := ⟨RX10, "refuse", "(I)J"⟩
abbrev cX10_whyNoSizes : ByteArray := prog_1_method_40_code
def yX10_whyNoSizes : MethodName := ⟨RX10, "whyNoSizes", "()I"⟩
abbrev cX10_whyNoPaper : ByteArray := prog_1_method_41_code
def yX10_whyNoPaper : MethodName := ⟨RX10, "whyNoPaper", "()I"⟩
abbrev cX10_isModel : ByteArray := prog_1_method_42_code
def yX10_isModel : MethodName := ⟨RX10, "isModel", "(I)Z"⟩
abbrev cX10_isState : ByteArray := prog_1_method_43_code
def yX10_isState : MethodName := ⟨RX10, "isState", "(I)Z"⟩
abbrev cX10_isRate : ByteArray := prog_1_method_44_code
def yX10_isRate : MethodName := ⟨RX10, "isRate", "(I)Z"⟩
abbrev cX10_isSteps : ByteArray := prog_1_method_45_code
def yX10_isSteps : MethodName := ⟨RX10, "isSteps", "(I)Z"⟩
def RX11 : String := "WatchBenchModel"
def TX11 : u_T := fun k => match k with
  | 0 => ("WatchBenchModel", "now", "[I", true)
  | 1 => ("WatchBenchModel", "kept", "[I", true)
  | 2 => ("WatchBenchModel", "isKept", "Z", false)
  | 3 => ("WatchBenchModel", "sheets", "[I", true)
  | 4 => ("WatchBenchModel", "sheetSize", "[I", true)
  | 5 => ("WatchBenchModel", "days", "I", false)
  | 6 => ("WatchBenchModel", "dayState", "[I", true)
  | 7 => ("WatchBenchModel", "dayGain", "[I", true)
  | 8 => ("WatchBenchModel", "waits", "I", false)
  | 9 => ("WatchBenchModel", "waiting", "[I", true)
  | 10 => ("WatchBenchModel", "findings", "[J", true)
  | 11 => ("WatchBenchModel", "looseSet", "J", false)
  | 12 => ("WatchBenchModel", "isFound", "Z", false)
  | 13 => ("WatchBenchModel", "isOld", "Z", false)
  | 14 => ("WatchBenchModel", "foundModel", "I", false)
  | 15 => ("WatchBenchModel", "foundMany", "I", false)
  | 16 => ("WatchBenchModel", "foundCause", "[I", true)
  | 17 => ("WatchBenchModel", "foundAbove", "[J", true)
  | 18 => ("WatchBenchModel", "foundBelow", "J", false)
  | 19 => ("WatchBenchModel", "foundSum", "J", false)
  | 20 => ("WatchBenchModel", "many", "I", false)
  | 21 => ("WatchBenchModel", "causes", "[I", true)
  | 22 => ("WatchBenchModel", "square", "[J", true)
  | 23 => ("WatchBenchModel", "right", "[J", true)
  | 24 => ("WatchBenchModel", "above", "[J", true)
  | 25 => ("WatchBenchModel", "below", "J", false)
  | _ => ("WatchBenchModel", "table", "[J", true)
def tyX11 : Nat → FieldType := fun k => match k with
  | 0 => .array .int
  | 1 => .array .int
  | 2 => .boolean
  | 3 => .array .int
  | 4 => .array .int
  | 5 => .int
  | 6 => .array .int
  | 7 => .array .int
  | 8 => .int
  | 9 => .array .int
  | 10 => .array .long
  | 11 => .long
  | 12 => .boolean
  | 13 => .boolean
  | 14 => .int
  | 15 => .int
  | 16 => .array .int
  | 17 => .array .long
  | 18 => .long
  | 19 => .long
  | 20 => .int
  | 21 => .array .int
  | 22 => .array .long
  | 23 => .array .long
  | 24 => .array .long
  | 25 => .long
  | _ => .array .long
abbrev wsX110 : List Cond := u_ws RX11 TX11 27
theorem nmX11 : ∀ a, a < 27 → ∀ b, b < 27 → a ≠ b → (TX11 a).2.1 ≠ (TX11 b).2.1 := by decide +kernel
theorem tyX11_ok : ∀ k, k < 27 → parseFieldDescriptor (TX11 k).2.2.1 = some (tyX11 k) := by decide +kernel
abbrev cX11_init : ByteArray := prog_13_method_1_code
def yX11_init : MethodName := ⟨RX11, "<init>", "()V"⟩
abbrev cX11_tellFinding : ByteArray := prog_13_method_2_code
def yX11_tellFinding : MethodName := ⟨RX11, "tellFinding", "(J)J"⟩
abbrev cX11_in : ByteArray := prog_13_method_3_code
def yX11_in : MethodName := ⟨RX11, "in", "(III)Z"⟩
abbrev cX11_isCause : ByteArray := prog_13_method_4_code
def yX11_isCause : MethodName := ⟨RX11, "isCause", "(I)Z"⟩
abbrev cX11_isState : ByteArray := prog_13_method_5_code
def yX11_isState : MethodName := ⟨RX11, "isState", "(I)Z"⟩
abbrev cX11_cause : ByteArray := prog_13_method_6_code
def yX11_cause : MethodName := ⟨RX11, "cause", "(III)J"⟩
abbrev cX11_shown : ByteArray := prog_13_method_7_code
def yX11_shown : MethodName := ⟨RX11, "shown", "(II)J"⟩
abbrev cX11_shows : ByteArray := prog_13_method_8_code
def yX11_shows : MethodName := ⟨RX11, "shows", "(II)J"⟩
abbrev cX11_as : ByteArray := prog_13_method_9_code
def yX11_as : MethodName := ⟨RX11, "as", "(II)J"⟩
abbrev cX11_addReading : ByteArray := prog_13_method_10_code
def yX11_addReading : MethodName := ⟨RX11, "addReading", "(II)V"⟩
abbrev cX11_read : ByteArray := prog_13_method_11_code
def yX11_read : MethodName := ⟨RX11, "read", "(II)J"⟩
abbrev cX11_isReading : ByteArray := prog_13_method_12_code
def yX11_isReading : MethodName := ⟨RX11, "isReading", "(I)Z"⟩
abbrev cX11_drop : ByteArray := prog_13_method_13_code
def yX11_drop : MethodName := ⟨RX11, "drop", "(I)J"⟩
abbrev cX11_reading : ByteArray := prog_13_method_14_code
def yX11_reading : MethodName := ⟨RX11, "reading", "(II)J"⟩
abbrev cX11_sheet : ByteArray := prog_13_method_15_code
def yX11_sheet : MethodName := ⟨RX11, "sheet", "(II)J"⟩
abbrev cX11_put : ByteArray := prog_13_method_16_code
def yX11_put : MethodName := ⟨RX11, "put", "(III)J"⟩
abbrev cX11_lay : ByteArray := prog_13_method_17_code
def yX11_lay : MethodName := ⟨RX11, "lay", "(II)J"⟩
abbrev cX11_takeModel : ByteArray := prog_13_method_18_code
def yX11_takeModel : MethodName := ⟨RX11, "takeModel", "(I)V"⟩
abbrev cX11_entry : ByteArray := prog_13_method_19_code
def yX11_entry : MethodName := ⟨RX11, "entry", "(III)J"⟩
abbrev cX11_two : ByteArray := prog_13_method_20_code
def yX11_two : MethodName := ⟨RX11, "two", "(IIIII)J"⟩
abbrev cX11_three : ByteArray := prog_13_method_21_code
def yX11_three : MethodName := ⟨RX11, "three", "(IIIIIII)J"⟩
abbrev cX11_whole : ByteArray := prog_13_method_22_code
def yX11_whole : MethodName := ⟨RX11, "whole", "(I)J"⟩
abbrev cX11_solve : ByteArray := prog_13_method_23_code
def yX11_solve : MethodName := ⟨RX11, "solve", "(I)Z"⟩
abbrev cX11_sumLeft : ByteArray := prog_13_method_24_code
def yX11_sumLeft : MethodName := ⟨RX11, "sumLeft", "()J"⟩
abbrev cX11_rank : ByteArray := prog_13_method_25_code
def yX11_rank : MethodName := ⟨RX11, "rank", "(I)I"⟩
abbrev cX11_common : ByteArray := prog_13_method_26_code
def yX11_common : MethodName := ⟨RX11, "common", "(JJ)J"⟩
abbrev cX11_part : ByteArray := prog_13_method_27_code
def yX11_part : MethodName := ⟨RX11, "part", "(JJZ)J"⟩
abbrev cX11_compare : ByteArray := prog_13_method_28_code
def yX11_compare : MethodName := ⟨RX11, "compare", "(JJJJ)I"⟩
abbrev cX11_becomesFound : ByteArray := prog_13_method_29_code
def yX11_becomesFound : MethodName := ⟨RX11, "becomesFound", "(I)V"⟩
abbrev cX11_bits : ByteArray := prog_13_method_30_code
def yX11_bits : MethodName := ⟨RX11, "bits", "(I)I"⟩
abbrev cX11_find : ByteArray := prog_13_method_31_code
def yX11_find : MethodName := ⟨RX11, "find", "(I)J"⟩
abbrev cX11_loose : ByteArray := prog_13_method_32_code
def yX11_loose : MethodName := ⟨RX11, "loose", "()J"⟩
abbrev cX11_notFound : ByteArray := prog_13_method_33_code
def yX11_notFound : MethodName := ⟨RX11, "notFound", "()J"⟩
abbrev cX11_placeOf : ByteArray := prog_13_method_34_code
def yX11_placeOf : MethodName := ⟨RX11, "placeOf", "(I)I"⟩
abbrev cX11_size : ByteArray := prog_13_method_35_code
def yX11_size : MethodName := ⟨RX11, "size", "(IZ)J"⟩
abbrev cX11_foretoldAt : ByteArray := prog_13_method_36_code
def yX11_foretoldAt : MethodName := ⟨RX11, "foretoldAt", "(I)J"⟩
abbrev cX11_left : ByteArray := prog_13_method_37_code
def yX11_left : MethodName := ⟨RX11, "left", "(IZ)J"⟩
abbrev cX11_sum : ByteArray := prog_13_method_38_code
def yX11_sum : MethodName := ⟨RX11, "sum", "(Z)J"⟩
abbrev cX11_foretold : ByteArray := prog_13_method_39_code
def yX11_foretold : MethodName := ⟨RX11, "foretold", "(IZ)J"⟩
abbrev cX11_model : ByteArray := prog_13_method_40_code
def yX11_model : MethodName := ⟨RX11, "model", "()J"⟩
abbrev cX11_few : ByteArray := prog_13_method_41_code
def yX11_few : MethodName := ⟨RX11, "few", "(I)J"⟩
abbrev cX11_doubt : ByteArray := prog_13_method_42_code
def yX11_doubt : MethodName := ⟨RX11, "doubt", "(IZZ)J"⟩
abbrev cX11_spare : ByteArray := prog_13_method_43_code
def yX11_spare : MethodName := ⟨RX11, "spare", "()J"⟩
abbrev cX11_mend : ByteArray := prog_13_method_44_code
def yX11_mend : MethodName := ⟨RX11, "mend", "(II)J"⟩
abbrev cX11_hasSpan : ByteArray := prog_13_method_45_code
def yX11_hasSpan : MethodName := ⟨RX11, "hasSpan", "(I)Z"⟩
abbrev cX11_spans : ByteArray := prog_13_method_46_code
def yX11_spans : MethodName := ⟨RX11, "spans", "()I"⟩
abbrev cX11_span : ByteArray := prog_13_method_47_code
def yX11_span : MethodName := ⟨RX11, "span", "(III)J"⟩
abbrev cX11_isMend : ByteArray := prog_13_method_48_code
def yX11_isMend : MethodName := ⟨RX11, "isMend", "(I)Z"⟩
abbrev cX11_mended : ByteArray := prog_13_method_49_code
def yX11_mended : MethodName := ⟨RX11, "mended", "(III)J"⟩
abbrev cX11_behind : ByteArray := prog_13_method_50_code
def yX11_behind : MethodName := ⟨RX11, "behind", "(IIIIIZ)J"⟩
abbrev cX11_worstWith : ByteArray := prog_13_method_51_code
def yX11_worstWith : MethodName := ⟨RX11, "worstWith", "(IIII)J"⟩
abbrev cX11_noWorst : ByteArray := prog_13_method_52_code
def yX11_noWorst : MethodName := ⟨RX11, "noWorst", "()J"⟩
abbrev cX11_worst : ByteArray := prog_13_method_53_code
def yX11_worst : MethodName := ⟨RX11, "worst", "(Z)J"⟩
abbrev cX11_code : ByteArray := prog_13_method_54_code
def yX11_code : MethodName := ⟨RX11, "code", "(IIII)J"⟩
abbrev cX11_best : ByteArray := prog_13_method_55_code
def yX11_best : MethodName := ⟨RX11, "best", "()J"⟩
abbrev cX11_paper : ByteArray := prog_13_method_56_code
def yX11_paper : MethodName := ⟨RX11, "paper", "()J"⟩
abbrev cX11_day : ByteArray := prog_13_method_57_code
def yX11_day : MethodName := ⟨RX11, "day", "(II)J"⟩
abbrev cX11_anew : ByteArray := prog_13_method_58_code
def yX11_anew : MethodName := ⟨RX11, "anew", "()J"⟩
abbrev cX11_isAt : ByteArray := prog_13_method_59_code
def yX11_isAt : MethodName := ⟨RX11, "isAt", "(II)Z"⟩
abbrev cX11_mean : ByteArray := prog_13_method_60_code
def yX11_mean : MethodName := ⟨RX11, "mean", "(IZ)J"⟩
abbrev cX11_change : ByteArray := prog_13_method_61_code
def yX11_change : MethodName := ⟨RX11, "change", "(I)J"⟩
abbrev cX11_tell : ByteArray := prog_13_method_62_code
def yX11_tell : MethodName := ⟨RX11, "tell", "(I)J"⟩
abbrev cX11_isFraction : ByteArray := prog_13_method_63_code
def yX11_isFraction : MethodName := ⟨RX11, "isFraction", "(IIJJ)Z"⟩
abbrev cX11_check : ByteArray := prog_13_method_64_code
def yX11_check : MethodName := ⟨RX11, "check", "()J"⟩
abbrev cX11_keep : ByteArray := prog_13_method_65_code
def yX11_keep : MethodName := ⟨RX11, "keep", "()J"⟩
abbrev cX11_back : ByteArray := prog_13_method_66_code
def yX11_back : MethodName := ⟨RX11, "back", "()J"⟩
abbrev cX11_count : ByteArray := prog_13_method_67_code
def yX11_count : MethodName := ⟨RX11, "count", "(I)J"⟩
abbrev cX11_found : ByteArray := prog_13_method_68_code
def yX11_found : MethodName := ⟨RX11, "found", "(I)J"⟩
def RJ6 : String := "java/lang/Integer"
def TJ6 : u_T := fun k => match k with
  | _ => ("", "", "", false)
def tyJ6 : Nat → FieldType := fun k => match k with
  | _ => .int
abbrev wsJ60 : List Cond := u_ws RJ6 TJ6 0
theorem nmJ6 : ∀ a, a < 0 → ∀ b, b < 0 → a ≠ b → (TJ6 a).2.1 ≠ (TJ6 b).2.1 := by decide +kernel
theorem tyJ6_ok : ∀ k, k < 0 → parseFieldDescriptor (TJ6 k).2.2.1 = some (tyJ6 k) := by decide +kernel
abbrev cJ6_bitCount_0f7a4 : ByteArray := prog_14_method_49_code
def yJ6_bitCount_0f7a4 : MethodName := ⟨RJ6, "bitCount", "(I)I"⟩
def RJ13 : String := "java/lang/Long"
def TJ13 : u_T := fun k => match k with
  | _ => ("", "", "", false)
def tyJ13 : Nat → FieldType := fun k => match k with
  | _ => .int
abbrev wsJ130 : List Cond := u_ws RJ13 TJ13 0
theorem nmJ13 : ∀ a, a < 0 → ∀ b, b < 0 → a ≠ b → (TJ13 a).2.1 ≠ (TJ13 b).2.1 := by decide +kernel
theorem tyJ13_ok : ∀ k, k < 0 → parseFieldDescriptor (TJ13 k).2.2.1 = some (tyJ13 k) := by decide +kernel
abbrev cJ13_compare_74951 : ByteArray := prog_15_method_42_code
def yJ13_compare_74951 : MethodName := ⟨RJ13, "compare", "(JJ)I"⟩
def RJ9 : String := "java/lang/Math"
def TJ9 : u_T := fun k => match k with
  | _ => ("", "", "", false)
def tyJ9 : Nat → FieldType := fun k => match k with
  | _ => .int
abbrev wsJ90 : List Cond := u_ws RJ9 TJ9 0
theorem nmJ9 : ∀ a, a < 0 → ∀ b, b < 0 → a ≠ b → (TJ9 a).2.1 ≠ (TJ9 b).2.1 := by decide +kernel
theorem tyJ9_ok : ∀ k, k < 0 → parseFieldDescriptor (TJ9 k).2.2.1 = some (tyJ9 k) := by decide +kernel
abbrev cJ9_floorDiv_f86c9 : ByteArray := prog_16_method_49_code
def yJ9_floorDiv_f86c9 : MethodName := ⟨RJ9, "floorDiv", "(JJ)J"⟩
abbrev cJ9_floorMod_f86c9 : ByteArray := prog_16_method_52_code
def yJ9_floorMod_f86c9 : MethodName := ⟨RJ9, "floorMod", "(JJ)J"⟩
abbrev cJ9_abs_0f7a4 : ByteArray := prog_16_method_59_code
def yJ9_abs_0f7a4 : MethodName := ⟨RJ9, "abs", "(I)I"⟩
abbrev cJ9_abs_067f4 : ByteArray := prog_16_method_61_code
def yJ9_abs_067f4 : MethodName := ⟨RJ9, "abs", "(J)J"⟩
abbrev cJ9_max_7cf53 : ByteArray := prog_16_method_65_code
def yJ9_max_7cf53 : MethodName := ⟨RJ9, "max", "(II)I"⟩
abbrev cJ9_max_f86c9 : ByteArray := prog_16_method_66_code
def yJ9_max_f86c9 : MethodName := ⟨RJ9, "max", "(JJ)J"⟩
abbrev cJ9_min_7cf53 : ByteArray := prog_16_method_69_code
def yJ9_min_7cf53 : MethodName := ⟨RJ9, "min", "(II)I"⟩
def RJ10 : String := "java/lang/System"
def TJ10 : u_T := fun k => match k with
  | _ => ("", "", "", false)
def tyJ10 : Nat → FieldType := fun k => match k with
  | _ => .int
abbrev wsJ100 : List Cond := u_ws RJ10 TJ10 0
theorem nmJ10 : ∀ a, a < 0 → ∀ b, b < 0 → a ≠ b → (TJ10 a).2.1 ≠ (TJ10 b).2.1 := by decide +kernel
theorem tyJ10_ok : ∀ k, k < 0 → parseFieldDescriptor (TJ10 k).2.2.1 = some (tyJ10 k) := by decide +kernel
def RJ7 : String := "java/util/Arrays"
def TJ7 : u_T := fun k => match k with
  | _ => ("", "", "", false)
def tyJ7 : Nat → FieldType := fun k => match k with
  | _ => .int
abbrev wsJ70 : List Cond := u_ws RJ7 TJ7 0
theorem nmJ7 : ∀ a, a < 0 → ∀ b, b < 0 → a ≠ b → (TJ7 a).2.1 ≠ (TJ7 b).2.1 := by decide +kernel
theorem tyJ7_ok : ∀ k, k < 0 → parseFieldDescriptor (TJ7 k).2.2.1 = some (tyJ7 k) := by decide +kernel
abbrev cJ7_fill_d0a16 : ByteArray := prog_18_method_101_code
def yJ7_fill_d0a16 : MethodName := ⟨RJ7, "fill", "([JJ)V"⟩
abbrev cJ7_fill_53178 : ByteArray := prog_18_method_103_code
def yJ7_fill_53178 : MethodName := ⟨RJ7, "fill", "([II)V"⟩
abbrev cJ7_fill_fb410 : ByteArray := prog_18_method_105_code
def yJ7_fill_fb410 : MethodName := ⟨RJ7, "fill", "([SS)V"⟩
def RL : String := "WatchBenchLaw"
abbrev cL_law : ByteArray := code
def yL_law : MethodName := ⟨RL, "law", "([I)Z"⟩
abbrev vwCl : List vw_C := [(RX0, TX0, 2), (RX1, TX1, 6), (RX3, TX3, 3), (RX4, TX4, 5), (RX5, TX5, 2), (RX6, TX6, 6), (RX7, TX7, 3), (RX8, TX8, 4), (RX9, TX9, 1), (RX10, TX10, 12), (RX11, TX11, 27)]
/-- the words that every list of words has: those of the tables that ride over calls -/
def gTT : List Cond := lw_tbl.filter goodWord
theorem gtt {w : Cond} (i : Nat) (h : lw_tbl[i]? = some w) (hg : goodWord w = true) : w ∈ gTT := List.mem_filter.mpr ⟨List.mem_of_getElem? h, hg⟩
theorem gtt_all {ws : List Cond} (h : ws.all (fun w => decide (w ∈ lw_tbl) && goodWord w) = true) : ∀ w ∈ ws, w ∈ gTT := fun w hw => by
  have h1 := List.all_eq_true.mp h w hw
  simp only [Bool.and_eq_true, decide_eq_true_eq] at h1
  exact List.mem_filter.mpr h1
theorem gin0 : ∀ w ∈ wsX00, w ∈ gTT := gtt_all (by decide +kernel)
theorem gin1 : ∀ w ∈ wsX10, w ∈ gTT := gtt_all (by decide +kernel)
theorem gin3 : ∀ w ∈ wsX30, w ∈ gTT := gtt_all (by decide +kernel)
theorem gin4 : ∀ w ∈ wsX40, w ∈ gTT := gtt_all (by decide +kernel)
theorem gin5 : ∀ w ∈ wsX50, w ∈ gTT := gtt_all (by decide +kernel)
theorem gin6 : ∀ w ∈ wsX60, w ∈ gTT := gtt_all (by decide +kernel)
theorem gin7 : ∀ w ∈ wsX70, w ∈ gTT := gtt_all (by decide +kernel)
theorem gin8 : ∀ w ∈ wsX80, w ∈ gTT := gtt_all (by decide +kernel)
theorem gin9 : ∀ w ∈ wsX90, w ∈ gTT := gtt_all (by decide +kernel)
theorem gin10 : ∀ w ∈ wsX100, w ∈ gTT := gtt_all (by decide +kernel)
theorem gin11 : ∀ w ∈ wsX110, w ∈ gTT := gtt_all (by decide +kernel)
end
section
/-! The walk's own layer: a machine at a point of a method's code, with named locals, a stack and a world of cells, as one predicate; a row an instruction. -/
/-- the locals by their places -/
abbrev gLV : Type := List (Option Value)
def gL (ls : Array Slot) (nL : Nat) (lv : gLV) : Prop := lv_has ls nL [] ∧ ∀ (i : Nat) (v : Value), lv[i]? = some (some v) → ls[i]? = some (.val v)
def gkill (o : Option Value) : Option Value := match o with
  | some v => if v.category = 2 then none else some v
  | none => none
def gset1 (lv : gLV) (i : Nat) (v : Value) : gLV := match i with
  | 0 => lv.set 0 (some v)
  | j + 1 => (lv.modify j gkill).set (j + 1) (some v)
def gset2 (lv : gLV) (i : Nat) (v : Value) : gLV := (gset1 lv i v).set (i + 1) none
theorem gkill_some {o : Option Value} {w : Value} (h : gkill o = some w) : o = some w ∧ ¬ w.category = 2 := by
  cases o with
  | none => cases h
  | some v =>
    unfold gkill at h
    by_cases hc : v.category = 2
    · simp [hc] at h
    · simp [hc] at h
      exact ⟨by rw [h], by rw [← h]; exact hc⟩
theorem gset1_get {lv : gLV} {i j : Nat} {v w : Value} (h : (gset1 lv i v)[j]? = some (some w)) : (j = i ∧ w = v) ∨ (j ≠ i ∧ lv[j]? = some (some w) ∧ ¬ (j + 1 = i ∧ w.category = 2)) := by
  by_cases hj : j = i
  · subst hj
    left
    refine ⟨rfl, ?_⟩
    cases j with
    | zero =>
      rw [show gset1 lv 0 v = lv.set 0 (some v) from rfl, List.getElem?_set] at h
      simp at h
      exact h.2.symm
    | succ k =>
      rw [show gset1 lv (k + 1) v = (lv.modify k gkill).set (k + 1) (some v) from rfl, List.getElem?_set] at h
      simp at h
      exact h.2.symm
  · right
    refine ⟨hj, ?_⟩
    cases i with
    | zero =>
      rw [show gset1 lv 0 v = lv.set 0 (some v) from rfl, List.getElem?_set_ne (Ne.symm hj)] at h
      exact ⟨h, fun q => absurd q.1 (by omega)⟩
    | succ k =>
      rw [show gset1 lv (k + 1) v = (lv.modify k gkill).set (k + 1) (some v) from rfl, List.getElem?_set_ne (Ne.symm hj), List.getElem?_modify] at h
      by_cases hk : k = j
      · subst hk
        cases hl : lv[k]? with
        | none => rw [hl] at h; simp at h
        | some o =>
          rw [hl] at h
          simp at h
          obtain ⟨h1, h2⟩ := gkill_some h
          exact ⟨by rw [h1], fun q => h2 q.2⟩
      · cases hl : lv[j]? with
        | none => rw [hl] at h; simp at h
        | some o =>
          rw [hl] at h
          simp [hk] at h
          exact ⟨by rw [h], fun q => hk (by omega)⟩
theorem gset2_get {lv : gLV} {i j : Nat} {v w : Value} (h : (gset2 lv i v)[j]? = some (some w)) : j ≠ i + 1 ∧ ((j = i ∧ w = v) ∨ (j ≠ i ∧ lv[j]? = some (some w) ∧ ¬ (j + 1 = i ∧ w.category = 2))) := by
  unfold gset2 at h
  by_cases hj : j = i + 1
  · subst hj
    rw [List.getElem?_set] at h
    simp at h
  · rw [List.getElem?_set_ne (Ne.symm hj)] at h
    exact ⟨hj, gset1_get h⟩
/-- all that is known of the locals, as the kit lists it -/
theorem gL_list {ls : Array Slot} {nL : Nat} {lv : gLV} (h : gL ls nL lv) (l : List (Nat × Value)) (hl : ∀ q ∈ l, lv[q.1]? = some (some q.2)) : lv_has ls nL l := ⟨h.1.1, h.1.2.1, fun q hq => h.2 q.1 q.2 (hl q hq)⟩
def gpairs (lv : gLV) (k : Nat) : List (Nat × Value) := match lv with
  | [] => []
  | none :: t => gpairs t (k + 1)
  | some v :: t => (k, v) :: gpairs t (k + 1)
theorem gpairs_in (lv : gLV) : ∀ (k : Nat) (q : Nat × Value), q ∈ gpairs lv k → k ≤ q.1 ∧ lv[q.1 - k]? = some (some q.2) := by
  induction lv with
  | nil => intro k q h; cases h
  | cons a t ih =>
    intro k q h
    cases a with
    | none =>
      obtain ⟨h1, h2⟩ := ih (k + 1) q h
      refine ⟨by omega, ?_⟩
      rw [show q.1 - k = (q.1 - (k + 1)) + 1 by omega, List.getElem?_cons_succ]
      exact h2
    | some v =>
      rcases List.mem_cons.mp h with h | h
      · subst h
        simp
      · obtain ⟨h1, h2⟩ := ih (k + 1) q h
        refine ⟨by omega, ?_⟩
        rw [show q.1 - k = (q.1 - (k + 1)) + 1 by omega, List.getElem?_cons_succ]
        exact h2
theorem gpairs_of (lv : gLV) : ∀ (k i : Nat) (v : Value), lv[i]? = some (some v) → (k + i, v) ∈ gpairs lv k := by
  induction lv with
  | nil => intro k i v h; simp at h
  | cons a t ih =>
    intro k i v h
    cases i with
    | zero =>
      rw [List.getElem?_cons_zero] at h
      cases h
      exact List.mem_cons_self
    | succ i =>
      rw [List.getElem?_cons_succ] at h
      have h2 := ih (k + 1) i v h
      rw [show k + 1 + i = k + (i + 1) by omega] at h2
      cases a with
      | none => exact h2
      | some w => exact List.mem_cons_of_mem _ h2
theorem gL_all {ls : Array Slot} {nL : Nat} {lv : gLV} (h : gL ls nL lv) : lv_has ls nL (gpairs lv 0) := gL_list h _ fun q hq => by
  have := (gpairs_in lv 0 q hq).2
  simpa using this
theorem gL_set1 {ls' : Array Slot} {nL i : Nat} {lv : gLV} {v : Value} (h : lv_has ls' nL ((i, v) :: (gpairs lv 0).filter (fun q => !(q.1 == i) && !(q.1 + 1 == i && q.2.category == 2)))) : gL ls' nL (gset1 lv i v) := by
  refine ⟨⟨h.1, h.2.1, fun q hq => by cases hq⟩, fun j w hw => ?_⟩
  rcases gset1_get hw with ⟨rfl, rfl⟩ | ⟨h1, h2, h3⟩
  · exact h.2.2 _ List.mem_cons_self
  · refine h.2.2 (j, w) (List.mem_cons_of_mem _ (List.mem_filter.mpr ⟨?_, ?_⟩))
    · have := gpairs_of lv 0 j w h2
      simpa using this
    · simp [h1]
      exact Decidable.not_and_iff_not_or_not.mp h3
theorem gL_set2 {ls' : Array Slot} {nL i : Nat} {lv : gLV} {v : Value} (h : lv_has ls' nL ((i, v) :: (gpairs lv 0).filter (fun q => !(q.1 == i) && (!(q.1 == i + 1) && !(q.1 + 1 == i && q.2.category == 2))))) : gL ls' nL (gset2 lv i v) := by
  refine ⟨⟨h.1, h.2.1, fun q hq => by cases hq⟩, fun j w hw => ?_⟩
  obtain ⟨h0, h1⟩ := gset2_get hw
  rcases h1 with ⟨rfl, rfl⟩ | ⟨h1, h2, h3⟩
  · exact h.2.2 _ List.mem_cons_self
  · refine h.2.2 (j, w) (List.mem_cons_of_mem _ (List.mem_filter.mpr ⟨?_, ?_⟩))
    · have := gpairs_of lv 0 j w h2
      simpa using this
    · simp [h1, h0]
      exact Decidable.not_and_iff_not_or_not.mp h3
def gargs : List Value → gLV
  | [] => []
  | v :: vs => if v.category = 2 then some v :: none :: gargs vs else some v :: gargs vs
def gent (vs : List Value) (n : Nat) : gLV := gargs vs ++ List.replicate (n - (gargs vs).length) none
theorem gargs_in (k : Nat) : ∀ (vs : List Value) (o i : Nat) (v : Value), (gargs vs ++ List.replicate k none)[i]? = some (some v) → (o + i, v) ∈ lv_args o vs
  | [], o, i, v, h => by
    have : (List.replicate k (none : Option Value))[i]? = some (some v) := h
    rw [List.getElem?_replicate] at this
    by_cases hk : i < k
    · simp [hk] at this
    · simp [hk] at this
  | w :: vs, o, i, v, h => by
    by_cases hc : w.category = 2
    · rw [show gargs (w :: vs) = some w :: none :: gargs vs by simp [gargs, hc]] at h
      cases i with
      | zero =>
        simp at h
        subst h
        simp [lv_args]
      | succ i =>
        cases i with
        | zero => simp at h
        | succ i =>
          simp only [List.cons_append, List.getElem?_cons_succ] at h
          have := gargs_in k vs (o + 2) i v h
          simp only [lv_args, hc, if_true]
          rw [show o + (i + 1 + 1) = o + 2 + i by omega]
          exact List.mem_cons_of_mem _ this
    · rw [show gargs (w :: vs) = some w :: gargs vs by simp [gargs, hc]] at h
      cases i with
      | zero =>
        simp at h
        subst h
        simp [lv_args]
      | succ i =>
        simp only [List.cons_append, List.getElem?_cons_succ] at h
        have := gargs_in k vs (o + 1) i v h
        simp only [lv_args, hc, if_false]
        rw [show o + (i + 1) = o + 1 + i by omega]
        exact List.mem_cons_of_mem _ this
theorem gL_entry (vs : List Value) {n : Nat} (h : (lg_sl vs).length ≤ n) : gL ((lg_sl vs ++ List.replicate (n - (lg_sl vs).length) Slot.unset).toArray) n (gent vs n) := by
  have h0 := lv_entry vs h
  refine ⟨⟨h0.1, h0.2.1, fun q hq => by cases hq⟩, fun i v hv => ?_⟩
  have := gargs_in _ vs 0 i v hv
  exact h0.2.2 (i, v) (by simpa using this)
/-- the words of nest mates, which no list of words carries -/
def gIsNest : Cond → Bool
  | .methodLinkNest .. => true
  | _ => false
def gNest (U : State) : Prop := ∀ w ∈ lw_tbl, gIsNest w = true → va_Nw w U
theorem gNest.warm {s U : State} (hW : s.WarmedH U.vm) (h : gNest s) : gNest U := fun w hw hn => by
  cases w <;> first | exact va_Nw.warmM hW (h _ hw rfl) | cases hn
theorem gNest.same {u U : State} (hv : u.vm = U.vm) (h : gNest u) : gNest U := fun w hw hn => by
  cases w <;> first | exact va_Nw.same rfl hv (h _ hw rfl) | cases hn
/-- the one static row of the class -/
def gOf (j : Nat) : Value := .int (([0, 0, 0, 2, 0, 1] : List Int32).getD j 0)
def gOv (A : Nat → Prop) (U : State) (H : Heap) : Prop := ∃ t : Nat, va_Z "WatchBench$Causes" "OVER" "[I" (.ref t) A U H ∧ va_T .int t 6 gOf A U H
/-- the ids of the classes, the places of their fields, the ids of the array classes -/
abbrev gE : Type := va_G × (Nat → ClassId)
abbrev gty (E : gE) : List (ClassId × FieldType) := [(E.2 0, .int), (E.2 1, .long), (E.2 2, .short), (E.2 3, .boolean), (E.2 4, .array .short)]
/-- what holds all along a method: machine, code, tables -/
def gK (p : Program) (s : State) (m : MethodId) (args : Array Value) (c : Code) (cc : ByteArray) (nL : Nat) (own : String) (E : gE) (A : Nat → Prop) : Prop :=
  p.tables.exec = Jvm.exec ∧ c.code = cc ∧ c.maxLocals = nL ∧ s.vm.findClass own = some m.cls ∧ (∀ w ∈ gTT, w.before args s = true) ∧ va_K E.1 vwCl (gty E) s ∧ (∀ q : Nat, s.heap.size ≤ q → A q) ∧ gNest s ∧ gOv A s s.heap
def gG (p : Program) (l : Launch) (e : Env) (R : Room) (s : State) (m : MethodId) (args : Array Value) (below : List Frame) (meth : Method) (c : Code) (nL : Nat) (E : gE) (A : Nat → Prop) (Q : State → Prop) : Nat → Nat → Nat → gLV → List Value → va_W → Prop := fun u z pc lv st ws =>
  ∀ (H : Heap) (locs : List Loc) (ls : Array Slot), gL ls nL lv → va_P E.1 vwCl ws H → va_D A ws → va_S A s.heap H locs → W p l e R s m args below meth c H locs u z Q (F0 m pc ls st)
abbrev gT : Type := Nat → Nat → Nat → gLV → List Value → va_W → Prop
/-- Γ is the walk of a method: its rows hold; 'post' is asked at its end -/
def IsG (Γ : gT) (l : Launch) (R : Room) (cc : ByteArray) (nL : Nat) (own : String) (E : gE) (ret : Option FieldType) (init : Bool) (post : Option Value → Nat → Nat → va_W → Prop) : Prop :=
  ∃ (p : Program) (e : Env) (s : State) (m : MethodId) (args : Array Value) (below : List Frame) (meth : Method) (c : Code) (A : Nat → Prop) (Q : State → Prop),
    gK p s m args c cc nL own E A ∧ Γ = gG p l e R s m args below meth c nL E A Q ∧ (init = true → meth.name = "<init>") ∧
    (∀ (v : Option Value) (u z : Nat) (ws : va_W), post v u z ws → ∀ (pc : Nat) (lv : gLV),
      ((∃ (x : Int32) (ty : FieldType), v = some (.int x) ∧ decode cc pc = .ok (.ireturn, 1) ∧ ret = some ty ∧ narrow ty (.int x) = .int x) ∨ (∃ x : Int64, v = some (.long x) ∧ decode cc pc = .ok (.lreturn, 1) ∧ ret = some .long) ∨ (v = none ∧ decode cc pc = .ok (.return_, 1) ∧ ret = none)) → Γ u z pc lv v.toList ws)
/-! a contract: from any heap that holds the world wc the method returns, with an answer and a world that 'post' names; its cells keep their places -/
def gPre (E : gE) (wc : va_W) (sz : Nat) (U : State) : Prop := U.heap.size = sz ∧ va_P E.1 vwCl wc U.heap ∧ va_K E.1 vwCl (gty E) U ∧ va_D (fun _ => True) wc ∧ gNest U ∧ gOv (va_A wc sz) U U.heap
def gQc (E : gE) (wc : va_W) (sz : Nat) (post : Option Value → va_W → Prop) : Array Value → State → Outcome → State → Prop := fun _ st oc t => (∃ (v : Option Value) (w1 : va_W), oc = .returned v ∧ post v w1 ∧ va_P E.1 vwCl w1 t.heap ∧ va_D (va_A wc sz) w1 ∧ (w1.take wc.length).map Prod.fst = wc.map Prod.fst) ∧ va_F (va_A wc sz) st t
def Ctr (l : Launch) (y : MethodName) (cc : ByteArray) (maxL : Nat) (ret : Option FieldType) (rm : Room) (E : gE) (av : List Value) (wc : va_W) (post : Option Value → va_W → Prop) : Prop :=
  ∀ sz : Nat, Met l y (.code y cc maxL ret :: gTT) rm (va_Pc av (gPre E wc sz)) (gQc E wc sz post) rm.cells rm.slots (va_A wc sz)
/-- what is asked at a method's end -/
abbrev gEnd (rm : Room) (wc : va_W) (post : Option Value → va_W → Prop) : Option Value → Nat → Nat → va_W → Prop := fun v u z ws => u ≤ rm.cells ∧ z ≤ rm.slots ∧ (ws.take wc.length).map Prod.fst = wc.map Prod.fst ∧ post v ws
theorem ctr_of {l : Launch} {y : MethodName} {cc : ByteArray} {maxL : Nat} {ret : Option FieldType} {rm : Room} {E : gE} {av : List Value} {wc : va_W} {post : Option Value → va_W → Prop} (init : Bool) (hy : plainName y.cls = true) (hl : (lg_sl av).length ≤ maxL) (hin : init = true → y.name = "<init>")
    (body : ∀ Γ : gT, IsG Γ l rm cc maxL y.cls E ret init (gEnd rm wc post) → Γ 0 0 0 (gent av maxL) [] wc) : Ctr l y cc maxL ret rm E av wc post := by
  intro sz
  refine Met.ofW (cc := cc) (maxL := maxL) (ret := ret) hy rfl ?_
  intro p e s m args below meth c s₁ B hml hv
  obtain ⟨rfl, hsz, hP, hK, hD0, hN, hO⟩ := hv
  have hx := B.exec
  have hb := B.bytes
  have hr := B.returns
  have hts := atoms_spec (ws := .code y cc maxL ret :: gTT) B.pre
  have hown : s.vm.findClass y.cls = some m.cls := findClass_of_methodNamed B.named
  have hlocks := B.notSynchronized
  subst hsz
  have hD := hD0.self (sz := s.heap.size)
  have hA : ∀ q : Nat, s.heap.size ≤ q → va_A wc s.heap.size q := fun q h => Or.inr h
  rw [lg_entry_eq]
  refine body (gG p l e rm s m av.toArray below meth c maxL E (va_A wc s.heap.size) (MQ below (gQc E wc s.heap.size post) av.toArray s rm.cells rm.slots (va_A wc s.heap.size))) ⟨p, e, s, m, av.toArray, below, meth, c, va_A wc s.heap.size, _, ⟨hx, hb, hml, hown, fun w hw => hts w (List.mem_cons_of_mem _ hw), hK, hA, hN, hO⟩, rfl, fun h => (name_of_methodNamed B.named B.method).1.trans (hin h), ?_⟩ s.heap [] _ (gL_entry av hl) hP hD va_S.rf
  intro v u z ws hpost pc lv hd H locs ls hl hP hD hS
  obtain ⟨hu, hz, hf, hp⟩ := hpost
  refine W.widen hu hz ?_
  rcases hd with ⟨x, ty, rfl, hd, hty, hn⟩ | ⟨x, rfl, hd, hty⟩ | ⟨rfl, hd, hty⟩
  · exact W.zret hx hb (hr.trans hty) hn (fun t ht hW => ⟨⟨_, ws, rfl, hp, by rw [ht]; exact hP, hD, hf⟩, hS.F ht⟩) hS.2.2 hd
  · exact W.lret hx hb (hr.trans hty) (fun t ht hW => ⟨⟨_, ws, rfl, hp, by rw [ht]; exact hP, hD, hf⟩, hS.F ht⟩) hS.2.2 hd
  · exact W.vret hx hb (hr.trans hty) (fun t ht hW => ⟨⟨_, ws, rfl, hp, by rw [ht]; exact hP, hD, hf⟩, hS.F ht⟩) hS.2.2 hd
/-! behind a call: the callee's cells go back to their places, new ones behind all -/
def gmerge : List Nat → va_W → va_W → va_W
  | [], w1, ws => ws ++ w1
  | i :: is, x :: w1, ws => gmerge is w1 (ws.set i x)
  | _ :: _, [], ws => ws
theorem gmerge_P {D : va_G} {cl : List vw_C} {H : Heap} : ∀ (is : List Nat) (w1 ws : va_W), (∀ (k : Nat) (q : Nat × va_E), w1[k]? = some q → va_at D cl q H) → (∀ (k : Nat) (q : Nat × va_E), ws[k]? = some q → k ∉ is → va_at D cl q H) → is.length ≤ w1.length → va_P D cl (gmerge is w1 ws) H
  | [], w1, ws, h1, h2, _ => va_P.app (fun k q hk => h2 k q hk List.not_mem_nil) h1
  | i :: is, [], ws, _, _, hl => by simp at hl
  | i :: is, x :: w1, ws, h1, h2, hl => by
    refine gmerge_P is w1 (ws.set i x) (fun k q hk => h1 (k + 1) q (by rw [List.getElem?_cons_succ]; exact hk)) (fun k q hk hn => ?_) (by simp at hl; exact hl)
    by_cases hki : k = i
    · subst hki
      rw [List.getElem?_set] at hk
      simp at hk
      exact h1 0 q (by rw [List.getElem?_cons_zero, hk.2])
    · rw [List.getElem?_set_ne (Ne.symm hki)] at hk
      exact h2 k q hk (fun hm => (List.mem_cons.mp hm).elim hki hn)
theorem gmerge_D {A : Nat → Prop} : ∀ (is : List Nat) (w1 ws : va_W), va_D A ws → (∀ (j i : Nat) (x : Nat × va_E), is[j]? = some i → w1[j]? = some x → ∃ e0, ws[i]? = some (x.1, e0)) → va_D A (w1.drop is.length) → (∀ (i j : Nat) (x y : Nat × va_E), ws[i]? = some x → (w1.drop is.length)[j]? = some y → x.1 ≠ y.1) → va_D A (gmerge is w1 ws)
  | [], w1, ws, hD, _, hE, hx => hD.app hE hx
  | i :: is, [], ws, hD, _, _, _ => hD
  | i :: is, x :: w1, ws, hD, ha, hE, hx => by
    obtain ⟨e0, h0⟩ := ha 0 i x rfl rfl
    have hl := (List.getElem?_eq_some_iff.mp h0).1
    have hD' : va_D A (ws.set i x) := by
      obtain ⟨a, e⟩ := x
      exact hD.set h0
    refine gmerge_D is w1 (ws.set i x) hD' (fun j i' x' h1 h2 => ?_) hE (fun k j p q h1 h2 => ?_)
    · obtain ⟨e1, h3⟩ := ha (j + 1) i' x' (by rw [List.getElem?_cons_succ]; exact h1) (by rw [List.getElem?_cons_succ]; exact h2)
      by_cases hi : i' = i
      · subst hi
        rw [h0] at h3
        have h4 : x.1 = x'.1 := (Prod.mk.inj (Option.some.inj h3)).1
        exact ⟨x.2, by rw [List.getElem?_set_self hl, ← h4]⟩
      · exact ⟨e1, by rw [List.getElem?_set_ne (Ne.symm hi)]; exact h3⟩
    · by_cases hk : k = i
      · subst hk
        rw [List.getElem?_set_self hl] at h1
        cases h1
        exact hx k j (x.1, e0) q h0 h2
      · rw [List.getElem?_set_ne (Ne.symm hk)] at h1
        exact hx k j p q h1 h2
theorem g_at {ws : va_W} {is : List Nat} {w : va_W} (hs : is.map (fun i => ws[i]?) = w.map some) {k : Nat} {q : Nat × va_E} (hq : w[k]? = some q) : ∃ i, is[k]? = some i ∧ ws[i]? = some q := by
  have h1 : (is.map (fun i => ws[i]?))[k]? = some (some q) := by rw [hs, List.getElem?_map, hq]; rfl
  rw [List.getElem?_map] at h1
  cases hi : is[k]? with
  | none => rw [hi] at h1; cases h1
  | some i => rw [hi] at h1; exact ⟨i, rfl, Option.some.inj h1⟩
theorem g_fst {w1 wc : va_W} (hf : (w1.take wc.length).map Prod.fst = wc.map Prod.fst) : wc.length ≤ w1.length ∧ ∀ (k : Nat) (x y : Nat × va_E), wc[k]? = some x → w1[k]? = some y → y.1 = x.1 := by
  have hlen : (w1.take wc.length).length = wc.length := by
    have := congrArg List.length hf
    simpa using this
  rw [List.length_take] at hlen
  refine ⟨by omega, fun k x y hx hy => ?_⟩
  have hk : k < wc.length := (List.getElem?_eq_some_iff.mp hx).1
  have h1 : ((w1.take wc.length).map Prod.fst)[k]? = some y.1 := by
    rw [List.getElem?_map, List.getElem?_take, if_pos hk, hy]; rfl
  rw [hf, List.getElem?_map, hx] at h1
  exact (Option.some.inj h1).symm
theorem g_after {p : Program} {l : Launch} {e : Env} {R : Room} {s : State} {m : MethodId} {args : Array Value} {below : List Frame} {meth : Method} {c : Code} {nL : Nat} {E : gE} {A : Nat → Prop} {Q : State → Prop} {H : Heap} {locs : List Loc} {u z mc ms pc : Nat} {ls : Array Slot} {lv : gLV} {st0 rest : List Value} {ws wc : va_W} {postc : Option Value → va_W → Prop} {a : Array Value}
    (hr : va_Run p l e R s m args below meth c H locs u z mc ms (F0 m pc ls st0) rest (gQc E wc H.size postc a) (va_A wc H.size)) (hl : gL ls nL lv) (hP : va_P E.1 vwCl ws H) (hD : va_D A ws) (hS : va_S A s.heap H locs) (hA : ∀ q : Nat, s.heap.size ≤ q → A q)
    (is : List Nat) (his : is.map (fun i => ws[i]?) = wc.map some) (k : ∀ (v : Option Value) (w1 : va_W), postc v w1 → gG p l e R s m args below meth c nL E A Q (u + mc) (z + ms) (pc + 3) lv (v.toList ++ rest) (gmerge is w1 ws)) : W p l e R s m args below meth c H locs u z Q (F0 m pc ls st0) := by
  intro T hT X
  obtain ⟨v, st₀, t, T', L, h0, X', hL, e1, e2, ⟨⟨v', w1, hv, hp, hP1, hD1, hf⟩, hz, hk⟩, st⟩ := hr T hT X
  cases hv
  rw [h0] at hz hk
  have hFc : ∀ q, va_A wc H.size q → A q := va_free hD hS hA is his
  obtain ⟨hlen, hfst⟩ := g_fst hf
  have hisl : is.length = wc.length := by
    have := congrArg List.length his
    simpa using this
  have hkept : ∀ (k : Nat) (q : Nat × va_E), ws[k]? = some q → k ∉ is → T'.heap[q.1]? = H[q.1]? := by
    intro k q hq hn
    have hlt := (hP k q hq).lt
    rw [e1]
    refine hk q.1 hlt (fun ha => ?_)
    rcases ha with ⟨k2, e', h⟩ | h
    · obtain ⟨i, h3, h4⟩ := g_at his h
      have := hD.1 k i q (q.1, e') hq h4 rfl
      subst this
      exact hn (List.mem_of_getElem? h3)
    · omega
  have hP' : va_P E.1 vwCl (gmerge is w1 ws) T'.heap := gmerge_P is w1 ws (fun k q hq => by rw [e1]; exact hP1 k q hq) (fun k q hq hn => (hP k q hq).kept (hkept k q hq hn)) (by omega)
  have hD' : va_D A (gmerge is w1 ws) := by
    refine gmerge_D is w1 ws hD (fun j i x h1 h2 => ?_) ?_ (fun i j x y h1 h2 hxy => ?_)
    · have hj : j < wc.length := by rw [← hisl]; exact (List.getElem?_eq_some_iff.mp h1).1
      have hw : wc[j]? = some wc[j] := List.getElem?_eq_getElem hj
      obtain ⟨i2, h3, h4⟩ := g_at his hw
      rw [h1] at h3
      cases h3
      have h5 := hfst j _ x hw h2
      exact ⟨wc[j].2, by rw [h4, h5]⟩
    · refine ⟨fun i j x y h1 h2 hxy => ?_, fun k q hq => ?_⟩
      · rw [List.getElem?_drop] at h1 h2
        have := hD1.1 _ _ x y h1 h2 hxy
        omega
      · rw [List.getElem?_drop] at hq
        exact hFc _ (hD1.2 _ q hq)
    · rw [List.getElem?_drop] at h2
      have hlt := (hP i x h1).lt
      rcases hD1.2 _ y h2 with ⟨k2, e', h⟩ | h
      · have hk2 : k2 < wc.length := (List.getElem?_eq_some_iff.mp h).1
        have hw1 : w1[k2]? = some w1[k2] := List.getElem?_eq_getElem (by omega)
        have h5 := hfst k2 _ _ h hw1
        have := hD1.1 _ _ y w1[k2] h2 hw1 (by rw [h5])
        omega
      · omega
  obtain ⟨t2, a1, b1⟩ := k v w1 hp T'.heap (locs ++ L) ls hl hP' hD' ⟨Nat.le_trans hS.1 (by rw [e1]; exact hz), fun q h1 h2 => by rw [e1, hk q (Nat.lt_of_lt_of_le h1 hS.1) (fun z => h2 (hFc q z))]; exact hS.2.1 q h1 h2, fun q hq => by
      rcases List.mem_append.mp hq with h | h
      · exact hS.2.2 q h
      · exact hFc _ (hL q h)⟩ T' rfl X'
  exact ⟨t2, st t2 a1, b1⟩
theorem g_blind {E : gE} {wc : va_W} {sz : Nat} {av : List Value} : FrameBlind (va_Pc av (gPre E wc sz)) := by
  intro a U g mk q
  obtain ⟨q0, q1, qP, qK, qD, qN, t, qZ, qT⟩ := q
  exact ⟨q0, q1, qP, va_K.moved (u := U) (U := U.calling g mk a) (Vm.Alike.refl U.vm) qK, qD, gNest.same (u := U) (U := U.calling g mk a) rfl qN, t, va_Z.moved (u := U) (U := U.calling g mk a) (Vm.Alike.refl U.vm) qZ, va_T.moved (u := U) (U := U.calling g mk a) (Vm.Alike.refl U.vm) qT⟩
theorem g_pre {s : State} {E : gE} {A : Nat → Prop} {H : Heap} {locs : List Loc} {ws wc : va_W} {av : List Value} (hK : va_K E.1 vwCl (gty E) s) (hN : gNest s) (hO : gOv A s s.heap) (hP : va_P E.1 vwCl ws H) (hD : va_D A ws) (hS : va_S A s.heap H locs) (hA : ∀ q : Nat, s.heap.size ≤ q → A q) (is : List Nat) (his : is.map (fun i => ws[i]?) = wc.map some) (hnd : va_nd is = true) : ∀ U : State, U.heap = H → s.WarmedH U.vm → va_Pc av (gPre E wc H.size) av.toArray U := by
  intro U hU hW
  have hFc : ∀ q, va_A wc H.size q → A q := va_free hD hS hA is his
  obtain ⟨t, hZ, hT⟩ := hO
  refine ⟨rfl, by rw [hU], ?_, va_K.moved hW.alike hK, (hD.sub is hnd his).weaken (fun _ _ _ _ => trivial), hN.warm hW, t, ?_, ?_⟩
  · rw [hU]
    intro k q hq
    obtain ⟨i, -, h⟩ := g_at his hq
    exact hP i q h
  · rw [hU]
    exact (((hZ.kept (fun a h1 h2 => hS.2.1 a h1 h2)).moved hW.alike).narrow hFc)
  · rw [hU]
    exact (((hT.kept (fun a h1 h2 => hS.2.1 a h1 h2)).moved hW.alike).narrow hFc)
end
section
theorem g_iconst {Γ : gT} {l : Launch} {R : Room} {cc : ByteArray} {nL : Nat} {own : String} {E : gE} {ret : Option FieldType} {init : Bool} {post : Option Value → Nat → Nat → va_W → Prop} {u z pc : Nat} {lv : gLV} {st : List Value} {ws : va_W} (h : IsG Γ l R cc nL own E ret init post) {n : Int} {v : Int32} (d : decode cc pc = .ok (.iconst n, 1)) (hv : Int32.ofInt n = v) (k : Γ u z (pc + 1) lv (.int v :: st) ws) : Γ u z pc lv st ws := by
  obtain ⟨p, e, s, m, args, below, meth, c, A, Q, ⟨hx, hb, hml, ho, hts, hK, hA, hN, hO⟩, rfl, hin, hr⟩ := h
  intro H locs ls hl hP hD hS
  exact lv_iconst hx hb d hv (k H locs ls hl hP hD hS)
theorem g_bipush {Γ : gT} {l : Launch} {R : Room} {cc : ByteArray} {nL : Nat} {own : String} {E : gE} {ret : Option FieldType} {init : Bool} {post : Option Value → Nat → Nat → va_W → Prop} {u z pc : Nat} {lv : gLV} {st : List Value} {ws : va_W} (h : IsG Γ l R cc nL own E ret init post) {n : Int} {v : Int32} (d : decode cc pc = .ok (.bipush n, 2)) (hv : (Int8.ofInt n).toInt32 = v) (k : Γ u z (pc + 2) lv (.int v :: st) ws) : Γ u z pc lv st ws := by
  obtain ⟨p, e, s, m, args, below, meth, c, A, Q, ⟨hx, hb, hml, ho, hts, hK, hA, hN, hO⟩, rfl, hin, hr⟩ := h
  intro H locs ls hl hP hD hS
  exact lv_bipush hx hb d hv (k H locs ls hl hP hD hS)
theorem g_sipush {Γ : gT} {l : Launch} {R : Room} {cc : ByteArray} {nL : Nat} {own : String} {E : gE} {ret : Option FieldType} {init : Bool} {post : Option Value → Nat → Nat → va_W → Prop} {u z pc : Nat} {lv : gLV} {st : List Value} {ws : va_W} (h : IsG Γ l R cc nL own E ret init post) {n : Int} {v : Int32} (d : decode cc pc = .ok (.sipush n, 3)) (hv : (Int16.ofInt n).toInt32 = v) (k : Γ u z (pc + 3) lv (.int v :: st) ws) : Γ u z pc lv st ws := by
  obtain ⟨p, e, s, m, args, below, meth, c, A, Q, ⟨hx, hb, hml, ho, hts, hK, hA, hN, hO⟩, rfl, hin, hr⟩ := h
  intro H locs ls hl hP hD hS
  exact lv_sipush hx hb d hv (k H locs ls hl hP hD hS)
theorem g_lconst {Γ : gT} {l : Launch} {R : Room} {cc : ByteArray} {nL : Nat} {own : String} {E : gE} {ret : Option FieldType} {init : Bool} {post : Option Value → Nat → Nat → va_W → Prop} {u z pc : Nat} {lv : gLV} {st : List Value} {ws : va_W} (h : IsG Γ l R cc nL own E ret init post) {n : Fin 2} {v : Int64} (d : decode cc pc = .ok (.lconst n, 1)) (hv : Int64.ofNat (n : Nat) = v) (k : Γ u z (pc + 1) lv (.long v :: st) ws) : Γ u z pc lv st ws := by
  obtain ⟨p, e, s, m, args, below, meth, c, A, Q, ⟨hx, hb, hml, ho, hts, hK, hA, hN, hO⟩, rfl, hin, hr⟩ := h
  intro H locs ls hl hP hD hS
  exact lv_lconst hx hb d hv (k H locs ls hl hP hD hS)
theorem g_ldc {Γ : gT} {l : Launch} {R : Room} {cc : ByteArray} {nL : Nat} {own : String} {E : gE} {ret : Option FieldType} {init : Bool} {post : Option Value → Nat → Nat → va_W → Prop} {u z pc : Nat} {lv : gLV} {st : List Value} {ws : va_W} (h : IsG Γ l R cc nL own E ret init post) {i : Nat} {v : Int32} (d : decode cc pc = .ok (.ldc i, 2)) (hw : Cond.constant own i v ∈ gTT) (k : Γ u z (pc + 2) lv (.int v :: st) ws) : Γ u z pc lv st ws := by
  obtain ⟨p, e, s, m, args, below, meth, c, A, Q, ⟨hx, hb, hml, ho, hts, hK, hA, hN, hO⟩, rfl, hin, hr⟩ := h
  intro H locs ls hl hP hD hS
  exact lv_ldc hx hb ho (hts _ hw) d (k H locs ls hl hP hD hS)
theorem g_ldcw {Γ : gT} {l : Launch} {R : Room} {cc : ByteArray} {nL : Nat} {own : String} {E : gE} {ret : Option FieldType} {init : Bool} {post : Option Value → Nat → Nat → va_W → Prop} {u z pc : Nat} {lv : gLV} {st : List Value} {ws : va_W} (h : IsG Γ l R cc nL own E ret init post) {i : Nat} {v : Int32} (d : decode cc pc = .ok (.ldc_w i, 3)) (hw : Cond.constant own i v ∈ gTT) (k : Γ u z (pc + 3) lv (.int v :: st) ws) : Γ u z pc lv st ws := by
  obtain ⟨p, e, s, m, args, below, meth, c, A, Q, ⟨hx, hb, hml, ho, hts, hK, hA, hN, hO⟩, rfl, hin, hr⟩ := h
  intro H locs ls hl hP hD hS
  exact lv_ldcw hx hb ho (hts _ hw) d (k H locs ls hl hP hD hS)
theorem g_ldc2 {Γ : gT} {l : Launch} {R : Room} {cc : ByteArray} {nL : Nat} {own : String} {E : gE} {ret : Option FieldType} {init : Bool} {post : Option Value → Nat → Nat → va_W → Prop} {u z pc : Nat} {lv : gLV} {st : List Value} {ws : va_W} (h : IsG Γ l R cc nL own E ret init post) {i : Nat} {v : Int64} (d : decode cc pc = .ok (.ldc2_w i, 3)) (hw : Cond.constantLong own i v ∈ gTT) (k : Γ u z (pc + 3) lv (.long v :: st) ws) : Γ u z pc lv st ws := by
  obtain ⟨p, e, s, m, args, below, meth, c, A, Q, ⟨hx, hb, hml, ho, hts, hK, hA, hN, hO⟩, rfl, hin, hr⟩ := h
  intro H locs ls hl hP hD hS
  exact lv_ldc2 hx hb ho (hts _ hw) d (k H locs ls hl hP hD hS)
theorem g_iload_n {Γ : gT} {l : Launch} {R : Room} {cc : ByteArray} {nL : Nat} {own : String} {E : gE} {ret : Option FieldType} {init : Bool} {post : Option Value → Nat → Nat → va_W → Prop} {u z pc : Nat} {lv : gLV} {st : List Value} {ws : va_W} (h : IsG Γ l R cc nL own E ret init post) {k0 : Fin 4} {x : Int32} (d : decode cc pc = .ok (.iload_n k0, 1)) (hv : lv[(k0 : Nat)]? = some (some (.int x))) (k : Γ u z (pc + 1) lv (.int x :: st) ws) : Γ u z pc lv st ws := by
  obtain ⟨p, e, s, m, args, below, meth, c, A, Q, ⟨hx, hb, hml, ho, hts, hK, hA, hN, hO⟩, rfl, hin, hr⟩ := h
  intro H locs ls hl hP hD hS
  exact lv_iload_n hx hb d rfl (hl.2 _ _ hv) (k H locs ls hl hP hD hS)
theorem g_iload {Γ : gT} {l : Launch} {R : Room} {cc : ByteArray} {nL : Nat} {own : String} {E : gE} {ret : Option FieldType} {init : Bool} {post : Option Value → Nat → Nat → va_W → Prop} {u z pc : Nat} {lv : gLV} {st : List Value} {ws : va_W} (h : IsG Γ l R cc nL own E ret init post) {i : Nat} {x : Int32} (d : decode cc pc = .ok (.iload i, 2)) (hv : lv[i]? = some (some (.int x))) (k : Γ u z (pc + 2) lv (.int x :: st) ws) : Γ u z pc lv st ws := by
  obtain ⟨p, e, s, m, args, below, meth, c, A, Q, ⟨hx, hb, hml, ho, hts, hK, hA, hN, hO⟩, rfl, hin, hr⟩ := h
  intro H locs ls hl hP hD hS
  exact lv_iload hx hb d (hl.2 _ _ hv) (k H locs ls hl hP hD hS)
theorem g_lload_n {Γ : gT} {l : Launch} {R : Room} {cc : ByteArray} {nL : Nat} {own : String} {E : gE} {ret : Option FieldType} {init : Bool} {post : Option Value → Nat → Nat → va_W → Prop} {u z pc : Nat} {lv : gLV} {st : List Value} {ws : va_W} (h : IsG Γ l R cc nL own E ret init post) {k0 : Fin 4} {x : Int64} (d : decode cc pc = .ok (.lload_n k0, 1)) (hv : lv[(k0 : Nat)]? = some (some (.long x))) (k : Γ u z (pc + 1) lv (.long x :: st) ws) : Γ u z pc lv st ws := by
  obtain ⟨p, e, s, m, args, below, meth, c, A, Q, ⟨hx, hb, hml, ho, hts, hK, hA, hN, hO⟩, rfl, hin, hr⟩ := h
  intro H locs ls hl hP hD hS
  exact lv_lload_n hx hb d rfl (hl.2 _ _ hv) (k H locs ls hl hP hD hS)
theorem g_lload {Γ : gT} {l : Launch} {R : Room} {cc : ByteArray} {nL : Nat} {own : String} {E : gE} {ret : Option FieldType} {init : Bool} {post : Option Value → Nat → Nat → va_W → Prop} {u z pc : Nat} {lv : gLV} {st : List Value} {ws : va_W} (h : IsG Γ l R cc nL own E ret init post) {i : Nat} {x : Int64} (d : decode cc pc = .ok (.lload i, 2)) (hv : lv[i]? = some (some (.long x))) (k : Γ u z (pc + 2) lv (.long x :: st) ws) : Γ u z pc lv st ws := by
  obtain ⟨p, e, s, m, args, below, meth, c, A, Q, ⟨hx, hb, hml, ho, hts, hK, hA, hN, hO⟩, rfl, hin, hr⟩ := h
  intro H locs ls hl hP hD hS
  exact lv_lload hx hb d (hl.2 _ _ hv) (k H locs ls hl hP hD hS)
theorem g_aload_n {Γ : gT} {l : Launch} {R : Room} {cc : ByteArray} {nL : Nat} {own : String} {E : gE} {ret : Option FieldType} {init : Bool} {post : Option Value → Nat → Nat → va_W → Prop} {u z pc : Nat} {lv : gLV} {st : List Value} {ws : va_W} (h : IsG Γ l R cc nL own E ret init post) {k0 : Fin 4} {x : Nat} (d : decode cc pc = .ok (.aload_n k0, 1)) (hv : lv[(k0 : Nat)]? = some (some (.ref x))) (k : Γ u z (pc + 1) lv (.ref x :: st) ws) : Γ u z pc lv st ws := by
  obtain ⟨p, e, s, m, args, below, meth, c, A, Q, ⟨hx, hb, hml, ho, hts, hK, hA, hN, hO⟩, rfl, hin, hr⟩ := h
  intro H locs ls hl hP hD hS
  exact lv_aload_n hx hb d rfl (hl.2 _ _ hv) (k H locs ls hl hP hD hS)
theorem g_aload {Γ : gT} {l : Launch} {R : Room} {cc : ByteArray} {nL : Nat} {own : String} {E : gE} {ret : Option FieldType} {init : Bool} {post : Option Value → Nat → Nat → va_W → Prop} {u z pc : Nat} {lv : gLV} {st : List Value} {ws : va_W} (h : IsG Γ l R cc nL own E ret init post) {i : Nat} {x : Nat} (d : decode cc pc = .ok (.aload i, 2)) (hv : lv[i]? = some (some (.ref x))) (k : Γ u z (pc + 2) lv (.ref x :: st) ws) : Γ u z pc lv st ws := by
  obtain ⟨p, e, s, m, args, below, meth, c, A, Q, ⟨hx, hb, hml, ho, hts, hK, hA, hN, hO⟩, rfl, hin, hr⟩ := h
  intro H locs ls hl hP hD hS
  exact lv_aload hx hb d (hl.2 _ _ hv) (k H locs ls hl hP hD hS)
theorem g_istore_n {Γ : gT} {l : Launch} {R : Room} {cc : ByteArray} {nL : Nat} {own : String} {E : gE} {ret : Option FieldType} {init : Bool} {post : Option Value → Nat → Nat → va_W → Prop} {u z pc : Nat} {lv : gLV} {st : List Value} {ws : va_W} (h : IsG Γ l R cc nL own E ret init post) {k0 : Fin 4} {x : Int32} (d : decode cc pc = .ok (.istore_n k0, 1)) (hn : (k0 : Nat) < nL) (k : Γ u z (pc + 1) (gset1 lv (k0 : Nat) (.int x)) st ws) : Γ u z pc lv (.int x :: st) ws := by
  obtain ⟨p, e, s, m, args, below, meth, c, A, Q, ⟨hx, hb, hml, ho, hts, hK, hA, hN, hO⟩, rfl, hin, hr⟩ := h
  intro H locs ls hl hP hD hS
  exact lv_istore_n hx hb d rfl (gL_all hl) hn rfl (fun ls' h' => k H locs ls' (gL_set1 h') hP hD hS)
theorem g_istore {Γ : gT} {l : Launch} {R : Room} {cc : ByteArray} {nL : Nat} {own : String} {E : gE} {ret : Option FieldType} {init : Bool} {post : Option Value → Nat → Nat → va_W → Prop} {u z pc : Nat} {lv : gLV} {st : List Value} {ws : va_W} (h : IsG Γ l R cc nL own E ret init post) {i : Nat} {x : Int32} (d : decode cc pc = .ok (.istore i, 2)) (hn : i < nL) (k : Γ u z (pc + 2) (gset1 lv i (.int x)) st ws) : Γ u z pc lv (.int x :: st) ws := by
  obtain ⟨p, e, s, m, args, below, meth, c, A, Q, ⟨hx, hb, hml, ho, hts, hK, hA, hN, hO⟩, rfl, hin, hr⟩ := h
  intro H locs ls hl hP hD hS
  exact lv_istore hx hb d (gL_all hl) hn rfl (fun ls' h' => k H locs ls' (gL_set1 h') hP hD hS)
theorem g_lstore_n {Γ : gT} {l : Launch} {R : Room} {cc : ByteArray} {nL : Nat} {own : String} {E : gE} {ret : Option FieldType} {init : Bool} {post : Option Value → Nat → Nat → va_W → Prop} {u z pc : Nat} {lv : gLV} {st : List Value} {ws : va_W} (h : IsG Γ l R cc nL own E ret init post) {k0 : Fin 4} {x : Int64} (d : decode cc pc = .ok (.lstore_n k0, 1)) (hn : (k0 : Nat) + 1 < nL) (k : Γ u z (pc + 1) (gset2 lv (k0 : Nat) (.long x)) st ws) : Γ u z pc lv (.long x :: st) ws := by
  obtain ⟨p, e, s, m, args, below, meth, c, A, Q, ⟨hx, hb, hml, ho, hts, hK, hA, hN, hO⟩, rfl, hin, hr⟩ := h
  intro H locs ls hl hP hD hS
  exact lv_lstore_n hx hb d rfl (gL_all hl) hn rfl (fun ls' h' => k H locs ls' (gL_set2 h') hP hD hS)
theorem g_lstore {Γ : gT} {l : Launch} {R : Room} {cc : ByteArray} {nL : Nat} {own : String} {E : gE} {ret : Option FieldType} {init : Bool} {post : Option Value → Nat → Nat → va_W → Prop} {u z pc : Nat} {lv : gLV} {st : List Value} {ws : va_W} (h : IsG Γ l R cc nL own E ret init post) {i : Nat} {x : Int64} (d : decode cc pc = .ok (.lstore i, 2)) (hn : i + 1 < nL) (k : Γ u z (pc + 2) (gset2 lv i (.long x)) st ws) : Γ u z pc lv (.long x :: st) ws := by
  obtain ⟨p, e, s, m, args, below, meth, c, A, Q, ⟨hx, hb, hml, ho, hts, hK, hA, hN, hO⟩, rfl, hin, hr⟩ := h
  intro H locs ls hl hP hD hS
  exact lv_lstore hx hb d (gL_all hl) hn rfl (fun ls' h' => k H locs ls' (gL_set2 h') hP hD hS)
theorem g_astore_n {Γ : gT} {l : Launch} {R : Room} {cc : ByteArray} {nL : Nat} {own : String} {E : gE} {ret : Option FieldType} {init : Bool} {post : Option Value → Nat → Nat → va_W → Prop} {u z pc : Nat} {lv : gLV} {st : List Value} {ws : va_W} (h : IsG Γ l R cc nL own E ret init post) {k0 : Fin 4} {x : Nat} (d : decode cc pc = .ok (.astore_n k0, 1)) (hn : (k0 : Nat) < nL) (k : Γ u z (pc + 1) (gset1 lv (k0 : Nat) (.ref x)) st ws) : Γ u z pc lv (.ref x :: st) ws := by
  obtain ⟨p, e, s, m, args, below, meth, c, A, Q, ⟨hx, hb, hml, ho, hts, hK, hA, hN, hO⟩, rfl, hin, hr⟩ := h
  intro H locs ls hl hP hD hS
  exact lv_astore_n hx hb d rfl (gL_all hl) hn rfl (fun ls' h' => k H locs ls' (gL_set1 h') hP hD hS)
theorem g_astore {Γ : gT} {l : Launch} {R : Room} {cc : ByteArray} {nL : Nat} {own : String} {E : gE} {ret : Option FieldType} {init : Bool} {post : Option Value → Nat → Nat → va_W → Prop} {u z pc : Nat} {lv : gLV} {st : List Value} {ws : va_W} (h : IsG Γ l R cc nL own E ret init post) {i : Nat} {x : Nat} (d : decode cc pc = .ok (.astore i, 2)) (hn : i < nL) (k : Γ u z (pc + 2) (gset1 lv i (.ref x)) st ws) : Γ u z pc lv (.ref x :: st) ws := by
  obtain ⟨p, e, s, m, args, below, meth, c, A, Q, ⟨hx, hb, hml, ho, hts, hK, hA, hN, hO⟩, rfl, hin, hr⟩ := h
  intro H locs ls hl hP hD hS
  exact lv_astore hx hb d (gL_all hl) hn rfl (fun ls' h' => k H locs ls' (gL_set1 h') hP hD hS)
theorem g_nth {α : Type} {l : List α} {a : α} (h : a ∈ l) : ∃ k : Nat, l[k]? = some a := List.getElem?_of_mem h
theorem g_iinc {Γ : gT} {l : Launch} {R : Room} {cc : ByteArray} {nL : Nat} {own : String} {E : gE} {ret : Option FieldType} {init : Bool} {post : Option Value → Nat → Nat → va_W → Prop} {u z pc : Nat} {lv : gLV} {st : List Value} {ws : va_W} (h : IsG Γ l R cc nL own E ret init post) {i : Nat} {n : Int} {x v : Int32} (d : decode cc pc = .ok (.iinc i n, 3)) (hg : lv[i]? = some (some (.int x))) (hv : x + Int32.ofInt n = v) (hn : i < nL) (k : Γ u z (pc + 3) (gset1 lv i (.int v)) st ws) : Γ u z pc lv st ws := by
  obtain ⟨p, e, s, m, args, below, meth, c, A, Q, ⟨hx, hb, hml, ho, hts, hK, hA, hN, hO⟩, rfl, hin, hr⟩ := h
  intro H locs ls hl hP hD hS
  obtain ⟨k0, hk0⟩ := g_nth (gpairs_of lv 0 i _ hg)
  rw [Nat.zero_add] at hk0
  exact lv_iinc hx hb d (gL_all hl) hk0 hv hn rfl (fun ls' h' => k H locs ls' (gL_set1 h') hP hD hS)
theorem g_iadd {Γ : gT} {l : Launch} {R : Room} {cc : ByteArray} {nL : Nat} {own : String} {E : gE} {ret : Option FieldType} {init : Bool} {post : Option Value → Nat → Nat → va_W → Prop} {u z pc : Nat} {lv : gLV} {st : List Value} {ws : va_W} (h : IsG Γ l R cc nL own E ret init post) {x y : Int32} (d : decode cc pc = .ok (.iadd, 1)) (k : Γ u z (pc + 1) lv (.int (x + y) :: st) ws) : Γ u z pc lv (.int y :: .int x :: st) ws := by
  obtain ⟨p, e, s, m, args, below, meth, c, A, Q, ⟨hx, hb, hml, ho, hts, hK, hA, hN, hO⟩, rfl, hin, hr⟩ := h
  intro H locs ls hl hP hD hS
  exact lv_iadd hx hb d (k H locs ls hl hP hD hS)
theorem g_isub {Γ : gT} {l : Launch} {R : Room} {cc : ByteArray} {nL : Nat} {own : String} {E : gE} {ret : Option FieldType} {init : Bool} {post : Option Value → Nat → Nat → va_W → Prop} {u z pc : Nat} {lv : gLV} {st : List Value} {ws : va_W} (h : IsG Γ l R cc nL own E ret init post) {x y : Int32} (d : decode cc pc = .ok (.isub, 1)) (k : Γ u z (pc + 1) lv (.int (x - y) :: st) ws) : Γ u z pc lv (.int y :: .int x :: st) ws := by
  obtain ⟨p, e, s, m, args, below, meth, c, A, Q, ⟨hx, hb, hml, ho, hts, hK, hA, hN, hO⟩, rfl, hin, hr⟩ := h
  intro H locs ls hl hP hD hS
  exact lv_isub hx hb d (k H locs ls hl hP hD hS)
theorem g_imul {Γ : gT} {l : Launch} {R : Room} {cc : ByteArray} {nL : Nat} {own : String} {E : gE} {ret : Option FieldType} {init : Bool} {post : Option Value → Nat → Nat → va_W → Prop} {u z pc : Nat} {lv : gLV} {st : List Value} {ws : va_W} (h : IsG Γ l R cc nL own E ret init post) {x y : Int32} (d : decode cc pc = .ok (.imul, 1)) (k : Γ u z (pc + 1) lv (.int (x * y) :: st) ws) : Γ u z pc lv (.int y :: .int x :: st) ws := by
  obtain ⟨p, e, s, m, args, below, meth, c, A, Q, ⟨hx, hb, hml, ho, hts, hK, hA, hN, hO⟩, rfl, hin, hr⟩ := h
  intro H locs ls hl hP hD hS
  exact lv_imul hx hb d (k H locs ls hl hP hD hS)
theorem g_iand {Γ : gT} {l : Launch} {R : Room} {cc : ByteArray} {nL : Nat} {own : String} {E : gE} {ret : Option FieldType} {init : Bool} {post : Option Value → Nat → Nat → va_W → Prop} {u z pc : Nat} {lv : gLV} {st : List Value} {ws : va_W} (h : IsG Γ l R cc nL own E ret init post) {x y : Int32} (d : decode cc pc = .ok (.iand, 1)) (k : Γ u z (pc + 1) lv (.int (x &&& y) :: st) ws) : Γ u z pc lv (.int y :: .int x :: st) ws := by
  obtain ⟨p, e, s, m, args, below, meth, c, A, Q, ⟨hx, hb, hml, ho, hts, hK, hA, hN, hO⟩, rfl, hin, hr⟩ := h
  intro H locs ls hl hP hD hS
  exact lv_iand hx hb d (k H locs ls hl hP hD hS)
theorem g_ior {Γ : gT} {l : Launch} {R : Room} {cc : ByteArray} {nL : Nat} {own : String} {E : gE} {ret : Option FieldType} {init : Bool} {post : Option Value → Nat → Nat → va_W → Prop} {u z pc : Nat} {lv : gLV} {st : List Value} {ws : va_W} (h : IsG Γ l R cc nL own E ret init post) {x y : Int32} (d : decode cc pc = .ok (.ior, 1)) (k : Γ u z (pc + 1) lv (.int (x ||| y) :: st) ws) : Γ u z pc lv (.int y :: .int x :: st) ws := by
  obtain ⟨p, e, s, m, args, below, meth, c, A, Q, ⟨hx, hb, hml, ho, hts, hK, hA, hN, hO⟩, rfl, hin, hr⟩ := h
  intro H locs ls hl hP hD hS
  exact lv_ior hx hb d (k H locs ls hl hP hD hS)
theorem g_ixor {Γ : gT} {l : Launch} {R : Room} {cc : ByteArray} {nL : Nat} {own : String} {E : gE} {ret : Option FieldType} {init : Bool} {post : Option Value → Nat → Nat → va_W → Prop} {u z pc : Nat} {lv : gLV} {st : List Value} {ws : va_W} (h : IsG Γ l R cc nL own E ret init post) {x y : Int32} (d : decode cc pc = .ok (.ixor, 1)) (k : Γ u z (pc + 1) lv (.int (x ^^^ y) :: st) ws) : Γ u z pc lv (.int y :: .int x :: st) ws := by
  obtain ⟨p, e, s, m, args, below, meth, c, A, Q, ⟨hx, hb, hml, ho, hts, hK, hA, hN, hO⟩, rfl, hin, hr⟩ := h
  intro H locs ls hl hP hD hS
  exact lv_ixor hx hb d (k H locs ls hl hP hD hS)
theorem g_ishl {Γ : gT} {l : Launch} {R : Room} {cc : ByteArray} {nL : Nat} {own : String} {E : gE} {ret : Option FieldType} {init : Bool} {post : Option Value → Nat → Nat → va_W → Prop} {u z pc : Nat} {lv : gLV} {st : List Value} {ws : va_W} (h : IsG Γ l R cc nL own E ret init post) {x y : Int32} (d : decode cc pc = .ok (.ishl, 1)) (k : Γ u z (pc + 1) lv (.int (x <<< (y &&& 31)) :: st) ws) : Γ u z pc lv (.int y :: .int x :: st) ws := by
  obtain ⟨p, e, s, m, args, below, meth, c, A, Q, ⟨hx, hb, hml, ho, hts, hK, hA, hN, hO⟩, rfl, hin, hr⟩ := h
  intro H locs ls hl hP hD hS
  exact lv_ishl hx hb d (k H locs ls hl hP hD hS)
theorem g_ishr {Γ : gT} {l : Launch} {R : Room} {cc : ByteArray} {nL : Nat} {own : String} {E : gE} {ret : Option FieldType} {init : Bool} {post : Option Value → Nat → Nat → va_W → Prop} {u z pc : Nat} {lv : gLV} {st : List Value} {ws : va_W} (h : IsG Γ l R cc nL own E ret init post) {x y : Int32} (d : decode cc pc = .ok (.ishr, 1)) (k : Γ u z (pc + 1) lv (.int (x >>> (y &&& 31)) :: st) ws) : Γ u z pc lv (.int y :: .int x :: st) ws := by
  obtain ⟨p, e, s, m, args, below, meth, c, A, Q, ⟨hx, hb, hml, ho, hts, hK, hA, hN, hO⟩, rfl, hin, hr⟩ := h
  intro H locs ls hl hP hD hS
  exact lv_ishr hx hb d (k H locs ls hl hP hD hS)
theorem g_idiv {Γ : gT} {l : Launch} {R : Room} {cc : ByteArray} {nL : Nat} {own : String} {E : gE} {ret : Option FieldType} {init : Bool} {post : Option Value → Nat → Nat → va_W → Prop} {u z pc : Nat} {lv : gLV} {st : List Value} {ws : va_W} (h : IsG Γ l R cc nL own E ret init post) {x y : Int32} (d : decode cc pc = .ok (.idiv, 1)) (hne : ¬ y = 0) (k : Γ u z (pc + 1) lv (.int (x / y) :: st) ws) : Γ u z pc lv (.int y :: .int x :: st) ws := by
  obtain ⟨p, e, s, m, args, below, meth, c, A, Q, ⟨hx, hb, hml, ho, hts, hK, hA, hN, hO⟩, rfl, hin, hr⟩ := h
  intro H locs ls hl hP hD hS
  exact lv_idiv hx hb d hne (k H locs ls hl hP hD hS)
theorem g_irem {Γ : gT} {l : Launch} {R : Room} {cc : ByteArray} {nL : Nat} {own : String} {E : gE} {ret : Option FieldType} {init : Bool} {post : Option Value → Nat → Nat → va_W → Prop} {u z pc : Nat} {lv : gLV} {st : List Value} {ws : va_W} (h : IsG Γ l R cc nL own E ret init post) {x y : Int32} (d : decode cc pc = .ok (.irem, 1)) (hne : ¬ y = 0) (k : Γ u z (pc + 1) lv (.int (x - x / y * y) :: st) ws) : Γ u z pc lv (.int y :: .int x :: st) ws := by
  obtain ⟨p, e, s, m, args, below, meth, c, A, Q, ⟨hx, hb, hml, ho, hts, hK, hA, hN, hO⟩, rfl, hin, hr⟩ := h
  intro H locs ls hl hP hD hS
  exact lv_irem hx hb d hne (k H locs ls hl hP hD hS)
theorem g_ineg {Γ : gT} {l : Launch} {R : Room} {cc : ByteArray} {nL : Nat} {own : String} {E : gE} {ret : Option FieldType} {init : Bool} {post : Option Value → Nat → Nat → va_W → Prop} {u z pc : Nat} {lv : gLV} {st : List Value} {ws : va_W} (h : IsG Γ l R cc nL own E ret init post) {x : Int32} (d : decode cc pc = .ok (.ineg, 1)) (k : Γ u z (pc + 1) lv (.int (-x) :: st) ws) : Γ u z pc lv (.int x :: st) ws := by
  obtain ⟨p, e, s, m, args, below, meth, c, A, Q, ⟨hx, hb, hml, ho, hts, hK, hA, hN, hO⟩, rfl, hin, hr⟩ := h
  intro H locs ls hl hP hD hS
  exact lv_ineg hx hb d (k H locs ls hl hP hD hS)
theorem g_iushr {Γ : gT} {l : Launch} {R : Room} {cc : ByteArray} {nL : Nat} {own : String} {E : gE} {ret : Option FieldType} {init : Bool} {post : Option Value → Nat → Nat → va_W → Prop} {u z pc : Nat} {lv : gLV} {st : List Value} {ws : va_W} (h : IsG Γ l R cc nL own E ret init post) {x y : Int32} (d : decode cc pc = .ok (.iushr, 1)) (k : Γ u z (pc + 1) lv (.int ((x.toUInt32 >>> (y.toUInt32 &&& Int32.toUInt32 31)).toInt32) :: st) ws) : Γ u z pc lv (.int y :: .int x :: st) ws := by
  obtain ⟨p, e, s, m, args, below, meth, c, A, Q, ⟨hx, hb, hml, ho, hts, hK, hA, hN, hO⟩, rfl, hin, hr⟩ := h
  intro H locs ls hl hP hD hS
  exact lv_iushr hx hb d rfl (k H locs ls hl hP hD hS)
theorem g_ladd {Γ : gT} {l : Launch} {R : Room} {cc : ByteArray} {nL : Nat} {own : String} {E : gE} {ret : Option FieldType} {init : Bool} {post : Option Value → Nat → Nat → va_W → Prop} {u z pc : Nat} {lv : gLV} {st : List Value} {ws : va_W} (h : IsG Γ l R cc nL own E ret init post) {x y : Int64} (d : decode cc pc = .ok (.ladd, 1)) (k : Γ u z (pc + 1) lv (.long (x + y) :: st) ws) : Γ u z pc lv (.long y :: .long x :: st) ws := by
  obtain ⟨p, e, s, m, args, below, meth, c, A, Q, ⟨hx, hb, hml, ho, hts, hK, hA, hN, hO⟩, rfl, hin, hr⟩ := h
  intro H locs ls hl hP hD hS
  exact lv_ladd hx hb d (k H locs ls hl hP hD hS)
theorem g_lsub {Γ : gT} {l : Launch} {R : Room} {cc : ByteArray} {nL : Nat} {own : String} {E : gE} {ret : Option FieldType} {init : Bool} {post : Option Value → Nat → Nat → va_W → Prop} {u z pc : Nat} {lv : gLV} {st : List Value} {ws : va_W} (h : IsG Γ l R cc nL own E ret init post) {x y : Int64} (d : decode cc pc = .ok (.lsub, 1)) (k : Γ u z (pc + 1) lv (.long (x - y) :: st) ws) : Γ u z pc lv (.long y :: .long x :: st) ws := by
  obtain ⟨p, e, s, m, args, below, meth, c, A, Q, ⟨hx, hb, hml, ho, hts, hK, hA, hN, hO⟩, rfl, hin, hr⟩ := h
  intro H locs ls hl hP hD hS
  exact lv_lsub hx hb d (k H locs ls hl hP hD hS)
theorem g_lmul {Γ : gT} {l : Launch} {R : Room} {cc : ByteArray} {nL : Nat} {own : String} {E : gE} {ret : Option FieldType} {init : Bool} {post : Option Value → Nat → Nat → va_W → Prop} {u z pc : Nat} {lv : gLV} {st : List Value} {ws : va_W} (h : IsG Γ l R cc nL own E ret init post) {x y : Int64} (d : decode cc pc = .ok (.lmul, 1)) (k : Γ u z (pc + 1) lv (.long (x * y) :: st) ws) : Γ u z pc lv (.long y :: .long x :: st) ws := by
  obtain ⟨p, e, s, m, args, below, meth, c, A, Q, ⟨hx, hb, hml, ho, hts, hK, hA, hN, hO⟩, rfl, hin, hr⟩ := h
  intro H locs ls hl hP hD hS
  exact lv_lmul hx hb d (k H locs ls hl hP hD hS)
theorem g_land {Γ : gT} {l : Launch} {R : Room} {cc : ByteArray} {nL : Nat} {own : String} {E : gE} {ret : Option FieldType} {init : Bool} {post : Option Value → Nat → Nat → va_W → Prop} {u z pc : Nat} {lv : gLV} {st : List Value} {ws : va_W} (h : IsG Γ l R cc nL own E ret init post) {x y : Int64} (d : decode cc pc = .ok (.land, 1)) (k : Γ u z (pc + 1) lv (.long (x &&& y) :: st) ws) : Γ u z pc lv (.long y :: .long x :: st) ws := by
  obtain ⟨p, e, s, m, args, below, meth, c, A, Q, ⟨hx, hb, hml, ho, hts, hK, hA, hN, hO⟩, rfl, hin, hr⟩ := h
  intro H locs ls hl hP hD hS
  exact lv_land hx hb d (k H locs ls hl hP hD hS)
theorem g_lor {Γ : gT} {l : Launch} {R : Room} {cc : ByteArray} {nL : Nat} {own : String} {E : gE} {ret : Option FieldType} {init : Bool} {post : Option Value → Nat → Nat → va_W → Prop} {u z pc : Nat} {lv : gLV} {st : List Value} {ws : va_W} (h : IsG Γ l R cc nL own E ret init post) {x y : Int64} (d : decode cc pc = .ok (.lor, 1)) (k : Γ u z (pc + 1) lv (.long (x ||| y) :: st) ws) : Γ u z pc lv (.long y :: .long x :: st) ws := by
  obtain ⟨p, e, s, m, args, below, meth, c, A, Q, ⟨hx, hb, hml, ho, hts, hK, hA, hN, hO⟩, rfl, hin, hr⟩ := h
  intro H locs ls hl hP hD hS
  exact lv_lor hx hb d (k H locs ls hl hP hD hS)
theorem g_lxor {Γ : gT} {l : Launch} {R : Room} {cc : ByteArray} {nL : Nat} {own : String} {E : gE} {ret : Option FieldType} {init : Bool} {post : Option Value → Nat → Nat → va_W → Prop} {u z pc : Nat} {lv : gLV} {st : List Value} {ws : va_W} (h : IsG Γ l R cc nL own E ret init post) {x y : Int64} (d : decode cc pc = .ok (.lxor, 1)) (k : Γ u z (pc + 1) lv (.long (x ^^^ y) :: st) ws) : Γ u z pc lv (.long y :: .long x :: st) ws := by
  obtain ⟨p, e, s, m, args, below, meth, c, A, Q, ⟨hx, hb, hml, ho, hts, hK, hA, hN, hO⟩, rfl, hin, hr⟩ := h
  intro H locs ls hl hP hD hS
  exact lv_lxor hx hb d (k H locs ls hl hP hD hS)
theorem g_ldiv {Γ : gT} {l : Launch} {R : Room} {cc : ByteArray} {nL : Nat} {own : String} {E : gE} {ret : Option FieldType} {init : Bool} {post : Option Value → Nat → Nat → va_W → Prop} {u z pc : Nat} {lv : gLV} {st : List Value} {ws : va_W} (h : IsG Γ l R cc nL own E ret init post) {x y : Int64} (d : decode cc pc = .ok (.ldiv, 1)) (hne : ¬ y = 0) (k : Γ u z (pc + 1) lv (.long (x / y) :: st) ws) : Γ u z pc lv (.long y :: .long x :: st) ws := by
  obtain ⟨p, e, s, m, args, below, meth, c, A, Q, ⟨hx, hb, hml, ho, hts, hK, hA, hN, hO⟩, rfl, hin, hr⟩ := h
  intro H locs ls hl hP hD hS
  exact lv_ldiv hx hb d hne (k H locs ls hl hP hD hS)
theorem g_lrem {Γ : gT} {l : Launch} {R : Room} {cc : ByteArray} {nL : Nat} {own : String} {E : gE} {ret : Option FieldType} {init : Bool} {post : Option Value → Nat → Nat → va_W → Prop} {u z pc : Nat} {lv : gLV} {st : List Value} {ws : va_W} (h : IsG Γ l R cc nL own E ret init post) {x y : Int64} (d : decode cc pc = .ok (.lrem, 1)) (hne : ¬ y = 0) (k : Γ u z (pc + 1) lv (.long (x - x / y * y) :: st) ws) : Γ u z pc lv (.long y :: .long x :: st) ws := by
  obtain ⟨p, e, s, m, args, below, meth, c, A, Q, ⟨hx, hb, hml, ho, hts, hK, hA, hN, hO⟩, rfl, hin, hr⟩ := h
  intro H locs ls hl hP hD hS
  exact lv_lrem hx hb d hne (k H locs ls hl hP hD hS)
theorem g_lneg {Γ : gT} {l : Launch} {R : Room} {cc : ByteArray} {nL : Nat} {own : String} {E : gE} {ret : Option FieldType} {init : Bool} {post : Option Value → Nat → Nat → va_W → Prop} {u z pc : Nat} {lv : gLV} {st : List Value} {ws : va_W} (h : IsG Γ l R cc nL own E ret init post) {x : Int64} (d : decode cc pc = .ok (.lneg, 1)) (k : Γ u z (pc + 1) lv (.long (-x) :: st) ws) : Γ u z pc lv (.long x :: st) ws := by
  obtain ⟨p, e, s, m, args, below, meth, c, A, Q, ⟨hx, hb, hml, ho, hts, hK, hA, hN, hO⟩, rfl, hin, hr⟩ := h
  intro H locs ls hl hP hD hS
  exact lv_lneg hx hb d (k H locs ls hl hP hD hS)
theorem g_lshl {Γ : gT} {l : Launch} {R : Room} {cc : ByteArray} {nL : Nat} {own : String} {E : gE} {ret : Option FieldType} {init : Bool} {post : Option Value → Nat → Nat → va_W → Prop} {u z pc : Nat} {lv : gLV} {st : List Value} {ws : va_W} (h : IsG Γ l R cc nL own E ret init post) {x : Int64} {y : Int32} (d : decode cc pc = .ok (.lshl, 1)) (k : Γ u z (pc + 1) lv (.long (x <<< (y.toInt64 &&& 63)) :: st) ws) : Γ u z pc lv (.int y :: .long x :: st) ws := by
  obtain ⟨p, e, s, m, args, below, meth, c, A, Q, ⟨hx, hb, hml, ho, hts, hK, hA, hN, hO⟩, rfl, hin, hr⟩ := h
  intro H locs ls hl hP hD hS
  exact lv_lshl hx hb d rfl (k H locs ls hl hP hD hS)
theorem g_i2l {Γ : gT} {l : Launch} {R : Room} {cc : ByteArray} {nL : Nat} {own : String} {E : gE} {ret : Option FieldType} {init : Bool} {post : Option Value → Nat → Nat → va_W → Prop} {u z pc : Nat} {lv : gLV} {st : List Value} {ws : va_W} (h : IsG Γ l R cc nL own E ret init post) {x : Int32} (d : decode cc pc = .ok (.i2l, 1)) (k : Γ u z (pc + 1) lv (.long x.toInt64 :: st) ws) : Γ u z pc lv (.int x :: st) ws := by
  obtain ⟨p, e, s, m, args, below, meth, c, A, Q, ⟨hx, hb, hml, ho, hts, hK, hA, hN, hO⟩, rfl, hin, hr⟩ := h
  intro H locs ls hl hP hD hS
  exact lv_i2l hx hb d rfl (k H locs ls hl hP hD hS)
theorem g_l2i {Γ : gT} {l : Launch} {R : Room} {cc : ByteArray} {nL : Nat} {own : String} {E : gE} {ret : Option FieldType} {init : Bool} {post : Option Value → Nat → Nat → va_W → Prop} {u z pc : Nat} {lv : gLV} {st : List Value} {ws : va_W} (h : IsG Γ l R cc nL own E ret init post) {x : Int64} (d : decode cc pc = .ok (.l2i, 1)) (k : Γ u z (pc + 1) lv (.int x.toInt32 :: st) ws) : Γ u z pc lv (.long x :: st) ws := by
  obtain ⟨p, e, s, m, args, below, meth, c, A, Q, ⟨hx, hb, hml, ho, hts, hK, hA, hN, hO⟩, rfl, hin, hr⟩ := h
  intro H locs ls hl hP hD hS
  exact lv_l2i hx hb d rfl (k H locs ls hl hP hD hS)
theorem g_i2s {Γ : gT} {l : Launch} {R : Room} {cc : ByteArray} {nL : Nat} {own : String} {E : gE} {ret : Option FieldType} {init : Bool} {post : Option Value → Nat → Nat → va_W → Prop} {u z pc : Nat} {lv : gLV} {st : List Value} {ws : va_W} (h : IsG Γ l R cc nL own E ret init post) {x : Int32} (d : decode cc pc = .ok (.i2s, 1)) (k : Γ u z (pc + 1) lv (.int x.toInt16.toInt32 :: st) ws) : Γ u z pc lv (.int x :: st) ws := by
  obtain ⟨p, e, s, m, args, below, meth, c, A, Q, ⟨hx, hb, hml, ho, hts, hK, hA, hN, hO⟩, rfl, hin, hr⟩ := h
  intro H locs ls hl hP hD hS
  exact lv_i2s hx hb d rfl (k H locs ls hl hP hD hS)
theorem g_lcmp {Γ : gT} {l : Launch} {R : Room} {cc : ByteArray} {nL : Nat} {own : String} {E : gE} {ret : Option FieldType} {init : Bool} {post : Option Value → Nat → Nat → va_W → Prop} {u z pc : Nat} {lv : gLV} {st : List Value} {ws : va_W} (h : IsG Γ l R cc nL own E ret init post) {x y : Int64} (d : decode cc pc = .ok (.lcmp, 1)) (k : Γ u z (pc + 1) lv (.int (lg_cmp x y) :: st) ws) : Γ u z pc lv (.long y :: .long x :: st) ws := by
  obtain ⟨p, e, s, m, args, below, meth, c, A, Q, ⟨hx, hb, hml, ho, hts, hK, hA, hN, hO⟩, rfl, hin, hr⟩ := h
  intro H locs ls hl hP hD hS
  exact W.lcmp hx hb d (k H locs ls hl hP hD hS)
theorem g_dup {Γ : gT} {l : Launch} {R : Room} {cc : ByteArray} {nL : Nat} {own : String} {E : gE} {ret : Option FieldType} {init : Bool} {post : Option Value → Nat → Nat → va_W → Prop} {u z pc : Nat} {lv : gLV} {st : List Value} {ws : va_W} (h : IsG Γ l R cc nL own E ret init post) {a : Value} (d : decode cc pc = .ok (.dup, 1)) (ha : a.category = 1) (k : Γ u z (pc + 1) lv (a :: a :: st) ws) : Γ u z pc lv (a :: st) ws := by
  obtain ⟨p, e, s, m, args, below, meth, c, A, Q, ⟨hx, hb, hml, ho, hts, hK, hA, hN, hO⟩, rfl, hin, hr⟩ := h
  intro H locs ls hl hP hD hS
  exact lv_dup hx hb d ha (k H locs ls hl hP hD hS)
theorem g_pop {Γ : gT} {l : Launch} {R : Room} {cc : ByteArray} {nL : Nat} {own : String} {E : gE} {ret : Option FieldType} {init : Bool} {post : Option Value → Nat → Nat → va_W → Prop} {u z pc : Nat} {lv : gLV} {st : List Value} {ws : va_W} (h : IsG Γ l R cc nL own E ret init post) {a : Value} (d : decode cc pc = .ok (.pop, 1)) (ha : a.category = 1) (k : Γ u z (pc + 1) lv st ws) : Γ u z pc lv (a :: st) ws := by
  obtain ⟨p, e, s, m, args, below, meth, c, A, Q, ⟨hx, hb, hml, ho, hts, hK, hA, hN, hO⟩, rfl, hin, hr⟩ := h
  intro H locs ls hl hP hD hS
  exact lv_pop hx hb d ha (k H locs ls hl hP hD hS)
theorem g_dup2_11 {Γ : gT} {l : Launch} {R : Room} {cc : ByteArray} {nL : Nat} {own : String} {E : gE} {ret : Option FieldType} {init : Bool} {post : Option Value → Nat → Nat → va_W → Prop} {u z pc : Nat} {lv : gLV} {st : List Value} {ws : va_W} (h : IsG Γ l R cc nL own E ret init post) {a b : Value} (d : decode cc pc = .ok (.dup2, 1)) (ha : a.category = 1) (hb2 : b.category = 1) (k : Γ u z (pc + 1) lv (a :: b :: a :: b :: st) ws) : Γ u z pc lv (a :: b :: st) ws := by
  obtain ⟨p, e, s, m, args, below, meth, c, A, Q, ⟨hx, hb, hml, ho, hts, hK, hA, hN, hO⟩, rfl, hin, hr⟩ := h
  intro H locs ls hl hP hD hS
  exact lv_dup2_11 hx hb d ha hb2 (k H locs ls hl hP hD hS)
theorem g_dup2_2 {Γ : gT} {l : Launch} {R : Room} {cc : ByteArray} {nL : Nat} {own : String} {E : gE} {ret : Option FieldType} {init : Bool} {post : Option Value → Nat → Nat → va_W → Prop} {u z pc : Nat} {lv : gLV} {st : List Value} {ws : va_W} (h : IsG Γ l R cc nL own E ret init post) {a : Value} (d : decode cc pc = .ok (.dup2, 1)) (ha : a.category = 2) (k : Γ u z (pc + 1) lv (a :: a :: st) ws) : Γ u z pc lv (a :: st) ws := by
  obtain ⟨p, e, s, m, args, below, meth, c, A, Q, ⟨hx, hb, hml, ho, hts, hK, hA, hN, hO⟩, rfl, hin, hr⟩ := h
  intro H locs ls hl hP hD hS
  exact lv_dup2_2 hx hb d ha (k H locs ls hl hP hD hS)
theorem g_if_eq {Γ : gT} {l : Launch} {R : Room} {cc : ByteArray} {nL : Nat} {own : String} {E : gE} {ret : Option FieldType} {init : Bool} {post : Option Value → Nat → Nat → va_W → Prop} {u z pc : Nat} {lv : gLV} {st : List Value} {ws : va_W} (h : IsG Γ l R cc nL own E ret init post) {x : Int32} {off : Int} {tgt : Nat} (d : decode cc pc = .ok (.ifCond .eq off, 3)) (ht : (pc : Int) + off = (tgt : Int)) (kt : x = 0 → Γ u z tgt lv st ws) (kf : ¬ x = 0 → Γ u z (pc + 3) lv st ws) : Γ u z pc lv (.int x :: st) ws := by
  obtain ⟨p, e, s, m, args, below, meth, c, A, Q, ⟨hx, hb, hml, ho, hts, hK, hA, hN, hO⟩, rfl, hin, hr⟩ := h
  intro H locs ls hl hP hD hS
  exact lv_if_eq hx hb d ht (fun q => kt q H locs ls hl hP hD hS) (fun q => kf q H locs ls hl hP hD hS)
theorem g_ic_eq {Γ : gT} {l : Launch} {R : Room} {cc : ByteArray} {nL : Nat} {own : String} {E : gE} {ret : Option FieldType} {init : Bool} {post : Option Value → Nat → Nat → va_W → Prop} {u z pc : Nat} {lv : gLV} {st : List Value} {ws : va_W} (h : IsG Γ l R cc nL own E ret init post) {x y : Int32} {off : Int} {tgt : Nat} (d : decode cc pc = .ok (.if_icmp .eq off, 3)) (ht : (pc : Int) + off = (tgt : Int)) (kt : x = y → Γ u z tgt lv st ws) (kf : ¬ x = y → Γ u z (pc + 3) lv st ws) : Γ u z pc lv (.int y :: .int x :: st) ws := by
  obtain ⟨p, e, s, m, args, below, meth, c, A, Q, ⟨hx, hb, hml, ho, hts, hK, hA, hN, hO⟩, rfl, hin, hr⟩ := h
  intro H locs ls hl hP hD hS
  exact lv_icmp_eq hx hb d ht (fun q => kt q H locs ls hl hP hD hS) (fun q => kf q H locs ls hl hP hD hS)
theorem g_lif_eq {Γ : gT} {l : Launch} {R : Room} {cc : ByteArray} {nL : Nat} {own : String} {E : gE} {ret : Option FieldType} {init : Bool} {post : Option Value → Nat → Nat → va_W → Prop} {u z pc : Nat} {lv : gLV} {st : List Value} {ws : va_W} (h : IsG Γ l R cc nL own E ret init post) {x y : Int64} {off : Int} {tgt : Nat} (d : decode cc pc = .ok (.ifCond .eq off, 3)) (ht : (pc : Int) + off = (tgt : Int)) (kt : x = y → Γ u z tgt lv st ws) (kf : ¬ x = y → Γ u z (pc + 3) lv st ws) : Γ u z pc lv (.int (lg_cmp x y) :: st) ws := by
  obtain ⟨p, e, s, m, args, below, meth, c, A, Q, ⟨hx, hb, hml, ho, hts, hK, hA, hN, hO⟩, rfl, hin, hr⟩ := h
  intro H locs ls hl hP hD hS
  exact lv_if_eq hx hb d ht (fun q => kt ((lg_cmp_eq x y).mp q) H locs ls hl hP hD hS) (fun q => kf (fun w => q ((lg_cmp_eq x y).mpr w)) H locs ls hl hP hD hS)
theorem g_if_ne {Γ : gT} {l : Launch} {R : Room} {cc : ByteArray} {nL : Nat} {own : String} {E : gE} {ret : Option FieldType} {init : Bool} {post : Option Value → Nat → Nat → va_W → Prop} {u z pc : Nat} {lv : gLV} {st : List Value} {ws : va_W} (h : IsG Γ l R cc nL own E ret init post) {x : Int32} {off : Int} {tgt : Nat} (d : decode cc pc = .ok (.ifCond .ne off, 3)) (ht : (pc : Int) + off = (tgt : Int)) (kt : ¬ x = 0 → Γ u z tgt lv st ws) (kf : x = 0 → Γ u z (pc + 3) lv st ws) : Γ u z pc lv (.int x :: st) ws := by
  obtain ⟨p, e, s, m, args, below, meth, c, A, Q, ⟨hx, hb, hml, ho, hts, hK, hA, hN, hO⟩, rfl, hin, hr⟩ := h
  intro H locs ls hl hP hD hS
  exact lv_if_ne hx hb d ht (fun q => kt q H locs ls hl hP hD hS) (fun q => kf q H locs ls hl hP hD hS)
theorem g_ic_ne {Γ : gT} {l : Launch} {R : Room} {cc : ByteArray} {nL : Nat} {own : String} {E : gE} {ret : Option FieldType} {init : Bool} {post : Option Value → Nat → Nat → va_W → Prop} {u z pc : Nat} {lv : gLV} {st : List Value} {ws : va_W} (h : IsG Γ l R cc nL own E ret init post) {x y : Int32} {off : Int} {tgt : Nat} (d : decode cc pc = .ok (.if_icmp .ne off, 3)) (ht : (pc : Int) + off = (tgt : Int)) (kt : ¬ x = y → Γ u z tgt lv st ws) (kf : x = y → Γ u z (pc + 3) lv st ws) : Γ u z pc lv (.int y :: .int x :: st) ws := by
  obtain ⟨p, e, s, m, args, below, meth, c, A, Q, ⟨hx, hb, hml, ho, hts, hK, hA, hN, hO⟩, rfl, hin, hr⟩ := h
  intro H locs ls hl hP hD hS
  exact lv_icmp_ne hx hb d ht (fun q => kt q H locs ls hl hP hD hS) (fun q => kf q H locs ls hl hP hD hS)
theorem g_lif_ne {Γ : gT} {l : Launch} {R : Room} {cc : ByteArray} {nL : Nat} {own : String} {E : gE} {ret : Option FieldType} {init : Bool} {post : Option Value → Nat → Nat → va_W → Prop} {u z pc : Nat} {lv : gLV} {st : List Value} {ws : va_W} (h : IsG Γ l R cc nL own E ret init post) {x y : Int64} {off : Int} {tgt : Nat} (d : decode cc pc = .ok (.ifCond .ne off, 3)) (ht : (pc : Int) + off = (tgt : Int)) (kt : ¬ x = y → Γ u z tgt lv st ws) (kf : x = y → Γ u z (pc + 3) lv st ws) : Γ u z pc lv (.int (lg_cmp x y) :: st) ws := by
  obtain ⟨p, e, s, m, args, below, meth, c, A, Q, ⟨hx, hb, hml, ho, hts, hK, hA, hN, hO⟩, rfl, hin, hr⟩ := h
  intro H locs ls hl hP hD hS
  exact lv_if_ne hx hb d ht (fun q => kt (fun w => q ((lg_cmp_eq x y).mpr w)) H locs ls hl hP hD hS) (fun q => kf ((lg_cmp_eq x y).mp q) H locs ls hl hP hD hS)
theorem g_if_lt {Γ : gT} {l : Launch} {R : Room} {cc : ByteArray} {nL : Nat} {own : String} {E : gE} {ret : Option FieldType} {init : Bool} {post : Option Value → Nat → Nat → va_W → Prop} {u z pc : Nat} {lv : gLV} {st : List Value} {ws : va_W} (h : IsG Γ l R cc nL own E ret init post) {x : Int32} {off : Int} {tgt : Nat} (d : decode cc pc = .ok (.ifCond .lt off, 3)) (ht : (pc : Int) + off = (tgt : Int)) (kt : x < 0 → Γ u z tgt lv st ws) (kf : ¬ x < 0 → Γ u z (pc + 3) lv st ws) : Γ u z pc lv (.int x :: st) ws := by
  obtain ⟨p, e, s, m, args, below, meth, c, A, Q, ⟨hx, hb, hml, ho, hts, hK, hA, hN, hO⟩, rfl, hin, hr⟩ := h
  intro H locs ls hl hP hD hS
  exact lv_if_lt hx hb d ht (fun q => kt q H locs ls hl hP hD hS) (fun q => kf q H locs ls hl hP hD hS)
theorem g_ic_lt {Γ : gT} {l : Launch} {R : Room} {cc : ByteArray} {nL : Nat} {own : String} {E : gE} {ret : Option FieldType} {init : Bool} {post : Option Value → Nat → Nat → va_W → Prop} {u z pc : Nat} {lv : gLV} {st : List Value} {ws : va_W} (h : IsG Γ l R cc nL own E ret init post) {x y : Int32} {off : Int} {tgt : Nat} (d : decode cc pc = .ok (.if_icmp .lt off, 3)) (ht : (pc : Int) + off = (tgt : Int)) (kt : x < y → Γ u z tgt lv st ws) (kf : ¬ x < y → Γ u z (pc + 3) lv st ws) : Γ u z pc lv (.int y :: .int x :: st) ws := by
  obtain ⟨p, e, s, m, args, below, meth, c, A, Q, ⟨hx, hb, hml, ho, hts, hK, hA, hN, hO⟩, rfl, hin, hr⟩ := h
  intro H locs ls hl hP hD hS
  exact lv_icmp_lt hx hb d ht (fun q => kt q H locs ls hl hP hD hS) (fun q => kf q H locs ls hl hP hD hS)
theorem g_lif_lt {Γ : gT} {l : Launch} {R : Room} {cc : ByteArray} {nL : Nat} {own : String} {E : gE} {ret : Option FieldType} {init : Bool} {post : Option Value → Nat → Nat → va_W → Prop} {u z pc : Nat} {lv : gLV} {st : List Value} {ws : va_W} (h : IsG Γ l R cc nL own E ret init post) {x y : Int64} {off : Int} {tgt : Nat} (d : decode cc pc = .ok (.ifCond .lt off, 3)) (ht : (pc : Int) + off = (tgt : Int)) (kt : x < y → Γ u z tgt lv st ws) (kf : ¬ x < y → Γ u z (pc + 3) lv st ws) : Γ u z pc lv (.int (lg_cmp x y) :: st) ws := by
  obtain ⟨p, e, s, m, args, below, meth, c, A, Q, ⟨hx, hb, hml, ho, hts, hK, hA, hN, hO⟩, rfl, hin, hr⟩ := h
  intro H locs ls hl hP hD hS
  exact lv_if_lt hx hb d ht (fun q => kt ((lg_cmp_lt x y).mp q) H locs ls hl hP hD hS) (fun q => kf (fun w => q ((lg_cmp_lt x y).mpr w)) H locs ls hl hP hD hS)
theorem g_if_ge {Γ : gT} {l : Launch} {R : Room} {cc : ByteArray} {nL : Nat} {own : String} {E : gE} {ret : Option FieldType} {init : Bool} {post : Option Value → Nat → Nat → va_W → Prop} {u z pc : Nat} {lv : gLV} {st : List Value} {ws : va_W} (h : IsG Γ l R cc nL own E ret init post) {x : Int32} {off : Int} {tgt : Nat} (d : decode cc pc = .ok (.ifCond .ge off, 3)) (ht : (pc : Int) + off = (tgt : Int)) (kt : 0 ≤ x → Γ u z tgt lv st ws) (kf : ¬ 0 ≤ x → Γ u z (pc + 3) lv st ws) : Γ u z pc lv (.int x :: st) ws := by
  obtain ⟨p, e, s, m, args, below, meth, c, A, Q, ⟨hx, hb, hml, ho, hts, hK, hA, hN, hO⟩, rfl, hin, hr⟩ := h
  intro H locs ls hl hP hD hS
  exact lv_if_ge hx hb d ht (fun q => kt q H locs ls hl hP hD hS) (fun q => kf q H locs ls hl hP hD hS)
theorem g_ic_ge {Γ : gT} {l : Launch} {R : Room} {cc : ByteArray} {nL : Nat} {own : String} {E : gE} {ret : Option FieldType} {init : Bool} {post : Option Value → Nat → Nat → va_W → Prop} {u z pc : Nat} {lv : gLV} {st : List Value} {ws : va_W} (h : IsG Γ l R cc nL own E ret init post) {x y : Int32} {off : Int} {tgt : Nat} (d : decode cc pc = .ok (.if_icmp .ge off, 3)) (ht : (pc : Int) + off = (tgt : Int)) (kt : y ≤ x → Γ u z tgt lv st ws) (kf : ¬ y ≤ x → Γ u z (pc + 3) lv st ws) : Γ u z pc lv (.int y :: .int x :: st) ws := by
  obtain ⟨p, e, s, m, args, below, meth, c, A, Q, ⟨hx, hb, hml, ho, hts, hK, hA, hN, hO⟩, rfl, hin, hr⟩ := h
  intro H locs ls hl hP hD hS
  exact lv_icmp_ge hx hb d ht (fun q => kt q H locs ls hl hP hD hS) (fun q => kf q H locs ls hl hP hD hS)
theorem g_lif_ge {Γ : gT} {l : Launch} {R : Room} {cc : ByteArray} {nL : Nat} {own : String} {E : gE} {ret : Option FieldType} {init : Bool} {post : Option Value → Nat → Nat → va_W → Prop} {u z pc : Nat} {lv : gLV} {st : List Value} {ws : va_W} (h : IsG Γ l R cc nL own E ret init post) {x y : Int64} {off : Int} {tgt : Nat} (d : decode cc pc = .ok (.ifCond .ge off, 3)) (ht : (pc : Int) + off = (tgt : Int)) (kt : y ≤ x → Γ u z tgt lv st ws) (kf : ¬ y ≤ x → Γ u z (pc + 3) lv st ws) : Γ u z pc lv (.int (lg_cmp x y) :: st) ws := by
  obtain ⟨p, e, s, m, args, below, meth, c, A, Q, ⟨hx, hb, hml, ho, hts, hK, hA, hN, hO⟩, rfl, hin, hr⟩ := h
  intro H locs ls hl hP hD hS
  exact lv_if_ge hx hb d ht (fun q => kt ((lg_cmp_ge x y).mp q) H locs ls hl hP hD hS) (fun q => kf (fun w => q ((lg_cmp_ge x y).mpr w)) H locs ls hl hP hD hS)
theorem g_if_gt {Γ : gT} {l : Launch} {R : Room} {cc : ByteArray} {nL : Nat} {own : String} {E : gE} {ret : Option FieldType} {init : Bool} {post : Option Value → Nat → Nat → va_W → Prop} {u z pc : Nat} {lv : gLV} {st : List Value} {ws : va_W} (h : IsG Γ l R cc nL own E ret init post) {x : Int32} {off : Int} {tgt : Nat} (d : decode cc pc = .ok (.ifCond .gt off, 3)) (ht : (pc : Int) + off = (tgt : Int)) (kt : 0 < x → Γ u z tgt lv st ws) (kf : ¬ 0 < x → Γ u z (pc + 3) lv st ws) : Γ u z pc lv (.int x :: st) ws := by
  obtain ⟨p, e, s, m, args, below, meth, c, A, Q, ⟨hx, hb, hml, ho, hts, hK, hA, hN, hO⟩, rfl, hin, hr⟩ := h
  intro H locs ls hl hP hD hS
  exact lv_if_gt hx hb d ht (fun q => kt q H locs ls hl hP hD hS) (fun q => kf q H locs ls hl hP hD hS)
theorem g_ic_gt {Γ : gT} {l : Launch} {R : Room} {cc : ByteArray} {nL : Nat} {own : String} {E : gE} {ret : Option FieldType} {init : Bool} {post : Option Value → Nat → Nat → va_W → Prop} {u z pc : Nat} {lv : gLV} {st : List Value} {ws : va_W} (h : IsG Γ l R cc nL own E ret init post) {x y : Int32} {off : Int} {tgt : Nat} (d : decode cc pc = .ok (.if_icmp .gt off, 3)) (ht : (pc : Int) + off = (tgt : Int)) (kt : y < x → Γ u z tgt lv st ws) (kf : ¬ y < x → Γ u z (pc + 3) lv st ws) : Γ u z pc lv (.int y :: .int x :: st) ws := by
  obtain ⟨p, e, s, m, args, below, meth, c, A, Q, ⟨hx, hb, hml, ho, hts, hK, hA, hN, hO⟩, rfl, hin, hr⟩ := h
  intro H locs ls hl hP hD hS
  exact lv_icmp_gt hx hb d ht (fun q => kt q H locs ls hl hP hD hS) (fun q => kf q H locs ls hl hP hD hS)
theorem g_lif_gt {Γ : gT} {l : Launch} {R : Room} {cc : ByteArray} {nL : Nat} {own : String} {E : gE} {ret : Option FieldType} {init : Bool} {post : Option Value → Nat → Nat → va_W → Prop} {u z pc : Nat} {lv : gLV} {st : List Value} {ws : va_W} (h : IsG Γ l R cc nL own E ret init post) {x y : Int64} {off : Int} {tgt : Nat} (d : decode cc pc = .ok (.ifCond .gt off, 3)) (ht : (pc : Int) + off = (tgt : Int)) (kt : y < x → Γ u z tgt lv st ws) (kf : ¬ y < x → Γ u z (pc + 3) lv st ws) : Γ u z pc lv (.int (lg_cmp x y) :: st) ws := by
  obtain ⟨p, e, s, m, args, below, meth, c, A, Q, ⟨hx, hb, hml, ho, hts, hK, hA, hN, hO⟩, rfl, hin, hr⟩ := h
  intro H locs ls hl hP hD hS
  exact lv_if_gt hx hb d ht (fun q => kt ((lg_cmp_gt x y).mp q) H locs ls hl hP hD hS) (fun q => kf (fun w => q ((lg_cmp_gt x y).mpr w)) H locs ls hl hP hD hS)
theorem g_if_le {Γ : gT} {l : Launch} {R : Room} {cc : ByteArray} {nL : Nat} {own : String} {E : gE} {ret : Option FieldType} {init : Bool} {post : Option Value → Nat → Nat → va_W → Prop} {u z pc : Nat} {lv : gLV} {st : List Value} {ws : va_W} (h : IsG Γ l R cc nL own E ret init post) {x : Int32} {off : Int} {tgt : Nat} (d : decode cc pc = .ok (.ifCond .le off, 3)) (ht : (pc : Int) + off = (tgt : Int)) (kt : x ≤ 0 → Γ u z tgt lv st ws) (kf : ¬ x ≤ 0 → Γ u z (pc + 3) lv st ws) : Γ u z pc lv (.int x :: st) ws := by
  obtain ⟨p, e, s, m, args, below, meth, c, A, Q, ⟨hx, hb, hml, ho, hts, hK, hA, hN, hO⟩, rfl, hin, hr⟩ := h
  intro H locs ls hl hP hD hS
  exact lv_if_le hx hb d ht (fun q => kt q H locs ls hl hP hD hS) (fun q => kf q H locs ls hl hP hD hS)
theorem g_ic_le {Γ : gT} {l : Launch} {R : Room} {cc : ByteArray} {nL : Nat} {own : String} {E : gE} {ret : Option FieldType} {init : Bool} {post : Option Value → Nat → Nat → va_W → Prop} {u z pc : Nat} {lv : gLV} {st : List Value} {ws : va_W} (h : IsG Γ l R cc nL own E ret init post) {x y : Int32} {off : Int} {tgt : Nat} (d : decode cc pc = .ok (.if_icmp .le off, 3)) (ht : (pc : Int) + off = (tgt : Int)) (kt : x ≤ y → Γ u z tgt lv st ws) (kf : ¬ x ≤ y → Γ u z (pc + 3) lv st ws) : Γ u z pc lv (.int y :: .int x :: st) ws := by
  obtain ⟨p, e, s, m, args, below, meth, c, A, Q, ⟨hx, hb, hml, ho, hts, hK, hA, hN, hO⟩, rfl, hin, hr⟩ := h
  intro H locs ls hl hP hD hS
  exact lv_icmp_le hx hb d ht (fun q => kt q H locs ls hl hP hD hS) (fun q => kf q H locs ls hl hP hD hS)
theorem g_lif_le {Γ : gT} {l : Launch} {R : Room} {cc : ByteArray} {nL : Nat} {own : String} {E : gE} {ret : Option FieldType} {init : Bool} {post : Option Value → Nat → Nat → va_W → Prop} {u z pc : Nat} {lv : gLV} {st : List Value} {ws : va_W} (h : IsG Γ l R cc nL own E ret init post) {x y : Int64} {off : Int} {tgt : Nat} (d : decode cc pc = .ok (.ifCond .le off, 3)) (ht : (pc : Int) + off = (tgt : Int)) (kt : x ≤ y → Γ u z tgt lv st ws) (kf : ¬ x ≤ y → Γ u z (pc + 3) lv st ws) : Γ u z pc lv (.int (lg_cmp x y) :: st) ws := by
  obtain ⟨p, e, s, m, args, below, meth, c, A, Q, ⟨hx, hb, hml, ho, hts, hK, hA, hN, hO⟩, rfl, hin, hr⟩ := h
  intro H locs ls hl hP hD hS
  exact lv_if_le hx hb d ht (fun q => kt ((lg_cmp_le x y).mp q) H locs ls hl hP hD hS) (fun q => kf (fun w => q ((lg_cmp_le x y).mpr w)) H locs ls hl hP hD hS)
theorem g_goto {Γ : gT} {l : Launch} {R : Room} {cc : ByteArray} {nL : Nat} {own : String} {E : gE} {ret : Option FieldType} {init : Bool} {post : Option Value → Nat → Nat → va_W → Prop} {u z pc : Nat} {lv : gLV} {st : List Value} {ws : va_W} (h : IsG Γ l R cc nL own E ret init post) {off : Int} {tgt : Nat} (d : decode cc pc = .ok (.goto off, 3)) (ht : (pc : Int) + off = (tgt : Int)) (k : Γ u z tgt lv st ws) : Γ u z pc lv st ws := by
  obtain ⟨p, e, s, m, args, below, meth, c, A, Q, ⟨hx, hb, hml, ho, hts, hK, hA, hN, hO⟩, rfl, hin, hr⟩ := h
  intro H locs ls hl hP hD hS
  exact lv_goto hx hb d ht (k H locs ls hl hP hD hS)
theorem g_tsIn {Γ : gT} {l : Launch} {R : Room} {cc : ByteArray} {nL : Nat} {own : String} {E : gE} {ret : Option FieldType} {init : Bool} {post : Option Value → Nat → Nat → va_W → Prop} {u z pc : Nat} {lv : gLV} {st : List Value} {ws : va_W} (h : IsG Γ l R cc nL own E ret init post) {dflt lo hi : Int} {offs : Array Int} {len : Nat} {x : Int32} {off : Int} {tgt : Nat} (n : Int) (hn : x.toInt = n) (d : decode cc pc = .ok (.tableswitch dflt lo hi offs, len)) (h1 : ¬ n < lo) (h2 : ¬ hi < n) (ho : offs[(n - lo).toNat]? = some off) (ht : (pc : Int) + off = (tgt : Int)) (k : Γ u z tgt lv st ws) : Γ u z pc lv (.int x :: st) ws := by
  obtain ⟨p, e, s, m, args, below, meth, c, A, Q, ⟨hx, hb, hml, ho, hts, hK, hA, hN, hO⟩, rfl, hin, hr⟩ := h
  intro H locs ls hl hP hD hS
  subst hn
  exact lv_tableIn hx hb d h1 h2 ho ht (k H locs ls hl hP hD hS)
theorem g_tsOut {Γ : gT} {l : Launch} {R : Room} {cc : ByteArray} {nL : Nat} {own : String} {E : gE} {ret : Option FieldType} {init : Bool} {post : Option Value → Nat → Nat → va_W → Prop} {u z pc : Nat} {lv : gLV} {st : List Value} {ws : va_W} (h : IsG Γ l R cc nL own E ret init post) {dflt lo hi : Int} {offs : Array Int} {len : Nat} {x : Int32} {tgt : Nat} (d : decode cc pc = .ok (.tableswitch dflt lo hi offs, len)) (hq : x.toInt < lo ∨ hi < x.toInt) (ht : (pc : Int) + dflt = (tgt : Int)) (k : Γ u z tgt lv st ws) : Γ u z pc lv (.int x :: st) ws := by
  obtain ⟨p, e, s, m, args, below, meth, c, A, Q, ⟨hx, hb, hml, ho, hts, hK, hA, hN, hO⟩, rfl, hin, hr⟩ := h
  intro H locs ls hl hP hD hS
  exact lv_tableOut hx hb d hq ht (k H locs ls hl hP hD hS)
theorem g_ireturn {Γ : gT} {l : Launch} {R : Room} {cc : ByteArray} {nL : Nat} {own : String} {E : gE} {ret : Option FieldType} {init : Bool} {post : Option Value → Nat → Nat → va_W → Prop} {u z pc : Nat} {lv : gLV} {st : List Value} {ws : va_W} (h : IsG Γ l R cc nL own E ret init post) {x : Int32} {ty : FieldType} (d : decode cc pc = .ok (.ireturn, 1)) (ht : ret = some ty) (hn : narrow ty (.int x) = .int x) (hp : post (some (.int x)) u z ws) : Γ u z pc lv [.int x] ws := by
  obtain ⟨p, e, s, m, args, below, meth, c, A, Q, ⟨hx, hb, hml, ho, hts, hK, hA, hN, hO⟩, rfl, hin, hr⟩ := h
  intro H locs ls hl hP hD hS
  exact hr _ u z ws hp pc lv (Or.inl ⟨x, ty, rfl, d, ht, hn⟩) H locs ls hl hP hD hS
theorem g_lreturn {Γ : gT} {l : Launch} {R : Room} {cc : ByteArray} {nL : Nat} {own : String} {E : gE} {ret : Option FieldType} {init : Bool} {post : Option Value → Nat → Nat → va_W → Prop} {u z pc : Nat} {lv : gLV} {st : List Value} {ws : va_W} (h : IsG Γ l R cc nL own E ret init post) {x : Int64} (d : decode cc pc = .ok (.lreturn, 1)) (ht : ret = some .long) (hp : post (some (.long x)) u z ws) : Γ u z pc lv [.long x] ws := by
  obtain ⟨p, e, s, m, args, below, meth, c, A, Q, ⟨hx, hb, hml, ho, hts, hK, hA, hN, hO⟩, rfl, hin, hr⟩ := h
  intro H locs ls hl hP hD hS
  exact hr _ u z ws hp pc lv (Or.inr (Or.inl ⟨x, rfl, d, ht⟩)) H locs ls hl hP hD hS
theorem g_return {Γ : gT} {l : Launch} {R : Room} {cc : ByteArray} {nL : Nat} {own : String} {E : gE} {ret : Option FieldType} {init : Bool} {post : Option Value → Nat → Nat → va_W → Prop} {u z pc : Nat} {lv : gLV} {st : List Value} {ws : va_W} (h : IsG Γ l R cc nL own E ret init post) (d : decode cc pc = .ok (.return_, 1)) (ht : ret = none) (hp : post none u z ws) : Γ u z pc lv [] ws := by
  obtain ⟨p, e, s, m, args, below, meth, c, A, Q, ⟨hx, hb, hml, ho, hts, hK, hA, hN, hO⟩, rfl, hin, hr⟩ := h
  intro H locs ls hl hP hD hS
  exact hr _ u z ws hp pc lv (Or.inr (Or.inr ⟨rfl, d, ht⟩)) H locs ls hl hP hD hS
/-- a field as an instruction names it: its class among vwCl, its place there -/
def gFL (own : String) (index ci k : Nat) (C : String) (T : u_T) (N : Nat) : Prop := vwCl[ci]? = some (C, T, N) ∧ k < N ∧ (∀ w ∈ u_ws C T N, w ∈ gTT) ∧ Cond.fieldLink own index (T k).1 (T k).2.1 (T k).2.2.1 ∈ gTT
/-- a class whose fields may be written: their types, their names apart -/
def gFT (C : String) (T : u_T) (N : Nat) : Prop := ∃ ty0 : Nat → FieldType, (∀ k, k < N → parseFieldDescriptor (T k).2.2.1 = some (ty0 k)) ∧ (∀ a, a < N → ∀ b, b < N → a ≠ b → (T a).2.1 ≠ (T b).2.1)
theorem g_get {Γ : gT} {l : Launch} {R : Room} {cc : ByteArray} {nL : Nat} {own : String} {E : gE} {ret : Option FieldType} {init : Bool} {post : Option Value → Nat → Nat → va_W → Prop} {u z pc : Nat} {lv : gLV} {st : List Value} {ws : va_W} (h : IsG Γ l R cc nL own E ret init post) {index ci k0 N a : Nat} {C : String} {T : u_T} {fs : List Value} {v : Value} (hf : gFL own index ci k0 C T N) (d : decode cc pc = .ok (.getfield index, 3)) (q0 : Nat) (he : ws[q0]? = some (a, .inr (ci, fs))) (hv : fs[k0]? = some v) (k : Γ u z (pc + 3) lv (v :: st) ws) : Γ u z pc lv (.ref a :: st) ws := by
  obtain ⟨p, e, s, m, args, below, meth, c, A, Q, ⟨hx, hb, hml, ho, hts, hK, hA, hN, hO⟩, rfl, hin, hr⟩ := h
  intro H locs ls hl hP hD hS
  exact va_get hx hb hts hf.2.2.1 ho hK hP q0 he hf.1 k0 hf.2.1 (hts _ hf.2.2.2) (fun _ h9 => h9) hv d (k H locs ls hl hP hD hS)
theorem g_put {Γ : gT} {l : Launch} {R : Room} {cc : ByteArray} {nL : Nat} {own : String} {E : gE} {ret : Option FieldType} {init : Bool} {post : Option Value → Nat → Nat → va_W → Prop} {u z pc : Nat} {lv : gLV} {st : List Value} {ws : va_W} (h : IsG Γ l R cc nL own E ret init post) {index ci k0 N a : Nat} {C : String} {T : u_T} {fs : List Value} {v : Value} {ty : FieldType} (hf : gFL own index ci k0 C T N) (hT : gFT C T N) (hfin : (T k0).2.2.2 = false) (hd : parseFieldDescriptor (T k0).2.2.1 = some ty) (d : decode cc pc = .ok (.putfield index, 3)) (q0 : Nat) (he : ws[q0]? = some (a, .inr (ci, fs))) (hn : narrow ty v = v) (hfit : fits ty v = true) (hl0 : k0 < fs.length) (k : Γ u z (pc + 3) lv st (ws.set q0 (a, .inr (ci, fs.set k0 v)))) : Γ u z pc lv (v :: .ref a :: st) ws := by
  obtain ⟨p, e, s, m, args, below, meth, c, A, Q, ⟨hx, hb, hml, ho, hts, hK, hA, hN, hO⟩, rfl, hin, hr⟩ := h
  intro H locs ls hl hP hD hS
  obtain ⟨ty0, hty, hnm⟩ := hT
  exact va_put hx hb hts hf.2.2.1 ty0 hty hnm ho hK hP hD hS q0 he hf.1 k0 hf.2.1 (hts _ hf.2.2.2) (fun _ h9 => h9) hfin hd hn hfit hl0 d (fun H1 locs1 hP hD hS => k H1 locs1 ls hl hP hD hS)
theorem g_putF {Γ : gT} {l : Launch} {R : Room} {cc : ByteArray} {nL : Nat} {own : String} {E : gE} {ret : Option FieldType} {init : Bool} {post : Option Value → Nat → Nat → va_W → Prop} {u z pc : Nat} {lv : gLV} {st : List Value} {ws : va_W} (h : IsG Γ l R cc nL own E ret init post) {index ci k0 N a : Nat} {C : String} {T : u_T} {fs : List Value} {v : Value} {ty : FieldType} (hi : init = true) (hf : gFL own index ci k0 C T N) (hT : gFT C T N) (hfin : (T k0).2.2.2 = true) (hdecl : (T k0).1 = own) (hd : parseFieldDescriptor (T k0).2.2.1 = some ty) (d : decode cc pc = .ok (.putfield index, 3)) (q0 : Nat) (he : ws[q0]? = some (a, .inr (ci, fs))) (hn : narrow ty v = v) (hfit : fits ty v = true) (hl0 : k0 < fs.length) (k : Γ u z (pc + 3) lv st (ws.set q0 (a, .inr (ci, fs.set k0 v)))) : Γ u z pc lv (v :: .ref a :: st) ws := by
  obtain ⟨p, e, s, m, args, below, meth, c, A, Q, ⟨hx, hb, hml, ho, hts, hK, hA, hN, hO⟩, rfl, hin, hr⟩ := h
  intro H locs ls hl hP hD hS
  obtain ⟨ty0, hty, hnm⟩ := hT
  exact va_putF hx hb hts hf.2.2.1 ty0 hty hnm ho hK hP hD hS q0 he hf.1 k0 hf.2.1 (hts _ hf.2.2.2) (fun _ h9 => h9) hfin (hin hi) hdecl hd hn hfit hl0 d (fun H1 locs1 hP hD hS => k H1 locs1 ls hl hP hD hS)
theorem g_iald {Γ : gT} {l : Launch} {R : Room} {cc : ByteArray} {nL : Nat} {own : String} {E : gE} {ret : Option FieldType} {init : Bool} {post : Option Value → Nat → Nat → va_W → Prop} {u z pc : Nat} {lv : gLV} {st : List Value} {ws : va_W} (h : IsG Γ l R cc nL own E ret init post) {a n : Nat} {f : Nat → Int32} {i : Int32} (d : decode cc pc = .ok (.iaload, 1)) (q0 k0 : Nat) (he : ws[q0]? = some (a, .inl (E.2 0, n, .inl f))) (hi : i = nI k0) (hlt : k0 < n) (hn : n < 2 ^ 31) (k : Γ u z (pc + 1) lv (.int (f k0) :: st) ws) : Γ u z pc lv (.int i :: .ref a :: st) ws := by
  obtain ⟨p, e, s, m, args, below, meth, c, A, Q, ⟨hx, hb, hml, ho, hts, hK, hA, hN, hO⟩, rfl, hin, hr⟩ := h
  intro H locs ls hl hP hD hS
  subst hi
  refine va_iald hx hb hK hP q0 0 he rfl (vp_in_nI hlt hn) d ?_
  rw [nI_clamp (Nat.lt_trans hlt hn)]
  exact k H locs ls hl hP hD hS
theorem g_sald {Γ : gT} {l : Launch} {R : Room} {cc : ByteArray} {nL : Nat} {own : String} {E : gE} {ret : Option FieldType} {init : Bool} {post : Option Value → Nat → Nat → va_W → Prop} {u z pc : Nat} {lv : gLV} {st : List Value} {ws : va_W} (h : IsG Γ l R cc nL own E ret init post) {a n : Nat} {f : Nat → Int32} {i : Int32} (d : decode cc pc = .ok (.saload, 1)) (q0 k0 : Nat) (he : ws[q0]? = some (a, .inl (E.2 2, n, .inl f))) (hi : i = nI k0) (hlt : k0 < n) (hn : n < 2 ^ 31) (k : Γ u z (pc + 1) lv (.int (f k0) :: st) ws) : Γ u z pc lv (.int i :: .ref a :: st) ws := by
  obtain ⟨p, e, s, m, args, below, meth, c, A, Q, ⟨hx, hb, hml, ho, hts, hK, hA, hN, hO⟩, rfl, hin, hr⟩ := h
  intro H locs ls hl hP hD hS
  subst hi
  refine va_sald hx hb hK hP q0 2 he rfl (vp_in_nI hlt hn) d ?_
  rw [nI_clamp (Nat.lt_trans hlt hn)]
  exact k H locs ls hl hP hD hS
theorem g_zald {Γ : gT} {l : Launch} {R : Room} {cc : ByteArray} {nL : Nat} {own : String} {E : gE} {ret : Option FieldType} {init : Bool} {post : Option Value → Nat → Nat → va_W → Prop} {u z pc : Nat} {lv : gLV} {st : List Value} {ws : va_W} (h : IsG Γ l R cc nL own E ret init post) {a n : Nat} {f : Nat → Int32} {i : Int32} (d : decode cc pc = .ok (.baload, 1)) (q0 k0 : Nat) (he : ws[q0]? = some (a, .inl (E.2 3, n, .inl f))) (hi : i = nI k0) (hlt : k0 < n) (hn : n < 2 ^ 31) (k : Γ u z (pc + 1) lv (.int (f k0) :: st) ws) : Γ u z pc lv (.int i :: .ref a :: st) ws := by
  obtain ⟨p, e, s, m, args, below, meth, c, A, Q, ⟨hx, hb, hml, ho, hts, hK, hA, hN, hO⟩, rfl, hin, hr⟩ := h
  intro H locs ls hl hP hD hS
  subst hi
  refine va_zald hx hb hK hP q0 3 he rfl (vp_in_nI hlt hn) d ?_
  rw [nI_clamp (Nat.lt_trans hlt hn)]
  exact k H locs ls hl hP hD hS
theorem g_lald {Γ : gT} {l : Launch} {R : Room} {cc : ByteArray} {nL : Nat} {own : String} {E : gE} {ret : Option FieldType} {init : Bool} {post : Option Value → Nat → Nat → va_W → Prop} {u z pc : Nat} {lv : gLV} {st : List Value} {ws : va_W} (h : IsG Γ l R cc nL own E ret init post) {a n : Nat} {f : Nat → Int64} {i : Int32} (d : decode cc pc = .ok (.laload, 1)) (q0 k0 : Nat) (he : ws[q0]? = some (a, .inl (E.2 1, n, .inr (.inl f)))) (hi : i = nI k0) (hlt : k0 < n) (hn : n < 2 ^ 31) (k : Γ u z (pc + 1) lv (.long (f k0) :: st) ws) : Γ u z pc lv (.int i :: .ref a :: st) ws := by
  obtain ⟨p, e, s, m, args, below, meth, c, A, Q, ⟨hx, hb, hml, ho, hts, hK, hA, hN, hO⟩, rfl, hin, hr⟩ := h
  intro H locs ls hl hP hD hS
  subst hi
  refine va_lald hx hb hK hP q0 1 he rfl (vp_in_nI hlt hn) d ?_
  rw [nI_clamp (Nat.lt_trans hlt hn)]
  exact k H locs ls hl hP hD hS
theorem g_iast {Γ : gT} {l : Launch} {R : Room} {cc : ByteArray} {nL : Nat} {own : String} {E : gE} {ret : Option FieldType} {init : Bool} {post : Option Value → Nat → Nat → va_W → Prop} {u z pc : Nat} {lv : gLV} {st : List Value} {ws : va_W} (h : IsG Γ l R cc nL own E ret init post) {a n : Nat} {f : Nat → Int32} {i : Int32} {x : Int32} (d : decode cc pc = .ok (.iastore, 1)) (q0 k0 : Nat) (he : ws[q0]? = some (a, .inl (E.2 0, n, .inl f))) (hi : i = nI k0) (hlt : k0 < n) (hn : n < 2 ^ 31) (k : Γ u z (pc + 1) lv st (ws.set q0 (a, .inl (E.2 0, n, .inl (upd f k0 x))))) : Γ u z pc lv (.int x :: .int i :: .ref a :: st) ws := by
  obtain ⟨p, e, s, m, args, below, meth, c, A, Q, ⟨hx, hb, hml, ho, hts, hK, hA, hN, hO⟩, rfl, hin, hr⟩ := h
  intro H locs ls hl hP hD hS
  subst hi
  refine va_iast hx hb hK hP hD hS q0 0 he rfl (vp_in_nI hlt hn) d (fun H1 locs1 hP hD hS => ?_)
  rw [nI_clamp (Nat.lt_trans hlt hn)] at hP hD
  exact k H1 locs1 ls hl hP hD hS
theorem g_sast {Γ : gT} {l : Launch} {R : Room} {cc : ByteArray} {nL : Nat} {own : String} {E : gE} {ret : Option FieldType} {init : Bool} {post : Option Value → Nat → Nat → va_W → Prop} {u z pc : Nat} {lv : gLV} {st : List Value} {ws : va_W} (h : IsG Γ l R cc nL own E ret init post) {a n : Nat} {f : Nat → Int32} {i : Int32} {x : Int32} (d : decode cc pc = .ok (.sastore, 1)) (q0 k0 : Nat) (he : ws[q0]? = some (a, .inl (E.2 2, n, .inl f))) (hi : i = nI k0) (hlt : k0 < n) (hn : n < 2 ^ 31) (k : Γ u z (pc + 1) lv st (ws.set q0 (a, .inl (E.2 2, n, .inl (upd f k0 (vp_nar .short x)))))) : Γ u z pc lv (.int x :: .int i :: .ref a :: st) ws := by
  obtain ⟨p, e, s, m, args, below, meth, c, A, Q, ⟨hx, hb, hml, ho, hts, hK, hA, hN, hO⟩, rfl, hin, hr⟩ := h
  intro H locs ls hl hP hD hS
  subst hi
  refine va_sast hx hb hK hP hD hS q0 2 he rfl (vp_in_nI hlt hn) d (fun H1 locs1 hP hD hS => ?_)
  rw [nI_clamp (Nat.lt_trans hlt hn)] at hP hD
  exact k H1 locs1 ls hl hP hD hS
theorem g_zast {Γ : gT} {l : Launch} {R : Room} {cc : ByteArray} {nL : Nat} {own : String} {E : gE} {ret : Option FieldType} {init : Bool} {post : Option Value → Nat → Nat → va_W → Prop} {u z pc : Nat} {lv : gLV} {st : List Value} {ws : va_W} (h : IsG Γ l R cc nL own E ret init post) {a n : Nat} {f : Nat → Int32} {i : Int32} {x : Int32} (d : decode cc pc = .ok (.bastore, 1)) (q0 k0 : Nat) (he : ws[q0]? = some (a, .inl (E.2 3, n, .inl f))) (hi : i = nI k0) (hlt : k0 < n) (hn : n < 2 ^ 31) (k : Γ u z (pc + 1) lv st (ws.set q0 (a, .inl (E.2 3, n, .inl (upd f k0 (vp_nar .boolean x)))))) : Γ u z pc lv (.int x :: .int i :: .ref a :: st) ws := by
  obtain ⟨p, e, s, m, args, below, meth, c, A, Q, ⟨hx, hb, hml, ho, hts, hK, hA, hN, hO⟩, rfl, hin, hr⟩ := h
  intro H locs ls hl hP hD hS
  subst hi
  refine va_zast hx hb hK hP hD hS q0 3 he rfl (vp_in_nI hlt hn) d (fun H1 locs1 hP hD hS => ?_)
  rw [nI_clamp (Nat.lt_trans hlt hn)] at hP hD
  exact k H1 locs1 ls hl hP hD hS
theorem g_last {Γ : gT} {l : Launch} {R : Room} {cc : ByteArray} {nL : Nat} {own : String} {E : gE} {ret : Option FieldType} {init : Bool} {post : Option Value → Nat → Nat → va_W → Prop} {u z pc : Nat} {lv : gLV} {st : List Value} {ws : va_W} (h : IsG Γ l R cc nL own E ret init post) {a n : Nat} {f : Nat → Int64} {i : Int32} {x : Int64} (d : decode cc pc = .ok (.lastore, 1)) (q0 k0 : Nat) (he : ws[q0]? = some (a, .inl (E.2 1, n, .inr (.inl f)))) (hi : i = nI k0) (hlt : k0 < n) (hn : n < 2 ^ 31) (k : Γ u z (pc + 1) lv st (ws.set q0 (a, .inl (E.2 1, n, .inr (.inl (vp_updL f k0 x)))))) : Γ u z pc lv (.long x :: .int i :: .ref a :: st) ws := by
  obtain ⟨p, e, s, m, args, below, meth, c, A, Q, ⟨hx, hb, hml, ho, hts, hK, hA, hN, hO⟩, rfl, hin, hr⟩ := h
  intro H locs ls hl hP hD hS
  subst hi
  refine va_last hx hb hK hP hD hS q0 1 he rfl (vp_in_nI hlt hn) d (fun H1 locs1 hP hD hS => ?_)
  rw [nI_clamp (Nat.lt_trans hlt hn)] at hP hD
  exact k H1 locs1 ls hl hP hD hS
theorem g_aald {Γ : gT} {l : Launch} {R : Room} {cc : ByteArray} {nL : Nat} {own : String} {E : gE} {ret : Option FieldType} {init : Bool} {post : Option Value → Nat → Nat → va_W → Prop} {u z pc : Nat} {lv : gLV} {st : List Value} {ws : va_W} (h : IsG Γ l R cc nL own E ret init post) {a n : Nat} {f : Nat → Option Nat} {i : Int32} {b : Nat} (d : decode cc pc = .ok (.aaload, 1)) (q0 k0 : Nat) (he : ws[q0]? = some (a, .inl (E.2 4, n, .inr (.inr (.inr (.inr f)))))) (hi : i = nI k0) (hlt : k0 < n) (hn : n < 2 ^ 31) (hb2 : f k0 = some b) (k : Γ u z (pc + 1) lv (.ref b :: st) ws) : Γ u z pc lv (.int i :: .ref a :: st) ws := by
  obtain ⟨p, e, s, m, args, below, meth, c, A, Q, ⟨hx, hb, hml, ho, hts, hK, hA, hN, hO⟩, rfl, hin, hr⟩ := h
  intro H locs ls hl hP hD hS
  subst hi
  have hlt' : (nI k0).toNatClampNeg < n := by rw [nI_clamp (Nat.lt_trans hlt hn)]; exact hlt
  refine W.aald (v := .ref b) (ty := .array .short) hx hb (hP q0 _ he) ((hK.2 4 _ rfl).1 n (fun j => va_rf (f j))) rfl (fun q => by cases q) (by show ¬ (nI k0 < 0 ∨ (arrV _ _ _).slots.size ≤ _); rw [arrV_size]; exact vp_in_nI hlt hn) (by show (arrV _ _ _).slots[_]? = _; rw [arrV_read _ _ hlt', nI_clamp (Nat.lt_trans hlt hn), hb2]; rfl) rfl rfl d (k H locs ls hl hP hD hS)
theorem g_alen0 {Γ : gT} {l : Launch} {R : Room} {cc : ByteArray} {nL : Nat} {own : String} {E : gE} {ret : Option FieldType} {init : Bool} {post : Option Value → Nat → Nat → va_W → Prop} {u z pc : Nat} {lv : gLV} {st : List Value} {ws : va_W} (h : IsG Γ l R cc nL own E ret init post) {a : Nat} {x : vp_A} (d : decode cc pc = .ok (.arraylength, 1)) (q0 : Nat) (he : ws[q0]? = some (a, .inl (E.2 0, x))) (k : Γ u z (pc + 1) lv (.int (nI x.1) :: st) ws) : Γ u z pc lv (.ref a :: st) ws := by
  obtain ⟨p, e, s, m, args, below, meth, c, A, Q, ⟨hx, hb, hml, ho, hts, hK, hA, hN, hO⟩, rfl, hin, hr⟩ := h
  intro H locs ls hl hP hD hS
  exact va_alen hx hb hK hP q0 0 he rfl rfl d (k H locs ls hl hP hD hS)
theorem g_alen1 {Γ : gT} {l : Launch} {R : Room} {cc : ByteArray} {nL : Nat} {own : String} {E : gE} {ret : Option FieldType} {init : Bool} {post : Option Value → Nat → Nat → va_W → Prop} {u z pc : Nat} {lv : gLV} {st : List Value} {ws : va_W} (h : IsG Γ l R cc nL own E ret init post) {a : Nat} {x : vp_A} (d : decode cc pc = .ok (.arraylength, 1)) (q0 : Nat) (he : ws[q0]? = some (a, .inl (E.2 1, x))) (k : Γ u z (pc + 1) lv (.int (nI x.1) :: st) ws) : Γ u z pc lv (.ref a :: st) ws := by
  obtain ⟨p, e, s, m, args, below, meth, c, A, Q, ⟨hx, hb, hml, ho, hts, hK, hA, hN, hO⟩, rfl, hin, hr⟩ := h
  intro H locs ls hl hP hD hS
  exact va_alen hx hb hK hP q0 1 he rfl rfl d (k H locs ls hl hP hD hS)
theorem g_alen2 {Γ : gT} {l : Launch} {R : Room} {cc : ByteArray} {nL : Nat} {own : String} {E : gE} {ret : Option FieldType} {init : Bool} {post : Option Value → Nat → Nat → va_W → Prop} {u z pc : Nat} {lv : gLV} {st : List Value} {ws : va_W} (h : IsG Γ l R cc nL own E ret init post) {a : Nat} {x : vp_A} (d : decode cc pc = .ok (.arraylength, 1)) (q0 : Nat) (he : ws[q0]? = some (a, .inl (E.2 2, x))) (k : Γ u z (pc + 1) lv (.int (nI x.1) :: st) ws) : Γ u z pc lv (.ref a :: st) ws := by
  obtain ⟨p, e, s, m, args, below, meth, c, A, Q, ⟨hx, hb, hml, ho, hts, hK, hA, hN, hO⟩, rfl, hin, hr⟩ := h
  intro H locs ls hl hP hD hS
  exact va_alen hx hb hK hP q0 2 he rfl rfl d (k H locs ls hl hP hD hS)
theorem g_alen3 {Γ : gT} {l : Launch} {R : Room} {cc : ByteArray} {nL : Nat} {own : String} {E : gE} {ret : Option FieldType} {init : Bool} {post : Option Value → Nat → Nat → va_W → Prop} {u z pc : Nat} {lv : gLV} {st : List Value} {ws : va_W} (h : IsG Γ l R cc nL own E ret init post) {a : Nat} {x : vp_A} (d : decode cc pc = .ok (.arraylength, 1)) (q0 : Nat) (he : ws[q0]? = some (a, .inl (E.2 3, x))) (k : Γ u z (pc + 1) lv (.int (nI x.1) :: st) ws) : Γ u z pc lv (.ref a :: st) ws := by
  obtain ⟨p, e, s, m, args, below, meth, c, A, Q, ⟨hx, hb, hml, ho, hts, hK, hA, hN, hO⟩, rfl, hin, hr⟩ := h
  intro H locs ls hl hP hD hS
  exact va_alen hx hb hK hP q0 3 he rfl rfl d (k H locs ls hl hP hD hS)
theorem g_over {Γ : gT} {l : Launch} {R : Room} {cc : ByteArray} {nL : Nat} {own : String} {E : gE} {ret : Option FieldType} {init : Bool} {post : Option Value → Nat → Nat → va_W → Prop} {u z pc : Nat} {lv : gLV} {st : List Value} {ws : va_W} (h : IsG Γ l R cc nL own E ret init post) {index : Nat} (d : decode cc pc = .ok (.getstatic index, 3)) (hw : Cond.fieldLink own index "WatchBench$Causes" "OVER" "[I" ∈ gTT) (k : ∀ t : Nat, (∀ (pc' : Nat) (i : Int32) (k0 : Nat) (lv' : gLV) (st' : List Value) (ws' : va_W) (u' z' : Nat), decode cc pc' = .ok (.iaload, 1) → i = nI k0 → k0 < 6 → Γ u' z' (pc' + 1) lv' (gOf k0 :: st') ws' → Γ u' z' pc' lv' (.int i :: .ref t :: st') ws') → (∀ (pc' : Nat) (lv' : gLV) (st' : List Value) (ws' : va_W) (u' z' : Nat), decode cc pc' = .ok (.arraylength, 1) → Γ u' z' (pc' + 1) lv' (.int 6 :: st') ws' → Γ u' z' pc' lv' (.ref t :: st') ws') → Γ u z (pc + 3) lv (.ref t :: st) ws) : Γ u z pc lv st ws := by
  obtain ⟨p, e, s, m, args, below, meth, c, A, Q, ⟨hx, hb, hml, ho, hts, hK, hA, hN, hO⟩, rfl, hin, hr⟩ := h
  intro H locs ls hl hP hD hS
  obtain ⟨t, hZ, hT⟩ := hO
  refine va_gets hx hb hZ hS ho (hts _ hw) (fun _ h9 => h9) d (k t ?_ ?_ H locs ls hl hP hD hS)
  · intro pc' i k0 lv' st' ws' u' z' d' hi hk kk H locs ls hl hP hD hS
    subst hi
    exact va_ti hx hb hT hS (vp_in_nI hk (by decide)) (by rw [nI_clamp (Nat.lt_trans hk (by decide))]) d' (kk H locs ls hl hP hD hS)
  · intro pc' lv' st' ws' u' z' d' kk H locs ls hl hP hD hS
    exact va_tlen hx hb hT hS rfl d' (kk H locs ls hl hP hD hS)
theorem g_new {Γ : gT} {l : Launch} {R : Room} {cc : ByteArray} {nL : Nat} {own : String} {E : gE} {ret : Option FieldType} {init : Bool} {post : Option Value → Nat → Nat → va_W → Prop} {u z pc : Nat} {lv : gLV} {st : List Value} {ws : va_W} (h : IsG Γ l R cc nL own E ret init post) {index ci N : Nat} {C : String} {T : u_T} {fs : List Value} (ty : Nat → FieldType) (hc : vwCl[ci]? = some (C, T, N)) (hin0 : ∀ w ∈ u_ws C T N, w ∈ gTT) (hty : ∀ k, k < N → parseFieldDescriptor (T k).2.2.1 = some (ty k)) (hw1 : Cond.classLink own index C ∈ gTT) (hw2 : Cond.instantiable C N ∈ gTT) (hw3 : Cond.initialized C ∈ gTT) (d : decode cc pc = .ok (.new index, 3)) (hfs : ∀ j, j < N → defaultValue (ty j) = vp_V fs j) (h1 : u + 1 ≤ R.cells) (h2 : z + N ≤ R.slots) (k : ∀ q : Nat, Γ (u + 1) (z + N) (pc + 3) lv (.ref q :: st) (ws ++ [(q, .inr (ci, fs))])) : Γ u z pc lv st ws := by
  obtain ⟨p, e, s, m, args, below, meth, c, A, Q, ⟨hx, hb, hml, ho, hts, hK, hA, hN, hO⟩, rfl, hin, hr⟩ := h
  intro H locs ls hl hP hD hS
  exact va_new hx hb hts hin0 ty hty ho (hts _ hw1) (hts _ hw2) (hts _ hw3) hK hP hD hS hA hc hfs h1 h2 d (fun q H1 hP hD hS => k q H1 locs ls hl hP hD hS)
theorem g_newaI {Γ : gT} {l : Launch} {R : Room} {cc : ByteArray} {nL : Nat} {own : String} {E : gE} {ret : Option FieldType} {init : Bool} {post : Option Value → Nat → Nat → va_W → Prop} {u z pc : Nat} {lv : gLV} {st : List Value} {ws : va_W} (h : IsG Γ l R cc nL own E ret init post) {n : Int32} {N : Nat} (d : decode cc pc = .ok (.newarray .int, 2)) (hw : Cond.arrayClass .int ∈ gTT) (hn : n = nI N) (hN : N < 65536) (h1 : u + 1 ≤ R.cells) (h2 : z + N ≤ R.slots) (k : ∀ q : Nat, Γ (u + 1) (z + N) (pc + 2) lv (.ref q :: st) (ws ++ [(q, .inl (E.2 0, N, .inl (fun _ => 0)))])) : Γ u z pc lv (.int n :: st) ws := by
  obtain ⟨p, e, s, m, args, below, meth, c, A, Q, ⟨hx, hb, hml, ho, hts, hK, hA, hN, hO⟩, rfl, hin, hr⟩ := h
  intro H locs ls hl hP hD hS
  subst hn
  refine va_newa (atype := .int) (ty := .int) (a0 := (N, .inl (fun _ => 0))) (N' := N) hx hb (hts _ hw) rfl hK hP hD hS hA (fun cA => rfl) (nI_pos (by omega)) (nI_clamp (by omega)) (show N * 4 ≤ 536870912 by omega) h1 h2 d (fun q cA H1 hK1 hP hD hS => ?_)
  have e1 := (hK1.2 5 (cA, .int) rfl).2
  have e2 := (hK.2 0 (E.2 0, .int) rfl).2
  have e3 : cA = E.2 0 := Option.some.inj (Eq.trans (Eq.symm e1) e2)
  rw [e3] at hP hD
  exact k q H1 locs ls hl hP hD hS
theorem g_newaJ {Γ : gT} {l : Launch} {R : Room} {cc : ByteArray} {nL : Nat} {own : String} {E : gE} {ret : Option FieldType} {init : Bool} {post : Option Value → Nat → Nat → va_W → Prop} {u z pc : Nat} {lv : gLV} {st : List Value} {ws : va_W} (h : IsG Γ l R cc nL own E ret init post) {n : Int32} {N : Nat} (d : decode cc pc = .ok (.newarray .long, 2)) (hw : Cond.arrayClass .long ∈ gTT) (hn : n = nI N) (hN : N < 65536) (h1 : u + 1 ≤ R.cells) (h2 : z + N ≤ R.slots) (k : ∀ q : Nat, Γ (u + 1) (z + N) (pc + 2) lv (.ref q :: st) (ws ++ [(q, .inl (E.2 1, N, .inr (.inl (fun _ => 0))))])) : Γ u z pc lv (.int n :: st) ws := by
  obtain ⟨p, e, s, m, args, below, meth, c, A, Q, ⟨hx, hb, hml, ho, hts, hK, hA, hN, hO⟩, rfl, hin, hr⟩ := h
  intro H locs ls hl hP hD hS
  subst hn
  refine va_newa (atype := .long) (ty := .long) (a0 := (N, .inr (.inl (fun _ => 0)))) (N' := N) hx hb (hts _ hw) rfl hK hP hD hS hA (fun cA => rfl) (nI_pos (by omega)) (nI_clamp (by omega)) (show N * 8 ≤ 536870912 by omega) h1 h2 d (fun q cA H1 hK1 hP hD hS => ?_)
  have e1 := (hK1.2 5 (cA, .long) rfl).2
  have e2 := (hK.2 1 (E.2 1, .long) rfl).2
  have e3 : cA = E.2 1 := Option.some.inj (Eq.trans (Eq.symm e1) e2)
  rw [e3] at hP hD
  exact k q H1 locs ls hl hP hD hS
theorem g_newaS {Γ : gT} {l : Launch} {R : Room} {cc : ByteArray} {nL : Nat} {own : String} {E : gE} {ret : Option FieldType} {init : Bool} {post : Option Value → Nat → Nat → va_W → Prop} {u z pc : Nat} {lv : gLV} {st : List Value} {ws : va_W} (h : IsG Γ l R cc nL own E ret init post) {n : Int32} {N : Nat} (d : decode cc pc = .ok (.newarray .short, 2)) (hw : Cond.arrayClass .short ∈ gTT) (hn : n = nI N) (hN : N < 65536) (h1 : u + 1 ≤ R.cells) (h2 : z + N ≤ R.slots) (k : ∀ q : Nat, Γ (u + 1) (z + N) (pc + 2) lv (.ref q :: st) (ws ++ [(q, .inl (E.2 2, N, .inl (fun _ => 0)))])) : Γ u z pc lv (.int n :: st) ws := by
  obtain ⟨p, e, s, m, args, below, meth, c, A, Q, ⟨hx, hb, hml, ho, hts, hK, hA, hN, hO⟩, rfl, hin, hr⟩ := h
  intro H locs ls hl hP hD hS
  subst hn
  refine va_newa (atype := .short) (ty := .short) (a0 := (N, .inl (fun _ => 0))) (N' := N) hx hb (hts _ hw) rfl hK hP hD hS hA (fun cA => rfl) (nI_pos (by omega)) (nI_clamp (by omega)) (show N * 2 ≤ 536870912 by omega) h1 h2 d (fun q cA H1 hK1 hP hD hS => ?_)
  have e1 := (hK1.2 5 (cA, .short) rfl).2
  have e2 := (hK.2 2 (E.2 2, .short) rfl).2
  have e3 : cA = E.2 2 := Option.some.inj (Eq.trans (Eq.symm e1) e2)
  rw [e3] at hP hD
  exact k q H1 locs ls hl hP hD hS
theorem g_newaZ {Γ : gT} {l : Launch} {R : Room} {cc : ByteArray} {nL : Nat} {own : String} {E : gE} {ret : Option FieldType} {init : Bool} {post : Option Value → Nat → Nat → va_W → Prop} {u z pc : Nat} {lv : gLV} {st : List Value} {ws : va_W} (h : IsG Γ l R cc nL own E ret init post) {n : Int32} {N : Nat} (d : decode cc pc = .ok (.newarray .boolean, 2)) (hw : Cond.arrayClass .boolean ∈ gTT) (hn : n = nI N) (hN : N < 65536) (h1 : u + 1 ≤ R.cells) (h2 : z + N ≤ R.slots) (k : ∀ q : Nat, Γ (u + 1) (z + N) (pc + 2) lv (.ref q :: st) (ws ++ [(q, .inl (E.2 3, N, .inl (fun _ => 0)))])) : Γ u z pc lv (.int n :: st) ws := by
  obtain ⟨p, e, s, m, args, below, meth, c, A, Q, ⟨hx, hb, hml, ho, hts, hK, hA, hN, hO⟩, rfl, hin, hr⟩ := h
  intro H locs ls hl hP hD hS
  subst hn
  refine va_newa (atype := .boolean) (ty := .boolean) (a0 := (N, .inl (fun _ => 0))) (N' := N) hx hb (hts _ hw) rfl hK hP hD hS hA (fun cA => rfl) (nI_pos (by omega)) (nI_clamp (by omega)) (show N * 1 ≤ 536870912 by omega) h1 h2 d (fun q cA H1 hK1 hP hD hS => ?_)
  have e1 := (hK1.2 5 (cA, .boolean) rfl).2
  have e2 := (hK.2 3 (E.2 3, .boolean) rfl).2
  have e3 : cA = E.2 3 := Option.some.inj (Eq.trans (Eq.symm e1) e2)
  rw [e3] at hP hD
  exact k q H1 locs ls hl hP hD hS
theorem g_objInit {Γ : gT} {l : Launch} {R : Room} {cc : ByteArray} {nL : Nat} {own : String} {E : gE} {ret : Option FieldType} {init : Bool} {post : Option Value → Nat → Nat → va_W → Prop} {u z pc : Nat} {lv : gLV} {st : List Value} {ws : va_W} (h : IsG Γ l R cc nL own E ret init post) {index a : Nat} (d : decode cc pc = .ok (.invokespecial index, 3)) (hw : Cond.methodLink own index objectInit ∈ gTT) (hw2 : Cond.instanceMethod objectInit ∈ gTT) (hw3 : Cond.code objectInit ⟨#[0xb1]⟩ 1 none ∈ gTT) (h1 : 1 ≤ R.frames) (h2 : (st.map fun v => v.category).sum ≤ 8) (h3 : 20 ≤ R.locals) (k : Γ u z (pc + 3) lv st ws) : Γ u z pc lv (.ref a :: st) ws := by
  obtain ⟨p, e, s, m, args, below, meth, c, A, Q, ⟨hx, hb, hml, ho, hts, hK, hA, hN, hO⟩, rfl, hin, hr⟩ := h
  intro H locs ls hl hP hD hS
  refine W.objInit hx hb ho (hts _ hw) (hts _ hw2) (hts _ hw3) rfl (by rw [hml]; exact hl.1.1) rfl d h1 ?_ (k H locs ls hl hP hD hS)
  have := lv_room (m := m) (pc := pc) (ls := ls) (rest := .ref a :: st) h2
  omega
/-- a call of a method of an object -/
def gCV (own : String) (index : Nat) (C : String) (y : MethodName) (cy : ByteArray) (mL : Nat) (rt : Option FieldType) (n : Nat) : Prop := Cond.code y cy mL rt ∈ gTT ∧ Cond.methodLink own index y ∈ gTT ∧ Cond.instanceMethod y ∈ gTT ∧ Cond.selects C y y ∈ gTT ∧ Cond.initialized y.cls ∈ gTT ∧ y.cls ≠ "java/lang/invoke/MethodHandle" ∧ y.cls ≠ "java/lang/invoke/VarHandle" ∧ (parseMethodDescriptor y.desc).map (fun d => d.parameters.length) = some n
/-- a call of a static method -/
def gCS (own : String) (index : Nat) (y : MethodName) (cy : ByteArray) (mL : Nat) (rt : Option FieldType) (n : Nat) : Prop := Cond.code y cy mL rt ∈ gTT ∧ Cond.methodLink own index y ∈ gTT ∧ Cond.static y ∈ gTT ∧ Cond.initialized y.cls ∈ gTT ∧ y.cls ≠ "java/lang/invoke/MethodHandle" ∧ y.cls ≠ "java/lang/invoke/VarHandle" ∧ (parseMethodDescriptor y.desc).map (fun d => d.parameters.length) = some n
/-- a call of a nest mate's static method -/
def gCSN (own : String) (index : Nat) (host : String) (y : MethodName) (cy : ByteArray) (mL : Nat) (rt : Option FieldType) (n : Nat) : Prop := Cond.code y cy mL rt ∈ gTT ∧ Cond.methodLinkNest own index y host ∈ lw_tbl ∧ Cond.static y ∈ gTT ∧ Cond.initialized y.cls ∈ gTT ∧ y.cls ≠ "java/lang/invoke/MethodHandle" ∧ y.cls ≠ "java/lang/invoke/VarHandle" ∧ (parseMethodDescriptor y.desc).map (fun d => d.parameters.length) = some n
def gCI (own : String) (index : Nat) (y : MethodName) (cy : ByteArray) (mL : Nat) (n : Nat) : Prop := Cond.code y cy mL none ∈ gTT ∧ Cond.methodLink own index y ∈ gTT ∧ Cond.instanceMethod y ∈ gTT ∧ Cond.initialized y.cls ∈ gTT ∧ y.name = "<init>" ∧ y.cls ≠ "java/lang/invoke/MethodHandle" ∧ y.cls ≠ "java/lang/invoke/VarHandle" ∧ (parseMethodDescriptor y.desc).map (fun d => d.parameters.length) = some n
def gCIN (own : String) (index : Nat) (host : String) (y : MethodName) (cy : ByteArray) (mL : Nat) (n : Nat) : Prop := Cond.code y cy mL none ∈ gTT ∧ Cond.methodLinkNest own index y host ∈ lw_tbl ∧ Cond.instanceMethod y ∈ gTT ∧ Cond.initialized y.cls ∈ gTT ∧ y.name = "<init>" ∧ y.cls ≠ "java/lang/invoke/MethodHandle" ∧ y.cls ≠ "java/lang/invoke/VarHandle" ∧ (parseMethodDescriptor y.desc).map (fun d => d.parameters.length) = some n
theorem g_good {y : MethodName} {cy : ByteArray} {mL : Nat} {rt : Option FieldType} (h : Cond.code y cy mL rt ∈ gTT) : GoodIn gTT (.code y cy mL rt :: gTT) := by
  intro w hw
  have hm : w ∈ gTT := (List.mem_cons.mp hw).elim (fun e => by rw [e]; exact h) (fun e => e)
  exact ⟨hm, good_of_word (List.mem_filter.mp hm).2⟩
theorem g_sig {o : Option MethodDescriptor} {n : Nat} (h : o.map (fun d => d.parameters.length) = some n) : ∀ sig, o = some sig → n = sig.parameters.length := fun sig e => by
  rw [e] at h
  exact (Option.some.inj h).symm
theorem g_callV {Γ : gT} {l : Launch} {R : Room} {cc : ByteArray} {nL : Nat} {own : String} {E : gE} {ret : Option FieldType} {init : Bool} {post : Option Value → Nat → Nat → va_W → Prop} {u z pc : Nat} {lv : gLV} {st : List Value} {ws : va_W} (h : IsG Γ l R cc nL own E ret init post) {y : MethodName} {cy : ByteArray} {mL n index b : Nat} {rt : Option FieldType} {rm : Room} {As rest st0 : List Value} {wc : va_W} {postc : Option Value → va_W → Prop} {C : String} {ci : Nat} {fs : List Value} {T : u_T} {N : Nat} (hC : Ctr l y cy mL rt rm E (.ref b :: As) wc postc) (hc : gCV own index C y cy mL rt n) (d : decode cc pc = .ok (.invokevirtual index, 3)) (hst : st0 = As.reverse ++ .ref b :: rest) (hn : As.length = n) (hR : rm.frames + 1 ≤ R.frames ∧ 8 + (mL + 11) + rm.locals ≤ R.locals) (hu : u + rm.cells ≤ R.cells ∧ z + rm.slots ≤ R.slots) (hw8 : (rest.map fun v => v.category).sum ≤ 8) (is : List Nat) (his : is.map (fun i => ws[i]?) = wc.map some) (hnd : va_nd is = true) (q0 : Nat) (he : ws[q0]? = some (b, .inr (ci, fs))) (hci : vwCl[ci]? = some (C, T, N)) (k : ∀ (v : Option Value) (w1 : va_W), postc v w1 → Γ (u + rm.cells) (z + rm.slots) (pc + 3) lv (v.toList ++ rest) (gmerge is w1 ws)) : Γ u z pc lv st0 ws := by
  obtain ⟨p, e, s, m, args, below, meth, c, A, Q, ⟨hx, hb, hml, ho, hts, hK, hA, hN, hO⟩, rfl, hin, hr⟩ := h
  intro H locs ls hl hP hD hS
  subst hst
  refine g_after (va_runV (g := F0 m pc ls (As.reverse ++ .ref b :: rest)) (n := n) (bytes := cy) (maxL := mL) (ret := rt) (C := C) ⟨hx, hb, hml, ho, hts⟩ (hC H.size) ⟨⟨rfl, rfl, hR.1, hR.2, pay_in hts (g_good hc.1), List.mem_cons_self, hts _ hc.1, hts _ hc.2.2.2.2.1, ⟨hc.2.2.2.2.2.1, hc.2.2.2.2.2.2.1⟩, g_sig hc.2.2.2.2.2.2.2, hts _ hc.2.1⟩, hts _ hc.2.2.1, hts _ hc.2.2.2.1⟩ ⟨g_blind, va_recv hK hP hci he, g_pre hK hN hO hP hD hS hA is his hnd⟩ rfl hn hl.1.1 rfl (lv_room hw8) d hu) hl hP hD hS hA is his (fun v w1 hp => k v w1 hp)
theorem g_callS {Γ : gT} {l : Launch} {R : Room} {cc : ByteArray} {nL : Nat} {own : String} {E : gE} {ret : Option FieldType} {init : Bool} {post : Option Value → Nat → Nat → va_W → Prop} {u z pc : Nat} {lv : gLV} {st : List Value} {ws : va_W} (h : IsG Γ l R cc nL own E ret init post) {y : MethodName} {cy : ByteArray} {mL n index b : Nat} {rt : Option FieldType} {rm : Room} {As rest st0 : List Value} {wc : va_W} {postc : Option Value → va_W → Prop} (hC : Ctr l y cy mL rt rm E As wc postc) (hc : gCS own index y cy mL rt n) (d : decode cc pc = .ok (.invokestatic index, 3)) (hst : st0 = As.reverse ++ rest) (hn : As.length = n) (hR : rm.frames + 1 ≤ R.frames ∧ 8 + (mL + 11) + rm.locals ≤ R.locals) (hu : u + rm.cells ≤ R.cells ∧ z + rm.slots ≤ R.slots) (hw8 : (rest.map fun v => v.category).sum ≤ 8) (is : List Nat) (his : is.map (fun i => ws[i]?) = wc.map some) (hnd : va_nd is = true) (k : ∀ (v : Option Value) (w1 : va_W), postc v w1 → Γ (u + rm.cells) (z + rm.slots) (pc + 3) lv (v.toList ++ rest) (gmerge is w1 ws)) : Γ u z pc lv st0 ws := by
  obtain ⟨p, e, s, m, args, below, meth, c, A, Q, ⟨hx, hb, hml, ho, hts, hK, hA, hN, hO⟩, rfl, hin, hr⟩ := h
  intro H locs ls hl hP hD hS
  subst hst
  refine g_after (va_runS (g := F0 m pc ls (As.reverse ++ rest)) (n := n) (bytes := cy) (maxL := mL) (ret := rt) ⟨hx, hb, hml, ho, hts⟩ (hC H.size) ⟨⟨rfl, rfl, hR.1, hR.2, pay_in hts (g_good hc.1), List.mem_cons_self, hts _ hc.1, hts _ hc.2.2.2.1, ⟨hc.2.2.2.2.1, hc.2.2.2.2.2.1⟩, g_sig hc.2.2.2.2.2.2, hts _ hc.2.1⟩, hts _ hc.2.2.1⟩ ⟨g_blind, g_pre hK hN hO hP hD hS hA is his hnd⟩ rfl hn hl.1.1 rfl (lv_room hw8) d hu) hl hP hD hS hA is his (fun v w1 hp => k v w1 hp)
theorem g_callSN {Γ : gT} {l : Launch} {R : Room} {cc : ByteArray} {nL : Nat} {own : String} {E : gE} {ret : Option FieldType} {init : Bool} {post : Option Value → Nat → Nat → va_W → Prop} {u z pc : Nat} {lv : gLV} {st : List Value} {ws : va_W} (h : IsG Γ l R cc nL own E ret init post) {y : MethodName} {cy : ByteArray} {mL n index b : Nat} {rt : Option FieldType} {rm : Room} {As rest st0 : List Value} {wc : va_W} {postc : Option Value → va_W → Prop} {host : String} (hC : Ctr l y cy mL rt rm E As wc postc) (hc : gCSN own index host y cy mL rt n) (d : decode cc pc = .ok (.invokestatic index, 3)) (hst : st0 = As.reverse ++ rest) (hn : As.length = n) (hR : rm.frames + 1 ≤ R.frames ∧ 8 + (mL + 11) + rm.locals ≤ R.locals) (hu : u + rm.cells ≤ R.cells ∧ z + rm.slots ≤ R.slots) (hw8 : (rest.map fun v => v.category).sum ≤ 8) (is : List Nat) (his : is.map (fun i => ws[i]?) = wc.map some) (hnd : va_nd is = true) (k : ∀ (v : Option Value) (w1 : va_W), postc v w1 → Γ (u + rm.cells) (z + rm.slots) (pc + 3) lv (v.toList ++ rest) (gmerge is w1 ws)) : Γ u z pc lv st0 ws := by
  obtain ⟨p, e, s, m, args, below, meth, c, A, Q, ⟨hx, hb, hml, ho, hts, hK, hA, hN, hO⟩, rfl, hin, hr⟩ := h
  intro H locs ls hl hP hD hS
  subst hst
  refine g_after (va_runSN (g := F0 m pc ls (As.reverse ++ rest)) (n := n) (bytes := cy) (maxL := mL) (ret := rt) (host := host) ⟨hx, hb, hml, ho, hts⟩ (hC H.size) ⟨⟨⟨rfl, rfl, hR.1, hR.2, pay_in hts (g_good hc.1), List.mem_cons_self⟩, hts _ hc.1, hts _ hc.2.2.2.1, ⟨hc.2.2.2.2.1, hc.2.2.2.2.2.1⟩, g_sig hc.2.2.2.2.2.2, va_Nw.use rfl (hN _ hc.2.1 rfl)⟩, hts _ hc.2.2.1, trivial⟩ ⟨g_blind, g_pre hK hN hO hP hD hS hA is his hnd⟩ rfl hn hl.1.1 rfl (lv_room hw8) d hu) hl hP hD hS hA is his (fun v w1 hp => k v w1 hp)
theorem g_callI {Γ : gT} {l : Launch} {R : Room} {cc : ByteArray} {nL : Nat} {own : String} {E : gE} {ret : Option FieldType} {init : Bool} {post : Option Value → Nat → Nat → va_W → Prop} {u z pc : Nat} {lv : gLV} {st : List Value} {ws : va_W} (h : IsG Γ l R cc nL own E ret init post) {y : MethodName} {cy : ByteArray} {mL n index b : Nat} {rm : Room} {As rest st0 : List Value} {wc : va_W} {postc : Option Value → va_W → Prop} (hC : Ctr l y cy mL none rm E (.ref b :: As) wc postc) (hc : gCI own index y cy mL n) (d : decode cc pc = .ok (.invokespecial index, 3)) (hst : st0 = As.reverse ++ .ref b :: rest) (hn : As.length = n) (hR : rm.frames + 1 ≤ R.frames ∧ 8 + (mL + 11) + rm.locals ≤ R.locals) (hu : u + rm.cells ≤ R.cells ∧ z + rm.slots ≤ R.slots) (hw8 : (rest.map fun v => v.category).sum ≤ 8) (is : List Nat) (his : is.map (fun i => ws[i]?) = wc.map some) (hnd : va_nd is = true) (k : ∀ (v : Option Value) (w1 : va_W), postc v w1 → Γ (u + rm.cells) (z + rm.slots) (pc + 3) lv (v.toList ++ rest) (gmerge is w1 ws)) : Γ u z pc lv st0 ws := by
  obtain ⟨p, e, s, m, args, below, meth, c, A, Q, ⟨hx, hb, hml, ho, hts, hK, hA, hN, hO⟩, rfl, hin, hr⟩ := h
  intro H locs ls hl hP hD hS
  subst hst
  refine g_after (va_runI (g := F0 m pc ls (As.reverse ++ .ref b :: rest)) (n := n) (bytes := cy) (maxL := mL) ⟨hx, hb, hml, ho, hts⟩ (hC H.size) ⟨⟨rfl, rfl, hR.1, hR.2, pay_in hts (g_good hc.1), List.mem_cons_self, hts _ hc.1, hts _ hc.2.2.2.1, ⟨hc.2.2.2.2.2.1, hc.2.2.2.2.2.2.1⟩, g_sig hc.2.2.2.2.2.2.2, hts _ hc.2.1⟩, hc.2.2.2.2.1, hts _ hc.2.2.1⟩ ⟨g_blind, g_pre hK hN hO hP hD hS hA is his hnd⟩ rfl hn hl.1.1 rfl (lv_room hw8) d hu) hl hP hD hS hA is his (fun v w1 hp => k v w1 hp)
theorem g_callIN {Γ : gT} {l : Launch} {R : Room} {cc : ByteArray} {nL : Nat} {own : String} {E : gE} {ret : Option FieldType} {init : Bool} {post : Option Value → Nat → Nat → va_W → Prop} {u z pc : Nat} {lv : gLV} {st : List Value} {ws : va_W} (h : IsG Γ l R cc nL own E ret init post) {y : MethodName} {cy : ByteArray} {mL n index b : Nat} {rm : Room} {As rest st0 : List Value} {wc : va_W} {postc : Option Value → va_W → Prop} {host : String} (hC : Ctr l y cy mL none rm E (.ref b :: As) wc postc) (hc : gCIN own index host y cy mL n) (d : decode cc pc = .ok (.invokespecial index, 3)) (hst : st0 = As.reverse ++ .ref b :: rest) (hn : As.length = n) (hR : rm.frames + 1 ≤ R.frames ∧ 8 + (mL + 11) + rm.locals ≤ R.locals) (hu : u + rm.cells ≤ R.cells ∧ z + rm.slots ≤ R.slots) (hw8 : (rest.map fun v => v.category).sum ≤ 8) (is : List Nat) (his : is.map (fun i => ws[i]?) = wc.map some) (hnd : va_nd is = true) (k : ∀ (v : Option Value) (w1 : va_W), postc v w1 → Γ (u + rm.cells) (z + rm.slots) (pc + 3) lv (v.toList ++ rest) (gmerge is w1 ws)) : Γ u z pc lv st0 ws := by
  obtain ⟨p, e, s, m, args, below, meth, c, A, Q, ⟨hx, hb, hml, ho, hts, hK, hA, hN, hO⟩, rfl, hin, hr⟩ := h
  intro H locs ls hl hP hD hS
  subst hst
  refine g_after (va_runIN (g := F0 m pc ls (As.reverse ++ .ref b :: rest)) (n := n) (bytes := cy) (maxL := mL) (host := host) ⟨hx, hb, hml, ho, hts⟩ (hC H.size) ⟨⟨⟨rfl, rfl, hR.1, hR.2, pay_in hts (g_good hc.1), List.mem_cons_self⟩, hts _ hc.1, hts _ hc.2.2.2.1, ⟨hc.2.2.2.2.2.1, hc.2.2.2.2.2.2.1⟩, g_sig hc.2.2.2.2.2.2.2, va_Nw.use rfl (hN _ hc.2.1 rfl)⟩, hc.2.2.2.2.1, hts _ hc.2.2.1⟩ ⟨g_blind, g_pre hK hN hO hP hD hS hA is his hnd⟩ rfl hn hl.1.1 rfl (lv_room hw8) d hu) hl hP hD hS hA is his (fun v w1 hp => k v w1 hp)
theorem g_topi {Γ : gT} {u z pc : Nat} {lv : gLV} {st : List Value} {ws : va_W} {x : Int32} (y : Int32) (h : x = y) (k : Γ u z pc lv (.int y :: st) ws) : Γ u z pc lv (.int x :: st) ws := h ▸ k
theorem g_topl {Γ : gT} {u z pc : Nat} {lv : gLV} {st : List Value} {ws : va_W} {x : Int64} (y : Int64) (h : x = y) (k : Γ u z pc lv (.long y :: st) ws) : Γ u z pc lv (.long x :: st) ws := h ▸ k
theorem g_as {Γ : gT} {u z pc pc' : Nat} {lv lv' : gLV} {st st' : List Value} {ws ws' : va_W} (h0 : pc = pc') (h1 : lv = lv') (h2 : st = st') (h3 : ws = ws') (k : Γ u z pc' lv' st' ws') : Γ u z pc lv st ws := by subst h0; subst h1; subst h2; subst h3; exact k
end
section
theorem zz_last : True := trivial
end
