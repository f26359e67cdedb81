section
-- ===== PART A: goes FIRST, ahead of the names: the tables' words, and 'selects' of the private methods out of them =====
/-- a private method of a class that the tables say can be made, by its rows of tables_1 -/
def lw_okq (q : MethodName × Nat) : Prop := (q.1.cls ≠ "java/lang/invoke/MethodHandle" ∧ q.1.cls ≠ "java/lang/invoke/VarHandle") ∧ Cond.instantiable q.1.cls q.2 ∈ tables_1 ∧ Cond.privateMethod q.1 ∈ tables_1 ∧ Cond.instanceMethod q.1 ∈ tables_1
theorem lw_p0 : lw_okq (⟨"CardWorkshop$Reader", "append", "(C)V"⟩, 5) := ⟨⟨by decide +kernel, by decide +kernel⟩, List.mem_of_getElem? (i := 32) (by decide +kernel), List.mem_of_getElem? (i := 240) (by decide +kernel), List.mem_of_getElem? (i := 241) (by decide +kernel)⟩
theorem lw_p1 : lw_okq (⟨"CardWorkshop$Table", "raise", "(II)V"⟩, 7) := ⟨⟨by decide +kernel, by decide +kernel⟩, List.mem_of_getElem? (i := 146) (by decide +kernel), List.mem_of_getElem? (i := 252) (by decide +kernel), List.mem_of_getElem? (i := 253) (by decide +kernel)⟩
theorem lw_p2 : lw_okq (⟨"CardWorkshop$Table", "lay", "(II)V"⟩, 7) := ⟨⟨by decide +kernel, by decide +kernel⟩, List.mem_of_getElem? (i := 146) (by decide +kernel), List.mem_of_getElem? (i := 256) (by decide +kernel), List.mem_of_getElem? (i := 257) (by decide +kernel)⟩
theorem lw_p3 : lw_okq (⟨"CardWorkshop$Machine", "listMoves", "(LCardWorkshop$Table;[I)I"⟩, 3) := ⟨⟨by decide +kernel, by decide +kernel⟩, List.mem_of_getElem? (i := 118) (by decide +kernel), List.mem_of_getElem? (i := 264) (by decide +kernel), List.mem_of_getElem? (i := 265) (by decide +kernel)⟩
theorem lw_p4 : lw_okq (⟨"CardWorkshop$Machine", "run", "(LCardWorkshop$Table;II)I"⟩, 3) := ⟨⟨by decide +kernel, by decide +kernel⟩, List.mem_of_getElem? (i := 118) (by decide +kernel), List.mem_of_getElem? (i := 268) (by decide +kernel), List.mem_of_getElem? (i := 269) (by decide +kernel)⟩
theorem lw_p5 : lw_okq (⟨"CardWorkshop$Machine", "operand", "(IILCardWorkshop$Table;II)I"⟩, 3) := ⟨⟨by decide +kernel, by decide +kernel⟩, List.mem_of_getElem? (i := 118) (by decide +kernel), List.mem_of_getElem? (i := 272) (by decide +kernel), List.mem_of_getElem? (i := 273) (by decide +kernel)⟩
theorem lw_p6 : lw_okq (⟨"CardWorkshop$Machine", "push", "(I)V"⟩, 3) := ⟨⟨by decide +kernel, by decide +kernel⟩, List.mem_of_getElem? (i := 118) (by decide +kernel), List.mem_of_getElem? (i := 279) (by decide +kernel), List.mem_of_getElem? (i := 280) (by decide +kernel)⟩
theorem lw_p7 : lw_okq (⟨"CardWorkshop$Machine", "pop", "()I"⟩, 3) := ⟨⟨by decide +kernel, by decide +kernel⟩, List.mem_of_getElem? (i := 118) (by decide +kernel), List.mem_of_getElem? (i := 283) (by decide +kernel), List.mem_of_getElem? (i := 284) (by decide +kernel)⟩
theorem lw_p8 : lw_okq (⟨"CardWorkshop$Machine", "doEffect", "(IILCardWorkshop$Table;II)V"⟩, 3) := ⟨⟨by decide +kernel, by decide +kernel⟩, List.mem_of_getElem? (i := 118) (by decide +kernel), List.mem_of_getElem? (i := 290) (by decide +kernel), List.mem_of_getElem? (i := 291) (by decide +kernel)⟩
theorem lw_p9 : lw_okq (⟨"CardWorkshop$Table", "copyFrom", "(LCardWorkshop$Table;)V"⟩, 7) := ⟨⟨by decide +kernel, by decide +kernel⟩, List.mem_of_getElem? (i := 146) (by decide +kernel), List.mem_of_getElem? (i := 299) (by decide +kernel), List.mem_of_getElem? (i := 300) (by decide +kernel)⟩
theorem lw_p10 : lw_okq (⟨"CardWorkshop$Table", "cardAt", "(II)I"⟩, 7) := ⟨⟨by decide +kernel, by decide +kernel⟩, List.mem_of_getElem? (i := 146) (by decide +kernel), List.mem_of_getElem? (i := 310) (by decide +kernel), List.mem_of_getElem? (i := 311) (by decide +kernel)⟩
theorem lw_p11 : lw_okq (⟨"CardWorkshop$Reader", "readGame", "()V"⟩, 5) := ⟨⟨by decide +kernel, by decide +kernel⟩, List.mem_of_getElem? (i := 32) (by decide +kernel), List.mem_of_getElem? (i := 337) (by decide +kernel), List.mem_of_getElem? (i := 338) (by decide +kernel)⟩
theorem lw_p12 : lw_okq (⟨"CardWorkshop$Reader", "expect", "(C)V"⟩, 5) := ⟨⟨by decide +kernel, by decide +kernel⟩, List.mem_of_getElem? (i := 32) (by decide +kernel), List.mem_of_getElem? (i := 341) (by decide +kernel), List.mem_of_getElem? (i := 342) (by decide +kernel)⟩
theorem lw_p13 : lw_okq (⟨"CardWorkshop$Reader", "next", "()C"⟩, 5) := ⟨⟨by decide +kernel, by decide +kernel⟩, List.mem_of_getElem? (i := 32) (by decide +kernel), List.mem_of_getElem? (i := 345) (by decide +kernel), List.mem_of_getElem? (i := 346) (by decide +kernel)⟩
theorem lw_p14 : lw_okq (⟨"java/lang/Throwable", "fillInStackTrace", "(I)Ljava/lang/Throwable;"⟩, 6) := ⟨⟨by decide +kernel, by decide +kernel⟩, List.mem_of_getElem? (i := 388) (by decide +kernel), List.mem_of_getElem? (i := 386) (by decide +kernel), List.mem_of_getElem? (i := 387) (by decide +kernel)⟩
theorem lw_p15 : lw_okq (⟨"CardWorkshop$Reader", "readDigit", "(I)I"⟩, 5) := ⟨⟨by decide +kernel, by decide +kernel⟩, List.mem_of_getElem? (i := 32) (by decide +kernel), List.mem_of_getElem? (i := 418) (by decide +kernel), List.mem_of_getElem? (i := 419) (by decide +kernel)⟩
def lw_privs_1 : List (MethodName × Nat) := [(⟨"CardWorkshop$Reader", "append", "(C)V"⟩, 5), (⟨"CardWorkshop$Table", "raise", "(II)V"⟩, 7), (⟨"CardWorkshop$Table", "lay", "(II)V"⟩, 7), (⟨"CardWorkshop$Machine", "listMoves", "(LCardWorkshop$Table;[I)I"⟩, 3), (⟨"CardWorkshop$Machine", "run", "(LCardWorkshop$Table;II)I"⟩, 3), (⟨"CardWorkshop$Machine", "operand", "(IILCardWorkshop$Table;II)I"⟩, 3), (⟨"CardWorkshop$Machine", "push", "(I)V"⟩, 3), (⟨"CardWorkshop$Machine", "pop", "()I"⟩, 3), (⟨"CardWorkshop$Machine", "doEffect", "(IILCardWorkshop$Table;II)V"⟩, 3), (⟨"CardWorkshop$Table", "copyFrom", "(LCardWorkshop$Table;)V"⟩, 7), (⟨"CardWorkshop$Table", "cardAt", "(II)I"⟩, 7), (⟨"CardWorkshop$Reader", "readGame", "()V"⟩, 5), (⟨"CardWorkshop$Reader", "expect", "(C)V"⟩, 5), (⟨"CardWorkshop$Reader", "next", "()C"⟩, 5), (⟨"java/lang/Throwable", "fillInStackTrace", "(I)Ljava/lang/Throwable;"⟩, 6), (⟨"CardWorkshop$Reader", "readDigit", "(I)I"⟩, 5)]
theorem lw_r1 : ∀ q ∈ lw_privs_1, lw_okq q := List.forall_mem_cons.mpr ⟨lw_p0, List.forall_mem_cons.mpr ⟨lw_p1, List.forall_mem_cons.mpr ⟨lw_p2, List.forall_mem_cons.mpr ⟨lw_p3, List.forall_mem_cons.mpr ⟨lw_p4, List.forall_mem_cons.mpr ⟨lw_p5, List.forall_mem_cons.mpr ⟨lw_p6, List.forall_mem_cons.mpr ⟨lw_p7, List.forall_mem_cons.mpr ⟨lw_p8, List.forall_mem_cons.mpr ⟨lw_p9, List.forall_mem_cons.mpr ⟨lw_p10, List.forall_mem_cons.mpr ⟨lw_p11, List.forall_mem_cons.mpr ⟨lw_p12, List.forall_mem_cons.mpr ⟨lw_p13, List.forall_mem_cons.mpr ⟨lw_p14, List.forall_mem_cons.mpr ⟨lw_p15, fun _ h => absurd h List.not_mem_nil⟩⟩⟩⟩⟩⟩⟩⟩⟩⟩⟩⟩⟩⟩⟩⟩
theorem lw_p16 : lw_okq (⟨"CardWorkshop$Reader", "readRule", "(I)V"⟩, 5) := ⟨⟨by decide +kernel, by decide +kernel⟩, List.mem_of_getElem? (i := 32) (by decide +kernel), List.mem_of_getElem? (i := 423) (by decide +kernel), List.mem_of_getElem? (i := 424) (by decide +kernel)⟩
theorem lw_p17 : lw_okq (⟨"CardWorkshop$Reader", "readExpr", "(II)V"⟩, 5) := ⟨⟨by decide +kernel, by decide +kernel⟩, List.mem_of_getElem? (i := 32) (by decide +kernel), List.mem_of_getElem? (i := 427) (by decide +kernel), List.mem_of_getElem? (i := 428) (by decide +kernel)⟩
theorem lw_p18 : lw_okq (⟨"CardWorkshop$Reader", "readUnit", "(I)V"⟩, 5) := ⟨⟨by decide +kernel, by decide +kernel⟩, List.mem_of_getElem? (i := 32) (by decide +kernel), List.mem_of_getElem? (i := 431) (by decide +kernel), List.mem_of_getElem? (i := 432) (by decide +kernel)⟩
theorem lw_p19 : lw_okq (⟨"CardWorkshop$Reader", "take", "(C)Z"⟩, 5) := ⟨⟨by decide +kernel, by decide +kernel⟩, List.mem_of_getElem? (i := 32) (by decide +kernel), List.mem_of_getElem? (i := 435) (by decide +kernel), List.mem_of_getElem? (i := 436) (by decide +kernel)⟩
theorem lw_p20 : lw_okq (⟨"CardWorkshop$Game", "emit", "(II)V"⟩, 10) := ⟨⟨by decide +kernel, by decide +kernel⟩, List.mem_of_getElem? (i := 38) (by decide +kernel), List.mem_of_getElem? (i := 526) (by decide +kernel), List.mem_of_getElem? (i := 527) (by decide +kernel)⟩
theorem lw_p21 : lw_okq (⟨"CardWorkshop$Reader", "readZone", "(Z)I"⟩, 5) := ⟨⟨by decide +kernel, by decide +kernel⟩, List.mem_of_getElem? (i := 32) (by decide +kernel), List.mem_of_getElem? (i := 530) (by decide +kernel), List.mem_of_getElem? (i := 531) (by decide +kernel)⟩
theorem lw_p22 : lw_okq (⟨"CardWorkshop$Reader", "readNumber", "()I"⟩, 5) := ⟨⟨by decide +kernel, by decide +kernel⟩, List.mem_of_getElem? (i := 32) (by decide +kernel), List.mem_of_getElem? (i := 536) (by decide +kernel), List.mem_of_getElem? (i := 537) (by decide +kernel)⟩
theorem lw_p23 : lw_okq (⟨"CardWorkshop$Reader", "readEffect", "()V"⟩, 5) := ⟨⟨by decide +kernel, by decide +kernel⟩, List.mem_of_getElem? (i := 32) (by decide +kernel), List.mem_of_getElem? (i := 546) (by decide +kernel), List.mem_of_getElem? (i := 547) (by decide +kernel)⟩
theorem lw_p24 : lw_okq (⟨"CardWorkshop$Game", "copyFrom", "(LCardWorkshop$Game;)V"⟩, 10) := ⟨⟨by decide +kernel, by decide +kernel⟩, List.mem_of_getElem? (i := 38) (by decide +kernel), List.mem_of_getElem? (i := 567) (by decide +kernel), List.mem_of_getElem? (i := 568) (by decide +kernel)⟩
theorem lw_p25 : lw_okq (⟨"CardWorkshop", "shuffle", "(II)V"⟩, 10) := ⟨⟨by decide +kernel, by decide +kernel⟩, List.mem_of_getElem? (i := 24) (by decide +kernel), List.mem_of_getElem? (i := 623) (by decide +kernel), List.mem_of_getElem? (i := 624) (by decide +kernel)⟩
theorem lw_p26 : lw_okq (⟨"CardWorkshop$Table", "clear", "()V"⟩, 7) := ⟨⟨by decide +kernel, by decide +kernel⟩, List.mem_of_getElem? (i := 146) (by decide +kernel), List.mem_of_getElem? (i := 628) (by decide +kernel), List.mem_of_getElem? (i := 629) (by decide +kernel)⟩
theorem lw_p27 : lw_okq (⟨"CardWorkshop", "findMove", "(I)I"⟩, 10) := ⟨⟨by decide +kernel, by decide +kernel⟩, List.mem_of_getElem? (i := 24) (by decide +kernel), List.mem_of_getElem? (i := 643) (by decide +kernel), List.mem_of_getElem? (i := 644) (by decide +kernel)⟩
theorem lw_p28 : lw_okq (⟨"CardWorkshop$Machine", "makeMove", "(LCardWorkshop$Table;I)V"⟩, 3) := ⟨⟨by decide +kernel, by decide +kernel⟩, List.mem_of_getElem? (i := 118) (by decide +kernel), List.mem_of_getElem? (i := 662) (by decide +kernel), List.mem_of_getElem? (i := 663) (by decide +kernel)⟩
theorem lw_p29 : lw_okq (⟨"CardWorkshop$Solver", "valueOf", "(LCardWorkshop$Machine;LCardWorkshop$Table;I)I"⟩, 4) := ⟨⟨by decide +kernel, by decide +kernel⟩, List.mem_of_getElem? (i := 137) (by decide +kernel), List.mem_of_getElem? (i := 685) (by decide +kernel), List.mem_of_getElem? (i := 686) (by decide +kernel)⟩
theorem lw_p30 : lw_okq (⟨"CardWorkshop$Solver", "valueAt", "(LCardWorkshop$Machine;I)I"⟩, 4) := ⟨⟨by decide +kernel, by decide +kernel⟩, List.mem_of_getElem? (i := 137) (by decide +kernel), List.mem_of_getElem? (i := 690) (by decide +kernel), List.mem_of_getElem? (i := 691) (by decide +kernel)⟩
theorem lw_p31 : lw_okq (⟨"CardWorkshopModel", "need", "(I)V"⟩, 38) := ⟨⟨by decide +kernel, by decide +kernel⟩, List.mem_of_getElem? (i := 699) (by decide +kernel), List.mem_of_getElem? (i := 838) (by decide +kernel), List.mem_of_getElem? (i := 839) (by decide +kernel)⟩
def lw_privs_2 : List (MethodName × Nat) := [(⟨"CardWorkshop$Reader", "readRule", "(I)V"⟩, 5), (⟨"CardWorkshop$Reader", "readExpr", "(II)V"⟩, 5), (⟨"CardWorkshop$Reader", "readUnit", "(I)V"⟩, 5), (⟨"CardWorkshop$Reader", "take", "(C)Z"⟩, 5), (⟨"CardWorkshop$Game", "emit", "(II)V"⟩, 10), (⟨"CardWorkshop$Reader", "readZone", "(Z)I"⟩, 5), (⟨"CardWorkshop$Reader", "readNumber", "()I"⟩, 5), (⟨"CardWorkshop$Reader", "readEffect", "()V"⟩, 5), (⟨"CardWorkshop$Game", "copyFrom", "(LCardWorkshop$Game;)V"⟩, 10), (⟨"CardWorkshop", "shuffle", "(II)V"⟩, 10), (⟨"CardWorkshop$Table", "clear", "()V"⟩, 7), (⟨"CardWorkshop", "findMove", "(I)I"⟩, 10), (⟨"CardWorkshop$Machine", "makeMove", "(LCardWorkshop$Table;I)V"⟩, 3), (⟨"CardWorkshop$Solver", "valueOf", "(LCardWorkshop$Machine;LCardWorkshop$Table;I)I"⟩, 4), (⟨"CardWorkshop$Solver", "valueAt", "(LCardWorkshop$Machine;I)I"⟩, 4), (⟨"CardWorkshopModel", "need", "(I)V"⟩, 38)]
theorem lw_r2 : ∀ q ∈ lw_privs_2, lw_okq q := List.forall_mem_cons.mpr ⟨lw_p16, List.forall_mem_cons.mpr ⟨lw_p17, List.forall_mem_cons.mpr ⟨lw_p18, List.forall_mem_cons.mpr ⟨lw_p19, List.forall_mem_cons.mpr ⟨lw_p20, List.forall_mem_cons.mpr ⟨lw_p21, List.forall_mem_cons.mpr ⟨lw_p22, List.forall_mem_cons.mpr ⟨lw_p23, List.forall_mem_cons.mpr ⟨lw_p24, List.forall_mem_cons.mpr ⟨lw_p25, List.forall_mem_cons.mpr ⟨lw_p26, List.forall_mem_cons.mpr ⟨lw_p27, List.forall_mem_cons.mpr ⟨lw_p28, List.forall_mem_cons.mpr ⟨lw_p29, List.forall_mem_cons.mpr ⟨lw_p30, List.forall_mem_cons.mpr ⟨lw_p31, fun _ h => absurd h List.not_mem_nil⟩⟩⟩⟩⟩⟩⟩⟩⟩⟩⟩⟩⟩⟩⟩⟩
theorem lw_p32 : lw_okq (⟨"CardWorkshopModel", "eat", "(I)Z"⟩, 38) := ⟨⟨by decide +kernel, by decide +kernel⟩, List.mem_of_getElem? (i := 699) (by decide +kernel), List.mem_of_getElem? (i := 842) (by decide +kernel), List.mem_of_getElem? (i := 843) (by decide +kernel)⟩
theorem lw_p33 : lw_okq (⟨"CardWorkshopModel", "peek", "()I"⟩, 38) := ⟨⟨by decide +kernel, by decide +kernel⟩, List.mem_of_getElem? (i := 699) (by decide +kernel), List.mem_of_getElem? (i := 846) (by decide +kernel), List.mem_of_getElem? (i := 847) (by decide +kernel)⟩
theorem lw_p34 : lw_okq (⟨"CardWorkshopModel", "rule", "()V"⟩, 38) := ⟨⟨by decide +kernel, by decide +kernel⟩, List.mem_of_getElem? (i := 699) (by decide +kernel), List.mem_of_getElem? (i := 850) (by decide +kernel), List.mem_of_getElem? (i := 851) (by decide +kernel)⟩
theorem lw_p35 : lw_okq (⟨"CardWorkshopModel", "expr", "(Z)V"⟩, 38) := ⟨⟨by decide +kernel, by decide +kernel⟩, List.mem_of_getElem? (i := 699) (by decide +kernel), List.mem_of_getElem? (i := 854) (by decide +kernel), List.mem_of_getElem? (i := 855) (by decide +kernel)⟩
theorem lw_p36 : lw_okq (⟨"CardWorkshopModel", "operand", "(IZ)I"⟩, 38) := ⟨⟨by decide +kernel, by decide +kernel⟩, List.mem_of_getElem? (i := 699) (by decide +kernel), List.mem_of_getElem? (i := 858) (by decide +kernel), List.mem_of_getElem? (i := 859) (by decide +kernel)⟩
theorem lw_p37 : lw_okq (⟨"CardWorkshopModel", "plain", "(Z)Z"⟩, 38) := ⟨⟨by decide +kernel, by decide +kernel⟩, List.mem_of_getElem? (i := 699) (by decide +kernel), List.mem_of_getElem? (i := 862) (by decide +kernel), List.mem_of_getElem? (i := 863) (by decide +kernel)⟩
theorem lw_p38 : lw_okq (⟨"CardWorkshopModel", "number", "()V"⟩, 38) := ⟨⟨by decide +kernel, by decide +kernel⟩, List.mem_of_getElem? (i := 699) (by decide +kernel), List.mem_of_getElem? (i := 869) (by decide +kernel), List.mem_of_getElem? (i := 870) (by decide +kernel)⟩
theorem lw_p39 : lw_okq (⟨"CardWorkshopModel", "emit", "(II)V"⟩, 38) := ⟨⟨by decide +kernel, by decide +kernel⟩, List.mem_of_getElem? (i := 699) (by decide +kernel), List.mem_of_getElem? (i := 873) (by decide +kernel), List.mem_of_getElem? (i := 874) (by decide +kernel)⟩
theorem lw_p40 : lw_okq (⟨"CardWorkshopModel", "zone", "()I"⟩, 38) := ⟨⟨by decide +kernel, by decide +kernel⟩, List.mem_of_getElem? (i := 699) (by decide +kernel), List.mem_of_getElem? (i := 883) (by decide +kernel), List.mem_of_getElem? (i := 884) (by decide +kernel)⟩
theorem lw_p41 : lw_okq (⟨"CardWorkshopModel", "cardZone", "(Z)I"⟩, 38) := ⟨⟨by decide +kernel, by decide +kernel⟩, List.mem_of_getElem? (i := 699) (by decide +kernel), List.mem_of_getElem? (i := 887) (by decide +kernel), List.mem_of_getElem? (i := 888) (by decide +kernel)⟩
theorem lw_p42 : lw_okq (⟨"CardWorkshopModel", "release", "(I)V"⟩, 38) := ⟨⟨by decide +kernel, by decide +kernel⟩, List.mem_of_getElem? (i := 699) (by decide +kernel), List.mem_of_getElem? (i := 891) (by decide +kernel), List.mem_of_getElem? (i := 892) (by decide +kernel)⟩
theorem lw_p43 : lw_okq (⟨"CardWorkshopModel", "top", "()I"⟩, 38) := ⟨⟨by decide +kernel, by decide +kernel⟩, List.mem_of_getElem? (i := 699) (by decide +kernel), List.mem_of_getElem? (i := 895) (by decide +kernel), List.mem_of_getElem? (i := 896) (by decide +kernel)⟩
theorem lw_p44 : lw_okq (⟨"CardWorkshopModel", "effect", "(Z)V"⟩, 38) := ⟨⟨by decide +kernel, by decide +kernel⟩, List.mem_of_getElem? (i := 699) (by decide +kernel), List.mem_of_getElem? (i := 905) (by decide +kernel), List.mem_of_getElem? (i := 906) (by decide +kernel)⟩
theorem lw_p45 : lw_okq (⟨"CardWorkshopModel", "take", "(II)I"⟩, 38) := ⟨⟨by decide +kernel, by decide +kernel⟩, List.mem_of_getElem? (i := 699) (by decide +kernel), List.mem_of_getElem? (i := 909) (by decide +kernel), List.mem_of_getElem? (i := 910) (by decide +kernel)⟩
theorem lw_p46 : lw_okq (⟨"CardWorkshopModel", "go", "(II)V"⟩, 38) := ⟨⟨by decide +kernel, by decide +kernel⟩, List.mem_of_getElem? (i := 699) (by decide +kernel), List.mem_of_getElem? (i := 922) (by decide +kernel), List.mem_of_getElem? (i := 923) (by decide +kernel)⟩
theorem lw_p47 : lw_okq (⟨"CardWorkshopModel", "listed", "()I"⟩, 38) := ⟨⟨by decide +kernel, by decide +kernel⟩, List.mem_of_getElem? (i := 699) (by decide +kernel), List.mem_of_getElem? (i := 937) (by decide +kernel), List.mem_of_getElem? (i := 938) (by decide +kernel)⟩
def lw_privs_3 : List (MethodName × Nat) := [(⟨"CardWorkshopModel", "eat", "(I)Z"⟩, 38), (⟨"CardWorkshopModel", "peek", "()I"⟩, 38), (⟨"CardWorkshopModel", "rule", "()V"⟩, 38), (⟨"CardWorkshopModel", "expr", "(Z)V"⟩, 38), (⟨"CardWorkshopModel", "operand", "(IZ)I"⟩, 38), (⟨"CardWorkshopModel", "plain", "(Z)Z"⟩, 38), (⟨"CardWorkshopModel", "number", "()V"⟩, 38), (⟨"CardWorkshopModel", "emit", "(II)V"⟩, 38), (⟨"CardWorkshopModel", "zone", "()I"⟩, 38), (⟨"CardWorkshopModel", "cardZone", "(Z)I"⟩, 38), (⟨"CardWorkshopModel", "release", "(I)V"⟩, 38), (⟨"CardWorkshopModel", "top", "()I"⟩, 38), (⟨"CardWorkshopModel", "effect", "(Z)V"⟩, 38), (⟨"CardWorkshopModel", "take", "(II)I"⟩, 38), (⟨"CardWorkshopModel", "go", "(II)V"⟩, 38), (⟨"CardWorkshopModel", "listed", "()I"⟩, 38)]
theorem lw_r3 : ∀ q ∈ lw_privs_3, lw_okq q := List.forall_mem_cons.mpr ⟨lw_p32, List.forall_mem_cons.mpr ⟨lw_p33, List.forall_mem_cons.mpr ⟨lw_p34, List.forall_mem_cons.mpr ⟨lw_p35, List.forall_mem_cons.mpr ⟨lw_p36, List.forall_mem_cons.mpr ⟨lw_p37, List.forall_mem_cons.mpr ⟨lw_p38, List.forall_mem_cons.mpr ⟨lw_p39, List.forall_mem_cons.mpr ⟨lw_p40, List.forall_mem_cons.mpr ⟨lw_p41, List.forall_mem_cons.mpr ⟨lw_p42, List.forall_mem_cons.mpr ⟨lw_p43, List.forall_mem_cons.mpr ⟨lw_p44, List.forall_mem_cons.mpr ⟨lw_p45, List.forall_mem_cons.mpr ⟨lw_p46, List.forall_mem_cons.mpr ⟨lw_p47, fun _ h => absurd h List.not_mem_nil⟩⟩⟩⟩⟩⟩⟩⟩⟩⟩⟩⟩⟩⟩⟩⟩
theorem lw_p48 : lw_okq (⟨"CardWorkshopModel", "list", "(I)V"⟩, 38) := ⟨⟨by decide +kernel, by decide +kernel⟩, List.mem_of_getElem? (i := 699) (by decide +kernel), List.mem_of_getElem? (i := 941) (by decide +kernel), List.mem_of_getElem? (i := 942) (by decide +kernel)⟩
theorem lw_p49 : lw_okq (⟨"CardWorkshopModel", "run", "(III)I"⟩, 38) := ⟨⟨by decide +kernel, by decide +kernel⟩, List.mem_of_getElem? (i := 699) (by decide +kernel), List.mem_of_getElem? (i := 945) (by decide +kernel), List.mem_of_getElem? (i := 946) (by decide +kernel)⟩
theorem lw_p50 : lw_okq (⟨"CardWorkshopModel", "asked", "(IIII)I"⟩, 38) := ⟨⟨by decide +kernel, by decide +kernel⟩, List.mem_of_getElem? (i := 699) (by decide +kernel), List.mem_of_getElem? (i := 949) (by decide +kernel), List.mem_of_getElem? (i := 950) (by decide +kernel)⟩
theorem lw_p51 : lw_okq (⟨"CardWorkshopModel", "cardAt", "(III)I"⟩, 38) := ⟨⟨by decide +kernel, by decide +kernel⟩, List.mem_of_getElem? (i := 699) (by decide +kernel), List.mem_of_getElem? (i := 956) (by decide +kernel), List.mem_of_getElem? (i := 957) (by decide +kernel)⟩
theorem lw_p52 : lw_okq (⟨"CardWorkshopModel", "topOf", "(I)I"⟩, 38) := ⟨⟨by decide +kernel, by decide +kernel⟩, List.mem_of_getElem? (i := 699) (by decide +kernel), List.mem_of_getElem? (i := 960) (by decide +kernel), List.mem_of_getElem? (i := 961) (by decide +kernel)⟩
theorem lw_p53 : lw_okq (⟨"CardWorkshopModel", "note", "(III)V"⟩, 38) := ⟨⟨by decide +kernel, by decide +kernel⟩, List.mem_of_getElem? (i := 699) (by decide +kernel), List.mem_of_getElem? (i := 970) (by decide +kernel), List.mem_of_getElem? (i := 971) (by decide +kernel)⟩
theorem lw_p54 : lw_okq (⟨"CardWorkshopModel", "lies", "(II)Z"⟩, 38) := ⟨⟨by decide +kernel, by decide +kernel⟩, List.mem_of_getElem? (i := 699) (by decide +kernel), List.mem_of_getElem? (i := 974) (by decide +kernel), List.mem_of_getElem? (i := 975) (by decide +kernel)⟩
theorem lw_p55 : lw_okq (⟨"CardWorkshopModel", "make", "(II)V"⟩, 38) := ⟨⟨by decide +kernel, by decide +kernel⟩, List.mem_of_getElem? (i := 699) (by decide +kernel), List.mem_of_getElem? (i := 986) (by decide +kernel), List.mem_of_getElem? (i := 987) (by decide +kernel)⟩
theorem lw_p56 : lw_okq (⟨"CardWorkshopModel", "behind", "(I)I"⟩, 38) := ⟨⟨by decide +kernel, by decide +kernel⟩, List.mem_of_getElem? (i := 699) (by decide +kernel), List.mem_of_getElem? (i := 990) (by decide +kernel), List.mem_of_getElem? (i := 991) (by decide +kernel)⟩
theorem lw_p57 : lw_okq (⟨"CardWorkshopModel", "search", "(I)Z"⟩, 38) := ⟨⟨by decide +kernel, by decide +kernel⟩, List.mem_of_getElem? (i := 699) (by decide +kernel), List.mem_of_getElem? (i := 1019) (by decide +kernel), List.mem_of_getElem? (i := 1020) (by decide +kernel)⟩
theorem lw_p58 : lw_okq (⟨"CardWorkshopModel", "keep", "(I)V"⟩, 38) := ⟨⟨by decide +kernel, by decide +kernel⟩, List.mem_of_getElem? (i := 699) (by decide +kernel), List.mem_of_getElem? (i := 1023) (by decide +kernel), List.mem_of_getElem? (i := 1024) (by decide +kernel)⟩
theorem lw_p59 : lw_okq (⟨"CardWorkshopModel", "give", "(II)V"⟩, 38) := ⟨⟨by decide +kernel, by decide +kernel⟩, List.mem_of_getElem? (i := 699) (by decide +kernel), List.mem_of_getElem? (i := 1027) (by decide +kernel), List.mem_of_getElem? (i := 1028) (by decide +kernel)⟩
theorem lw_p60 : lw_okq (⟨"CardWorkshopModel", "back", "(I)V"⟩, 38) := ⟨⟨by decide +kernel, by decide +kernel⟩, List.mem_of_getElem? (i := 699) (by decide +kernel), List.mem_of_getElem? (i := 1031) (by decide +kernel), List.mem_of_getElem? (i := 1032) (by decide +kernel)⟩
def lw_privs_4 : List (MethodName × Nat) := [(⟨"CardWorkshopModel", "list", "(I)V"⟩, 38), (⟨"CardWorkshopModel", "run", "(III)I"⟩, 38), (⟨"CardWorkshopModel", "asked", "(IIII)I"⟩, 38), (⟨"CardWorkshopModel", "cardAt", "(III)I"⟩, 38), (⟨"CardWorkshopModel", "topOf", "(I)I"⟩, 38), (⟨"CardWorkshopModel", "note", "(III)V"⟩, 38), (⟨"CardWorkshopModel", "lies", "(II)Z"⟩, 38), (⟨"CardWorkshopModel", "make", "(II)V"⟩, 38), (⟨"CardWorkshopModel", "behind", "(I)I"⟩, 38), (⟨"CardWorkshopModel", "search", "(I)Z"⟩, 38), (⟨"CardWorkshopModel", "keep", "(I)V"⟩, 38), (⟨"CardWorkshopModel", "give", "(II)V"⟩, 38), (⟨"CardWorkshopModel", "back", "(I)V"⟩, 38)]
theorem lw_r4 : ∀ q ∈ lw_privs_4, lw_okq q := List.forall_mem_cons.mpr ⟨lw_p48, List.forall_mem_cons.mpr ⟨lw_p49, List.forall_mem_cons.mpr ⟨lw_p50, List.forall_mem_cons.mpr ⟨lw_p51, List.forall_mem_cons.mpr ⟨lw_p52, List.forall_mem_cons.mpr ⟨lw_p53, List.forall_mem_cons.mpr ⟨lw_p54, List.forall_mem_cons.mpr ⟨lw_p55, List.forall_mem_cons.mpr ⟨lw_p56, List.forall_mem_cons.mpr ⟨lw_p57, List.forall_mem_cons.mpr ⟨lw_p58, List.forall_mem_cons.mpr ⟨lw_p59, List.forall_mem_cons.mpr ⟨lw_p60, fun _ h => absurd h List.not_mem_nil⟩⟩⟩⟩⟩⟩⟩⟩⟩⟩⟩⟩⟩
def lw_privs : List (MethodName × Nat) := lw_privs_1 ++ (lw_privs_2 ++ (lw_privs_3 ++ (lw_privs_4)))
def lw_tbl : List Cond := k2_sels lw_privs ++ tables_1
theorem lw_privs_ok : ∀ q ∈ lw_privs, lw_okq q := by
  show ∀ q ∈ lw_privs_1 ++ (lw_privs_2 ++ (lw_privs_3 ++ (lw_privs_4))), lw_okq q
  exact List.forall_mem_append.mpr ⟨lw_r1, List.forall_mem_append.mpr ⟨lw_r2, List.forall_mem_append.mpr ⟨lw_r3, lw_r4⟩⟩⟩
end
section
/-! printed by a program of mine (wip/whole/mk02.py): the methods as tables, the shapes of the cells by their numbers -/
abbrev pm_I : Type := Nat × Nat × Nat × Nat × Int32
/-- 0: CardWorkshop.<init>()V -/
def cd0 : List (Nat × pm_I) := [(0, 3, 1, 0, 0, 0), (1, 74, 3, 0, 0, 0), (4, 3, 1, 0, 0, 0), (5, 71, 3, 2, 0, 0), (8, 32, 1, 0, 0, 0), (9, 60, 3, 92, 1, 0), (12, 53, 3, 5, 0, 0), (15, 3, 1, 0, 0, 0), (16, 71, 3, 1, 0, 0), (19, 32, 1, 0, 0, 0), (20, 60, 3, 82, 1, 0), (23, 53, 3, 5, 1, 0), (26, 3, 1, 0, 0, 0), (27, 71, 3, 3, 0, 0), (30, 32, 1, 0, 0, 0), (31, 60, 3, 105, 1, 0), (34, 53, 3, 5, 2, 0), (37, 3, 1, 0, 0, 0), (38, 71, 3, 4, 0, 0), (41, 32, 1, 0, 0, 0), (42, 60, 3, 108, 1, 0), (45, 53, 3, 5, 3, 0), (48, 3, 1, 0, 0, 0), (49, 1, 2, 0, 0, 60), (51, 72, 3, 4, 0, 0), (54, 53, 3, 5, 4, 0), (57, 3, 1, 0, 0, 0), (58, 1, 1, 0, 0, 0), (59, 52, 3, 5, 5, 0), (62, 3, 1, 0, 0, 0), (63, 1, 1, 0, 0, 0), (64, 52, 3, 5, 6, 2), (67, 3, 1, 0, 0, 0), (68, 1, 2, 0, 0, 24), (70, 72, 2, 0, 0, 0), (72, 53, 3, 5, 7, 0), (75, 3, 1, 0, 0, 0), (76, 1, 3, 0, 0, 192), (79, 72, 2, 0, 0, 0), (81, 53, 3, 5, 8, 0), (84, 3, 1, 0, 0, 0), (85, 1, 1, 0, 0, (-1)), (86, 52, 3, 5, 9, 0), (89, 1, 1, 0, 0, 0), (90, 5, 1, 1, 0, 0), (91, 2, 1, 1, 0, 0), (92, 1, 2, 0, 0, 60), (94, 41, 3, 116, 3, 0), (97, 3, 1, 0, 0, 0), (98, 51, 3, 5, 4, 0), (101, 2, 1, 1, 0, 0), (102, 71, 3, 4, 0, 0), (105, 32, 1, 0, 0, 0), (106, 60, 3, 108, 1, 0), (109, 70, 1, 0, 0, 0), (110, 8, 3, 1, 0, 1), (113, 42, 3, 91, 0, 0), (116, 63, 1, 0, 0, 0)]
/-- 1: CardWorkshop.type(J)Z -/
def cd1 : List (Nat × pm_I) := [(0, 1, 1, 0, 0, 0), (1, 5, 1, 3, 0, 0), (2, 1, 2, 0, 0, 56), (4, 5, 2, 4, 0, 0), (6, 2, 2, 4, 0, 0), (8, 40, 3, 59, 2, 0), (11, 4, 1, 1, 0, 0), (12, 2, 2, 4, 0, 0), (14, 60, 3, 2, 2, 0), (17, 5, 2, 5, 0, 0), (19, 2, 2, 5, 0, 0), (21, 40, 3, 40, 0, 0), (24, 2, 2, 5, 0, 0), (26, 1, 2, 0, 0, 33), (28, 41, 3, 38, 2, 0), (31, 2, 2, 5, 0, 0), (33, 1, 2, 0, 0, 126), (35, 41, 3, 40, 5, 0), (38, 1, 1, 0, 0, 0), (39, 64, 1, 2, 0, 0), (40, 2, 1, 3, 0, 0), (41, 2, 2, 5, 0, 0), (43, 40, 3, 50, 1, 0), (46, 1, 1, 0, 0, 0), (47, 42, 3, 51, 0, 0), (50, 1, 1, 0, 0, 1), (51, 9, 1, 0, 0, 0), (52, 5, 1, 3, 0, 0), (53, 8, 3, 4, 0, (-8)), (56, 42, 3, 6, 0, 0), (59, 3, 1, 0, 0, 0), (60, 51, 3, 5, 0, 0), (63, 50, 3, 2, 1, 0), (66, 2, 1, 3, 0, 0), (67, 9, 1, 0, 0, 0), (68, 1, 3, 0, 0, 240), (71, 41, 3, 76, 5, 0), (74, 1, 1, 0, 0, 0), (75, 64, 1, 2, 0, 0), (76, 1, 2, 0, 0, 56), (78, 5, 2, 4, 0, 0), (80, 2, 2, 4, 0, 0), (82, 40, 3, 114, 2, 0), (85, 4, 1, 1, 0, 0), (86, 2, 2, 4, 0, 0), (88, 60, 3, 2, 2, 0), (91, 5, 2, 5, 0, 0), (93, 2, 2, 5, 0, 0), (95, 40, 3, 108, 0, 0), (98, 3, 1, 0, 0, 0), (99, 51, 3, 5, 0, 0), (102, 2, 2, 5, 0, 0), (104, 22, 1, 0, 0, 0), (105, 60, 3, 93, 2, 0), (108, 8, 3, 4, 0, (-8)), (111, 42, 3, 80, 0, 0), (114, 1, 1, 0, 0, 1), (115, 64, 1, 2, 0, 0)]
/-- 2: CardWorkshop.byteOf(JI)I -/
def cd2 : List (Nat × pm_I) := [(0, 4, 1, 0, 0, 0), (1, 2, 1, 2, 0, 0), (2, 24, 1, 0, 0, 0), (3, 21, 1, 0, 0, 0), (4, 1, 3, 0, 0, 255), (7, 14, 1, 0, 0, 0), (8, 64, 1, 0, 0, 0)]
/-- 3: CardWorkshop.wipe()V -/
def cd3 : List (Nat × pm_I) := [(0, 3, 1, 0, 0, 0), (1, 51, 3, 5, 0, 0), (4, 1, 1, 0, 0, 0), (5, 52, 3, 2, 1, 0), (8, 63, 1, 0, 0, 0)]
/-- 4: CardWorkshop.compile()I -/
def cd4 : List (Nat × pm_I) := [(0, 3, 1, 0, 0, 0), (1, 51, 3, 5, 0, 0), (4, 60, 3, 94, 1, 0), (7, 3, 1, 0, 0, 0), (8, 51, 3, 5, 0, 0), (11, 51, 3, 2, 2, 0), (14, 50, 3, 0, 2, 0), (17, 1, 3, 0, 0, 160), (20, 41, 3, 33, 5, 0), (23, 67, 10, 3, 0, 0), (33, 3, 1, 0, 0, 0), (34, 51, 3, 5, 1, 0), (37, 51, 3, 1, 0, 0), (40, 3, 1, 0, 0, 0), (41, 51, 3, 5, 0, 0), (44, 51, 3, 2, 2, 0), (47, 60, 3, 81, 2, 0), (50, 3, 1, 0, 0, 0), (51, 51, 3, 5, 0, 0), (54, 1, 1, 0, 0, 0), (55, 52, 3, 2, 1, 0), (58, 3, 1, 0, 0, 0), (59, 1, 1, 0, 0, 0), (60, 52, 3, 5, 6, 2), (63, 3, 1, 0, 0, 0), (64, 1, 1, 0, 0, 0), (65, 52, 3, 5, 5, 0), (68, 3, 1, 0, 0, 0), (69, 1, 1, 0, 0, (-1)), (70, 52, 3, 5, 9, 0), (73, 3, 1, 0, 0, 0), (74, 51, 3, 5, 1, 0), (77, 51, 3, 1, 0, 0), (80, 50, 3, 0, 2, 0), (83, 64, 1, 0, 0, 0)]
/-- 5: CardWorkshop.code(IZ)I -/
def cd5 : List (Nat × pm_I) := [(0, 2, 1, 1, 0, 0), (1, 40, 3, 18, 2, 0), (4, 2, 1, 1, 0, 0), (5, 3, 1, 0, 0, 0), (6, 51, 3, 5, 1, 0), (9, 51, 3, 1, 0, 0), (12, 50, 3, 0, 2, 0), (15, 41, 3, 28, 2, 0), (18, 67, 10, 2, 0, 0), (28, 2, 1, 2, 0, 0), (29, 40, 3, 47, 0, 0), (32, 3, 1, 0, 0, 0), (33, 51, 3, 5, 1, 0), (36, 51, 3, 1, 0, 0), (39, 51, 3, 0, 1, 0), (42, 2, 1, 1, 0, 0), (43, 54, 1, 0, 0, 0), (44, 42, 3, 59, 0, 0), (47, 3, 1, 0, 0, 0), (48, 51, 3, 5, 1, 0), (51, 51, 3, 1, 0, 0), (54, 51, 3, 0, 0, 0), (57, 2, 1, 1, 0, 0), (58, 54, 1, 0, 0, 0), (59, 64, 1, 0, 0, 0)]
/-- 6: CardWorkshop.deal(II)I -/
def cd6 : List (Nat × pm_I) := [(0, 3, 1, 0, 0, 0), (1, 51, 3, 5, 1, 0), (4, 51, 3, 1, 0, 0), (7, 50, 3, 0, 2, 0), (10, 40, 3, 23, 1, 0), (13, 67, 10, 1, 0, 0), (23, 2, 1, 2, 0, 0), (24, 40, 3, 37, 3, 0), (27, 67, 10, 0, 0, 0), (37, 3, 1, 0, 0, 0), (38, 51, 3, 5, 1, 0), (41, 51, 3, 1, 0, 0), (44, 50, 3, 0, 3, 0), (47, 5, 1, 3, 0, 0), (48, 3, 1, 0, 0, 0), (49, 2, 1, 1, 0, 0), (50, 2, 1, 3, 0, 0), (51, 60, 3, 7, 3, 0), (54, 3, 1, 0, 0, 0), (55, 51, 3, 5, 3, 0), (58, 60, 3, 109, 1, 0), (61, 1, 1, 0, 0, 0), (62, 5, 2, 4, 0, 0), (64, 2, 2, 4, 0, 0), (66, 2, 1, 2, 0, 0), (67, 41, 3, 117, 3, 0), (70, 2, 1, 3, 0, 0), (71, 40, 3, 117, 5, 0), (74, 1, 1, 0, 0, 0), (75, 5, 2, 5, 0, 0), (77, 2, 2, 5, 0, 0), (79, 1, 1, 0, 0, 2), (80, 41, 3, 111, 3, 0), (83, 2, 1, 3, 0, 0), (84, 40, 3, 111, 5, 0), (87, 8, 3, 3, 0, (-1)), (90, 3, 1, 0, 0, 0), (91, 51, 3, 5, 3, 0), (94, 3, 1, 0, 0, 0), (95, 51, 3, 5, 7, 0), (98, 2, 1, 3, 0, 0), (99, 54, 1, 0, 0, 0), (100, 2, 2, 5, 0, 0), (102, 60, 3, 111, 3, 0), (105, 8, 3, 5, 0, 1), (108, 42, 3, 77, 0, 0), (111, 8, 3, 4, 0, 1), (114, 42, 3, 64, 0, 0), (117, 1, 1, 0, 0, 0), (118, 5, 2, 4, 0, 0), (120, 2, 2, 4, 0, 0), (122, 2, 1, 3, 0, 0), (123, 41, 3, 147, 3, 0), (126, 3, 1, 0, 0, 0), (127, 51, 3, 5, 3, 0), (130, 3, 1, 0, 0, 0), (131, 51, 3, 5, 7, 0), (134, 2, 2, 4, 0, 0), (136, 54, 1, 0, 0, 0), (137, 1, 1, 0, 0, 2), (138, 60, 3, 111, 3, 0), (141, 8, 3, 4, 0, 1), (144, 42, 3, 120, 0, 0), (147, 3, 1, 0, 0, 0), (148, 1, 1, 0, 0, 1), (149, 52, 3, 5, 6, 2), (152, 3, 1, 0, 0, 0), (153, 1, 1, 0, 0, 0), (154, 52, 3, 5, 5, 0), (157, 3, 1, 0, 0, 0), (158, 1, 1, 0, 0, (-1)), (159, 52, 3, 5, 9, 0), (162, 2, 1, 3, 0, 0), (163, 64, 1, 0, 0, 0)]
/-- 7: CardWorkshop.shuffle(II)V -/
def cd7 : List (Nat × pm_I) := [(0, 1, 1, 0, 0, 0), (1, 5, 1, 3, 0, 0), (2, 2, 1, 3, 0, 0), (3, 2, 1, 2, 0, 0), (4, 41, 3, 20, 3, 0), (7, 3, 1, 0, 0, 0), (8, 51, 3, 5, 7, 0), (11, 2, 1, 3, 0, 0), (12, 2, 1, 3, 0, 0), (13, 55, 1, 0, 0, 0), (14, 8, 3, 3, 0, 1), (17, 42, 3, 2, 0, 0), (20, 2, 1, 1, 0, 0), (21, 5, 1, 3, 0, 0), (22, 2, 1, 2, 0, 0), (23, 1, 1, 0, 0, 1), (24, 10, 1, 0, 0, 0), (25, 5, 2, 4, 0, 0), (27, 2, 2, 4, 0, 0), (29, 1, 1, 0, 0, 1), (30, 41, 3, 89, 2, 0), (33, 2, 1, 3, 0, 0), (34, 1, 2, 0, 0, 22695477), (36, 11, 1, 0, 0, 0), (37, 1, 1, 0, 0, 1), (38, 9, 1, 0, 0, 0), (39, 5, 1, 3, 0, 0), (40, 2, 1, 3, 0, 0), (41, 1, 2, 0, 0, 16), (43, 18, 1, 0, 0, 0), (44, 2, 2, 4, 0, 0), (46, 1, 1, 0, 0, 1), (47, 9, 1, 0, 0, 0), (48, 13, 1, 0, 0, 0), (49, 5, 2, 5, 0, 0), (51, 3, 1, 0, 0, 0), (52, 51, 3, 5, 7, 0), (55, 2, 2, 4, 0, 0), (57, 54, 1, 0, 0, 0), (58, 5, 2, 6, 0, 0), (60, 3, 1, 0, 0, 0), (61, 51, 3, 5, 7, 0), (64, 2, 2, 4, 0, 0), (66, 3, 1, 0, 0, 0), (67, 51, 3, 5, 7, 0), (70, 2, 2, 5, 0, 0), (72, 54, 1, 0, 0, 0), (73, 55, 1, 0, 0, 0), (74, 3, 1, 0, 0, 0), (75, 51, 3, 5, 7, 0), (78, 2, 2, 5, 0, 0), (80, 2, 2, 6, 0, 0), (82, 55, 1, 0, 0, 0), (83, 8, 3, 4, 0, (-1)), (86, 42, 3, 27, 0, 0), (89, 63, 1, 0, 0, 0)]
/-- 8: CardWorkshop.put(II)Z -/
def cd8 : List (Nat × pm_I) := [(0, 3, 1, 0, 0, 0), (1, 50, 3, 5, 6, 0), (4, 40, 3, 35, 0, 0), (7, 2, 1, 1, 0, 0), (8, 40, 3, 35, 2, 0), (11, 2, 1, 1, 0, 0), (12, 3, 1, 0, 0, 0), (13, 51, 3, 5, 1, 0), (16, 51, 3, 1, 0, 0), (19, 50, 3, 0, 3, 0), (22, 41, 3, 35, 3, 0), (25, 2, 1, 2, 0, 0), (26, 40, 3, 35, 2, 0), (29, 2, 1, 2, 0, 0), (30, 1, 2, 0, 0, 6), (32, 41, 3, 37, 2, 0), (35, 1, 1, 0, 0, 0), (36, 64, 1, 2, 0, 0), (37, 3, 1, 0, 0, 0), (38, 51, 3, 5, 3, 0), (41, 2, 1, 1, 0, 0), (42, 2, 1, 2, 0, 0), (43, 60, 3, 112, 3, 0), (46, 3, 1, 0, 0, 0), (47, 1, 1, 0, 0, (-1)), (48, 52, 3, 5, 9, 0), (51, 1, 1, 0, 0, 1), (52, 64, 1, 2, 0, 0)]
/-- 9: CardWorkshop.moves()I -/
def cd9 : List (Nat × pm_I) := [(0, 3, 1, 0, 0, 0), (1, 50, 3, 5, 6, 0), (4, 40, 3, 25, 0, 0), (7, 3, 1, 0, 0, 0), (8, 51, 3, 5, 1, 0), (11, 3, 1, 0, 0, 0), (12, 51, 3, 5, 3, 0), (15, 3, 1, 0, 0, 0), (16, 51, 3, 5, 8, 0), (19, 60, 3, 83, 3, 0), (22, 42, 3, 26, 0, 0), (25, 1, 1, 0, 0, 0), (26, 64, 1, 0, 0, 0)]
/-- 10: CardWorkshop.move(IZ)I -/
def cd10 : List (Nat × pm_I) := [(0, 3, 1, 0, 0, 0), (1, 2, 1, 1, 0, 0), (2, 60, 3, 11, 2, 0), (5, 5, 1, 3, 0, 0), (6, 2, 1, 2, 0, 0), (7, 40, 3, 17, 0, 0), (10, 2, 1, 3, 0, 0), (11, 60, 3, 13, 1, 0), (14, 42, 3, 21, 0, 0), (17, 2, 1, 3, 0, 0), (18, 60, 3, 12, 1, 0), (21, 64, 1, 0, 0, 0)]
/-- 11: CardWorkshop.findMove(I)I -/
def cd11 : List (Nat × pm_I) := [(0, 2, 1, 1, 0, 0), (1, 40, 3, 12, 2, 0), (4, 2, 1, 1, 0, 0), (5, 3, 1, 0, 0, 0), (6, 60, 3, 9, 1, 0), (9, 41, 3, 22, 2, 0), (12, 67, 10, 2, 0, 0), (22, 3, 1, 0, 0, 0), (23, 51, 3, 5, 8, 0), (26, 2, 1, 1, 0, 0), (27, 54, 1, 0, 0, 0), (28, 64, 1, 0, 0, 0)]
/-- 12: CardWorkshop.ruleOf(I)I -/
def cd12 : List (Nat × pm_I) := [(0, 2, 1, 0, 0, 0), (1, 1, 2, 0, 0, 25), (3, 12, 1, 0, 0, 0), (4, 64, 1, 0, 0, 0)]
/-- 13: CardWorkshop.cardOf(I)I -/
def cd13 : List (Nat × pm_I) := [(0, 2, 1, 0, 0, 0), (1, 1, 2, 0, 0, 25), (3, 13, 1, 0, 0, 0), (4, 1, 1, 0, 0, 1), (5, 10, 1, 0, 0, 0), (6, 64, 1, 0, 0, 0)]
/-- 14: CardWorkshop.act(I)I -/
def cd14 : List (Nat × pm_I) := [(0, 3, 1, 0, 0, 0), (1, 2, 1, 1, 0, 0), (2, 60, 3, 11, 2, 0), (5, 5, 1, 2, 0, 0), (6, 3, 1, 0, 0, 0), (7, 50, 3, 5, 5, 0), (10, 1, 2, 0, 0, 60), (12, 41, 3, 25, 2, 0), (15, 67, 10, 1, 0, 0), (25, 3, 1, 0, 0, 0), (26, 51, 3, 5, 4, 0), (29, 3, 1, 0, 0, 0), (30, 50, 3, 5, 5, 0), (33, 59, 1, 4, 0, 0), (34, 3, 1, 0, 0, 0), (35, 51, 3, 5, 3, 0), (38, 60, 3, 110, 2, 0), (41, 3, 1, 0, 0, 0), (42, 51, 3, 5, 1, 0), (45, 3, 1, 0, 0, 0), (46, 51, 3, 5, 3, 0), (49, 2, 1, 2, 0, 0), (50, 60, 3, 84, 3, 0), (53, 3, 1, 0, 0, 0), (54, 32, 1, 0, 0, 0), (55, 50, 3, 5, 5, 0), (58, 1, 1, 0, 0, 1), (59, 9, 1, 0, 0, 0), (60, 52, 3, 5, 5, 0), (63, 3, 1, 0, 0, 0), (64, 1, 1, 0, 0, (-1)), (65, 52, 3, 5, 9, 0), (68, 3, 1, 0, 0, 0), (69, 50, 3, 5, 5, 0), (72, 64, 1, 0, 0, 0)]
/-- 15: CardWorkshop.undo()Z -/
def cd15 : List (Nat × pm_I) := [(0, 3, 1, 0, 0, 0), (1, 50, 3, 5, 5, 0), (4, 40, 3, 9, 1, 0), (7, 1, 1, 0, 0, 0), (8, 64, 1, 2, 0, 0), (9, 3, 1, 0, 0, 0), (10, 32, 1, 0, 0, 0), (11, 50, 3, 5, 5, 0), (14, 1, 1, 0, 0, 1), (15, 10, 1, 0, 0, 0), (16, 52, 3, 5, 5, 0), (19, 3, 1, 0, 0, 0), (20, 51, 3, 5, 3, 0), (23, 3, 1, 0, 0, 0), (24, 51, 3, 5, 4, 0), (27, 3, 1, 0, 0, 0), (28, 50, 3, 5, 5, 0), (31, 59, 1, 4, 0, 0), (32, 60, 3, 110, 2, 0), (35, 3, 1, 0, 0, 0), (36, 1, 1, 0, 0, (-1)), (37, 52, 3, 5, 9, 0), (40, 1, 1, 0, 0, 1), (41, 64, 1, 2, 0, 0)]
/-- 16: CardWorkshop.card(II)I -/
def cd16 : List (Nat × pm_I) := [(0, 3, 1, 0, 0, 0), (1, 50, 3, 5, 6, 0), (4, 40, 3, 17, 0, 0), (7, 2, 1, 1, 0, 0), (8, 40, 3, 17, 2, 0), (11, 2, 1, 1, 0, 0), (12, 1, 2, 0, 0, 6), (14, 41, 3, 19, 2, 0), (17, 1, 1, 0, 0, (-1)), (18, 64, 1, 0, 0, 0), (19, 2, 1, 2, 0, 0), (20, 1, 1, 0, 0, (-1)), (21, 41, 3, 36, 1, 0), (24, 3, 1, 0, 0, 0), (25, 51, 3, 5, 3, 0), (28, 51, 3, 4, 3, 0), (31, 2, 1, 1, 0, 0), (32, 54, 1, 0, 0, 0), (33, 42, 3, 45, 0, 0), (36, 3, 1, 0, 0, 0), (37, 51, 3, 5, 3, 0), (40, 2, 1, 1, 0, 0), (41, 2, 1, 2, 0, 0), (42, 60, 3, 113, 3, 0), (45, 64, 1, 0, 0, 0)]
/-- 17: CardWorkshop.seen(III)I -/
def cd17 : List (Nat × pm_I) := [(0, 2, 1, 1, 0, 0), (1, 40, 3, 9, 2, 0), (4, 2, 1, 1, 0, 0), (5, 1, 1, 0, 0, 2), (6, 41, 3, 11, 2, 0), (9, 1, 1, 0, 0, (-1)), (10, 64, 1, 0, 0, 0), (11, 2, 1, 2, 0, 0), (12, 1, 1, 0, 0, 2), (13, 41, 3, 23, 0, 0), (16, 2, 1, 2, 0, 0), (17, 1, 1, 0, 0, 1), (18, 2, 1, 1, 0, 0), (19, 10, 1, 0, 0, 0), (20, 41, 3, 27, 1, 0), (23, 1, 1, 0, 0, 1), (24, 42, 3, 28, 0, 0), (27, 1, 1, 0, 0, 0), (28, 5, 2, 4, 0, 0), (30, 2, 2, 4, 0, 0), (32, 40, 3, 44, 0, 0), (35, 2, 1, 3, 0, 0), (36, 1, 1, 0, 0, (-1)), (37, 41, 3, 44, 0, 0), (40, 1, 1, 0, 0, (-1)), (41, 42, 3, 50, 0, 0), (44, 3, 1, 0, 0, 0), (45, 2, 1, 2, 0, 0), (46, 2, 1, 3, 0, 0), (47, 60, 3, 16, 3, 0), (50, 64, 1, 0, 0, 0)]
/-- 18: CardWorkshop.counter(I)I -/
def cd18 : List (Nat × pm_I) := [(0, 2, 1, 1, 0, 0), (1, 40, 3, 10, 2, 0), (4, 2, 1, 1, 0, 0), (5, 1, 2, 0, 0, 6), (7, 41, 3, 20, 2, 0), (10, 67, 10, 2, 0, 0), (20, 3, 1, 0, 0, 0), (21, 50, 3, 5, 6, 0), (24, 40, 3, 29, 1, 0), (27, 1, 1, 0, 0, 0), (28, 64, 1, 0, 0, 0), (29, 2, 1, 1, 0, 0), (30, 1, 1, 0, 0, 4), (31, 41, 3, 46, 3, 0), (34, 3, 1, 0, 0, 0), (35, 51, 3, 5, 3, 0), (38, 51, 3, 4, 4, 0), (41, 2, 1, 1, 0, 0), (42, 54, 1, 0, 0, 0), (43, 42, 3, 57, 0, 0), (46, 3, 1, 0, 0, 0), (47, 51, 3, 5, 3, 0), (50, 51, 3, 4, 5, 0), (53, 2, 1, 1, 0, 0), (54, 1, 1, 0, 0, 4), (55, 10, 1, 0, 0, 0), (56, 54, 1, 0, 0, 0), (57, 64, 1, 0, 0, 0)]
/-- 19: CardWorkshop.look(I)I -/
def cd19 : List (Nat × pm_I) := [(0, 2, 1, 1, 0, 0), (1, 43, 47, 0, 150, 0), (48, 3, 1, 0, 0, 0), (49, 51, 3, 5, 0, 0), (52, 50, 3, 2, 1, 0), (55, 64, 1, 0, 0, 0), (56, 3, 1, 0, 0, 0), (57, 51, 3, 5, 1, 0), (60, 51, 3, 1, 0, 0), (63, 50, 3, 0, 2, 0), (66, 64, 1, 0, 0, 0), (67, 3, 1, 0, 0, 0), (68, 51, 3, 5, 1, 0), (71, 51, 3, 1, 0, 0), (74, 50, 3, 0, 3, 0), (77, 64, 1, 0, 0, 0), (78, 3, 1, 0, 0, 0), (79, 51, 3, 5, 1, 0), (82, 51, 3, 1, 0, 0), (85, 50, 3, 0, 5, 0), (88, 64, 1, 0, 0, 0), (89, 3, 1, 0, 0, 0), (90, 50, 3, 5, 6, 0), (93, 40, 3, 100, 0, 0), (96, 1, 1, 0, 0, 1), (97, 42, 3, 101, 0, 0), (100, 1, 1, 0, 0, 0), (101, 64, 1, 0, 0, 0), (102, 3, 1, 0, 0, 0), (103, 50, 3, 5, 6, 0), (106, 40, 3, 119, 0, 0), (109, 3, 1, 0, 0, 0), (110, 51, 3, 5, 3, 0), (113, 50, 3, 4, 6, 0), (116, 42, 3, 120, 0, 0), (119, 1, 1, 0, 0, (-1)), (120, 64, 1, 0, 0, 0), (121, 3, 1, 0, 0, 0), (122, 50, 3, 5, 6, 0), (125, 40, 3, 143, 0, 0), (128, 3, 1, 0, 0, 0), (129, 60, 3, 9, 1, 0), (132, 40, 3, 139, 1, 0), (135, 1, 1, 0, 0, 1), (136, 42, 3, 144, 0, 0), (139, 1, 1, 0, 0, 0), (140, 42, 3, 144, 0, 0), (143, 1, 1, 0, 0, (-1)), (144, 64, 1, 0, 0, 0), (145, 3, 1, 0, 0, 0), (146, 50, 3, 5, 5, 0), (149, 64, 1, 0, 0, 0), (150, 1, 1, 0, 0, (-1)), (151, 64, 1, 0, 0, 0)]
/-- 20: CardWorkshop.solve(I)I -/
def cd20 : List (Nat × pm_I) := [(0, 3, 1, 0, 0, 0), (1, 50, 3, 5, 6, 0), (4, 40, 3, 17, 1, 0), (7, 67, 10, 1, 0, 0), (17, 2, 1, 1, 0, 0), (18, 1, 1, 0, 0, 1), (19, 41, 3, 29, 2, 0), (22, 2, 1, 1, 0, 0), (23, 1, 3, 0, 0, 2000), (26, 41, 3, 39, 5, 0), (29, 67, 10, 0, 0, 0), (39, 3, 1, 0, 0, 0), (40, 51, 3, 5, 2, 0), (43, 3, 1, 0, 0, 0), (44, 51, 3, 5, 1, 0), (47, 3, 1, 0, 0, 0), (48, 51, 3, 5, 3, 0), (51, 2, 1, 1, 0, 0), (52, 60, 3, 106, 4, 0), (55, 5, 1, 2, 0, 0), (56, 3, 1, 0, 0, 0), (57, 3, 1, 0, 0, 0), (58, 51, 3, 5, 2, 0), (61, 50, 3, 3, 3, 0), (64, 52, 3, 5, 9, 0), (67, 2, 1, 2, 0, 0), (68, 64, 1, 0, 0, 0)]
/-- 21: CardWorkshop.best()I -/
def cd21 : List (Nat × pm_I) := [(0, 3, 1, 0, 0, 0), (1, 50, 3, 5, 9, 0), (4, 64, 1, 0, 0, 0)]
/-- 22: CardWorkshopModel.<init>()V -/
def cd22 : List (Nat × pm_I) := [(0, 3, 1, 0, 0, 0), (1, 74, 3, 0, 0, 0), (4, 3, 1, 0, 0, 0), (5, 1, 3, 0, 0, 240), (8, 72, 2, 0, 0, 0), (10, 53, 3, 6, 2, 0), (13, 3, 1, 0, 0, 0), (14, 1, 3, 0, 0, 500), (17, 72, 2, 0, 0, 0), (19, 53, 3, 6, 6, 0), (22, 3, 1, 0, 0, 0), (23, 1, 3, 0, 0, 500), (26, 72, 2, 0, 0, 0), (28, 53, 3, 6, 7, 0), (31, 3, 1, 0, 0, 0), (32, 1, 3, 0, 0, 250), (35, 72, 2, 0, 0, 0), (37, 53, 3, 6, 9, 0), (40, 3, 1, 0, 0, 0), (41, 1, 2, 0, 0, 8), (43, 72, 2, 2, 0, 0), (45, 53, 3, 6, 11, 0), (48, 3, 1, 0, 0, 0), (49, 1, 2, 0, 0, 8), (51, 72, 2, 0, 0, 0), (53, 53, 3, 6, 12, 0), (56, 3, 1, 0, 0, 0), (57, 1, 2, 0, 0, 8), (59, 72, 2, 2, 0, 0), (61, 53, 3, 6, 18, 0), (64, 3, 1, 0, 0, 0), (65, 1, 2, 0, 0, 8), (67, 72, 2, 0, 0, 0), (69, 53, 3, 6, 19, 0), (72, 3, 1, 0, 0, 0), (73, 1, 3, 0, 0, 160), (76, 72, 2, 0, 0, 0), (78, 53, 3, 6, 22, 0), (81, 3, 1, 0, 0, 0), (82, 1, 3, 0, 0, 160), (85, 72, 2, 0, 0, 0), (87, 53, 3, 6, 23, 0), (90, 3, 1, 0, 0, 0), (91, 1, 3, 0, 0, 157), (94, 72, 2, 0, 0, 0), (96, 53, 3, 6, 25, 0), (99, 3, 1, 0, 0, 0), (100, 1, 3, 0, 0, 9420), (103, 72, 2, 0, 0, 0), (105, 53, 3, 6, 27, 0), (108, 3, 1, 0, 0, 0), (109, 1, 3, 0, 0, 250), (112, 72, 2, 0, 0, 0), (114, 53, 3, 6, 28, 0), (117, 3, 1, 0, 0, 0), (118, 1, 2, 0, 0, 11), (120, 72, 2, 0, 0, 0), (122, 53, 3, 6, 30, 0), (125, 3, 1, 0, 0, 0), (126, 1, 3, 0, 0, 2200), (129, 72, 2, 0, 0, 0), (131, 53, 3, 6, 31, 0), (134, 3, 1, 0, 0, 0), (135, 1, 3, 0, 0, 2200), (138, 72, 2, 0, 0, 0), (140, 53, 3, 6, 32, 0), (143, 3, 1, 0, 0, 0), (144, 1, 2, 0, 0, 11), (146, 72, 2, 0, 0, 0), (148, 53, 3, 6, 33, 0), (151, 3, 1, 0, 0, 0), (152, 1, 2, 0, 0, 11), (154, 72, 2, 0, 0, 0), (156, 53, 3, 6, 34, 0), (159, 3, 1, 0, 0, 0), (160, 1, 2, 0, 0, 11), (162, 72, 2, 0, 0, 0), (164, 53, 3, 6, 35, 0), (167, 3, 1, 0, 0, 0), (168, 1, 3, 0, 0, 1727), (171, 72, 2, 0, 0, 0), (173, 53, 3, 6, 36, 0), (176, 3, 1, 0, 0, 0), (177, 1, 1, 0, 0, (-1)), (178, 52, 3, 6, 37, 0), (181, 63, 1, 0, 0, 0)]
/-- 23: CardWorkshopModel.thrown()I -/
def cd23 : List (Nat × pm_I) := [(0, 3, 1, 0, 0, 0), (1, 50, 3, 6, 0, 0), (4, 64, 1, 0, 0, 0)]
/-- 24: CardWorkshopModel.type(J)Z -/
def cd24 : List (Nat × pm_I) := [(0, 3, 1, 0, 0, 0), (1, 1, 1, 0, 0, 0), (2, 52, 3, 6, 0, 0), (5, 1, 1, 0, 0, 0), (6, 5, 1, 3, 0, 0), (7, 1, 1, 0, 0, 1), (8, 5, 2, 4, 0, 0), (10, 1, 2, 0, 0, 7), (12, 5, 2, 5, 0, 0), (14, 2, 2, 5, 0, 0), (16, 40, 3, 83, 2, 0), (19, 4, 1, 1, 0, 0), (20, 1, 2, 0, 0, 8), (22, 2, 2, 5, 0, 0), (24, 11, 1, 0, 0, 0), (25, 28, 1, 0, 0, 0), (26, 29, 3, 0, 0, 255), (29, 25, 1, 0, 0, 0), (30, 21, 1, 0, 0, 0), (31, 5, 2, 6, 0, 0), (33, 2, 2, 4, 0, 0), (35, 40, 3, 61, 0, 0), (38, 2, 2, 6, 0, 0), (40, 40, 3, 57, 0, 0), (43, 2, 2, 6, 0, 0), (45, 1, 2, 0, 0, 33), (47, 41, 3, 61, 2, 0), (50, 2, 2, 6, 0, 0), (52, 1, 2, 0, 0, 126), (54, 41, 3, 61, 4, 0), (57, 1, 1, 0, 0, 1), (58, 42, 3, 62, 0, 0), (61, 1, 1, 0, 0, 0), (62, 5, 2, 4, 0, 0), (64, 2, 1, 3, 0, 0), (65, 2, 2, 6, 0, 0), (67, 40, 3, 74, 1, 0), (70, 1, 1, 0, 0, 0), (71, 42, 3, 75, 0, 0), (74, 1, 1, 0, 0, 1), (75, 9, 1, 0, 0, 0), (76, 5, 1, 3, 0, 0), (77, 8, 3, 5, 0, (-1)), (80, 42, 3, 14, 0, 0), (83, 2, 2, 4, 0, 0), (85, 40, 3, 100, 0, 0), (88, 3, 1, 0, 0, 0), (89, 50, 3, 6, 1, 0), (92, 2, 1, 3, 0, 0), (93, 9, 1, 0, 0, 0), (94, 1, 3, 0, 0, 240), (97, 41, 3, 102, 5, 0), (100, 1, 1, 0, 0, 0), (101, 64, 1, 2, 0, 0), (102, 1, 2, 0, 0, 7), (104, 5, 2, 5, 0, 0), (106, 2, 2, 5, 0, 0), (108, 40, 3, 157, 2, 0), (111, 4, 1, 1, 0, 0), (112, 1, 2, 0, 0, 8), (114, 2, 2, 5, 0, 0), (116, 11, 1, 0, 0, 0), (117, 28, 1, 0, 0, 0), (118, 29, 3, 0, 0, 255), (121, 25, 1, 0, 0, 0), (122, 21, 1, 0, 0, 0), (123, 5, 2, 6, 0, 0), (125, 2, 2, 6, 0, 0), (127, 40, 3, 151, 0, 0), (130, 3, 1, 0, 0, 0), (131, 51, 3, 6, 2, 0), (134, 3, 1, 0, 0, 0), (135, 50, 3, 6, 1, 0), (138, 2, 2, 6, 0, 0), (140, 55, 1, 0, 0, 0), (141, 3, 1, 0, 0, 0), (142, 32, 1, 0, 0, 0), (143, 50, 3, 6, 1, 0), (146, 1, 1, 0, 0, 1), (147, 9, 1, 0, 0, 0), (148, 52, 3, 6, 1, 0), (151, 8, 3, 5, 0, (-1)), (154, 42, 3, 106, 0, 0), (157, 1, 1, 0, 0, 1), (158, 64, 1, 2, 0, 0)]
/-- 25: CardWorkshopModel.wipe()V -/
def cd25 : List (Nat × pm_I) := [(0, 3, 1, 0, 0, 0), (1, 1, 1, 0, 0, 0), (2, 52, 3, 6, 0, 0), (5, 3, 1, 0, 0, 0), (6, 1, 1, 0, 0, 0), (7, 52, 3, 6, 1, 0), (10, 63, 1, 0, 0, 0)]
/-- 26: CardWorkshopModel.peek()I -/
def cd26 : List (Nat × pm_I) := [(0, 3, 1, 0, 0, 0), (1, 50, 3, 6, 3, 0), (4, 3, 1, 0, 0, 0), (5, 50, 3, 6, 1, 0), (8, 41, 3, 23, 3, 0), (11, 3, 1, 0, 0, 0), (12, 51, 3, 6, 2, 0), (15, 3, 1, 0, 0, 0), (16, 50, 3, 6, 3, 0), (19, 54, 1, 0, 0, 0), (20, 42, 3, 24, 0, 0), (23, 1, 1, 0, 0, 0), (24, 64, 1, 0, 0, 0)]
/-- 27: CardWorkshopModel.eat(I)Z -/
def cd27 : List (Nat × pm_I) := [(0, 3, 1, 0, 0, 0), (1, 60, 3, 26, 1, 0), (4, 2, 1, 1, 0, 0), (5, 41, 3, 12, 1, 0), (8, 1, 1, 0, 0, 1), (9, 42, 3, 13, 0, 0), (12, 1, 1, 0, 0, 0), (13, 5, 1, 2, 0, 0), (14, 3, 1, 0, 0, 0), (15, 32, 1, 0, 0, 0), (16, 50, 3, 6, 3, 0), (19, 2, 1, 2, 0, 0), (20, 40, 3, 27, 0, 0), (23, 1, 1, 0, 0, 1), (24, 42, 3, 28, 0, 0), (27, 1, 1, 0, 0, 0), (28, 9, 1, 0, 0, 0), (29, 52, 3, 6, 3, 0), (32, 2, 1, 2, 0, 0), (33, 64, 1, 2, 0, 0)]
/-- 28: CardWorkshopModel.need(I)V -/
def cd28 : List (Nat × pm_I) := [(0, 3, 1, 0, 0, 0), (1, 3, 1, 0, 0, 0), (2, 2, 1, 1, 0, 0), (3, 60, 3, 27, 2, 0), (6, 40, 3, 16, 0, 0), (9, 3, 1, 0, 0, 0), (10, 50, 3, 6, 4, 0), (13, 40, 3, 20, 0, 0), (16, 1, 1, 0, 0, 1), (17, 42, 3, 21, 0, 0), (20, 1, 1, 0, 0, 0), (21, 52, 3, 6, 4, 2), (24, 63, 1, 0, 0, 0)]
/-- 29: CardWorkshopModel.emit(II)V -/
def cd29 : List (Nat × pm_I) := [(0, 3, 1, 0, 0, 0), (1, 51, 3, 6, 6, 0), (4, 3, 1, 0, 0, 0), (5, 50, 3, 6, 5, 0), (8, 2, 1, 1, 0, 0), (9, 55, 1, 0, 0, 0), (10, 3, 1, 0, 0, 0), (11, 51, 3, 6, 7, 0), (14, 3, 1, 0, 0, 0), (15, 50, 3, 6, 5, 0), (18, 2, 1, 2, 0, 0), (19, 55, 1, 0, 0, 0), (20, 3, 1, 0, 0, 0), (21, 32, 1, 0, 0, 0), (22, 50, 3, 6, 5, 0), (25, 1, 1, 0, 0, 1), (26, 9, 1, 0, 0, 0), (27, 52, 3, 6, 5, 0), (30, 63, 1, 0, 0, 0)]
/-- 30: CardWorkshopModel.among(IIIIIII)I -/
def cd30 : List (Nat × pm_I) := [(0, 2, 1, 0, 0, 0), (1, 2, 1, 1, 0, 0), (2, 41, 3, 9, 1, 0), (5, 1, 1, 0, 0, 0), (6, 42, 3, 58, 0, 0), (9, 2, 1, 0, 0, 0), (10, 2, 1, 2, 0, 0), (11, 41, 3, 18, 1, 0), (14, 1, 1, 0, 0, 1), (15, 42, 3, 58, 0, 0), (18, 2, 1, 0, 0, 0), (19, 2, 1, 3, 0, 0), (20, 41, 3, 27, 1, 0), (23, 1, 1, 0, 0, 2), (24, 42, 3, 58, 0, 0), (27, 2, 1, 0, 0, 0), (28, 2, 2, 4, 0, 0), (30, 41, 3, 37, 1, 0), (33, 1, 1, 0, 0, 3), (34, 42, 3, 58, 0, 0), (37, 2, 1, 0, 0, 0), (38, 2, 2, 5, 0, 0), (40, 41, 3, 47, 1, 0), (43, 1, 1, 0, 0, 4), (44, 42, 3, 58, 0, 0), (47, 2, 1, 0, 0, 0), (48, 2, 2, 6, 0, 0), (50, 41, 3, 57, 1, 0), (53, 1, 1, 0, 0, 5), (54, 42, 3, 58, 0, 0), (57, 1, 1, 0, 0, (-1)), (58, 64, 1, 0, 0, 0)]
/-- 31: CardWorkshopModel.zone()I -/
def cd31 : List (Nat × pm_I) := [(0, 3, 1, 0, 0, 0), (1, 60, 3, 26, 1, 0), (4, 1, 2, 0, 0, 104), (6, 1, 2, 0, 0, 103), (8, 1, 2, 0, 0, 115), (10, 1, 2, 0, 0, 116), (12, 1, 2, 0, 0, 112), (14, 1, 2, 0, 0, 113), (16, 60, 3, 30, 7, 0), (19, 5, 1, 1, 0, 0), (20, 3, 1, 0, 0, 0), (21, 32, 1, 0, 0, 0), (22, 50, 3, 6, 3, 0), (25, 2, 1, 1, 0, 0), (26, 40, 3, 33, 2, 0), (29, 1, 1, 0, 0, 1), (30, 42, 3, 34, 0, 0), (33, 1, 1, 0, 0, 0), (34, 9, 1, 0, 0, 0), (35, 52, 3, 6, 3, 0), (38, 3, 1, 0, 0, 0), (39, 3, 1, 0, 0, 0), (40, 50, 3, 6, 4, 0), (43, 40, 3, 50, 1, 0), (46, 2, 1, 1, 0, 0), (47, 40, 3, 54, 3, 0), (50, 1, 1, 0, 0, 1), (51, 42, 3, 55, 0, 0), (54, 1, 1, 0, 0, 0), (55, 52, 3, 6, 4, 2), (58, 2, 1, 1, 0, 0), (59, 64, 1, 0, 0, 0)]
/-- 32: CardWorkshopModel.cardZone(Z)I -/
def cd32 : List (Nat × pm_I) := [(0, 3, 1, 0, 0, 0), (1, 60, 3, 26, 1, 0), (4, 1, 2, 0, 0, 99), (6, 41, 3, 42, 1, 0), (9, 3, 1, 0, 0, 0), (10, 3, 1, 0, 0, 0), (11, 50, 3, 6, 4, 0), (14, 40, 3, 21, 1, 0), (17, 2, 1, 1, 0, 0), (18, 40, 3, 25, 1, 0), (21, 1, 1, 0, 0, 1), (22, 42, 3, 26, 0, 0), (25, 1, 1, 0, 0, 0), (26, 52, 3, 6, 4, 2), (29, 3, 1, 0, 0, 0), (30, 32, 1, 0, 0, 0), (31, 50, 3, 6, 3, 0), (34, 1, 1, 0, 0, 1), (35, 9, 1, 0, 0, 0), (36, 52, 3, 6, 3, 0), (39, 1, 2, 0, 0, 6), (41, 64, 1, 0, 0, 0), (42, 3, 1, 0, 0, 0), (43, 60, 3, 31, 1, 0), (46, 64, 1, 0, 0, 0)]
/-- 33: CardWorkshopModel.counterOf(I)I -/
def cd33 : List (Nat × pm_I) := [(0, 2, 1, 0, 0, 0), (1, 1, 2, 0, 0, 119), (3, 1, 2, 0, 0, 120), (5, 1, 2, 0, 0, 121), (7, 1, 2, 0, 0, 122), (9, 1, 2, 0, 0, 119), (11, 1, 2, 0, 0, 119), (13, 60, 3, 30, 7, 0), (16, 64, 1, 0, 0, 0)]
/-- 34: CardWorkshopModel.isDigit(I)Z -/
def cd34 : List (Nat × pm_I) := [(0, 2, 1, 0, 0, 0), (1, 1, 2, 0, 0, 48), (3, 41, 3, 16, 2, 0), (6, 2, 1, 0, 0, 0), (7, 1, 2, 0, 0, 57), (9, 41, 3, 16, 4, 0), (12, 1, 1, 0, 0, 1), (13, 42, 3, 17, 0, 0), (16, 1, 1, 0, 0, 0), (17, 64, 1, 2, 0, 0)]
/-- 35: CardWorkshopModel.number()V -/
def cd35 : List (Nat × pm_I) := [(0, 1, 1, 0, 0, 0), (1, 5, 1, 1, 0, 0), (2, 1, 1, 0, 0, 0), (3, 5, 1, 2, 0, 0), (4, 3, 1, 0, 0, 0), (5, 60, 3, 26, 1, 0), (8, 60, 3, 34, 1, 0), (11, 40, 3, 52, 0, 0), (14, 2, 1, 2, 0, 0), (15, 1, 1, 0, 0, 3), (16, 41, 3, 34, 3, 0), (19, 1, 2, 0, 0, 10), (21, 2, 1, 1, 0, 0), (22, 11, 1, 0, 0, 0), (23, 3, 1, 0, 0, 0), (24, 60, 3, 26, 1, 0), (27, 9, 1, 0, 0, 0), (28, 1, 2, 0, 0, 48), (30, 10, 1, 0, 0, 0), (31, 42, 3, 35, 0, 0), (34, 2, 1, 1, 0, 0), (35, 5, 1, 1, 0, 0), (36, 8, 3, 2, 0, 1), (39, 3, 1, 0, 0, 0), (40, 32, 1, 0, 0, 0), (41, 50, 3, 6, 3, 0), (44, 1, 1, 0, 0, 1), (45, 9, 1, 0, 0, 0), (46, 52, 3, 6, 3, 0), (49, 42, 3, 4, 0, 0), (52, 3, 1, 0, 0, 0), (53, 3, 1, 0, 0, 0), (54, 50, 3, 6, 4, 0), (57, 40, 3, 65, 1, 0), (60, 2, 1, 2, 0, 0), (61, 1, 1, 0, 0, 3), (62, 41, 3, 69, 5, 0), (65, 1, 1, 0, 0, 1), (66, 42, 3, 70, 0, 0), (69, 1, 1, 0, 0, 0), (70, 52, 3, 6, 4, 2), (73, 3, 1, 0, 0, 0), (74, 1, 1, 0, 0, 0), (75, 2, 1, 1, 0, 0), (76, 60, 3, 29, 3, 0), (79, 63, 1, 0, 0, 0)]
/-- 36: CardWorkshopModel.plain(Z)Z -/
def cd36 : List (Nat × pm_I) := [(0, 3, 1, 0, 0, 0), (1, 60, 3, 26, 1, 0), (4, 5, 1, 2, 0, 0), (5, 2, 1, 2, 0, 0), (6, 60, 3, 34, 1, 0), (9, 40, 3, 18, 0, 0), (12, 3, 1, 0, 0, 0), (13, 60, 3, 35, 1, 0), (16, 1, 1, 0, 0, 1), (17, 64, 1, 2, 0, 0), (18, 2, 1, 2, 0, 0), (19, 60, 3, 33, 1, 0), (22, 40, 3, 46, 2, 0), (25, 3, 1, 0, 0, 0), (26, 1, 1, 0, 0, 1), (27, 2, 1, 2, 0, 0), (28, 60, 3, 33, 1, 0), (31, 60, 3, 29, 3, 0), (34, 3, 1, 0, 0, 0), (35, 32, 1, 0, 0, 0), (36, 50, 3, 6, 3, 0), (39, 1, 1, 0, 0, 1), (40, 9, 1, 0, 0, 0), (41, 52, 3, 6, 3, 0), (44, 1, 1, 0, 0, 1), (45, 64, 1, 2, 0, 0), (46, 2, 1, 2, 0, 0), (47, 1, 2, 0, 0, 35), (49, 41, 3, 73, 1, 0), (52, 3, 1, 0, 0, 0), (53, 32, 1, 0, 0, 0), (54, 50, 3, 6, 3, 0), (57, 1, 1, 0, 0, 1), (58, 9, 1, 0, 0, 0), (59, 52, 3, 6, 3, 0), (62, 3, 1, 0, 0, 0), (63, 1, 1, 0, 0, 2), (64, 3, 1, 0, 0, 0), (65, 60, 3, 31, 1, 0), (68, 60, 3, 29, 3, 0), (71, 1, 1, 0, 0, 1), (72, 64, 1, 2, 0, 0), (73, 2, 1, 2, 0, 0), (74, 1, 2, 0, 0, 114), (76, 41, 3, 85, 0, 0), (79, 2, 1, 2, 0, 0), (80, 1, 2, 0, 0, 117), (82, 41, 3, 117, 1, 0), (85, 3, 1, 0, 0, 0), (86, 32, 1, 0, 0, 0), (87, 50, 3, 6, 3, 0), (90, 1, 1, 0, 0, 1), (91, 9, 1, 0, 0, 0), (92, 52, 3, 6, 3, 0), (95, 3, 1, 0, 0, 0), (96, 2, 1, 2, 0, 0), (97, 1, 2, 0, 0, 114), (99, 41, 3, 106, 1, 0), (102, 1, 1, 0, 0, 3), (103, 42, 3, 107, 0, 0), (106, 1, 1, 0, 0, 4), (107, 3, 1, 0, 0, 0), (108, 2, 1, 1, 0, 0), (109, 60, 3, 32, 2, 0), (112, 60, 3, 29, 3, 0), (115, 1, 1, 0, 0, 1), (116, 64, 1, 2, 0, 0), (117, 1, 1, 0, 0, 0), (118, 64, 1, 2, 0, 0)]
/-- 37: CardWorkshopModel.operator(I)I -/
def cd37 : List (Nat × pm_I) := [(0, 2, 1, 0, 0, 0), (1, 1, 2, 0, 0, 43), (3, 41, 3, 10, 1, 0), (6, 1, 1, 0, 0, 5), (7, 42, 3, 77, 0, 0), (10, 2, 1, 0, 0, 0), (11, 1, 2, 0, 0, 45), (13, 41, 3, 21, 1, 0), (16, 1, 2, 0, 0, 6), (18, 42, 3, 77, 0, 0), (21, 2, 1, 0, 0, 0), (22, 1, 2, 0, 0, 42), (24, 41, 3, 32, 1, 0), (27, 1, 2, 0, 0, 7), (29, 42, 3, 77, 0, 0), (32, 2, 1, 0, 0, 0), (33, 1, 2, 0, 0, 60), (35, 41, 3, 43, 1, 0), (38, 1, 2, 0, 0, 8), (40, 42, 3, 77, 0, 0), (43, 2, 1, 0, 0, 0), (44, 1, 2, 0, 0, 61), (46, 41, 3, 54, 1, 0), (49, 1, 2, 0, 0, 9), (51, 42, 3, 77, 0, 0), (54, 2, 1, 0, 0, 0), (55, 1, 2, 0, 0, 38), (57, 41, 3, 65, 1, 0), (60, 1, 2, 0, 0, 10), (62, 42, 3, 77, 0, 0), (65, 2, 1, 0, 0, 0), (66, 1, 2, 0, 0, 124), (68, 41, 3, 76, 1, 0), (71, 1, 2, 0, 0, 11), (73, 42, 3, 77, 0, 0), (76, 1, 1, 0, 0, (-1)), (77, 64, 1, 0, 0, 0)]
/-- 38: CardWorkshopModel.strength(I)I -/
def cd38 : List (Nat × pm_I) := [(0, 2, 1, 0, 0, 0), (1, 1, 2, 0, 0, 12), (3, 41, 3, 11, 1, 0), (6, 1, 2, 0, 0, 6), (8, 42, 3, 73, 0, 0), (11, 2, 1, 0, 0, 0), (12, 1, 2, 0, 0, 7), (14, 41, 3, 21, 1, 0), (17, 1, 1, 0, 0, 5), (18, 42, 3, 73, 0, 0), (21, 2, 1, 0, 0, 0), (22, 1, 1, 0, 0, 5), (23, 41, 3, 32, 0, 0), (26, 2, 1, 0, 0, 0), (27, 1, 2, 0, 0, 6), (29, 41, 3, 36, 1, 0), (32, 1, 1, 0, 0, 4), (33, 42, 3, 73, 0, 0), (36, 2, 1, 0, 0, 0), (37, 1, 2, 0, 0, 8), (39, 41, 3, 48, 0, 0), (42, 2, 1, 0, 0, 0), (43, 1, 2, 0, 0, 9), (45, 41, 3, 52, 1, 0), (48, 1, 1, 0, 0, 3), (49, 42, 3, 73, 0, 0), (52, 2, 1, 0, 0, 0), (53, 1, 2, 0, 0, 10), (55, 41, 3, 62, 1, 0), (58, 1, 1, 0, 0, 2), (59, 42, 3, 73, 0, 0), (62, 2, 1, 0, 0, 0), (63, 1, 2, 0, 0, 11), (65, 41, 3, 72, 1, 0), (68, 1, 1, 0, 0, 1), (69, 42, 3, 73, 0, 0), (72, 1, 1, 0, 0, 0), (73, 64, 1, 0, 0, 0)]
/-- 39: CardWorkshopModel.top()I -/
def cd39 : List (Nat × pm_I) := [(0, 3, 1, 0, 0, 0), (1, 50, 3, 6, 8, 0), (4, 40, 3, 21, 5, 0), (7, 3, 1, 0, 0, 0), (8, 51, 3, 6, 9, 0), (11, 3, 1, 0, 0, 0), (12, 50, 3, 6, 8, 0), (15, 1, 1, 0, 0, 1), (16, 10, 1, 0, 0, 0), (17, 54, 1, 0, 0, 0), (18, 42, 3, 23, 0, 0), (21, 1, 2, 0, 0, 99), (23, 64, 1, 0, 0, 0)]
/-- 40: CardWorkshopModel.release(I)V -/
def cd40 : List (Nat × pm_I) := [(0, 3, 1, 0, 0, 0), (1, 60, 3, 39, 1, 0), (4, 60, 3, 38, 1, 0), (7, 2, 1, 1, 0, 0), (8, 41, 3, 33, 2, 0), (11, 3, 1, 0, 0, 0), (12, 3, 1, 0, 0, 0), (13, 60, 3, 39, 1, 0), (16, 1, 1, 0, 0, 0), (17, 60, 3, 29, 3, 0), (20, 3, 1, 0, 0, 0), (21, 32, 1, 0, 0, 0), (22, 50, 3, 6, 8, 0), (25, 1, 1, 0, 0, 1), (26, 10, 1, 0, 0, 0), (27, 52, 3, 6, 8, 0), (30, 42, 3, 0, 0, 0), (33, 63, 1, 0, 0, 0)]
/-- 41: CardWorkshopModel.operand(IZ)I -/
def cd41 : List (Nat × pm_I) := [(0, 2, 1, 1, 0, 0), (1, 5, 1, 3, 0, 0), (2, 1, 1, 0, 0, 0), (3, 5, 2, 4, 0, 0), (5, 3, 1, 0, 0, 0), (6, 50, 3, 6, 4, 0), (9, 40, 3, 138, 1, 0), (12, 3, 1, 0, 0, 0), (13, 60, 3, 26, 1, 0), (16, 1, 2, 0, 0, 33), (18, 41, 3, 30, 0, 0), (21, 3, 1, 0, 0, 0), (22, 60, 3, 26, 1, 0), (25, 1, 2, 0, 0, 40), (27, 41, 3, 138, 1, 0), (30, 3, 1, 0, 0, 0), (31, 60, 3, 26, 1, 0), (34, 1, 2, 0, 0, 33), (36, 41, 3, 43, 1, 0), (39, 1, 1, 0, 0, 1), (40, 42, 3, 44, 0, 0), (43, 1, 1, 0, 0, 0), (44, 5, 2, 5, 0, 0), (46, 2, 2, 5, 0, 0), (48, 40, 3, 58, 0, 0), (51, 2, 2, 4, 0, 0), (53, 1, 1, 0, 0, 1), (54, 9, 1, 0, 0, 0), (55, 42, 3, 59, 0, 0), (58, 1, 1, 0, 0, 0), (59, 5, 2, 4, 0, 0), (61, 2, 1, 3, 0, 0), (62, 2, 2, 5, 0, 0), (64, 40, 3, 71, 0, 0), (67, 1, 1, 0, 0, 0), (68, 42, 3, 72, 0, 0), (71, 1, 1, 0, 0, 1), (72, 9, 1, 0, 0, 0), (73, 5, 1, 3, 0, 0), (74, 3, 1, 0, 0, 0), (75, 2, 2, 4, 0, 0), (77, 1, 1, 0, 0, 4), (78, 41, 3, 86, 4, 0), (81, 2, 1, 3, 0, 0), (82, 1, 1, 0, 0, 4), (83, 41, 3, 90, 5, 0), (86, 1, 1, 0, 0, 1), (87, 42, 3, 91, 0, 0), (90, 1, 1, 0, 0, 0), (91, 52, 3, 6, 4, 2), (94, 3, 1, 0, 0, 0), (95, 51, 3, 6, 9, 0), (98, 3, 1, 0, 0, 0), (99, 50, 3, 6, 8, 0), (102, 2, 2, 5, 0, 0), (104, 40, 3, 112, 0, 0), (107, 1, 2, 0, 0, 12), (109, 42, 3, 114, 0, 0), (112, 1, 2, 0, 0, 99), (114, 55, 1, 0, 0, 0), (115, 3, 1, 0, 0, 0), (116, 32, 1, 0, 0, 0), (117, 50, 3, 6, 8, 0), (120, 1, 1, 0, 0, 1), (121, 9, 1, 0, 0, 0), (122, 52, 3, 6, 8, 0), (125, 3, 1, 0, 0, 0), (126, 32, 1, 0, 0, 0), (127, 50, 3, 6, 3, 0), (130, 1, 1, 0, 0, 1), (131, 9, 1, 0, 0, 0), (132, 52, 3, 6, 3, 0), (135, 42, 3, 5, 0, 0), (138, 3, 1, 0, 0, 0), (139, 50, 3, 6, 4, 0), (142, 40, 3, 153, 1, 0), (145, 3, 1, 0, 0, 0), (146, 2, 1, 2, 0, 0), (147, 60, 3, 36, 2, 0), (150, 40, 3, 157, 0, 0), (153, 1, 1, 0, 0, 1), (154, 42, 3, 158, 0, 0), (157, 1, 1, 0, 0, 0), (158, 5, 2, 5, 0, 0), (160, 3, 1, 0, 0, 0), (161, 3, 1, 0, 0, 0), (162, 50, 3, 6, 4, 0), (165, 40, 3, 173, 1, 0), (168, 2, 2, 5, 0, 0), (170, 40, 3, 177, 1, 0), (173, 1, 1, 0, 0, 1), (174, 42, 3, 178, 0, 0), (177, 1, 1, 0, 0, 0), (178, 52, 3, 6, 4, 2), (181, 3, 1, 0, 0, 0), (182, 1, 2, 0, 0, 6), (184, 60, 3, 40, 2, 0), (187, 3, 1, 0, 0, 0), (188, 50, 3, 6, 4, 0), (191, 40, 3, 244, 1, 0), (194, 2, 1, 3, 0, 0), (195, 40, 3, 244, 5, 0), (198, 3, 1, 0, 0, 0), (199, 60, 3, 26, 1, 0), (202, 1, 2, 0, 0, 41), (204, 41, 3, 244, 1, 0), (207, 3, 1, 0, 0, 0), (208, 32, 1, 0, 0, 0), (209, 50, 3, 6, 3, 0), (212, 1, 1, 0, 0, 1), (213, 9, 1, 0, 0, 0), (214, 52, 3, 6, 3, 0), (217, 8, 3, 3, 0, (-1)), (220, 3, 1, 0, 0, 0), (221, 1, 1, 0, 0, 1), (222, 60, 3, 40, 2, 0), (225, 3, 1, 0, 0, 0), (226, 32, 1, 0, 0, 0), (227, 50, 3, 6, 8, 0), (230, 1, 1, 0, 0, 1), (231, 10, 1, 0, 0, 0), (232, 52, 3, 6, 8, 0), (235, 3, 1, 0, 0, 0), (236, 1, 2, 0, 0, 6), (238, 60, 3, 40, 2, 0), (241, 42, 3, 187, 0, 0), (244, 2, 1, 3, 0, 0), (245, 64, 1, 0, 0, 0)]
/-- 42: CardWorkshopModel.expr(Z)V -/
def cd42 : List (Nat × pm_I) := [(0, 3, 1, 0, 0, 0), (1, 1, 1, 0, 0, 0), (2, 52, 3, 6, 8, 0), (5, 3, 1, 0, 0, 0), (6, 1, 1, 0, 0, 0), (7, 2, 1, 1, 0, 0), (8, 60, 3, 41, 3, 0), (11, 5, 1, 2, 0, 0), (12, 3, 1, 0, 0, 0), (13, 50, 3, 6, 4, 0), (16, 40, 3, 141, 1, 0), (19, 3, 1, 0, 0, 0), (20, 60, 3, 26, 1, 0), (23, 60, 3, 37, 1, 0), (26, 40, 3, 141, 2, 0), (29, 3, 1, 0, 0, 0), (30, 60, 3, 26, 1, 0), (33, 60, 3, 37, 1, 0), (36, 5, 1, 3, 0, 0), (37, 3, 1, 0, 0, 0), (38, 32, 1, 0, 0, 0), (39, 50, 3, 6, 3, 0), (42, 1, 1, 0, 0, 1), (43, 9, 1, 0, 0, 0), (44, 52, 3, 6, 3, 0), (47, 2, 1, 3, 0, 0), (48, 60, 3, 38, 1, 0), (51, 1, 1, 0, 0, 3), (52, 41, 3, 59, 1, 0), (55, 1, 1, 0, 0, 1), (56, 42, 3, 60, 0, 0), (59, 1, 1, 0, 0, 0), (60, 5, 2, 4, 0, 0), (62, 3, 1, 0, 0, 0), (63, 2, 2, 4, 0, 0), (65, 40, 3, 72, 0, 0), (68, 1, 1, 0, 0, 4), (69, 42, 3, 76, 0, 0), (72, 2, 1, 3, 0, 0), (73, 60, 3, 38, 1, 0), (76, 60, 3, 40, 2, 0), (79, 3, 1, 0, 0, 0), (80, 2, 2, 4, 0, 0), (82, 40, 3, 100, 0, 0), (85, 3, 1, 0, 0, 0), (86, 60, 3, 39, 1, 0), (89, 60, 3, 38, 1, 0), (92, 1, 1, 0, 0, 3), (93, 41, 3, 100, 1, 0), (96, 1, 1, 0, 0, 1), (97, 42, 3, 101, 0, 0), (100, 1, 1, 0, 0, 0), (101, 52, 3, 6, 4, 2), (104, 3, 1, 0, 0, 0), (105, 51, 3, 6, 9, 0), (108, 3, 1, 0, 0, 0), (109, 50, 3, 6, 8, 0), (112, 2, 1, 3, 0, 0), (113, 55, 1, 0, 0, 0), (114, 3, 1, 0, 0, 0), (115, 32, 1, 0, 0, 0), (116, 50, 3, 6, 8, 0), (119, 1, 1, 0, 0, 1), (120, 9, 1, 0, 0, 0), (121, 52, 3, 6, 8, 0), (124, 3, 1, 0, 0, 0), (125, 50, 3, 6, 4, 0), (128, 40, 3, 138, 1, 0), (131, 3, 1, 0, 0, 0), (132, 2, 1, 2, 0, 0), (133, 2, 1, 1, 0, 0), (134, 60, 3, 41, 3, 0), (137, 5, 1, 2, 0, 0), (138, 42, 3, 12, 0, 0), (141, 3, 1, 0, 0, 0), (142, 3, 1, 0, 0, 0), (143, 50, 3, 6, 4, 0), (146, 40, 3, 153, 1, 0), (149, 2, 1, 2, 0, 0), (150, 40, 3, 157, 5, 0), (153, 1, 1, 0, 0, 1), (154, 42, 3, 158, 0, 0), (157, 1, 1, 0, 0, 0), (158, 52, 3, 6, 4, 2), (161, 3, 1, 0, 0, 0), (162, 1, 1, 0, 0, 1), (163, 60, 3, 40, 2, 0), (166, 63, 1, 0, 0, 0)]
/-- 43: CardWorkshopModel.effect(Z)V -/
def cd43 : List (Nat × pm_I) := [(0, 3, 1, 0, 0, 0), (1, 60, 3, 26, 1, 0), (4, 5, 1, 2, 0, 0), (5, 2, 1, 2, 0, 0), (6, 1, 2, 0, 0, 110), (8, 41, 3, 31, 1, 0), (11, 3, 1, 0, 0, 0), (12, 32, 1, 0, 0, 0), (13, 50, 3, 6, 3, 0), (16, 1, 1, 0, 0, 1), (17, 9, 1, 0, 0, 0), (18, 52, 3, 6, 3, 0), (21, 3, 1, 0, 0, 0), (22, 1, 2, 0, 0, 16), (24, 1, 1, 0, 0, 0), (25, 60, 3, 29, 3, 0), (28, 42, 3, 130, 0, 0), (31, 2, 1, 2, 0, 0), (32, 1, 2, 0, 0, 43), (34, 41, 3, 62, 1, 0), (37, 3, 1, 0, 0, 0), (38, 32, 1, 0, 0, 0), (39, 50, 3, 6, 3, 0), (42, 1, 1, 0, 0, 1), (43, 9, 1, 0, 0, 0), (44, 52, 3, 6, 3, 0), (47, 3, 1, 0, 0, 0), (48, 2, 1, 1, 0, 0), (49, 60, 3, 42, 2, 0), (52, 3, 1, 0, 0, 0), (53, 1, 2, 0, 0, 15), (55, 1, 1, 0, 0, 0), (56, 60, 3, 29, 3, 0), (59, 42, 3, 130, 0, 0), (62, 2, 1, 2, 0, 0), (63, 60, 3, 33, 1, 0), (66, 40, 3, 103, 2, 0), (69, 3, 1, 0, 0, 0), (70, 32, 1, 0, 0, 0), (71, 50, 3, 6, 3, 0), (74, 1, 1, 0, 0, 1), (75, 9, 1, 0, 0, 0), (76, 52, 3, 6, 3, 0), (79, 3, 1, 0, 0, 0), (80, 1, 2, 0, 0, 61), (82, 60, 3, 28, 2, 0), (85, 3, 1, 0, 0, 0), (86, 2, 1, 1, 0, 0), (87, 60, 3, 42, 2, 0), (90, 3, 1, 0, 0, 0), (91, 1, 2, 0, 0, 14), (93, 2, 1, 2, 0, 0), (94, 60, 3, 33, 1, 0), (97, 60, 3, 29, 3, 0), (100, 42, 3, 130, 0, 0), (103, 3, 1, 0, 0, 0), (104, 2, 1, 1, 0, 0), (105, 60, 3, 32, 2, 0), (108, 5, 1, 3, 0, 0), (109, 3, 1, 0, 0, 0), (110, 1, 2, 0, 0, 62), (112, 60, 3, 28, 2, 0), (115, 3, 1, 0, 0, 0), (116, 1, 2, 0, 0, 13), (118, 1, 2, 0, 0, 8), (120, 2, 1, 3, 0, 0), (121, 11, 1, 0, 0, 0), (122, 3, 1, 0, 0, 0), (123, 60, 3, 31, 1, 0), (126, 9, 1, 0, 0, 0), (127, 60, 3, 29, 3, 0), (130, 63, 1, 0, 0, 0)]
/-- 44: CardWorkshopModel.rule()V -/
def cd44 : List (Nat × pm_I) := [(0, 3, 1, 0, 0, 0), (1, 1, 2, 0, 0, 77), (3, 60, 3, 27, 2, 0), (6, 5, 1, 1, 0, 0), (7, 3, 1, 0, 0, 0), (8, 3, 1, 0, 0, 0), (9, 50, 3, 6, 4, 0), (12, 40, 3, 37, 1, 0), (15, 2, 1, 1, 0, 0), (16, 40, 3, 28, 1, 0), (19, 3, 1, 0, 0, 0), (20, 1, 2, 0, 0, 80), (22, 60, 3, 27, 2, 0), (25, 40, 3, 37, 0, 0), (28, 3, 1, 0, 0, 0), (29, 50, 3, 6, 10, 0), (32, 1, 2, 0, 0, 8), (34, 41, 3, 41, 1, 0), (37, 1, 1, 0, 0, 1), (38, 42, 3, 42, 0, 0), (41, 1, 1, 0, 0, 0), (42, 52, 3, 6, 4, 2), (45, 3, 1, 0, 0, 0), (46, 50, 3, 6, 4, 0), (49, 40, 3, 53, 0, 0), (52, 63, 1, 0, 0, 0), (53, 3, 1, 0, 0, 0), (54, 51, 3, 6, 11, 0), (57, 3, 1, 0, 0, 0), (58, 50, 3, 6, 10, 0), (61, 2, 1, 1, 0, 0), (62, 55, 1, 2, 0, 0), (63, 3, 1, 0, 0, 0), (64, 51, 3, 6, 12, 0), (67, 3, 1, 0, 0, 0), (68, 50, 3, 6, 10, 0), (71, 3, 1, 0, 0, 0), (72, 50, 3, 6, 5, 0), (75, 55, 1, 0, 0, 0), (76, 3, 1, 0, 0, 0), (77, 32, 1, 0, 0, 0), (78, 50, 3, 6, 10, 0), (81, 1, 1, 0, 0, 1), (82, 9, 1, 0, 0, 0), (83, 52, 3, 6, 10, 0), (86, 3, 1, 0, 0, 0), (87, 2, 1, 1, 0, 0), (88, 60, 3, 42, 2, 0), (91, 3, 1, 0, 0, 0), (92, 1, 2, 0, 0, 17), (94, 1, 1, 0, 0, 0), (95, 60, 3, 29, 3, 0), (98, 3, 1, 0, 0, 0), (99, 1, 2, 0, 0, 58), (101, 60, 3, 28, 2, 0), (104, 3, 1, 0, 0, 0), (105, 50, 3, 6, 4, 0), (108, 40, 3, 124, 1, 0), (111, 3, 1, 0, 0, 0), (112, 60, 3, 26, 1, 0), (115, 1, 2, 0, 0, 59), (117, 41, 3, 124, 0, 0), (120, 1, 1, 0, 0, 1), (121, 42, 3, 125, 0, 0), (124, 1, 1, 0, 0, 0), (125, 5, 1, 2, 0, 0), (126, 2, 1, 2, 0, 0), (127, 40, 3, 160, 0, 0), (130, 3, 1, 0, 0, 0), (131, 2, 1, 1, 0, 0), (132, 60, 3, 43, 2, 0), (135, 3, 1, 0, 0, 0), (136, 50, 3, 6, 4, 0), (139, 40, 3, 155, 1, 0), (142, 3, 1, 0, 0, 0), (143, 1, 2, 0, 0, 44), (145, 60, 3, 27, 2, 0), (148, 40, 3, 155, 0, 0), (151, 1, 1, 0, 0, 1), (152, 42, 3, 156, 0, 0), (155, 1, 1, 0, 0, 0), (156, 5, 1, 2, 0, 0), (157, 42, 3, 126, 0, 0), (160, 3, 1, 0, 0, 0), (161, 1, 2, 0, 0, 59), (163, 60, 3, 28, 2, 0), (166, 3, 1, 0, 0, 0), (167, 1, 2, 0, 0, 17), (169, 1, 1, 0, 0, 0), (170, 60, 3, 29, 3, 0), (173, 63, 1, 0, 0, 0)]
/-- 45: CardWorkshopModel.compile()I -/
def cd45 : List (Nat × pm_I) := [(0, 3, 1, 0, 0, 0), (1, 1, 1, 0, 0, 0), (2, 52, 3, 6, 3, 0), (5, 3, 1, 0, 0, 0), (6, 1, 1, 0, 0, 0), (7, 52, 3, 6, 4, 2), (10, 3, 1, 0, 0, 0), (11, 1, 1, 0, 0, 0), (12, 52, 3, 6, 5, 0), (15, 3, 1, 0, 0, 0), (16, 1, 1, 0, 0, 0), (17, 52, 3, 6, 10, 0), (20, 3, 1, 0, 0, 0), (21, 1, 2, 0, 0, 68), (23, 60, 3, 28, 2, 0), (26, 3, 1, 0, 0, 0), (27, 60, 3, 26, 1, 0), (30, 1, 2, 0, 0, 48), (32, 10, 1, 0, 0, 0), (33, 5, 1, 1, 0, 0), (34, 3, 1, 0, 0, 0), (35, 32, 1, 0, 0, 0), (36, 50, 3, 6, 3, 0), (39, 1, 1, 0, 0, 1), (40, 9, 1, 0, 0, 0), (41, 52, 3, 6, 3, 0), (44, 3, 1, 0, 0, 0), (45, 60, 3, 26, 1, 0), (48, 1, 2, 0, 0, 48), (50, 10, 1, 0, 0, 0), (51, 5, 1, 2, 0, 0), (52, 3, 1, 0, 0, 0), (53, 32, 1, 0, 0, 0), (54, 50, 3, 6, 3, 0), (57, 1, 1, 0, 0, 1), (58, 9, 1, 0, 0, 0), (59, 52, 3, 6, 3, 0), (62, 3, 1, 0, 0, 0), (63, 3, 1, 0, 0, 0), (64, 50, 3, 6, 4, 0), (67, 40, 3, 91, 1, 0), (70, 2, 1, 1, 0, 0), (71, 1, 1, 0, 0, 1), (72, 41, 3, 91, 2, 0), (75, 2, 1, 1, 0, 0), (76, 1, 1, 0, 0, 4), (77, 41, 3, 91, 4, 0), (80, 2, 1, 2, 0, 0), (81, 1, 1, 0, 0, 1), (82, 41, 3, 91, 2, 0), (85, 2, 1, 2, 0, 0), (86, 1, 2, 0, 0, 6), (88, 41, 3, 95, 5, 0), (91, 1, 1, 0, 0, 1), (92, 42, 3, 96, 0, 0), (95, 1, 1, 0, 0, 0), (96, 52, 3, 6, 4, 2), (99, 3, 1, 0, 0, 0), (100, 1, 2, 0, 0, 59), (102, 60, 3, 28, 2, 0), (105, 3, 1, 0, 0, 0), (106, 50, 3, 6, 4, 0), (109, 40, 3, 137, 1, 0), (112, 3, 1, 0, 0, 0), (113, 60, 3, 26, 1, 0), (116, 1, 2, 0, 0, 77), (118, 41, 3, 130, 0, 0), (121, 3, 1, 0, 0, 0), (122, 60, 3, 26, 1, 0), (125, 1, 2, 0, 0, 80), (127, 41, 3, 137, 1, 0), (130, 3, 1, 0, 0, 0), (131, 60, 3, 44, 1, 0), (134, 42, 3, 105, 0, 0), (137, 3, 1, 0, 0, 0), (138, 1, 2, 0, 0, 69), (140, 60, 3, 28, 2, 0), (143, 3, 1, 0, 0, 0), (144, 3, 1, 0, 0, 0), (145, 50, 3, 6, 5, 0), (148, 52, 3, 6, 13, 0), (151, 3, 1, 0, 0, 0), (152, 50, 3, 6, 4, 0), (155, 40, 3, 163, 1, 0), (158, 3, 1, 0, 0, 0), (159, 1, 1, 0, 0, 0), (160, 60, 3, 42, 2, 0), (163, 3, 1, 0, 0, 0), (164, 1, 2, 0, 0, 17), (166, 1, 1, 0, 0, 0), (167, 60, 3, 29, 3, 0), (170, 3, 1, 0, 0, 0), (171, 1, 2, 0, 0, 59), (173, 60, 3, 28, 2, 0), (176, 3, 1, 0, 0, 0), (177, 3, 1, 0, 0, 0), (178, 50, 3, 6, 4, 0), (181, 40, 3, 195, 1, 0), (184, 3, 1, 0, 0, 0), (185, 50, 3, 6, 3, 0), (188, 3, 1, 0, 0, 0), (189, 50, 3, 6, 1, 0), (192, 41, 3, 199, 3, 0), (195, 1, 1, 0, 0, 1), (196, 42, 3, 214, 0, 0), (199, 3, 1, 0, 0, 0), (200, 50, 3, 6, 5, 0), (203, 1, 3, 0, 0, 160), (206, 41, 3, 213, 5, 0), (209, 1, 1, 0, 0, 2), (210, 42, 3, 214, 0, 0), (213, 1, 1, 0, 0, 0), (214, 52, 3, 6, 0, 0), (217, 3, 1, 0, 0, 0), (218, 50, 3, 6, 0, 0), (221, 40, 3, 228, 5, 0), (224, 1, 1, 0, 0, 0), (225, 42, 3, 234, 0, 0), (228, 3, 1, 0, 0, 0), (229, 2, 1, 1, 0, 0), (230, 2, 1, 2, 0, 0), (231, 60, 3, 46, 3, 0), (234, 64, 1, 0, 0, 0)]
/-- 46: CardWorkshopModel.take(II)I -/
def cd46 : List (Nat × pm_I) := [(0, 3, 1, 0, 0, 0), (1, 1, 1, 0, 0, 1), (2, 52, 3, 6, 14, 2), (5, 3, 1, 0, 0, 0), (6, 2, 1, 1, 0, 0), (7, 52, 3, 6, 15, 0), (10, 3, 1, 0, 0, 0), (11, 2, 1, 2, 0, 0), (12, 52, 3, 6, 16, 0), (15, 3, 1, 0, 0, 0), (16, 3, 1, 0, 0, 0), (17, 50, 3, 6, 10, 0), (20, 52, 3, 6, 17, 0), (23, 3, 1, 0, 0, 0), (24, 3, 1, 0, 0, 0), (25, 50, 3, 6, 13, 0), (28, 52, 3, 6, 20, 0), (31, 3, 1, 0, 0, 0), (32, 3, 1, 0, 0, 0), (33, 50, 3, 6, 5, 0), (36, 52, 3, 6, 21, 0), (39, 1, 1, 0, 0, 0), (40, 5, 1, 3, 0, 0), (41, 2, 1, 3, 0, 0), (42, 3, 1, 0, 0, 0), (43, 50, 3, 6, 17, 0), (46, 41, 3, 79, 3, 0), (49, 3, 1, 0, 0, 0), (50, 51, 3, 6, 18, 0), (53, 2, 1, 3, 0, 0), (54, 3, 1, 0, 0, 0), (55, 51, 3, 6, 11, 0), (58, 2, 1, 3, 0, 0), (59, 54, 1, 2, 0, 0), (60, 55, 1, 2, 0, 0), (61, 3, 1, 0, 0, 0), (62, 51, 3, 6, 19, 0), (65, 2, 1, 3, 0, 0), (66, 3, 1, 0, 0, 0), (67, 51, 3, 6, 12, 0), (70, 2, 1, 3, 0, 0), (71, 54, 1, 0, 0, 0), (72, 55, 1, 0, 0, 0), (73, 8, 3, 3, 0, 1), (76, 42, 3, 41, 0, 0), (79, 1, 1, 0, 0, 0), (80, 5, 1, 3, 0, 0), (81, 2, 1, 3, 0, 0), (82, 3, 1, 0, 0, 0), (83, 50, 3, 6, 21, 0), (86, 41, 3, 119, 3, 0), (89, 3, 1, 0, 0, 0), (90, 51, 3, 6, 22, 0), (93, 2, 1, 3, 0, 0), (94, 3, 1, 0, 0, 0), (95, 51, 3, 6, 6, 0), (98, 2, 1, 3, 0, 0), (99, 54, 1, 0, 0, 0), (100, 55, 1, 0, 0, 0), (101, 3, 1, 0, 0, 0), (102, 51, 3, 6, 23, 0), (105, 2, 1, 3, 0, 0), (106, 3, 1, 0, 0, 0), (107, 51, 3, 6, 7, 0), (110, 2, 1, 3, 0, 0), (111, 54, 1, 0, 0, 0), (112, 55, 1, 0, 0, 0), (113, 8, 3, 3, 0, 1), (116, 42, 3, 81, 0, 0), (119, 3, 1, 0, 0, 0), (120, 1, 1, 0, 0, 0), (121, 52, 3, 6, 24, 2), (124, 3, 1, 0, 0, 0), (125, 1, 1, 0, 0, 0), (126, 52, 3, 6, 26, 0), (129, 3, 1, 0, 0, 0), (130, 1, 1, 0, 0, (-1)), (131, 52, 3, 6, 37, 0), (134, 3, 1, 0, 0, 0), (135, 1, 1, 0, 0, 0), (136, 52, 3, 6, 1, 0), (139, 3, 1, 0, 0, 0), (140, 50, 3, 6, 21, 0), (143, 64, 1, 0, 0, 0)]
/-- 47: CardWorkshopModel.code(IZ)I -/
def cd47 : List (Nat × pm_I) := [(0, 3, 1, 0, 0, 0), (1, 2, 1, 1, 0, 0), (2, 40, 3, 17, 2, 0), (5, 2, 1, 1, 0, 0), (6, 3, 1, 0, 0, 0), (7, 50, 3, 6, 21, 0), (10, 41, 3, 17, 3, 0), (13, 1, 1, 0, 0, 0), (14, 42, 3, 18, 0, 0), (17, 1, 1, 0, 0, 1), (18, 52, 3, 6, 0, 0), (21, 3, 1, 0, 0, 0), (22, 50, 3, 6, 0, 0), (25, 40, 3, 32, 5, 0), (28, 1, 1, 0, 0, 0), (29, 42, 3, 51, 0, 0), (32, 2, 1, 2, 0, 0), (33, 40, 3, 45, 0, 0), (36, 3, 1, 0, 0, 0), (37, 51, 3, 6, 23, 0), (40, 2, 1, 1, 0, 0), (41, 54, 1, 0, 0, 0), (42, 42, 3, 51, 0, 0), (45, 3, 1, 0, 0, 0), (46, 51, 3, 6, 22, 0), (49, 2, 1, 1, 0, 0), (50, 54, 1, 0, 0, 0), (51, 64, 1, 0, 0, 0)]
/-- 48: CardWorkshopModel.placeOf(II)I -/
def cd48 : List (Nat × pm_I) := [(0, 2, 1, 0, 0, 0), (1, 40, 3, 8, 1, 0), (4, 2, 1, 1, 0, 0), (5, 42, 3, 42, 0, 0), (8, 2, 1, 0, 0, 0), (9, 1, 1, 0, 0, 1), (10, 41, 3, 19, 1, 0), (13, 1, 1, 0, 0, 1), (14, 2, 1, 1, 0, 0), (15, 10, 1, 0, 0, 0), (16, 42, 3, 42, 0, 0), (19, 2, 1, 0, 0, 0), (20, 1, 1, 0, 0, 4), (21, 41, 3, 28, 3, 0), (24, 2, 1, 0, 0, 0), (25, 42, 3, 42, 0, 0), (28, 2, 1, 0, 0, 0), (29, 1, 1, 0, 0, 4), (30, 41, 3, 39, 1, 0), (33, 1, 1, 0, 0, 4), (34, 2, 1, 1, 0, 0), (35, 9, 1, 0, 0, 0), (36, 42, 3, 42, 0, 0), (39, 1, 1, 0, 0, 5), (40, 2, 1, 1, 0, 0), (41, 10, 1, 0, 0, 0), (42, 64, 1, 0, 0, 0)]
/-- 49: CardWorkshopModel.spot(II)I -/
def cd49 : List (Nat × pm_I) := [(0, 1, 2, 0, 0, 13), (2, 1, 2, 0, 0, 24), (4, 2, 1, 0, 0, 0), (5, 11, 1, 0, 0, 0), (6, 9, 1, 0, 0, 0), (7, 2, 1, 1, 0, 0), (8, 9, 1, 0, 0, 0), (9, 64, 1, 0, 0, 0)]
/-- 50: CardWorkshopModel.topOf(I)I -/
def cd50 : List (Nat × pm_I) := [(0, 3, 1, 0, 0, 0), (1, 51, 3, 6, 25, 0), (4, 2, 1, 1, 0, 0), (5, 54, 1, 0, 0, 0), (6, 40, 3, 13, 1, 0), (9, 1, 1, 0, 0, (-1)), (10, 42, 3, 43, 0, 0), (13, 3, 1, 0, 0, 0), (14, 51, 3, 6, 25, 0), (17, 2, 1, 1, 0, 0), (18, 3, 1, 0, 0, 0), (19, 51, 3, 6, 25, 0), (22, 2, 1, 1, 0, 0), (23, 54, 1, 0, 0, 0), (24, 40, 3, 31, 1, 0), (27, 1, 1, 0, 0, 0), (28, 42, 3, 39, 0, 0), (31, 3, 1, 0, 0, 0), (32, 51, 3, 6, 25, 0), (35, 2, 1, 1, 0, 0), (36, 54, 1, 0, 0, 0), (37, 1, 1, 0, 0, 1), (38, 10, 1, 0, 0, 0), (39, 60, 3, 49, 2, 0), (42, 54, 1, 0, 0, 0), (43, 64, 1, 0, 0, 0)]
/-- 51: CardWorkshopModel.go(II)V -/
def cd51 : List (Nat × pm_I) := [(0, 1, 1, 0, 0, 0), (1, 5, 1, 3, 0, 0), (2, 2, 1, 3, 0, 0), (3, 1, 2, 0, 0, 6), (5, 41, 3, 87, 3, 0), (8, 1, 1, 0, 0, 0), (9, 5, 2, 4, 0, 0), (11, 1, 1, 0, 0, 0), (12, 5, 2, 5, 0, 0), (14, 2, 2, 5, 0, 0), (16, 3, 1, 0, 0, 0), (17, 51, 3, 6, 25, 0), (20, 2, 1, 3, 0, 0), (21, 54, 1, 0, 0, 0), (22, 41, 3, 73, 3, 0), (25, 3, 1, 0, 0, 0), (26, 51, 3, 6, 25, 0), (29, 2, 1, 3, 0, 0), (30, 2, 2, 5, 0, 0), (32, 60, 3, 49, 2, 0), (35, 54, 1, 0, 0, 0), (36, 5, 2, 6, 0, 0), (38, 3, 1, 0, 0, 0), (39, 51, 3, 6, 25, 0), (42, 2, 1, 3, 0, 0), (43, 2, 2, 4, 0, 0), (45, 60, 3, 49, 2, 0), (48, 2, 2, 6, 0, 0), (50, 55, 1, 0, 0, 0), (51, 2, 2, 4, 0, 0), (53, 2, 2, 6, 0, 0), (55, 2, 1, 1, 0, 0), (56, 41, 3, 63, 1, 0), (59, 1, 1, 0, 0, 0), (60, 42, 3, 64, 0, 0), (63, 1, 1, 0, 0, 1), (64, 9, 1, 0, 0, 0), (65, 5, 2, 4, 0, 0), (67, 8, 3, 5, 0, 1), (70, 42, 3, 14, 0, 0), (73, 3, 1, 0, 0, 0), (74, 51, 3, 6, 25, 0), (77, 2, 1, 3, 0, 0), (78, 2, 2, 4, 0, 0), (80, 55, 1, 0, 0, 0), (81, 8, 3, 3, 0, 1), (84, 42, 3, 2, 0, 0), (87, 3, 1, 0, 0, 0), (88, 51, 3, 6, 25, 0), (91, 2, 1, 2, 0, 0), (92, 3, 1, 0, 0, 0), (93, 51, 3, 6, 25, 0), (96, 2, 1, 2, 0, 0), (97, 54, 1, 0, 0, 0), (98, 60, 3, 49, 2, 0), (101, 2, 1, 1, 0, 0), (102, 55, 1, 0, 0, 0), (103, 3, 1, 0, 0, 0), (104, 51, 3, 6, 25, 0), (107, 2, 1, 2, 0, 0), (108, 34, 1, 0, 0, 0), (109, 54, 1, 0, 0, 0), (110, 1, 1, 0, 0, 1), (111, 9, 1, 0, 0, 0), (112, 55, 1, 0, 0, 0), (113, 63, 1, 0, 0, 0)]
/-- 52: CardWorkshopModel.cardAt(III)I -/
def cd52 : List (Nat × pm_I) := [(0, 2, 1, 1, 0, 0), (1, 1, 2, 0, 0, 6), (3, 41, 3, 10, 1, 0), (6, 2, 1, 3, 0, 0), (7, 42, 3, 19, 0, 0), (10, 3, 1, 0, 0, 0), (11, 2, 1, 1, 0, 0), (12, 2, 1, 2, 0, 0), (13, 60, 3, 48, 2, 0), (16, 60, 3, 50, 2, 0), (19, 64, 1, 0, 0, 0)]
/-- 53: CardWorkshopModel.truth(Z)I -/
def cd53 : List (Nat × pm_I) := [(0, 2, 1, 0, 0, 0), (1, 40, 3, 8, 0, 0), (4, 1, 1, 0, 0, 1), (5, 42, 3, 9, 0, 0), (8, 1, 1, 0, 0, 0), (9, 64, 1, 0, 0, 0)]
/-- 54: CardWorkshopModel.worked(III)I -/
def cd54 : List (Nat × pm_I) := [(0, 2, 1, 0, 0, 0), (1, 43, 39, 1, 97, 5), (40, 2, 1, 1, 0, 0), (41, 2, 1, 2, 0, 0), (42, 9, 1, 0, 0, 0), (43, 64, 1, 0, 0, 0), (44, 2, 1, 1, 0, 0), (45, 2, 1, 2, 0, 0), (46, 10, 1, 0, 0, 0), (47, 64, 1, 0, 0, 0), (48, 2, 1, 1, 0, 0), (49, 2, 1, 2, 0, 0), (50, 11, 1, 0, 0, 0), (51, 64, 1, 0, 0, 0), (52, 2, 1, 1, 0, 0), (53, 2, 1, 2, 0, 0), (54, 41, 3, 61, 3, 0), (57, 1, 1, 0, 0, 1), (58, 42, 3, 62, 0, 0), (61, 1, 1, 0, 0, 0), (62, 60, 3, 53, 1, 0), (65, 64, 1, 0, 0, 0), (66, 2, 1, 1, 0, 0), (67, 2, 1, 2, 0, 0), (68, 41, 3, 75, 1, 0), (71, 1, 1, 0, 0, 1), (72, 42, 3, 76, 0, 0), (75, 1, 1, 0, 0, 0), (76, 60, 3, 53, 1, 0), (79, 64, 1, 0, 0, 0), (80, 2, 1, 1, 0, 0), (81, 40, 3, 92, 0, 0), (84, 2, 1, 2, 0, 0), (85, 40, 3, 92, 0, 0), (88, 1, 1, 0, 0, 1), (89, 42, 3, 93, 0, 0), (92, 1, 1, 0, 0, 0), (93, 60, 3, 53, 1, 0), (96, 64, 1, 0, 0, 0), (97, 2, 1, 1, 0, 0), (98, 40, 3, 105, 1, 0), (101, 2, 1, 2, 0, 0), (102, 40, 3, 109, 0, 0), (105, 1, 1, 0, 0, 1), (106, 42, 3, 110, 0, 0), (109, 1, 1, 0, 0, 0), (110, 60, 3, 53, 1, 0), (113, 64, 1, 0, 0, 0)]
/-- 55: CardWorkshopModel.asked(IIII)I -/
def cd55 : List (Nat × pm_I) := [(0, 2, 1, 1, 0, 0), (1, 1, 1, 0, 0, 3), (2, 41, 3, 41, 3, 0), (5, 2, 1, 1, 0, 0), (6, 40, 3, 13, 1, 0), (9, 2, 1, 2, 0, 0), (10, 42, 3, 40, 0, 0), (13, 2, 1, 1, 0, 0), (14, 1, 1, 0, 0, 1), (15, 41, 3, 30, 1, 0), (18, 3, 1, 0, 0, 0), (19, 51, 3, 6, 25, 0), (22, 1, 2, 0, 0, 6), (24, 2, 1, 2, 0, 0), (25, 9, 1, 0, 0, 0), (26, 54, 1, 0, 0, 0), (27, 42, 3, 40, 0, 0), (30, 3, 1, 0, 0, 0), (31, 51, 3, 6, 25, 0), (34, 2, 1, 2, 0, 0), (35, 2, 1, 3, 0, 0), (36, 60, 3, 48, 2, 0), (39, 54, 1, 0, 0, 0), (40, 64, 1, 0, 0, 0), (41, 3, 1, 0, 0, 0), (42, 2, 1, 2, 0, 0), (43, 2, 1, 3, 0, 0), (44, 2, 2, 4, 0, 0), (46, 60, 3, 52, 4, 0), (49, 5, 2, 5, 0, 0), (51, 2, 2, 5, 0, 0), (53, 40, 3, 60, 3, 0), (56, 1, 1, 0, 0, (-1)), (57, 42, 3, 82, 0, 0), (60, 2, 1, 1, 0, 0), (61, 1, 1, 0, 0, 3), (62, 41, 3, 75, 1, 0), (65, 2, 2, 5, 0, 0), (67, 3, 1, 0, 0, 0), (68, 50, 3, 6, 16, 0), (71, 13, 1, 0, 0, 0), (72, 42, 3, 82, 0, 0), (75, 2, 2, 5, 0, 0), (77, 3, 1, 0, 0, 0), (78, 50, 3, 6, 16, 0), (81, 12, 1, 0, 0, 0), (82, 64, 1, 0, 0, 0)]
/-- 56: CardWorkshopModel.run(III)I -/
def cd56 : List (Nat × pm_I) := [(0, 1, 1, 0, 0, 0), (1, 5, 2, 4, 0, 0), (3, 3, 1, 0, 0, 0), (4, 51, 3, 6, 28, 0), (7, 1, 1, 0, 0, 0), (8, 1, 1, 0, 0, 0), (9, 55, 1, 0, 0, 0), (10, 2, 1, 1, 0, 0), (11, 5, 2, 5, 0, 0), (13, 3, 1, 0, 0, 0), (14, 51, 3, 6, 22, 0), (17, 2, 2, 5, 0, 0), (19, 54, 1, 0, 0, 0), (20, 1, 2, 0, 0, 17), (22, 41, 3, 281, 0, 0), (25, 3, 1, 0, 0, 0), (26, 51, 3, 6, 22, 0), (29, 2, 2, 5, 0, 0), (31, 54, 1, 0, 0, 0), (32, 5, 2, 6, 0, 0), (34, 3, 1, 0, 0, 0), (35, 51, 3, 6, 23, 0), (38, 2, 2, 5, 0, 0), (40, 54, 1, 0, 0, 0), (41, 5, 2, 7, 0, 0), (43, 2, 2, 6, 0, 0), (45, 1, 1, 0, 0, 5), (46, 41, 3, 72, 3, 0), (49, 3, 1, 0, 0, 0), (50, 51, 3, 6, 28, 0), (53, 2, 2, 4, 0, 0), (55, 3, 1, 0, 0, 0), (56, 2, 2, 6, 0, 0), (58, 2, 2, 7, 0, 0), (60, 2, 1, 2, 0, 0), (61, 2, 1, 3, 0, 0), (62, 60, 3, 55, 5, 0), (65, 55, 1, 0, 0, 0), (66, 8, 3, 4, 0, 1), (69, 42, 3, 275, 0, 0), (72, 2, 2, 6, 0, 0), (74, 1, 2, 0, 0, 12), (76, 41, 3, 115, 3, 0), (79, 8, 3, 4, 0, (-1)), (82, 3, 1, 0, 0, 0), (83, 51, 3, 6, 28, 0), (86, 2, 2, 4, 0, 0), (88, 1, 1, 0, 0, 1), (89, 10, 1, 0, 0, 0), (90, 2, 2, 6, 0, 0), (92, 3, 1, 0, 0, 0), (93, 51, 3, 6, 28, 0), (96, 2, 2, 4, 0, 0), (98, 1, 1, 0, 0, 1), (99, 10, 1, 0, 0, 0), (100, 54, 1, 0, 0, 0), (101, 3, 1, 0, 0, 0), (102, 51, 3, 6, 28, 0), (105, 2, 2, 4, 0, 0), (107, 54, 1, 0, 0, 0), (108, 60, 3, 54, 3, 0), (111, 55, 1, 0, 0, 0), (112, 42, 3, 275, 0, 0), (115, 2, 2, 6, 0, 0), (117, 1, 2, 0, 0, 12), (119, 41, 3, 154, 1, 0), (122, 3, 1, 0, 0, 0), (123, 51, 3, 6, 28, 0), (126, 2, 2, 4, 0, 0), (128, 1, 1, 0, 0, 1), (129, 10, 1, 0, 0, 0), (130, 3, 1, 0, 0, 0), (131, 51, 3, 6, 28, 0), (134, 2, 2, 4, 0, 0), (136, 1, 1, 0, 0, 1), (137, 10, 1, 0, 0, 0), (138, 54, 1, 0, 0, 0), (139, 40, 3, 146, 1, 0), (142, 1, 1, 0, 0, 1), (143, 42, 3, 147, 0, 0), (146, 1, 1, 0, 0, 0), (147, 60, 3, 53, 1, 0), (150, 55, 1, 0, 0, 0), (151, 42, 3, 275, 0, 0), (154, 2, 2, 6, 0, 0), (156, 1, 2, 0, 0, 13), (158, 41, 3, 197, 1, 0), (161, 3, 1, 0, 0, 0), (162, 2, 2, 7, 0, 0), (164, 1, 2, 0, 0, 8), (166, 12, 1, 0, 0, 0), (167, 2, 1, 2, 0, 0), (168, 2, 1, 3, 0, 0), (169, 60, 3, 52, 4, 0), (172, 5, 2, 8, 0, 0), (174, 2, 2, 8, 0, 0), (176, 40, 3, 194, 2, 0), (179, 3, 1, 0, 0, 0), (180, 2, 2, 8, 0, 0), (182, 2, 2, 7, 0, 0), (184, 1, 2, 0, 0, 8), (186, 13, 1, 0, 0, 0), (187, 2, 1, 2, 0, 0), (188, 60, 3, 48, 2, 0), (191, 60, 3, 51, 3, 0), (194, 42, 3, 275, 0, 0), (197, 2, 2, 6, 0, 0), (199, 1, 2, 0, 0, 16), (201, 41, 3, 212, 1, 0), (204, 3, 1, 0, 0, 0), (205, 1, 1, 0, 0, 1), (206, 52, 3, 6, 29, 2), (209, 42, 3, 275, 0, 0), (212, 8, 3, 4, 0, (-1)), (215, 2, 2, 6, 0, 0), (217, 1, 2, 0, 0, 14), (219, 41, 3, 230, 1, 0), (222, 1, 2, 0, 0, 6), (224, 2, 2, 7, 0, 0), (226, 9, 1, 0, 0, 0), (227, 42, 3, 234, 0, 0), (230, 1, 2, 0, 0, 10), (232, 2, 1, 2, 0, 0), (233, 9, 1, 0, 0, 0), (234, 5, 2, 8, 0, 0), (236, 3, 1, 0, 0, 0), (237, 51, 3, 6, 25, 0), (240, 2, 2, 8, 0, 0), (242, 2, 2, 6, 0, 0), (244, 1, 2, 0, 0, 14), (246, 41, 3, 259, 1, 0), (249, 3, 1, 0, 0, 0), (250, 51, 3, 6, 28, 0), (253, 2, 2, 4, 0, 0), (255, 54, 1, 0, 0, 0), (256, 42, 3, 274, 0, 0), (259, 3, 1, 0, 0, 0), (260, 51, 3, 6, 25, 0), (263, 2, 2, 8, 0, 0), (265, 54, 1, 0, 0, 0), (266, 3, 1, 0, 0, 0), (267, 51, 3, 6, 28, 0), (270, 2, 2, 4, 0, 0), (272, 54, 1, 0, 0, 0), (273, 9, 1, 0, 0, 0), (274, 55, 1, 0, 0, 0), (275, 8, 3, 5, 0, 1), (278, 42, 3, 13, 0, 0), (281, 3, 1, 0, 0, 0), (282, 51, 3, 6, 28, 0), (285, 1, 1, 0, 0, 0), (286, 54, 1, 0, 0, 0), (287, 64, 1, 0, 0, 0)]
/-- 57: CardWorkshopModel.behind(I)I -/
def cd57 : List (Nat × pm_I) := [(0, 2, 1, 1, 0, 0), (1, 5, 1, 2, 0, 0), (2, 3, 1, 0, 0, 0), (3, 51, 3, 6, 22, 0), (6, 2, 1, 2, 0, 0), (7, 54, 1, 0, 0, 0), (8, 1, 2, 0, 0, 17), (10, 41, 3, 19, 0, 0), (13, 8, 3, 2, 0, 1), (16, 42, 3, 2, 0, 0), (19, 2, 1, 2, 0, 0), (20, 1, 1, 0, 0, 1), (21, 9, 1, 0, 0, 0), (22, 64, 1, 0, 0, 0)]
/-- 58: CardWorkshopModel.note(III)V -/
def cd58 : List (Nat × pm_I) := [(0, 3, 1, 0, 0, 0), (1, 51, 3, 6, 31, 0), (4, 1, 3, 0, 0, 200), (7, 2, 1, 1, 0, 0), (8, 11, 1, 0, 0, 0), (9, 3, 1, 0, 0, 0), (10, 51, 3, 6, 30, 0), (13, 2, 1, 1, 0, 0), (14, 54, 1, 0, 0, 0), (15, 9, 1, 0, 0, 0), (16, 2, 1, 2, 0, 0), (17, 55, 1, 0, 0, 0), (18, 3, 1, 0, 0, 0), (19, 51, 3, 6, 32, 0), (22, 1, 3, 0, 0, 200), (25, 2, 1, 1, 0, 0), (26, 11, 1, 0, 0, 0), (27, 3, 1, 0, 0, 0), (28, 51, 3, 6, 30, 0), (31, 2, 1, 1, 0, 0), (32, 54, 1, 0, 0, 0), (33, 9, 1, 0, 0, 0), (34, 2, 1, 3, 0, 0), (35, 55, 1, 0, 0, 0), (36, 3, 1, 0, 0, 0), (37, 51, 3, 6, 30, 0), (40, 2, 1, 1, 0, 0), (41, 34, 1, 0, 0, 0), (42, 54, 1, 0, 0, 0), (43, 1, 1, 0, 0, 1), (44, 9, 1, 0, 0, 0), (45, 55, 1, 0, 0, 0), (46, 63, 1, 0, 0, 0)]
/-- 59: CardWorkshopModel.list(I)V -/
def cd59 : List (Nat × pm_I) := [(0, 3, 1, 0, 0, 0), (1, 51, 3, 6, 25, 0), (4, 1, 2, 0, 0, 12), (6, 54, 1, 0, 0, 0), (7, 5, 1, 2, 0, 0), (8, 3, 1, 0, 0, 0), (9, 51, 3, 6, 30, 0), (12, 2, 1, 1, 0, 0), (13, 1, 1, 0, 0, 0), (14, 55, 1, 0, 0, 0), (15, 3, 1, 0, 0, 0), (16, 3, 1, 0, 0, 0), (17, 50, 3, 6, 20, 0), (20, 2, 1, 2, 0, 0), (21, 1, 1, 0, 0, (-1)), (22, 60, 3, 56, 4, 0), (25, 40, 3, 29, 0, 0), (28, 63, 1, 0, 0, 0), (29, 1, 1, 0, 0, 0), (30, 5, 1, 3, 0, 0), (31, 2, 1, 3, 0, 0), (32, 3, 1, 0, 0, 0), (33, 50, 3, 6, 17, 0), (36, 41, 3, 142, 3, 0), (39, 3, 1, 0, 0, 0), (40, 51, 3, 6, 18, 0), (43, 2, 1, 3, 0, 0), (44, 54, 1, 2, 0, 0), (45, 40, 3, 70, 1, 0), (48, 3, 1, 0, 0, 0), (49, 3, 1, 0, 0, 0), (50, 51, 3, 6, 19, 0), (53, 2, 1, 3, 0, 0), (54, 54, 1, 0, 0, 0), (55, 2, 1, 2, 0, 0), (56, 1, 1, 0, 0, (-1)), (57, 60, 3, 56, 4, 0), (60, 40, 3, 70, 0, 0), (63, 3, 1, 0, 0, 0), (64, 2, 1, 1, 0, 0), (65, 2, 1, 3, 0, 0), (66, 1, 1, 0, 0, (-1)), (67, 60, 3, 58, 4, 0), (70, 1, 1, 0, 0, 0), (71, 5, 2, 4, 0, 0), (73, 2, 2, 4, 0, 0), (75, 3, 1, 0, 0, 0), (76, 50, 3, 6, 15, 0), (79, 3, 1, 0, 0, 0), (80, 50, 3, 6, 16, 0), (83, 11, 1, 0, 0, 0), (84, 41, 3, 136, 3, 0), (87, 3, 1, 0, 0, 0), (88, 51, 3, 6, 18, 0), (91, 2, 1, 3, 0, 0), (92, 54, 1, 2, 0, 0), (93, 40, 3, 136, 0, 0), (96, 3, 1, 0, 0, 0), (97, 2, 2, 4, 0, 0), (99, 2, 1, 2, 0, 0), (100, 60, 3, 60, 3, 0), (103, 40, 3, 130, 0, 0), (106, 3, 1, 0, 0, 0), (107, 3, 1, 0, 0, 0), (108, 51, 3, 6, 19, 0), (111, 2, 1, 3, 0, 0), (112, 54, 1, 0, 0, 0), (113, 2, 1, 2, 0, 0), (114, 2, 2, 4, 0, 0), (116, 60, 3, 56, 4, 0), (119, 40, 3, 130, 0, 0), (122, 3, 1, 0, 0, 0), (123, 2, 1, 1, 0, 0), (124, 2, 1, 3, 0, 0), (125, 2, 2, 4, 0, 0), (127, 60, 3, 58, 4, 0), (130, 8, 3, 4, 0, 1), (133, 42, 3, 73, 0, 0), (136, 8, 3, 3, 0, 1), (139, 42, 3, 31, 0, 0), (142, 63, 1, 0, 0, 0)]
/-- 60: CardWorkshopModel.lies(II)Z -/
def cd60 : List (Nat × pm_I) := [(0, 1, 1, 0, 0, 0), (1, 5, 1, 3, 0, 0), (2, 1, 1, 0, 0, 0), (3, 5, 2, 4, 0, 0), (5, 2, 2, 4, 0, 0), (7, 3, 1, 0, 0, 0), (8, 51, 3, 6, 25, 0), (11, 2, 1, 2, 0, 0), (12, 54, 1, 0, 0, 0), (13, 41, 3, 47, 3, 0), (16, 2, 1, 3, 0, 0), (17, 40, 3, 35, 1, 0), (20, 3, 1, 0, 0, 0), (21, 51, 3, 6, 25, 0), (24, 2, 1, 2, 0, 0), (25, 2, 2, 4, 0, 0), (27, 60, 3, 49, 2, 0), (30, 54, 1, 0, 0, 0), (31, 2, 1, 1, 0, 0), (32, 41, 3, 39, 1, 0), (35, 1, 1, 0, 0, 1), (36, 42, 3, 40, 0, 0), (39, 1, 1, 0, 0, 0), (40, 5, 1, 3, 0, 0), (41, 8, 3, 4, 0, 1), (44, 42, 3, 5, 0, 0), (47, 2, 1, 3, 0, 0), (48, 64, 1, 2, 0, 0)]
/-- 61: CardWorkshopModel.make(II)V -/
def cd61 : List (Nat × pm_I) := [(0, 3, 1, 0, 0, 0), (1, 51, 3, 6, 25, 0), (4, 1, 2, 0, 0, 12), (6, 54, 1, 0, 0, 0), (7, 5, 1, 3, 0, 0), (8, 3, 1, 0, 0, 0), (9, 1, 1, 0, 0, 0), (10, 52, 3, 6, 29, 2), (13, 3, 1, 0, 0, 0), (14, 3, 1, 0, 0, 0), (15, 3, 1, 0, 0, 0), (16, 51, 3, 6, 19, 0), (19, 2, 1, 1, 0, 0), (20, 54, 1, 0, 0, 0), (21, 60, 3, 57, 2, 0), (24, 2, 1, 3, 0, 0), (25, 2, 1, 2, 0, 0), (26, 60, 3, 56, 4, 0), (29, 5, 2, 4, 0, 0), (31, 3, 1, 0, 0, 0), (32, 51, 3, 6, 25, 0), (35, 1, 2, 0, 0, 12), (37, 3, 1, 0, 0, 0), (38, 50, 3, 6, 29, 0), (41, 40, 3, 50, 0, 0), (44, 1, 1, 0, 0, 1), (45, 2, 1, 3, 0, 0), (46, 10, 1, 0, 0, 0), (47, 42, 3, 51, 0, 0), (50, 2, 1, 3, 0, 0), (51, 55, 1, 0, 0, 0), (52, 63, 1, 0, 0, 0)]
/-- 62: CardWorkshopModel.deal(II)I -/
def cd62 : List (Nat × pm_I) := [(0, 3, 1, 0, 0, 0), (1, 3, 1, 0, 0, 0), (2, 50, 3, 6, 14, 0), (5, 40, 3, 12, 1, 0), (8, 1, 1, 0, 0, 1), (9, 42, 3, 21, 0, 0), (12, 2, 1, 2, 0, 0), (13, 40, 3, 20, 3, 0), (16, 1, 1, 0, 0, 2), (17, 42, 3, 21, 0, 0), (20, 1, 1, 0, 0, 0), (21, 52, 3, 6, 0, 0), (24, 3, 1, 0, 0, 0), (25, 50, 3, 6, 0, 0), (28, 40, 3, 33, 5, 0), (31, 1, 1, 0, 0, 0), (32, 64, 1, 0, 0, 0), (33, 1, 1, 0, 0, 0), (34, 5, 1, 3, 0, 0), (35, 2, 1, 3, 0, 0), (36, 1, 3, 0, 0, 157), (39, 41, 3, 55, 3, 0), (42, 3, 1, 0, 0, 0), (43, 51, 3, 6, 25, 0), (46, 2, 1, 3, 0, 0), (47, 1, 1, 0, 0, 0), (48, 55, 1, 0, 0, 0), (49, 8, 3, 3, 0, 1), (52, 42, 3, 35, 0, 0), (55, 3, 1, 0, 0, 0), (56, 50, 3, 6, 15, 0), (59, 3, 1, 0, 0, 0), (60, 50, 3, 6, 16, 0), (63, 11, 1, 0, 0, 0), (64, 5, 1, 3, 0, 0), (65, 1, 1, 0, 0, 0), (66, 5, 2, 4, 0, 0), (68, 2, 2, 4, 0, 0), (70, 2, 1, 3, 0, 0), (71, 41, 3, 89, 3, 0), (74, 3, 1, 0, 0, 0), (75, 51, 3, 6, 36, 0), (78, 2, 2, 4, 0, 0), (80, 2, 2, 4, 0, 0), (82, 55, 1, 0, 0, 0), (83, 8, 3, 4, 0, 1), (86, 42, 3, 68, 0, 0), (89, 2, 1, 1, 0, 0), (90, 5, 2, 4, 0, 0), (92, 2, 1, 3, 0, 0), (93, 1, 1, 0, 0, 1), (94, 10, 1, 0, 0, 0), (95, 5, 2, 5, 0, 0), (97, 2, 2, 5, 0, 0), (99, 40, 3, 161, 5, 0), (102, 2, 2, 4, 0, 0), (104, 1, 2, 0, 0, 22695477), (106, 11, 1, 0, 0, 0), (107, 1, 1, 0, 0, 1), (108, 9, 1, 0, 0, 0), (109, 5, 2, 4, 0, 0), (111, 2, 2, 4, 0, 0), (113, 1, 2, 0, 0, 16), (115, 18, 1, 0, 0, 0), (116, 2, 2, 5, 0, 0), (118, 1, 1, 0, 0, 1), (119, 9, 1, 0, 0, 0), (120, 13, 1, 0, 0, 0), (121, 5, 2, 6, 0, 0), (123, 3, 1, 0, 0, 0), (124, 51, 3, 6, 36, 0), (127, 2, 2, 5, 0, 0), (129, 54, 1, 0, 0, 0), (130, 5, 2, 7, 0, 0), (132, 3, 1, 0, 0, 0), (133, 51, 3, 6, 36, 0), (136, 2, 2, 5, 0, 0), (138, 3, 1, 0, 0, 0), (139, 51, 3, 6, 36, 0), (142, 2, 2, 6, 0, 0), (144, 54, 1, 0, 0, 0), (145, 55, 1, 0, 0, 0), (146, 3, 1, 0, 0, 0), (147, 51, 3, 6, 36, 0), (150, 2, 2, 6, 0, 0), (152, 2, 2, 7, 0, 0), (154, 55, 1, 0, 0, 0), (155, 8, 3, 5, 0, (-1)), (158, 42, 3, 97, 0, 0), (161, 2, 1, 3, 0, 0), (162, 5, 2, 5, 0, 0), (164, 1, 1, 0, 0, 0), (165, 5, 2, 6, 0, 0), (167, 2, 2, 6, 0, 0), (169, 1, 1, 0, 0, 2), (170, 2, 1, 2, 0, 0), (171, 1, 2, 0, 0, 24), (173, 41, 3, 180, 3, 0), (176, 2, 1, 2, 0, 0), (177, 42, 3, 182, 0, 0), (180, 1, 2, 0, 0, 24), (182, 11, 1, 0, 0, 0), (183, 41, 3, 215, 3, 0), (186, 2, 2, 5, 0, 0), (188, 40, 3, 215, 5, 0), (191, 8, 3, 5, 0, (-1)), (194, 3, 1, 0, 0, 0), (195, 3, 1, 0, 0, 0), (196, 51, 3, 6, 36, 0), (199, 2, 2, 5, 0, 0), (201, 54, 1, 0, 0, 0), (202, 2, 2, 6, 0, 0), (204, 1, 1, 0, 0, 2), (205, 13, 1, 0, 0, 0), (206, 60, 3, 51, 3, 0), (209, 8, 3, 6, 0, 1), (212, 42, 3, 167, 0, 0), (215, 1, 1, 0, 0, 0), (216, 5, 2, 6, 0, 0), (218, 2, 2, 6, 0, 0), (220, 2, 2, 5, 0, 0), (222, 41, 3, 243, 3, 0), (225, 3, 1, 0, 0, 0), (226, 3, 1, 0, 0, 0), (227, 51, 3, 6, 36, 0), (230, 2, 2, 6, 0, 0), (232, 54, 1, 0, 0, 0), (233, 1, 1, 0, 0, 2), (234, 60, 3, 51, 3, 0), (237, 8, 3, 6, 0, 1), (240, 42, 3, 218, 0, 0), (243, 3, 1, 0, 0, 0), (244, 1, 1, 0, 0, 1), (245, 52, 3, 6, 24, 2), (248, 3, 1, 0, 0, 0), (249, 1, 1, 0, 0, 0), (250, 52, 3, 6, 26, 0), (253, 3, 1, 0, 0, 0), (254, 1, 1, 0, 0, (-1)), (255, 52, 3, 6, 37, 0), (258, 2, 2, 5, 0, 0), (260, 64, 1, 0, 0, 0)]
/-- 63: CardWorkshopModel.put(II)Z -/
def cd63 : List (Nat × pm_I) := [(0, 3, 1, 0, 0, 0), (1, 1, 1, 0, 0, 0), (2, 52, 3, 6, 0, 0), (5, 3, 1, 0, 0, 0), (6, 50, 3, 6, 24, 0), (9, 40, 3, 38, 0, 0), (12, 2, 1, 1, 0, 0), (13, 40, 3, 38, 2, 0), (16, 2, 1, 1, 0, 0), (17, 3, 1, 0, 0, 0), (18, 50, 3, 6, 15, 0), (21, 3, 1, 0, 0, 0), (22, 50, 3, 6, 16, 0), (25, 11, 1, 0, 0, 0), (26, 41, 3, 38, 3, 0), (29, 2, 1, 2, 0, 0), (30, 40, 3, 38, 2, 0), (33, 2, 1, 2, 0, 0), (34, 1, 1, 0, 0, 5), (35, 41, 3, 40, 5, 0), (38, 1, 1, 0, 0, 0), (39, 64, 1, 2, 0, 0), (40, 3, 1, 0, 0, 0), (41, 2, 1, 1, 0, 0), (42, 2, 1, 2, 0, 0), (43, 60, 3, 51, 3, 0), (46, 3, 1, 0, 0, 0), (47, 1, 1, 0, 0, (-1)), (48, 52, 3, 6, 37, 0), (51, 1, 1, 0, 0, 1), (52, 64, 1, 2, 0, 0)]
/-- 64: CardWorkshopModel.listed()I -/
def cd64 : List (Nat × pm_I) := [(0, 3, 1, 0, 0, 0), (1, 50, 3, 6, 24, 0), (4, 40, 3, 9, 1, 0), (7, 1, 1, 0, 0, 0), (8, 64, 1, 0, 0, 0), (9, 3, 1, 0, 0, 0), (10, 1, 1, 0, 0, 0), (11, 60, 3, 59, 2, 0), (14, 3, 1, 0, 0, 0), (15, 51, 3, 6, 30, 0), (18, 1, 1, 0, 0, 0), (19, 54, 1, 0, 0, 0), (20, 64, 1, 0, 0, 0)]
/-- 65: CardWorkshopModel.moves()I -/
def cd65 : List (Nat × pm_I) := [(0, 3, 1, 0, 0, 0), (1, 1, 1, 0, 0, 0), (2, 52, 3, 6, 0, 0), (5, 3, 1, 0, 0, 0), (6, 60, 3, 64, 1, 0), (9, 64, 1, 0, 0, 0)]
/-- 66: CardWorkshopModel.move(IZ)I -/
def cd66 : List (Nat × pm_I) := [(0, 3, 1, 0, 0, 0), (1, 60, 3, 64, 1, 0), (4, 5, 1, 3, 0, 0), (5, 3, 1, 0, 0, 0), (6, 2, 1, 1, 0, 0), (7, 40, 3, 19, 2, 0), (10, 2, 1, 1, 0, 0), (11, 2, 1, 3, 0, 0), (12, 41, 3, 19, 3, 0), (15, 1, 1, 0, 0, 0), (16, 42, 3, 20, 0, 0), (19, 1, 1, 0, 0, 1), (20, 52, 3, 6, 0, 0), (23, 3, 1, 0, 0, 0), (24, 50, 3, 6, 0, 0), (27, 40, 3, 34, 5, 0), (30, 1, 1, 0, 0, 0), (31, 42, 3, 53, 0, 0), (34, 2, 1, 2, 0, 0), (35, 40, 3, 47, 0, 0), (38, 3, 1, 0, 0, 0), (39, 51, 3, 6, 32, 0), (42, 2, 1, 1, 0, 0), (43, 54, 1, 0, 0, 0), (44, 42, 3, 53, 0, 0), (47, 3, 1, 0, 0, 0), (48, 51, 3, 6, 31, 0), (51, 2, 1, 1, 0, 0), (52, 54, 1, 0, 0, 0), (53, 64, 1, 0, 0, 0)]
/-- 67: CardWorkshopModel.act(I)I -/
def cd67 : List (Nat × pm_I) := [(0, 3, 1, 0, 0, 0), (1, 60, 3, 64, 1, 0), (4, 5, 1, 2, 0, 0), (5, 3, 1, 0, 0, 0), (6, 2, 1, 1, 0, 0), (7, 40, 3, 15, 2, 0), (10, 2, 1, 1, 0, 0), (11, 2, 1, 2, 0, 0), (12, 41, 3, 19, 2, 0), (15, 1, 1, 0, 0, 1), (16, 42, 3, 33, 0, 0), (19, 3, 1, 0, 0, 0), (20, 50, 3, 6, 26, 0), (23, 1, 2, 0, 0, 60), (25, 41, 3, 32, 1, 0), (28, 1, 1, 0, 0, 2), (29, 42, 3, 33, 0, 0), (32, 1, 1, 0, 0, 0), (33, 52, 3, 6, 0, 0), (36, 3, 1, 0, 0, 0), (37, 50, 3, 6, 0, 0), (40, 40, 3, 45, 5, 0), (43, 1, 1, 0, 0, 0), (44, 64, 1, 0, 0, 0), (45, 1, 1, 0, 0, 0), (46, 5, 1, 3, 0, 0), (47, 2, 1, 3, 0, 0), (48, 1, 3, 0, 0, 157), (51, 41, 3, 81, 3, 0), (54, 3, 1, 0, 0, 0), (55, 51, 3, 6, 27, 0), (58, 1, 3, 0, 0, 157), (61, 3, 1, 0, 0, 0), (62, 50, 3, 6, 26, 0), (65, 11, 1, 0, 0, 0), (66, 2, 1, 3, 0, 0), (67, 9, 1, 0, 0, 0), (68, 3, 1, 0, 0, 0), (69, 51, 3, 6, 25, 0), (72, 2, 1, 3, 0, 0), (73, 54, 1, 0, 0, 0), (74, 55, 1, 0, 0, 0), (75, 8, 3, 3, 0, 1), (78, 42, 3, 47, 0, 0), (81, 3, 1, 0, 0, 0), (82, 3, 1, 0, 0, 0), (83, 51, 3, 6, 31, 0), (86, 2, 1, 1, 0, 0), (87, 54, 1, 0, 0, 0), (88, 3, 1, 0, 0, 0), (89, 51, 3, 6, 32, 0), (92, 2, 1, 1, 0, 0), (93, 54, 1, 0, 0, 0), (94, 60, 3, 61, 3, 0), (97, 3, 1, 0, 0, 0), (98, 32, 1, 0, 0, 0), (99, 50, 3, 6, 26, 0), (102, 1, 1, 0, 0, 1), (103, 9, 1, 0, 0, 0), (104, 52, 3, 6, 26, 0), (107, 3, 1, 0, 0, 0), (108, 1, 1, 0, 0, (-1)), (109, 52, 3, 6, 37, 0), (112, 3, 1, 0, 0, 0), (113, 50, 3, 6, 26, 0), (116, 64, 1, 0, 0, 0)]
/-- 68: CardWorkshopModel.undo()Z -/
def cd68 : List (Nat × pm_I) := [(0, 3, 1, 0, 0, 0), (1, 1, 1, 0, 0, 0), (2, 52, 3, 6, 0, 0), (5, 3, 1, 0, 0, 0), (6, 50, 3, 6, 24, 0), (9, 40, 3, 19, 0, 0), (12, 3, 1, 0, 0, 0), (13, 50, 3, 6, 26, 0), (16, 40, 3, 21, 1, 0), (19, 1, 1, 0, 0, 0), (20, 64, 1, 2, 0, 0), (21, 3, 1, 0, 0, 0), (22, 32, 1, 0, 0, 0), (23, 50, 3, 6, 26, 0), (26, 1, 1, 0, 0, 1), (27, 10, 1, 0, 0, 0), (28, 52, 3, 6, 26, 0), (31, 1, 1, 0, 0, 0), (32, 5, 1, 1, 0, 0), (33, 2, 1, 1, 0, 0), (34, 1, 3, 0, 0, 157), (37, 41, 3, 67, 3, 0), (40, 3, 1, 0, 0, 0), (41, 51, 3, 6, 25, 0), (44, 2, 1, 1, 0, 0), (45, 3, 1, 0, 0, 0), (46, 51, 3, 6, 27, 0), (49, 1, 3, 0, 0, 157), (52, 3, 1, 0, 0, 0), (53, 50, 3, 6, 26, 0), (56, 11, 1, 0, 0, 0), (57, 2, 1, 1, 0, 0), (58, 9, 1, 0, 0, 0), (59, 54, 1, 0, 0, 0), (60, 55, 1, 0, 0, 0), (61, 8, 3, 1, 0, 1), (64, 42, 3, 33, 0, 0), (67, 3, 1, 0, 0, 0), (68, 1, 1, 0, 0, (-1)), (69, 52, 3, 6, 37, 0), (72, 1, 1, 0, 0, 1), (73, 64, 1, 2, 0, 0)]
/-- 69: CardWorkshopModel.card(II)I -/
def cd69 : List (Nat × pm_I) := [(0, 3, 1, 0, 0, 0), (1, 1, 1, 0, 0, 0), (2, 52, 3, 6, 0, 0), (5, 3, 1, 0, 0, 0), (6, 50, 3, 6, 24, 0), (9, 40, 3, 21, 0, 0), (12, 2, 1, 1, 0, 0), (13, 40, 3, 21, 2, 0), (16, 2, 1, 1, 0, 0), (17, 1, 1, 0, 0, 5), (18, 41, 3, 23, 5, 0), (21, 1, 1, 0, 0, (-1)), (22, 64, 1, 0, 0, 0), (23, 2, 1, 2, 0, 0), (24, 1, 1, 0, 0, (-1)), (25, 41, 3, 37, 1, 0), (28, 3, 1, 0, 0, 0), (29, 51, 3, 6, 25, 0), (32, 2, 1, 1, 0, 0), (33, 54, 1, 0, 0, 0), (34, 42, 3, 65, 0, 0), (37, 2, 1, 2, 0, 0), (38, 40, 3, 51, 2, 0), (41, 2, 1, 2, 0, 0), (42, 3, 1, 0, 0, 0), (43, 51, 3, 6, 25, 0), (46, 2, 1, 1, 0, 0), (47, 54, 1, 0, 0, 0), (48, 41, 3, 55, 2, 0), (51, 1, 1, 0, 0, (-1)), (52, 42, 3, 65, 0, 0), (55, 3, 1, 0, 0, 0), (56, 51, 3, 6, 25, 0), (59, 2, 1, 1, 0, 0), (60, 2, 1, 2, 0, 0), (61, 60, 3, 49, 2, 0), (64, 54, 1, 0, 0, 0), (65, 64, 1, 0, 0, 0)]
/-- 70: CardWorkshopModel.seen(III)I -/
def cd70 : List (Nat × pm_I) := [(0, 3, 1, 0, 0, 0), (1, 1, 1, 0, 0, 0), (2, 52, 3, 6, 0, 0), (5, 2, 1, 3, 0, 0), (6, 1, 1, 0, 0, (-1)), (7, 41, 3, 26, 0, 0), (10, 2, 1, 2, 0, 0), (11, 1, 1, 0, 0, 2), (12, 41, 3, 22, 0, 0), (15, 2, 1, 2, 0, 0), (16, 1, 1, 0, 0, 1), (17, 2, 1, 1, 0, 0), (18, 10, 1, 0, 0, 0), (19, 41, 3, 26, 1, 0), (22, 1, 1, 0, 0, 1), (23, 42, 3, 27, 0, 0), (26, 1, 1, 0, 0, 0), (27, 5, 2, 4, 0, 0), (29, 2, 1, 1, 0, 0), (30, 40, 3, 43, 2, 0), (33, 2, 1, 1, 0, 0), (34, 1, 1, 0, 0, 1), (35, 41, 3, 43, 4, 0), (38, 2, 2, 4, 0, 0), (40, 40, 3, 47, 0, 0), (43, 1, 1, 0, 0, (-1)), (44, 42, 3, 53, 0, 0), (47, 3, 1, 0, 0, 0), (48, 2, 1, 2, 0, 0), (49, 2, 1, 3, 0, 0), (50, 60, 3, 69, 3, 0), (53, 64, 1, 0, 0, 0)]
/-- 71: CardWorkshopModel.counter(I)I -/
def cd71 : List (Nat × pm_I) := [(0, 3, 1, 0, 0, 0), (1, 2, 1, 1, 0, 0), (2, 40, 3, 15, 2, 0), (5, 2, 1, 1, 0, 0), (6, 1, 2, 0, 0, 6), (8, 41, 3, 15, 3, 0), (11, 1, 1, 0, 0, 0), (12, 42, 3, 16, 0, 0), (15, 1, 1, 0, 0, 1), (16, 52, 3, 6, 0, 0), (19, 3, 1, 0, 0, 0), (20, 50, 3, 6, 0, 0), (23, 40, 3, 33, 4, 0), (26, 3, 1, 0, 0, 0), (27, 50, 3, 6, 24, 0), (30, 40, 3, 37, 1, 0), (33, 1, 1, 0, 0, 0), (34, 42, 3, 46, 0, 0), (37, 3, 1, 0, 0, 0), (38, 51, 3, 6, 25, 0), (41, 1, 2, 0, 0, 6), (43, 2, 1, 1, 0, 0), (44, 9, 1, 0, 0, 0), (45, 54, 1, 0, 0, 0), (46, 64, 1, 0, 0, 0)]
/-- 72: CardWorkshopModel.look(I)I -/
def cd72 : List (Nat × pm_I) := [(0, 3, 1, 0, 0, 0), (1, 1, 1, 0, 0, 0), (2, 52, 3, 6, 0, 0), (5, 2, 1, 1, 0, 0), (6, 1, 1, 0, 0, 4), (7, 41, 3, 64, 3, 0), (10, 2, 1, 1, 0, 0), (11, 40, 3, 21, 1, 0), (14, 3, 1, 0, 0, 0), (15, 50, 3, 6, 1, 0), (18, 42, 3, 63, 0, 0), (21, 2, 1, 1, 0, 0), (22, 1, 1, 0, 0, 1), (23, 41, 3, 33, 1, 0), (26, 3, 1, 0, 0, 0), (27, 50, 3, 6, 21, 0), (30, 42, 3, 63, 0, 0), (33, 2, 1, 1, 0, 0), (34, 1, 1, 0, 0, 2), (35, 41, 3, 50, 1, 0), (38, 3, 1, 0, 0, 0), (39, 50, 3, 6, 15, 0), (42, 3, 1, 0, 0, 0), (43, 50, 3, 6, 16, 0), (46, 11, 1, 0, 0, 0), (47, 42, 3, 63, 0, 0), (50, 2, 1, 1, 0, 0), (51, 1, 1, 0, 0, 3), (52, 41, 3, 62, 1, 0), (55, 3, 1, 0, 0, 0), (56, 50, 3, 6, 17, 0), (59, 42, 3, 63, 0, 0), (62, 1, 1, 0, 0, (-1)), (63, 64, 1, 0, 0, 0), (64, 2, 1, 1, 0, 0), (65, 1, 1, 0, 0, 4), (66, 41, 3, 75, 0, 0), (69, 2, 1, 1, 0, 0), (70, 1, 2, 0, 0, 7), (72, 41, 3, 101, 1, 0), (75, 2, 1, 1, 0, 0), (76, 1, 2, 0, 0, 7), (78, 41, 3, 88, 1, 0), (81, 3, 1, 0, 0, 0), (82, 50, 3, 6, 26, 0), (85, 42, 3, 100, 0, 0), (88, 3, 1, 0, 0, 0), (89, 50, 3, 6, 24, 0), (92, 40, 3, 99, 0, 0), (95, 1, 1, 0, 0, 1), (96, 42, 3, 100, 0, 0), (99, 1, 1, 0, 0, 0), (100, 64, 1, 0, 0, 0), (101, 2, 1, 1, 0, 0), (102, 1, 2, 0, 0, 7), (104, 41, 3, 114, 4, 0), (107, 3, 1, 0, 0, 0), (108, 50, 3, 6, 24, 0), (111, 40, 3, 116, 1, 0), (114, 1, 1, 0, 0, (-1)), (115, 64, 1, 0, 0, 0), (116, 2, 1, 1, 0, 0), (117, 1, 1, 0, 0, 5), (118, 41, 3, 131, 1, 0), (121, 3, 1, 0, 0, 0), (122, 51, 3, 6, 25, 0), (125, 1, 2, 0, 0, 12), (127, 54, 1, 0, 0, 0), (128, 42, 3, 143, 0, 0), (131, 3, 1, 0, 0, 0), (132, 60, 3, 64, 1, 0), (135, 40, 3, 142, 1, 0), (138, 1, 1, 0, 0, 1), (139, 42, 3, 143, 0, 0), (142, 1, 1, 0, 0, 0), (143, 64, 1, 0, 0, 0)]
/-- 73: CardWorkshopModel.keep(I)V -/
def cd73 : List (Nat × pm_I) := [(0, 1, 1, 0, 0, 0), (1, 5, 1, 2, 0, 0), (2, 2, 1, 2, 0, 0), (3, 1, 3, 0, 0, 157), (6, 41, 3, 33, 3, 0), (9, 3, 1, 0, 0, 0), (10, 51, 3, 6, 36, 0), (13, 1, 3, 0, 0, 157), (16, 2, 1, 1, 0, 0), (17, 11, 1, 0, 0, 0), (18, 2, 1, 2, 0, 0), (19, 9, 1, 0, 0, 0), (20, 3, 1, 0, 0, 0), (21, 51, 3, 6, 25, 0), (24, 2, 1, 2, 0, 0), (25, 54, 1, 0, 0, 0), (26, 55, 1, 0, 0, 0), (27, 8, 3, 2, 0, 1), (30, 42, 3, 2, 0, 0), (33, 63, 1, 0, 0, 0)]
/-- 74: CardWorkshopModel.back(I)V -/
def cd74 : List (Nat × pm_I) := [(0, 1, 1, 0, 0, 0), (1, 5, 1, 2, 0, 0), (2, 2, 1, 2, 0, 0), (3, 1, 3, 0, 0, 157), (6, 41, 3, 33, 3, 0), (9, 3, 1, 0, 0, 0), (10, 51, 3, 6, 25, 0), (13, 2, 1, 2, 0, 0), (14, 3, 1, 0, 0, 0), (15, 51, 3, 6, 36, 0), (18, 1, 3, 0, 0, 157), (21, 2, 1, 1, 0, 0), (22, 11, 1, 0, 0, 0), (23, 2, 1, 2, 0, 0), (24, 9, 1, 0, 0, 0), (25, 54, 1, 0, 0, 0), (26, 55, 1, 0, 0, 0), (27, 8, 3, 2, 0, 1), (30, 42, 3, 2, 0, 0), (33, 63, 1, 0, 0, 0)]
/-- 75: CardWorkshopModel.give(II)V -/
def cd75 : List (Nat × pm_I) := [(0, 3, 1, 0, 0, 0), (1, 51, 3, 6, 33, 0), (4, 2, 1, 1, 0, 0), (5, 54, 1, 0, 0, 0), (6, 1, 1, 0, 0, 1), (7, 41, 3, 49, 0, 0), (10, 3, 1, 0, 0, 0), (11, 51, 3, 6, 36, 0), (14, 1, 3, 0, 0, 157), (17, 2, 1, 1, 0, 0), (18, 11, 1, 0, 0, 0), (19, 1, 2, 0, 0, 12), (21, 9, 1, 0, 0, 0), (22, 54, 1, 0, 0, 0), (23, 40, 3, 39, 1, 0), (26, 2, 1, 2, 0, 0), (27, 3, 1, 0, 0, 0), (28, 51, 3, 6, 34, 0), (31, 2, 1, 1, 0, 0), (32, 54, 1, 0, 0, 0), (33, 41, 3, 53, 5, 0), (36, 42, 3, 49, 0, 0), (39, 2, 1, 2, 0, 0), (40, 3, 1, 0, 0, 0), (41, 51, 3, 6, 34, 0), (44, 2, 1, 1, 0, 0), (45, 54, 1, 0, 0, 0), (46, 41, 3, 53, 3, 0), (49, 1, 1, 0, 0, 1), (50, 42, 3, 54, 0, 0), (53, 1, 1, 0, 0, 0), (54, 5, 1, 3, 0, 0), (55, 3, 1, 0, 0, 0), (56, 51, 3, 6, 35, 0), (59, 2, 1, 1, 0, 0), (60, 2, 1, 3, 0, 0), (61, 40, 3, 75, 0, 0), (64, 3, 1, 0, 0, 0), (65, 51, 3, 6, 33, 0), (68, 2, 1, 1, 0, 0), (69, 54, 1, 0, 0, 0), (70, 1, 1, 0, 0, 1), (71, 10, 1, 0, 0, 0), (72, 42, 3, 81, 0, 0), (75, 3, 1, 0, 0, 0), (76, 51, 3, 6, 35, 0), (79, 2, 1, 1, 0, 0), (80, 54, 1, 0, 0, 0), (81, 55, 1, 0, 0, 0), (82, 3, 1, 0, 0, 0), (83, 51, 3, 6, 34, 0), (86, 2, 1, 1, 0, 0), (87, 2, 1, 3, 0, 0), (88, 40, 3, 95, 0, 0), (91, 2, 1, 2, 0, 0), (92, 42, 3, 101, 0, 0), (95, 3, 1, 0, 0, 0), (96, 51, 3, 6, 34, 0), (99, 2, 1, 1, 0, 0), (100, 54, 1, 0, 0, 0), (101, 55, 1, 0, 0, 0), (102, 63, 1, 0, 0, 0)]
/-- 76: CardWorkshopModel.search(I)Z -/
def cd76 : List (Nat × pm_I) := [(0, 1, 1, 0, 0, 1), (1, 5, 1, 2, 0, 0), (2, 1, 1, 0, 0, 0), (3, 5, 1, 3, 0, 0), (4, 3, 1, 0, 0, 0), (5, 1, 1, 0, 0, 0), (6, 60, 3, 59, 2, 0), (9, 3, 1, 0, 0, 0), (10, 1, 1, 0, 0, 0), (11, 60, 3, 73, 2, 0), (14, 3, 1, 0, 0, 0), (15, 51, 3, 6, 33, 0), (18, 1, 1, 0, 0, 0), (19, 1, 1, 0, 0, 0), (20, 55, 1, 0, 0, 0), (21, 3, 1, 0, 0, 0), (22, 51, 3, 6, 34, 0), (25, 1, 1, 0, 0, 0), (26, 3, 1, 0, 0, 0), (27, 51, 3, 6, 25, 0), (30, 1, 2, 0, 0, 10), (32, 54, 1, 0, 0, 0), (33, 3, 1, 0, 0, 0), (34, 51, 3, 6, 25, 0), (37, 1, 2, 0, 0, 11), (39, 54, 1, 0, 0, 0), (40, 10, 1, 0, 0, 0), (41, 55, 1, 0, 0, 0), (42, 3, 1, 0, 0, 0), (43, 51, 3, 6, 35, 0), (46, 1, 1, 0, 0, 0), (47, 1, 1, 0, 0, (-1)), (48, 55, 1, 0, 0, 0), (49, 2, 1, 3, 0, 0), (50, 40, 3, 204, 2, 0), (53, 3, 1, 0, 0, 0), (54, 51, 3, 6, 33, 0), (57, 2, 1, 3, 0, 0), (58, 54, 1, 0, 0, 0), (59, 3, 1, 0, 0, 0), (60, 51, 3, 6, 30, 0), (63, 2, 1, 3, 0, 0), (64, 54, 1, 0, 0, 0), (65, 41, 3, 91, 1, 0), (68, 8, 3, 3, 0, (-1)), (71, 2, 1, 3, 0, 0), (72, 40, 3, 49, 2, 0), (75, 3, 1, 0, 0, 0), (76, 2, 1, 3, 0, 0), (77, 3, 1, 0, 0, 0), (78, 51, 3, 6, 34, 0), (81, 2, 1, 3, 0, 0), (82, 1, 1, 0, 0, 1), (83, 9, 1, 0, 0, 0), (84, 54, 1, 0, 0, 0), (85, 60, 3, 75, 3, 0), (88, 42, 3, 49, 0, 0), (91, 2, 1, 2, 0, 0), (92, 2, 1, 1, 0, 0), (93, 41, 3, 102, 0, 0), (96, 2, 1, 3, 0, 0), (97, 1, 2, 0, 0, 10), (99, 41, 3, 104, 1, 0), (102, 1, 1, 0, 0, 0), (103, 64, 1, 2, 0, 0), (104, 3, 1, 0, 0, 0), (105, 2, 1, 3, 0, 0), (106, 60, 3, 74, 2, 0), (109, 3, 1, 0, 0, 0), (110, 3, 1, 0, 0, 0), (111, 51, 3, 6, 31, 0), (114, 1, 3, 0, 0, 200), (117, 2, 1, 3, 0, 0), (118, 11, 1, 0, 0, 0), (119, 3, 1, 0, 0, 0), (120, 51, 3, 6, 33, 0), (123, 2, 1, 3, 0, 0), (124, 54, 1, 0, 0, 0), (125, 9, 1, 0, 0, 0), (126, 54, 1, 0, 0, 0), (127, 3, 1, 0, 0, 0), (128, 51, 3, 6, 32, 0), (131, 1, 3, 0, 0, 200), (134, 2, 1, 3, 0, 0), (135, 11, 1, 0, 0, 0), (136, 3, 1, 0, 0, 0), (137, 51, 3, 6, 33, 0), (140, 2, 1, 3, 0, 0), (141, 54, 1, 0, 0, 0), (142, 9, 1, 0, 0, 0), (143, 54, 1, 0, 0, 0), (144, 60, 3, 61, 3, 0), (147, 3, 1, 0, 0, 0), (148, 51, 3, 6, 33, 0), (151, 2, 1, 3, 0, 0), (152, 34, 1, 0, 0, 0), (153, 54, 1, 0, 0, 0), (154, 1, 1, 0, 0, 1), (155, 9, 1, 0, 0, 0), (156, 55, 1, 0, 0, 0), (157, 8, 3, 3, 0, 1), (160, 8, 3, 2, 0, 1), (163, 3, 1, 0, 0, 0), (164, 2, 1, 3, 0, 0), (165, 60, 3, 59, 2, 0), (168, 3, 1, 0, 0, 0), (169, 2, 1, 3, 0, 0), (170, 60, 3, 73, 2, 0), (173, 3, 1, 0, 0, 0), (174, 51, 3, 6, 33, 0), (177, 2, 1, 3, 0, 0), (178, 1, 1, 0, 0, 0), (179, 55, 1, 0, 0, 0), (180, 3, 1, 0, 0, 0), (181, 51, 3, 6, 34, 0), (184, 2, 1, 3, 0, 0), (185, 3, 1, 0, 0, 0), (186, 51, 3, 6, 25, 0), (189, 1, 2, 0, 0, 10), (191, 54, 1, 0, 0, 0), (192, 3, 1, 0, 0, 0), (193, 51, 3, 6, 25, 0), (196, 1, 2, 0, 0, 11), (198, 54, 1, 0, 0, 0), (199, 10, 1, 0, 0, 0), (200, 55, 1, 0, 0, 0), (201, 42, 3, 49, 0, 0), (204, 1, 1, 0, 0, 1), (205, 64, 1, 2, 0, 0)]
/-- 77: CardWorkshopModel.solve(I)I -/
def cd77 : List (Nat × pm_I) := [(0, 3, 1, 0, 0, 0), (1, 3, 1, 0, 0, 0), (2, 50, 3, 6, 24, 0), (5, 40, 3, 12, 1, 0), (8, 1, 1, 0, 0, 1), (9, 42, 3, 29, 0, 0), (12, 2, 1, 1, 0, 0), (13, 1, 1, 0, 0, 1), (14, 41, 3, 24, 2, 0), (17, 2, 1, 1, 0, 0), (18, 1, 3, 0, 0, 2000), (21, 41, 3, 28, 5, 0), (24, 1, 1, 0, 0, 2), (25, 42, 3, 29, 0, 0), (28, 1, 1, 0, 0, 0), (29, 52, 3, 6, 0, 0), (32, 3, 1, 0, 0, 0), (33, 50, 3, 6, 0, 0), (36, 40, 3, 41, 5, 0), (39, 1, 1, 0, 0, 0), (40, 64, 1, 0, 0, 0), (41, 3, 1, 0, 0, 0), (42, 2, 1, 1, 0, 0), (43, 60, 3, 76, 2, 0), (46, 5, 1, 2, 0, 0), (47, 3, 1, 0, 0, 0), (48, 1, 1, 0, 0, 0), (49, 60, 3, 74, 2, 0), (52, 3, 1, 0, 0, 0), (53, 2, 1, 2, 0, 0), (54, 40, 3, 61, 0, 0), (57, 1, 1, 0, 0, 0), (58, 42, 3, 62, 0, 0), (61, 1, 1, 0, 0, 3), (62, 52, 3, 6, 0, 0), (65, 3, 1, 0, 0, 0), (66, 50, 3, 6, 0, 0), (69, 40, 3, 74, 5, 0), (72, 1, 1, 0, 0, 0), (73, 64, 1, 0, 0, 0), (74, 3, 1, 0, 0, 0), (75, 3, 1, 0, 0, 0), (76, 51, 3, 6, 35, 0), (79, 1, 1, 0, 0, 0), (80, 54, 1, 0, 0, 0), (81, 52, 3, 6, 37, 0), (84, 3, 1, 0, 0, 0), (85, 51, 3, 6, 34, 0), (88, 1, 1, 0, 0, 0), (89, 54, 1, 0, 0, 0), (90, 64, 1, 0, 0, 0)]
/-- 78: CardWorkshopModel.best()I -/
def cd78 : List (Nat × pm_I) := [(0, 3, 1, 0, 0, 0), (1, 1, 1, 0, 0, 0), (2, 52, 3, 6, 0, 0), (5, 3, 1, 0, 0, 0), (6, 50, 3, 6, 37, 0), (9, 64, 1, 0, 0, 0)]
/-- 79: CardWorkshop$Game.<init>()V -/
def cd79 : List (Nat × pm_I) := [(0, 3, 1, 0, 0, 0), (1, 74, 3, 0, 0, 0), (4, 3, 1, 0, 0, 0), (5, 1, 3, 0, 0, 160), (8, 72, 2, 0, 0, 0), (10, 53, 3, 0, 0, 0), (13, 3, 1, 0, 0, 0), (14, 1, 3, 0, 0, 160), (17, 72, 2, 0, 0, 0), (19, 53, 3, 0, 1, 0), (22, 3, 1, 0, 0, 0), (23, 1, 1, 0, 0, 0), (24, 52, 3, 0, 2, 0), (27, 3, 1, 0, 0, 0), (28, 1, 1, 0, 0, 0), (29, 52, 3, 0, 3, 0), (32, 3, 1, 0, 0, 0), (33, 1, 1, 0, 0, 0), (34, 52, 3, 0, 4, 0), (37, 3, 1, 0, 0, 0), (38, 1, 1, 0, 0, 0), (39, 52, 3, 0, 5, 0), (42, 3, 1, 0, 0, 0), (43, 1, 2, 0, 0, 8), (45, 72, 2, 0, 0, 0), (47, 53, 3, 0, 6, 0), (50, 3, 1, 0, 0, 0), (51, 1, 2, 0, 0, 8), (53, 72, 2, 0, 0, 0), (55, 53, 3, 0, 7, 0), (58, 3, 1, 0, 0, 0), (59, 1, 2, 0, 0, 8), (61, 72, 2, 0, 0, 0), (63, 53, 3, 0, 8, 0), (66, 3, 1, 0, 0, 0), (67, 1, 1, 0, 0, 0), (68, 52, 3, 0, 9, 0), (71, 63, 1, 0, 0, 0)]
/-- 80: CardWorkshop$Game.emit(II)V -/
def cd80 : List (Nat × pm_I) := [(0, 3, 1, 0, 0, 0), (1, 50, 3, 0, 2, 0), (4, 1, 3, 0, 0, 160), (7, 41, 3, 30, 3, 0), (10, 3, 1, 0, 0, 0), (11, 51, 3, 0, 0, 0), (14, 3, 1, 0, 0, 0), (15, 50, 3, 0, 2, 0), (18, 2, 1, 1, 0, 0), (19, 55, 1, 0, 0, 0), (20, 3, 1, 0, 0, 0), (21, 51, 3, 0, 1, 0), (24, 3, 1, 0, 0, 0), (25, 50, 3, 0, 2, 0), (28, 2, 1, 2, 0, 0), (29, 55, 1, 0, 0, 0), (30, 3, 1, 0, 0, 0), (31, 32, 1, 0, 0, 0), (32, 50, 3, 0, 2, 0), (35, 1, 1, 0, 0, 1), (36, 9, 1, 0, 0, 0), (37, 52, 3, 0, 2, 0), (40, 63, 1, 0, 0, 0)]
/-- 81: CardWorkshop$Game.copyFrom(LCardWorkshop$Game;)V -/
def cd81 : List (Nat × pm_I) := [(0, 3, 1, 1, 0, 0), (1, 51, 3, 0, 0, 0), (4, 1, 1, 0, 0, 0), (5, 3, 1, 0, 0, 0), (6, 51, 3, 0, 0, 0), (9, 1, 1, 0, 0, 0), (10, 1, 3, 0, 0, 160), (13, 61, 3, 0, 0, 0), (16, 3, 1, 1, 0, 0), (17, 51, 3, 0, 1, 0), (20, 1, 1, 0, 0, 0), (21, 3, 1, 0, 0, 0), (22, 51, 3, 0, 1, 0), (25, 1, 1, 0, 0, 0), (26, 1, 3, 0, 0, 160), (29, 61, 3, 0, 0, 0), (32, 3, 1, 1, 0, 0), (33, 51, 3, 0, 6, 0), (36, 1, 1, 0, 0, 0), (37, 3, 1, 0, 0, 0), (38, 51, 3, 0, 6, 0), (41, 1, 1, 0, 0, 0), (42, 1, 2, 0, 0, 8), (44, 61, 3, 0, 0, 0), (47, 3, 1, 1, 0, 0), (48, 51, 3, 0, 7, 0), (51, 1, 1, 0, 0, 0), (52, 3, 1, 0, 0, 0), (53, 51, 3, 0, 7, 0), (56, 1, 1, 0, 0, 0), (57, 1, 2, 0, 0, 8), (59, 61, 3, 0, 0, 0), (62, 3, 1, 1, 0, 0), (63, 51, 3, 0, 8, 0), (66, 1, 1, 0, 0, 0), (67, 3, 1, 0, 0, 0), (68, 51, 3, 0, 8, 0), (71, 1, 1, 0, 0, 0), (72, 1, 2, 0, 0, 8), (74, 61, 3, 0, 0, 0), (77, 3, 1, 0, 0, 0), (78, 3, 1, 1, 0, 0), (79, 50, 3, 0, 2, 0), (82, 52, 3, 0, 2, 0), (85, 3, 1, 0, 0, 0), (86, 3, 1, 1, 0, 0), (87, 50, 3, 0, 3, 0), (90, 52, 3, 0, 3, 0), (93, 3, 1, 0, 0, 0), (94, 3, 1, 1, 0, 0), (95, 50, 3, 0, 4, 0), (98, 52, 3, 0, 4, 0), (101, 3, 1, 0, 0, 0), (102, 3, 1, 1, 0, 0), (103, 50, 3, 0, 5, 0), (106, 52, 3, 0, 5, 0), (109, 3, 1, 0, 0, 0), (110, 3, 1, 1, 0, 0), (111, 50, 3, 0, 9, 0), (114, 52, 3, 0, 9, 0), (117, 63, 1, 0, 0, 0)]
/-- 82: CardWorkshop$Machine.<init>()V -/
def cd82 : List (Nat × pm_I) := [(0, 3, 1, 0, 0, 0), (1, 74, 3, 0, 0, 0), (4, 3, 1, 0, 0, 0), (5, 71, 3, 0, 0, 0), (8, 32, 1, 0, 0, 0), (9, 60, 3, 79, 1, 0), (12, 53, 3, 1, 0, 0), (15, 3, 1, 0, 0, 0), (16, 1, 3, 0, 0, 160), (19, 72, 2, 0, 0, 0), (21, 53, 3, 1, 1, 0), (24, 3, 1, 0, 0, 0), (25, 1, 1, 0, 0, 0), (26, 52, 3, 1, 2, 0), (29, 63, 1, 0, 0, 0)]
/-- 83: CardWorkshop$Machine.listMoves(LCardWorkshop$Table;[I)I -/
def cd83 : List (Nat × pm_I) := [(0, 3, 1, 0, 0, 0), (1, 3, 1, 1, 0, 0), (2, 3, 1, 0, 0, 0), (3, 51, 3, 1, 0, 0), (6, 50, 3, 0, 9, 0), (9, 1, 1, 0, 0, (-1)), (10, 60, 3, 85, 4, 0), (13, 40, 3, 18, 0, 0), (16, 1, 1, 0, 0, 0), (17, 64, 1, 0, 0, 0), (18, 1, 1, 0, 0, 0), (19, 5, 1, 3, 0, 0), (20, 1, 1, 0, 0, 0), (21, 5, 2, 4, 0, 0), (23, 2, 2, 4, 0, 0), (25, 3, 1, 0, 0, 0), (26, 51, 3, 1, 0, 0), (29, 50, 3, 0, 5, 0), (32, 41, 3, 186, 3, 0), (35, 3, 1, 0, 0, 0), (36, 51, 3, 1, 0, 0), (39, 51, 3, 0, 6, 0), (42, 2, 2, 4, 0, 0), (44, 54, 1, 0, 0, 0), (45, 1, 2, 0, 0, 77), (47, 41, 3, 54, 1, 0), (50, 1, 1, 0, 0, 1), (51, 42, 3, 55, 0, 0), (54, 1, 1, 0, 0, 0), (55, 5, 2, 5, 0, 0), (57, 2, 2, 5, 0, 0), (59, 40, 3, 66, 0, 0), (62, 1, 1, 0, 0, 0), (63, 42, 3, 67, 0, 0), (66, 1, 1, 0, 0, (-1)), (67, 5, 2, 6, 0, 0), (69, 2, 2, 5, 0, 0), (71, 40, 3, 86, 0, 0), (74, 3, 1, 0, 0, 0), (75, 51, 3, 1, 0, 0), (78, 50, 3, 0, 3, 0), (81, 1, 1, 0, 0, 1), (82, 10, 1, 0, 0, 0), (83, 42, 3, 87, 0, 0), (86, 1, 1, 0, 0, (-1)), (87, 5, 2, 7, 0, 0), (89, 2, 2, 6, 0, 0), (91, 5, 2, 8, 0, 0), (93, 2, 2, 8, 0, 0), (95, 2, 2, 7, 0, 0), (97, 41, 3, 180, 4, 0), (100, 2, 2, 8, 0, 0), (102, 1, 1, 0, 0, (-1)), (103, 41, 3, 120, 0, 0), (106, 3, 1, 1, 0, 0), (107, 51, 3, 4, 0, 0), (110, 2, 2, 8, 0, 0), (112, 54, 1, 0, 0, 0), (113, 3, 1, 1, 0, 0), (114, 50, 3, 4, 6, 0), (117, 41, 3, 124, 1, 0), (120, 1, 1, 0, 0, 1), (121, 42, 3, 125, 0, 0), (124, 1, 1, 0, 0, 0), (125, 5, 2, 9, 0, 0), (127, 2, 2, 9, 0, 0), (129, 40, 3, 174, 0, 0), (132, 2, 1, 3, 0, 0), (133, 3, 1, 2, 0, 0), (134, 56, 1, 0, 0, 0), (135, 41, 3, 174, 3, 0), (138, 3, 1, 0, 0, 0), (139, 3, 1, 1, 0, 0), (140, 3, 1, 0, 0, 0), (141, 51, 3, 1, 0, 0), (144, 51, 3, 0, 7, 0), (147, 2, 2, 4, 0, 0), (149, 54, 1, 0, 0, 0), (150, 2, 2, 8, 0, 0), (152, 60, 3, 85, 4, 0), (155, 40, 3, 174, 0, 0), (158, 3, 1, 2, 0, 0), (159, 2, 1, 3, 0, 0), (160, 2, 2, 4, 0, 0), (162, 1, 2, 0, 0, 25), (164, 11, 1, 0, 0, 0), (165, 2, 2, 8, 0, 0), (167, 9, 1, 0, 0, 0), (168, 1, 1, 0, 0, 1), (169, 9, 1, 0, 0, 0), (170, 55, 1, 0, 0, 0), (171, 8, 3, 3, 0, 1), (174, 8, 3, 8, 0, 1), (177, 42, 3, 93, 0, 0), (180, 8, 3, 4, 0, 1), (183, 42, 3, 23, 0, 0), (186, 2, 1, 3, 0, 0), (187, 64, 1, 0, 0, 0)]
/-- 84: CardWorkshop$Machine.makeMove(LCardWorkshop$Table;I)V -/
def cd84 : List (Nat × pm_I) := [(0, 2, 1, 2, 0, 0), (1, 60, 3, 12, 1, 0), (4, 5, 1, 3, 0, 0), (5, 2, 1, 3, 0, 0), (6, 40, 3, 39, 2, 0), (9, 2, 1, 3, 0, 0), (10, 3, 1, 0, 0, 0), (11, 51, 3, 1, 0, 0), (14, 50, 3, 0, 5, 0), (17, 41, 3, 39, 3, 0), (20, 3, 1, 0, 0, 0), (21, 3, 1, 1, 0, 0), (22, 3, 1, 0, 0, 0), (23, 51, 3, 1, 0, 0), (26, 51, 3, 0, 8, 0), (29, 2, 1, 3, 0, 0), (30, 54, 1, 0, 0, 0), (31, 2, 1, 2, 0, 0), (32, 60, 3, 13, 1, 0), (35, 60, 3, 85, 4, 0), (38, 31, 1, 0, 0, 0), (39, 63, 1, 0, 0, 0)]
/-- 85: CardWorkshop$Machine.run(LCardWorkshop$Table;II)I -/
def cd85 : List (Nat × pm_I) := [(0, 3, 1, 1, 0, 0), (1, 50, 3, 4, 6, 0), (4, 5, 2, 4, 0, 0), (6, 3, 1, 0, 0, 0), (7, 1, 1, 0, 0, 0), (8, 52, 3, 1, 2, 0), (11, 2, 1, 2, 0, 0), (12, 5, 2, 5, 0, 0), (14, 2, 2, 5, 0, 0), (16, 3, 1, 0, 0, 0), (17, 51, 3, 1, 0, 0), (20, 50, 3, 0, 2, 0), (23, 41, 3, 165, 3, 0), (26, 3, 1, 0, 0, 0), (27, 51, 3, 1, 0, 0), (30, 51, 3, 0, 0, 0), (33, 2, 2, 5, 0, 0), (35, 54, 1, 0, 0, 0), (36, 1, 2, 0, 0, 17), (38, 41, 3, 165, 0, 0), (41, 3, 1, 0, 0, 0), (42, 51, 3, 1, 0, 0), (45, 51, 3, 0, 0, 0), (48, 2, 2, 5, 0, 0), (50, 54, 1, 0, 0, 0), (51, 5, 2, 6, 0, 0), (53, 3, 1, 0, 0, 0), (54, 51, 3, 1, 0, 0), (57, 51, 3, 0, 1, 0), (60, 2, 2, 5, 0, 0), (62, 54, 1, 0, 0, 0), (63, 5, 2, 7, 0, 0), (65, 2, 2, 6, 0, 0), (67, 1, 1, 0, 0, 4), (68, 41, 3, 90, 4, 0), (71, 3, 1, 0, 0, 0), (72, 3, 1, 0, 0, 0), (73, 2, 2, 6, 0, 0), (75, 2, 2, 7, 0, 0), (77, 3, 1, 1, 0, 0), (78, 2, 2, 4, 0, 0), (80, 2, 1, 3, 0, 0), (81, 60, 3, 88, 6, 0), (84, 60, 3, 86, 2, 0), (87, 42, 3, 159, 0, 0), (90, 2, 2, 6, 0, 0), (92, 1, 2, 0, 0, 11), (94, 41, 3, 121, 4, 0), (97, 3, 1, 0, 0, 0), (98, 60, 3, 87, 1, 0), (101, 5, 2, 8, 0, 0), (103, 3, 1, 0, 0, 0), (104, 2, 2, 6, 0, 0), (106, 3, 1, 0, 0, 0), (107, 60, 3, 87, 1, 0), (110, 2, 2, 8, 0, 0), (112, 60, 3, 89, 3, 0), (115, 60, 3, 86, 2, 0), (118, 42, 3, 159, 0, 0), (121, 2, 2, 6, 0, 0), (123, 1, 2, 0, 0, 12), (125, 41, 3, 147, 1, 0), (128, 3, 1, 0, 0, 0), (129, 3, 1, 0, 0, 0), (130, 60, 3, 87, 1, 0), (133, 40, 3, 140, 1, 0), (136, 1, 1, 0, 0, 1), (137, 42, 3, 141, 0, 0), (140, 1, 1, 0, 0, 0), (141, 60, 3, 86, 2, 0), (144, 42, 3, 159, 0, 0), (147, 3, 1, 0, 0, 0), (148, 2, 2, 6, 0, 0), (150, 2, 2, 7, 0, 0), (152, 3, 1, 1, 0, 0), (153, 2, 2, 4, 0, 0), (155, 2, 1, 3, 0, 0), (156, 60, 3, 90, 6, 0), (159, 8, 3, 5, 0, 1), (162, 42, 3, 14, 0, 0), (165, 3, 1, 0, 0, 0), (166, 60, 3, 87, 1, 0), (169, 64, 1, 0, 0, 0)]
/-- 86: CardWorkshop$Machine.push(I)V -/
def cd86 : List (Nat × pm_I) := [(0, 3, 1, 0, 0, 0), (1, 50, 3, 1, 2, 0), (4, 3, 1, 0, 0, 0), (5, 51, 3, 1, 1, 0), (8, 56, 1, 0, 0, 0), (9, 41, 3, 32, 3, 0), (12, 3, 1, 0, 0, 0), (13, 51, 3, 1, 1, 0), (16, 3, 1, 0, 0, 0), (17, 50, 3, 1, 2, 0), (20, 2, 1, 1, 0, 0), (21, 55, 1, 0, 0, 0), (22, 3, 1, 0, 0, 0), (23, 32, 1, 0, 0, 0), (24, 50, 3, 1, 2, 0), (27, 1, 1, 0, 0, 1), (28, 9, 1, 0, 0, 0), (29, 52, 3, 1, 2, 0), (32, 63, 1, 0, 0, 0)]
/-- 87: CardWorkshop$Machine.pop()I -/
def cd87 : List (Nat × pm_I) := [(0, 3, 1, 0, 0, 0), (1, 50, 3, 1, 2, 0), (4, 40, 3, 9, 1, 0), (7, 1, 1, 0, 0, 0), (8, 64, 1, 0, 0, 0), (9, 3, 1, 0, 0, 0), (10, 32, 1, 0, 0, 0), (11, 50, 3, 1, 2, 0), (14, 1, 1, 0, 0, 1), (15, 10, 1, 0, 0, 0), (16, 52, 3, 1, 2, 0), (19, 3, 1, 0, 0, 0), (20, 51, 3, 1, 1, 0), (23, 3, 1, 0, 0, 0), (24, 50, 3, 1, 2, 0), (27, 54, 1, 0, 0, 0), (28, 64, 1, 0, 0, 0)]
/-- 88: CardWorkshop$Machine.operand(IILCardWorkshop$Table;II)I -/
def cd88 : List (Nat × pm_I) := [(0, 2, 1, 1, 0, 0), (1, 43, 31, 2, 122, 1), (32, 3, 1, 3, 0, 0), (33, 51, 3, 4, 4, 0), (36, 2, 1, 2, 0, 0), (37, 54, 1, 0, 0, 0), (38, 64, 1, 0, 0, 0), (39, 3, 1, 3, 0, 0), (40, 51, 3, 4, 3, 0), (43, 2, 1, 2, 0, 0), (44, 2, 2, 4, 0, 0), (46, 60, 3, 91, 2, 0), (49, 54, 1, 0, 0, 0), (50, 64, 1, 0, 0, 0), (51, 2, 1, 2, 0, 0), (52, 1, 2, 0, 0, 6), (54, 41, 3, 62, 1, 0), (57, 2, 2, 5, 0, 0), (59, 42, 3, 73, 0, 0), (62, 3, 1, 3, 0, 0), (63, 51, 3, 4, 2, 0), (66, 2, 1, 2, 0, 0), (67, 2, 2, 4, 0, 0), (69, 60, 3, 91, 2, 0), (72, 54, 1, 0, 0, 0), (73, 5, 2, 6, 0, 0), (75, 2, 2, 6, 0, 0), (77, 40, 3, 91, 2, 0), (80, 3, 1, 0, 0, 0), (81, 51, 3, 1, 0, 0), (84, 50, 3, 0, 4, 0), (87, 1, 1, 0, 0, 1), (88, 41, 3, 93, 3, 0), (91, 1, 1, 0, 0, (-1)), (92, 64, 1, 0, 0, 0), (93, 2, 1, 1, 0, 0), (94, 1, 1, 0, 0, 3), (95, 41, 3, 111, 1, 0), (98, 2, 2, 6, 0, 0), (100, 3, 1, 0, 0, 0), (101, 51, 3, 1, 0, 0), (104, 50, 3, 0, 4, 0), (107, 13, 1, 0, 0, 0), (108, 42, 3, 121, 0, 0), (111, 2, 2, 6, 0, 0), (113, 3, 1, 0, 0, 0), (114, 51, 3, 1, 0, 0), (117, 50, 3, 0, 4, 0), (120, 12, 1, 0, 0, 0), (121, 64, 1, 0, 0, 0), (122, 2, 1, 2, 0, 0), (123, 64, 1, 0, 0, 0)]
/-- 89: CardWorkshop$Machine.combine(III)I -/
def cd89 : List (Nat × pm_I) := [(0, 2, 1, 0, 0, 0), (1, 43, 39, 3, 88, 5), (40, 2, 1, 1, 0, 0), (41, 2, 1, 2, 0, 0), (42, 9, 1, 0, 0, 0), (43, 64, 1, 0, 0, 0), (44, 2, 1, 1, 0, 0), (45, 2, 1, 2, 0, 0), (46, 10, 1, 0, 0, 0), (47, 64, 1, 0, 0, 0), (48, 2, 1, 1, 0, 0), (49, 2, 1, 2, 0, 0), (50, 11, 1, 0, 0, 0), (51, 64, 1, 0, 0, 0), (52, 2, 1, 1, 0, 0), (53, 2, 1, 2, 0, 0), (54, 41, 3, 61, 3, 0), (57, 1, 1, 0, 0, 1), (58, 42, 3, 62, 0, 0), (61, 1, 1, 0, 0, 0), (62, 64, 1, 0, 0, 0), (63, 2, 1, 1, 0, 0), (64, 2, 1, 2, 0, 0), (65, 41, 3, 72, 1, 0), (68, 1, 1, 0, 0, 1), (69, 42, 3, 73, 0, 0), (72, 1, 1, 0, 0, 0), (73, 64, 1, 0, 0, 0), (74, 2, 1, 1, 0, 0), (75, 40, 3, 86, 0, 0), (78, 2, 1, 2, 0, 0), (79, 40, 3, 86, 0, 0), (82, 1, 1, 0, 0, 1), (83, 42, 3, 87, 0, 0), (86, 1, 1, 0, 0, 0), (87, 64, 1, 0, 0, 0), (88, 2, 1, 1, 0, 0), (89, 40, 3, 96, 1, 0), (92, 2, 1, 2, 0, 0), (93, 40, 3, 100, 0, 0), (96, 1, 1, 0, 0, 1), (97, 42, 3, 101, 0, 0), (100, 1, 1, 0, 0, 0), (101, 64, 1, 0, 0, 0)]
/-- 90: CardWorkshop$Machine.doEffect(IILCardWorkshop$Table;II)V -/
def cd90 : List (Nat × pm_I) := [(0, 2, 1, 1, 0, 0), (1, 43, 27, 4, 113, 13), (28, 2, 1, 2, 0, 0), (29, 1, 2, 0, 0, 8), (31, 12, 1, 0, 0, 0), (32, 5, 2, 6, 0, 0), (34, 2, 2, 6, 0, 0), (36, 1, 2, 0, 0, 6), (38, 41, 3, 46, 1, 0), (41, 2, 2, 5, 0, 0), (43, 42, 3, 58, 0, 0), (46, 3, 1, 3, 0, 0), (47, 51, 3, 4, 2, 0), (50, 2, 2, 6, 0, 0), (52, 2, 2, 4, 0, 0), (54, 60, 3, 91, 2, 0), (57, 54, 1, 0, 0, 0), (58, 5, 2, 7, 0, 0), (60, 2, 2, 7, 0, 0), (62, 40, 3, 121, 2, 0), (65, 3, 1, 3, 0, 0), (66, 2, 2, 7, 0, 0), (68, 2, 1, 2, 0, 0), (69, 1, 2, 0, 0, 8), (71, 13, 1, 0, 0, 0), (72, 2, 2, 4, 0, 0), (74, 60, 3, 91, 2, 0), (77, 60, 3, 112, 3, 0), (80, 42, 3, 121, 0, 0), (83, 3, 1, 3, 0, 0), (84, 51, 3, 4, 4, 0), (87, 2, 1, 2, 0, 0), (88, 3, 1, 0, 0, 0), (89, 60, 3, 87, 1, 0), (92, 55, 1, 0, 0, 0), (93, 42, 3, 121, 0, 0), (96, 3, 1, 3, 0, 0), (97, 51, 3, 4, 5, 0), (100, 2, 2, 4, 0, 0), (102, 34, 1, 0, 0, 0), (103, 54, 1, 0, 0, 0), (104, 3, 1, 0, 0, 0), (105, 60, 3, 87, 1, 0), (108, 9, 1, 0, 0, 0), (109, 55, 1, 0, 0, 0), (110, 42, 3, 121, 0, 0), (113, 3, 1, 3, 0, 0), (114, 1, 1, 0, 0, 1), (115, 2, 2, 4, 0, 0), (117, 10, 1, 0, 0, 0), (118, 52, 3, 4, 6, 0), (121, 63, 1, 0, 0, 0)]
/-- 91: CardWorkshop$Machine.placeOf(II)I -/
def cd91 : List (Nat × pm_I) := [(0, 2, 1, 0, 0, 0), (1, 43, 35, 5, 50, 0), (36, 2, 1, 1, 0, 0), (37, 64, 1, 0, 0, 0), (38, 1, 1, 0, 0, 1), (39, 2, 1, 1, 0, 0), (40, 10, 1, 0, 0, 0), (41, 64, 1, 0, 0, 0), (42, 1, 1, 0, 0, 2), (43, 64, 1, 0, 0, 0), (44, 1, 1, 0, 0, 3), (45, 64, 1, 0, 0, 0), (46, 1, 1, 0, 0, 4), (47, 2, 1, 1, 0, 0), (48, 9, 1, 0, 0, 0), (49, 64, 1, 0, 0, 0), (50, 1, 1, 0, 0, 5), (51, 2, 1, 1, 0, 0), (52, 10, 1, 0, 0, 0), (53, 64, 1, 0, 0, 0)]
/-- 92: CardWorkshop$Reader.<init>()V -/
def cd92 : List (Nat × pm_I) := [(0, 3, 1, 0, 0, 0), (1, 74, 3, 0, 0, 0), (4, 3, 1, 0, 0, 0), (5, 1, 3, 0, 0, 240), (8, 72, 2, 1, 0, 0), (10, 53, 3, 2, 0, 0), (13, 3, 1, 0, 0, 0), (14, 1, 1, 0, 0, 0), (15, 52, 3, 2, 1, 0), (18, 3, 1, 0, 0, 0), (19, 71, 3, 0, 0, 0), (22, 32, 1, 0, 0, 0), (23, 60, 3, 79, 1, 0), (26, 53, 3, 2, 2, 0), (29, 3, 1, 0, 0, 0), (30, 1, 1, 0, 0, 0), (31, 52, 3, 2, 3, 0), (34, 3, 1, 0, 0, 0), (35, 1, 1, 0, 0, 0), (36, 52, 3, 2, 4, 2), (39, 63, 1, 0, 0, 0)]
/-- 93: CardWorkshop$Reader.append(C)V -/
def cd93 : List (Nat × pm_I) := [(0, 3, 1, 0, 0, 0), (1, 50, 3, 2, 1, 0), (4, 3, 1, 0, 0, 0), (5, 51, 3, 2, 0, 0), (8, 56, 1, 0, 0, 0), (9, 41, 3, 32, 3, 0), (12, 3, 1, 0, 0, 0), (13, 51, 3, 2, 0, 0), (16, 3, 1, 0, 0, 0), (17, 50, 3, 2, 1, 0), (20, 2, 1, 1, 0, 0), (21, 55, 1, 1, 0, 0), (22, 3, 1, 0, 0, 0), (23, 32, 1, 0, 0, 0), (24, 50, 3, 2, 1, 0), (27, 1, 1, 0, 0, 1), (28, 9, 1, 0, 0, 0), (29, 52, 3, 2, 1, 0), (32, 63, 1, 0, 0, 0)]
/-- 94: CardWorkshop$Reader.readGame()V -/
def cd94 : List (Nat × pm_I) := [(0, 3, 1, 0, 0, 0), (1, 1, 1, 0, 0, 0), (2, 52, 3, 2, 3, 0), (5, 3, 1, 0, 0, 0), (6, 51, 3, 2, 2, 0), (9, 1, 1, 0, 0, 0), (10, 52, 3, 0, 2, 0), (13, 3, 1, 0, 0, 0), (14, 51, 3, 2, 2, 0), (17, 1, 1, 0, 0, 0), (18, 52, 3, 0, 5, 0), (21, 3, 1, 0, 0, 0), (22, 1, 2, 0, 0, 68), (24, 60, 3, 102, 2, 0), (27, 3, 1, 0, 0, 0), (28, 1, 1, 0, 0, 4), (29, 60, 3, 101, 2, 0), (32, 5, 1, 1, 0, 0), (33, 3, 1, 0, 0, 0), (34, 51, 3, 2, 2, 0), (37, 3, 1, 0, 0, 0), (38, 1, 2, 0, 0, 6), (40, 60, 3, 101, 2, 0), (43, 52, 3, 0, 4, 0), (46, 3, 1, 0, 0, 0), (47, 51, 3, 2, 2, 0), (50, 2, 1, 1, 0, 0), (51, 3, 1, 0, 0, 0), (52, 51, 3, 2, 2, 0), (55, 50, 3, 0, 4, 0), (58, 11, 1, 0, 0, 0), (59, 52, 3, 0, 3, 0), (62, 3, 1, 0, 0, 0), (63, 1, 2, 0, 0, 59), (65, 60, 3, 102, 2, 0), (68, 1, 1, 0, 0, 0), (69, 5, 1, 2, 0, 0), (70, 2, 1, 2, 0, 0), (71, 1, 2, 0, 0, 8), (73, 41, 3, 105, 3, 0), (76, 3, 1, 0, 0, 0), (77, 60, 3, 104, 1, 0), (80, 1, 2, 0, 0, 77), (82, 41, 3, 94, 0, 0), (85, 3, 1, 0, 0, 0), (86, 60, 3, 104, 1, 0), (89, 1, 2, 0, 0, 80), (91, 41, 3, 105, 1, 0), (94, 3, 1, 0, 0, 0), (95, 2, 1, 2, 0, 0), (96, 60, 3, 95, 2, 0), (99, 8, 3, 2, 0, 1), (102, 42, 3, 70, 0, 0), (105, 3, 1, 0, 0, 0), (106, 1, 2, 0, 0, 69), (108, 60, 3, 102, 2, 0), (111, 3, 1, 0, 0, 0), (112, 1, 1, 0, 0, 0), (113, 52, 3, 2, 4, 2), (116, 3, 1, 0, 0, 0), (117, 51, 3, 2, 2, 0), (120, 3, 1, 0, 0, 0), (121, 51, 3, 2, 2, 0), (124, 50, 3, 0, 2, 0), (127, 52, 3, 0, 9, 0), (130, 3, 1, 0, 0, 0), (131, 1, 1, 0, 0, 0), (132, 1, 1, 0, 0, 0), (133, 60, 3, 97, 3, 0), (136, 3, 1, 0, 0, 0), (137, 51, 3, 2, 2, 0), (140, 1, 2, 0, 0, 17), (142, 1, 1, 0, 0, 0), (143, 60, 3, 80, 3, 0), (146, 3, 1, 0, 0, 0), (147, 1, 2, 0, 0, 59), (149, 60, 3, 102, 2, 0), (152, 3, 1, 0, 0, 0), (153, 50, 3, 2, 3, 0), (156, 3, 1, 0, 0, 0), (157, 50, 3, 2, 1, 0), (160, 41, 3, 173, 3, 0), (163, 67, 10, 0, 0, 0), (173, 63, 1, 0, 0, 0)]
/-- 95: CardWorkshop$Reader.readRule(I)V -/
def cd95 : List (Nat × pm_I) := [(0, 3, 1, 0, 0, 0), (1, 3, 1, 0, 0, 0), (2, 60, 3, 104, 1, 0), (5, 1, 2, 0, 0, 77), (7, 41, 3, 14, 1, 0), (10, 1, 1, 0, 0, 1), (11, 42, 3, 15, 0, 0), (14, 1, 1, 0, 0, 0), (15, 52, 3, 2, 4, 2), (18, 3, 1, 0, 0, 0), (19, 51, 3, 2, 2, 0), (22, 51, 3, 0, 6, 0), (25, 2, 1, 1, 0, 0), (26, 3, 1, 0, 0, 0), (27, 60, 3, 104, 1, 0), (30, 55, 1, 0, 0, 0), (31, 3, 1, 0, 0, 0), (32, 51, 3, 2, 2, 0), (35, 2, 1, 1, 0, 0), (36, 1, 1, 0, 0, 1), (37, 9, 1, 0, 0, 0), (38, 52, 3, 0, 5, 0), (41, 3, 1, 0, 0, 0), (42, 32, 1, 0, 0, 0), (43, 50, 3, 2, 3, 0), (46, 1, 1, 0, 0, 1), (47, 9, 1, 0, 0, 0), (48, 52, 3, 2, 3, 0), (51, 3, 1, 0, 0, 0), (52, 51, 3, 2, 2, 0), (55, 51, 3, 0, 7, 0), (58, 2, 1, 1, 0, 0), (59, 3, 1, 0, 0, 0), (60, 51, 3, 2, 2, 0), (63, 50, 3, 0, 2, 0), (66, 55, 1, 0, 0, 0), (67, 3, 1, 0, 0, 0), (68, 1, 1, 0, 0, 0), (69, 1, 1, 0, 0, 0), (70, 60, 3, 97, 3, 0), (73, 3, 1, 0, 0, 0), (74, 51, 3, 2, 2, 0), (77, 1, 2, 0, 0, 17), (79, 1, 1, 0, 0, 0), (80, 60, 3, 80, 3, 0), (83, 3, 1, 0, 0, 0), (84, 1, 2, 0, 0, 58), (86, 60, 3, 102, 2, 0), (89, 3, 1, 0, 0, 0), (90, 51, 3, 2, 2, 0), (93, 51, 3, 0, 8, 0), (96, 2, 1, 1, 0, 0), (97, 3, 1, 0, 0, 0), (98, 51, 3, 2, 2, 0), (101, 50, 3, 0, 2, 0), (104, 55, 1, 0, 0, 0), (105, 3, 1, 0, 0, 0), (106, 60, 3, 104, 1, 0), (109, 1, 2, 0, 0, 59), (111, 41, 3, 146, 0, 0), (114, 3, 1, 0, 0, 0), (115, 60, 3, 96, 1, 0), (118, 1, 1, 0, 0, 0), (119, 5, 1, 2, 0, 0), (120, 2, 1, 2, 0, 0), (121, 1, 3, 0, 0, 240), (124, 41, 3, 146, 3, 0), (127, 3, 1, 0, 0, 0), (128, 1, 2, 0, 0, 44), (130, 60, 3, 103, 2, 0), (133, 40, 3, 146, 0, 0), (136, 3, 1, 0, 0, 0), (137, 60, 3, 96, 1, 0), (140, 8, 3, 2, 0, 1), (143, 42, 3, 120, 0, 0), (146, 3, 1, 0, 0, 0), (147, 51, 3, 2, 2, 0), (150, 1, 2, 0, 0, 17), (152, 1, 1, 0, 0, 0), (153, 60, 3, 80, 3, 0), (156, 3, 1, 0, 0, 0), (157, 1, 2, 0, 0, 59), (159, 60, 3, 102, 2, 0), (162, 63, 1, 0, 0, 0)]
/-- 96: CardWorkshop$Reader.readEffect()V -/
def cd96 : List (Nat × pm_I) := [(0, 80, 2, 10000, 0, 0), (2, 3, 1, 0, 0, 0), (3, 60, 3, 104, 1, 0), (6, 60, 3, 122, 2, 0), (9, 5, 1, 1, 0, 0), (10, 3, 1, 0, 0, 0), (11, 1, 2, 0, 0, 110), (13, 60, 3, 103, 2, 0), (16, 40, 3, 32, 0, 0), (19, 3, 1, 0, 0, 0), (20, 51, 3, 2, 2, 0), (23, 1, 2, 0, 0, 16), (25, 1, 1, 0, 0, 0), (26, 60, 3, 80, 3, 0), (29, 42, 3, 133, 0, 0), (32, 3, 1, 0, 0, 0), (33, 1, 2, 0, 0, 43), (35, 60, 3, 103, 2, 0), (38, 40, 3, 60, 0, 0), (41, 3, 1, 0, 0, 0), (42, 1, 1, 0, 0, 0), (43, 1, 1, 0, 0, 0), (44, 60, 3, 97, 3, 0), (47, 3, 1, 0, 0, 0), (48, 51, 3, 2, 2, 0), (51, 1, 2, 0, 0, 15), (53, 1, 1, 0, 0, 0), (54, 60, 3, 80, 3, 0), (57, 42, 3, 133, 0, 0), (60, 2, 1, 1, 0, 0), (61, 40, 3, 99, 2, 0), (64, 3, 1, 0, 0, 0), (65, 32, 1, 0, 0, 0), (66, 50, 3, 2, 3, 0), (69, 1, 1, 0, 0, 1), (70, 9, 1, 0, 0, 0), (71, 52, 3, 2, 3, 0), (74, 3, 1, 0, 0, 0), (75, 1, 2, 0, 0, 61), (77, 60, 3, 102, 2, 0), (80, 3, 1, 0, 0, 0), (81, 1, 1, 0, 0, 0), (82, 1, 1, 0, 0, 0), (83, 60, 3, 97, 3, 0), (86, 3, 1, 0, 0, 0), (87, 51, 3, 2, 2, 0), (90, 1, 2, 0, 0, 14), (92, 2, 1, 1, 0, 0), (93, 60, 3, 80, 3, 0), (96, 42, 3, 133, 0, 0), (99, 3, 1, 0, 0, 0), (100, 3, 1, 0, 0, 0), (101, 50, 3, 2, 4, 0), (104, 60, 3, 100, 2, 0), (107, 5, 1, 2, 0, 0), (108, 3, 1, 0, 0, 0), (109, 1, 2, 0, 0, 62), (111, 60, 3, 102, 2, 0), (114, 3, 1, 0, 0, 0), (115, 51, 3, 2, 2, 0), (118, 1, 2, 0, 0, 13), (120, 1, 2, 0, 0, 8), (122, 2, 1, 2, 0, 0), (123, 11, 1, 0, 0, 0), (124, 3, 1, 0, 0, 0), (125, 1, 1, 0, 0, 0), (126, 60, 3, 100, 2, 0), (129, 9, 1, 0, 0, 0), (130, 60, 3, 80, 3, 0), (133, 63, 1, 0, 0, 0)]
/-- 97: CardWorkshop$Reader.readExpr(II)V -/
def cd97 : List (Nat × pm_I) := [(0, 2, 1, 1, 0, 0), (1, 1, 1, 0, 0, 5), (2, 41, 3, 11, 2, 0), (5, 3, 1, 0, 0, 0), (6, 2, 1, 2, 0, 0), (7, 60, 3, 98, 2, 0), (10, 63, 1, 0, 0, 0), (11, 3, 1, 0, 0, 0), (12, 2, 1, 1, 0, 0), (13, 1, 1, 0, 0, 1), (14, 9, 1, 0, 0, 0), (15, 2, 1, 2, 0, 0), (16, 60, 3, 97, 3, 0), (19, 1, 1, 0, 0, 0), (20, 5, 1, 3, 0, 0), (21, 2, 1, 3, 0, 0), (22, 1, 3, 0, 0, 240), (25, 41, 3, 99, 3, 0), (28, 80, 2, 10020, 0, 0), (30, 3, 1, 0, 0, 0), (31, 60, 3, 104, 1, 0), (34, 60, 3, 122, 2, 0), (37, 5, 2, 4, 0, 0), (39, 2, 2, 4, 0, 0), (41, 40, 3, 54, 2, 0), (44, 80, 3, 10030, 0, 0), (47, 2, 2, 4, 0, 0), (49, 81, 1, 0, 0, 0), (50, 2, 1, 1, 0, 0), (51, 41, 3, 55, 0, 0), (54, 63, 1, 0, 0, 0), (55, 3, 1, 0, 0, 0), (56, 32, 1, 0, 0, 0), (57, 50, 3, 2, 3, 0), (60, 1, 1, 0, 0, 1), (61, 9, 1, 0, 0, 0), (62, 52, 3, 2, 3, 0), (65, 3, 1, 0, 0, 0), (66, 2, 1, 1, 0, 0), (67, 1, 1, 0, 0, 1), (68, 9, 1, 0, 0, 0), (69, 2, 1, 2, 0, 0), (70, 60, 3, 97, 3, 0), (73, 3, 1, 0, 0, 0), (74, 51, 3, 2, 2, 0), (77, 80, 3, 10040, 0, 0), (80, 2, 2, 4, 0, 0), (82, 81, 1, 0, 0, 0), (83, 1, 1, 0, 0, 0), (84, 60, 3, 80, 3, 0), (87, 2, 1, 1, 0, 0), (88, 1, 1, 0, 0, 2), (89, 41, 3, 93, 1, 0), (92, 63, 1, 0, 0, 0), (93, 8, 3, 3, 0, 1), (96, 42, 3, 21, 0, 0), (99, 63, 1, 0, 0, 0)]
/-- 98: CardWorkshop$Reader.readUnit(I)V -/
def cd98 : List (Nat × pm_I) := [(0, 1, 1, 0, 0, 0), (1, 5, 1, 2, 0, 0), (2, 2, 1, 2, 0, 0), (3, 1, 1, 0, 0, 4), (4, 41, 3, 22, 3, 0), (7, 3, 1, 0, 0, 0), (8, 1, 2, 0, 0, 33), (10, 60, 3, 103, 2, 0), (13, 40, 3, 22, 0, 0), (16, 8, 3, 2, 0, 1), (19, 42, 3, 2, 0, 0), (22, 80, 2, 10000, 0, 0), (24, 3, 1, 0, 0, 0), (25, 60, 3, 104, 1, 0), (28, 60, 3, 122, 2, 0), (31, 5, 1, 3, 0, 0), (32, 2, 1, 3, 0, 0), (33, 40, 3, 58, 2, 0), (36, 3, 1, 0, 0, 0), (37, 32, 1, 0, 0, 0), (38, 50, 3, 2, 3, 0), (41, 1, 1, 0, 0, 1), (42, 9, 1, 0, 0, 0), (43, 52, 3, 2, 3, 0), (46, 3, 1, 0, 0, 0), (47, 51, 3, 2, 2, 0), (50, 1, 1, 0, 0, 1), (51, 2, 1, 3, 0, 0), (52, 60, 3, 80, 3, 0), (55, 42, 3, 182, 0, 0), (58, 3, 1, 0, 0, 0), (59, 1, 2, 0, 0, 35), (61, 60, 3, 103, 2, 0), (64, 40, 3, 83, 0, 0), (67, 3, 1, 0, 0, 0), (68, 51, 3, 2, 2, 0), (71, 1, 1, 0, 0, 2), (72, 3, 1, 0, 0, 0), (73, 1, 1, 0, 0, 0), (74, 60, 3, 100, 2, 0), (77, 60, 3, 80, 3, 0), (80, 42, 3, 182, 0, 0), (83, 3, 1, 0, 0, 0), (84, 1, 2, 0, 0, 114), (86, 60, 3, 103, 2, 0), (89, 40, 3, 111, 0, 0), (92, 3, 1, 0, 0, 0), (93, 51, 3, 2, 2, 0), (96, 1, 1, 0, 0, 3), (97, 3, 1, 0, 0, 0), (98, 3, 1, 0, 0, 0), (99, 50, 3, 2, 4, 0), (102, 60, 3, 100, 2, 0), (105, 60, 3, 80, 3, 0), (108, 42, 3, 182, 0, 0), (111, 3, 1, 0, 0, 0), (112, 1, 2, 0, 0, 117), (114, 60, 3, 103, 2, 0), (117, 40, 3, 139, 0, 0), (120, 3, 1, 0, 0, 0), (121, 51, 3, 2, 2, 0), (124, 1, 1, 0, 0, 4), (125, 3, 1, 0, 0, 0), (126, 3, 1, 0, 0, 0), (127, 50, 3, 2, 4, 0), (130, 60, 3, 100, 2, 0), (133, 60, 3, 80, 3, 0), (136, 42, 3, 182, 0, 0), (139, 2, 1, 1, 0, 0), (140, 1, 1, 0, 0, 4), (141, 41, 3, 170, 3, 0), (144, 3, 1, 0, 0, 0), (145, 1, 2, 0, 0, 40), (147, 60, 3, 103, 2, 0), (150, 40, 3, 170, 0, 0), (153, 3, 1, 0, 0, 0), (154, 1, 1, 0, 0, 0), (155, 2, 1, 1, 0, 0), (156, 1, 1, 0, 0, 1), (157, 9, 1, 0, 0, 0), (158, 60, 3, 97, 3, 0), (161, 3, 1, 0, 0, 0), (162, 1, 2, 0, 0, 41), (164, 60, 3, 102, 2, 0), (167, 42, 3, 182, 0, 0), (170, 3, 1, 0, 0, 0), (171, 51, 3, 2, 2, 0), (174, 1, 1, 0, 0, 0), (175, 3, 1, 0, 0, 0), (176, 60, 3, 99, 1, 0), (179, 60, 3, 80, 3, 0), (182, 1, 1, 0, 0, 0), (183, 5, 2, 4, 0, 0), (185, 2, 2, 4, 0, 0), (187, 2, 1, 2, 0, 0), (188, 41, 3, 207, 3, 0), (191, 3, 1, 0, 0, 0), (192, 51, 3, 2, 2, 0), (195, 1, 2, 0, 0, 12), (197, 1, 1, 0, 0, 0), (198, 60, 3, 80, 3, 0), (201, 8, 3, 4, 0, 1), (204, 42, 3, 185, 0, 0), (207, 63, 1, 0, 0, 0)]
/-- 99: CardWorkshop$Reader.readNumber()I -/
def cd99 : List (Nat × pm_I) := [(0, 1, 1, 0, 0, 0), (1, 5, 1, 1, 0, 0), (2, 1, 1, 0, 0, 0), (3, 5, 1, 2, 0, 0), (4, 2, 1, 2, 0, 0), (5, 1, 1, 0, 0, 3), (6, 41, 3, 56, 3, 0), (9, 3, 1, 0, 0, 0), (10, 60, 3, 104, 1, 0), (13, 1, 2, 0, 0, 48), (15, 41, 3, 56, 2, 0), (18, 3, 1, 0, 0, 0), (19, 60, 3, 104, 1, 0), (22, 1, 2, 0, 0, 57), (24, 41, 3, 56, 4, 0), (27, 2, 1, 1, 0, 0), (28, 1, 2, 0, 0, 10), (30, 11, 1, 0, 0, 0), (31, 3, 1, 0, 0, 0), (32, 60, 3, 104, 1, 0), (35, 1, 2, 0, 0, 48), (37, 10, 1, 0, 0, 0), (38, 9, 1, 0, 0, 0), (39, 5, 1, 1, 0, 0), (40, 3, 1, 0, 0, 0), (41, 32, 1, 0, 0, 0), (42, 50, 3, 2, 3, 0), (45, 1, 1, 0, 0, 1), (46, 9, 1, 0, 0, 0), (47, 52, 3, 2, 3, 0), (50, 8, 3, 2, 0, 1), (53, 42, 3, 4, 0, 0), (56, 2, 1, 2, 0, 0), (57, 40, 3, 70, 1, 0), (60, 67, 10, 0, 0, 0), (70, 2, 1, 1, 0, 0), (71, 64, 1, 0, 0, 0)]
/-- 100: CardWorkshop$Reader.readZone(Z)I -/
def cd100 : List (Nat × pm_I) := [(0, 2, 1, 1, 0, 0), (1, 40, 3, 18, 0, 0), (4, 3, 1, 0, 0, 0), (5, 60, 3, 104, 1, 0), (8, 1, 2, 0, 0, 99), (10, 41, 3, 18, 1, 0), (13, 1, 2, 0, 0, 6), (15, 42, 3, 27, 0, 0), (18, 80, 2, 10010, 0, 0), (20, 3, 1, 0, 0, 0), (21, 60, 3, 104, 1, 0), (24, 60, 3, 122, 2, 0), (27, 5, 1, 2, 0, 0), (28, 2, 1, 2, 0, 0), (29, 40, 3, 42, 3, 0), (32, 67, 10, 0, 0, 0), (42, 3, 1, 0, 0, 0), (43, 32, 1, 0, 0, 0), (44, 50, 3, 2, 3, 0), (47, 1, 1, 0, 0, 1), (48, 9, 1, 0, 0, 0), (49, 52, 3, 2, 3, 0), (52, 2, 1, 2, 0, 0), (53, 64, 1, 0, 0, 0)]
/-- 101: CardWorkshop$Reader.readDigit(I)I -/
def cd101 : List (Nat × pm_I) := [(0, 3, 1, 0, 0, 0), (1, 60, 3, 104, 1, 0), (4, 1, 2, 0, 0, 48), (6, 10, 1, 0, 0, 0), (7, 5, 1, 2, 0, 0), (8, 2, 1, 2, 0, 0), (9, 1, 1, 0, 0, 1), (10, 41, 3, 18, 2, 0), (13, 2, 1, 2, 0, 0), (14, 2, 1, 1, 0, 0), (15, 41, 3, 28, 5, 0), (18, 67, 10, 0, 0, 0), (28, 3, 1, 0, 0, 0), (29, 32, 1, 0, 0, 0), (30, 50, 3, 2, 3, 0), (33, 1, 1, 0, 0, 1), (34, 9, 1, 0, 0, 0), (35, 52, 3, 2, 3, 0), (38, 2, 1, 2, 0, 0), (39, 64, 1, 0, 0, 0)]
/-- 102: CardWorkshop$Reader.expect(C)V -/
def cd102 : List (Nat × pm_I) := [(0, 3, 1, 0, 0, 0), (1, 60, 3, 104, 1, 0), (4, 2, 1, 1, 0, 0), (5, 41, 3, 18, 0, 0), (8, 67, 10, 0, 0, 0), (18, 3, 1, 0, 0, 0), (19, 32, 1, 0, 0, 0), (20, 50, 3, 2, 3, 0), (23, 1, 1, 0, 0, 1), (24, 9, 1, 0, 0, 0), (25, 52, 3, 2, 3, 0), (28, 63, 1, 0, 0, 0)]
/-- 103: CardWorkshop$Reader.take(C)Z -/
def cd103 : List (Nat × pm_I) := [(0, 3, 1, 0, 0, 0), (1, 60, 3, 104, 1, 0), (4, 2, 1, 1, 0, 0), (5, 41, 3, 10, 0, 0), (8, 1, 1, 0, 0, 0), (9, 64, 1, 2, 0, 0), (10, 3, 1, 0, 0, 0), (11, 32, 1, 0, 0, 0), (12, 50, 3, 2, 3, 0), (15, 1, 1, 0, 0, 1), (16, 9, 1, 0, 0, 0), (17, 52, 3, 2, 3, 0), (20, 1, 1, 0, 0, 1), (21, 64, 1, 2, 0, 0)]
/-- 104: CardWorkshop$Reader.next()C -/
def cd104 : List (Nat × pm_I) := [(0, 3, 1, 0, 0, 0), (1, 50, 3, 2, 3, 0), (4, 3, 1, 0, 0, 0), (5, 50, 3, 2, 1, 0), (8, 41, 3, 35, 3, 0), (11, 3, 1, 0, 0, 0), (12, 50, 3, 2, 3, 0), (15, 3, 1, 0, 0, 0), (16, 51, 3, 2, 0, 0), (19, 56, 1, 0, 0, 0), (20, 41, 3, 35, 3, 0), (23, 3, 1, 0, 0, 0), (24, 51, 3, 2, 0, 0), (27, 3, 1, 0, 0, 0), (28, 50, 3, 2, 3, 0), (31, 54, 1, 1, 0, 0), (32, 42, 3, 36, 0, 0), (35, 1, 1, 0, 0, 0), (36, 64, 1, 1, 0, 0)]
/-- 105: CardWorkshop$Solver.<init>()V -/
def cd105 : List (Nat × pm_I) := [(0, 3, 1, 0, 0, 0), (1, 74, 3, 0, 0, 0), (4, 3, 1, 0, 0, 0), (5, 1, 2, 0, 0, 11), (7, 72, 3, 4, 0, 0), (10, 53, 3, 3, 0, 0), (13, 3, 1, 0, 0, 0), (14, 1, 2, 0, 0, 11), (16, 1, 3, 0, 0, 192), (19, 73, 4, 0, 0, 0), (23, 53, 3, 3, 1, 0), (26, 3, 1, 0, 0, 0), (27, 1, 1, 0, 0, 0), (28, 52, 3, 3, 2, 0), (31, 3, 1, 0, 0, 0), (32, 1, 1, 0, 0, (-1)), (33, 52, 3, 3, 3, 0), (36, 1, 1, 0, 0, 0), (37, 5, 1, 1, 0, 0), (38, 2, 1, 1, 0, 0), (39, 1, 2, 0, 0, 10), (41, 41, 3, 63, 4, 0), (44, 3, 1, 0, 0, 0), (45, 51, 3, 3, 0, 0), (48, 2, 1, 1, 0, 0), (49, 71, 3, 4, 0, 0), (52, 32, 1, 0, 0, 0), (53, 60, 3, 108, 1, 0), (56, 70, 1, 0, 0, 0), (57, 8, 3, 1, 0, 1), (60, 42, 3, 38, 0, 0), (63, 63, 1, 0, 0, 0)]
/-- 106: CardWorkshop$Solver.valueOf(LCardWorkshop$Machine;LCardWorkshop$Table;I)I -/
def cd106 : List (Nat × pm_I) := [(0, 3, 1, 0, 0, 0), (1, 2, 1, 3, 0, 0), (2, 1, 1, 0, 0, 1), (3, 10, 1, 0, 0, 0), (4, 52, 3, 3, 2, 0), (7, 3, 1, 0, 0, 0), (8, 51, 3, 3, 0, 0), (11, 1, 1, 0, 0, 0), (12, 59, 1, 4, 0, 0), (13, 3, 1, 2, 0, 0), (14, 60, 3, 110, 2, 0), (17, 3, 1, 0, 0, 0), (18, 3, 1, 1, 0, 0), (19, 1, 1, 0, 0, 0), (20, 60, 3, 107, 3, 0), (23, 64, 1, 0, 0, 0)]
/-- 107: CardWorkshop$Solver.valueAt(LCardWorkshop$Machine;I)I -/
def cd107 : List (Nat × pm_I) := [(0, 3, 1, 0, 0, 0), (1, 51, 3, 3, 0, 0), (4, 2, 1, 2, 0, 0), (5, 59, 1, 4, 0, 0), (6, 6, 1, 3, 0, 0), (7, 3, 1, 0, 0, 0), (8, 51, 3, 3, 1, 0), (11, 2, 1, 2, 0, 0), (12, 59, 1, 5, 0, 0), (13, 6, 2, 4, 0, 0), (15, 3, 1, 1, 0, 0), (16, 3, 1, 3, 0, 0), (17, 3, 2, 4, 0, 0), (19, 60, 3, 83, 3, 0), (22, 5, 2, 5, 0, 0), (24, 2, 2, 5, 0, 0), (26, 40, 3, 48, 1, 0), (29, 3, 1, 0, 0, 0), (30, 1, 1, 0, 0, (-1)), (31, 52, 3, 3, 3, 0), (34, 3, 1, 3, 0, 0), (35, 51, 3, 4, 5, 0), (38, 1, 1, 0, 0, 0), (39, 54, 1, 0, 0, 0), (40, 3, 1, 3, 0, 0), (41, 51, 3, 4, 5, 0), (44, 1, 1, 0, 0, 1), (45, 54, 1, 0, 0, 0), (46, 10, 1, 0, 0, 0), (47, 64, 1, 0, 0, 0), (48, 2, 2, 5, 0, 0), (50, 3, 1, 0, 0, 0), (51, 50, 3, 3, 2, 0), (54, 41, 3, 63, 4, 0), (57, 2, 1, 2, 0, 0), (58, 1, 2, 0, 0, 10), (60, 41, 3, 73, 2, 0), (63, 67, 10, 3, 0, 0), (73, 3, 1, 0, 0, 0), (74, 32, 1, 0, 0, 0), (75, 50, 3, 3, 2, 0), (78, 2, 2, 5, 0, 0), (80, 10, 1, 0, 0, 0), (81, 52, 3, 3, 2, 0), (84, 1, 1, 0, 0, 0), (85, 5, 2, 6, 0, 0), (87, 1, 1, 0, 0, (-1)), (88, 5, 2, 7, 0, 0), (90, 1, 1, 0, 0, 0), (91, 5, 2, 8, 0, 0), (93, 2, 2, 8, 0, 0), (95, 2, 2, 5, 0, 0), (97, 41, 3, 200, 3, 0), (100, 3, 1, 0, 0, 0), (101, 51, 3, 3, 0, 0), (104, 2, 1, 2, 0, 0), (105, 1, 1, 0, 0, 1), (106, 9, 1, 0, 0, 0), (107, 59, 1, 4, 0, 0), (108, 3, 1, 3, 0, 0), (109, 60, 3, 110, 2, 0), (112, 3, 1, 1, 0, 0), (113, 3, 1, 0, 0, 0), (114, 51, 3, 3, 0, 0), (117, 2, 1, 2, 0, 0), (118, 1, 1, 0, 0, 1), (119, 9, 1, 0, 0, 0), (120, 59, 1, 4, 0, 0), (121, 3, 2, 4, 0, 0), (123, 2, 2, 8, 0, 0), (125, 54, 1, 0, 0, 0), (126, 60, 3, 84, 3, 0), (129, 3, 1, 0, 0, 0), (130, 3, 1, 1, 0, 0), (131, 2, 1, 2, 0, 0), (132, 1, 1, 0, 0, 1), (133, 9, 1, 0, 0, 0), (134, 60, 3, 107, 3, 0), (137, 5, 2, 9, 0, 0), (139, 3, 1, 3, 0, 0), (140, 50, 3, 4, 6, 0), (143, 40, 3, 161, 1, 0), (146, 2, 2, 9, 0, 0), (148, 2, 2, 6, 0, 0), (150, 41, 3, 157, 5, 0), (153, 1, 1, 0, 0, 1), (154, 42, 3, 173, 0, 0), (157, 1, 1, 0, 0, 0), (158, 42, 3, 173, 0, 0), (161, 2, 2, 9, 0, 0), (163, 2, 2, 6, 0, 0), (165, 41, 3, 172, 3, 0), (168, 1, 1, 0, 0, 1), (169, 42, 3, 173, 0, 0), (172, 1, 1, 0, 0, 0), (173, 5, 2, 10, 0, 0), (175, 2, 2, 7, 0, 0), (177, 1, 1, 0, 0, (-1)), (178, 41, 3, 186, 0, 0), (181, 2, 2, 10, 0, 0), (183, 40, 3, 194, 0, 0), (186, 2, 2, 9, 0, 0), (188, 5, 2, 6, 0, 0), (190, 2, 2, 8, 0, 0), (192, 5, 2, 7, 0, 0), (194, 8, 3, 8, 0, 1), (197, 42, 3, 93, 0, 0), (200, 3, 1, 0, 0, 0), (201, 2, 2, 7, 0, 0), (203, 52, 3, 3, 3, 0), (206, 2, 2, 6, 0, 0), (208, 64, 1, 0, 0, 0)]
/-- 108: CardWorkshop$Table.<init>()V -/
def cd108 : List (Nat × pm_I) := [(0, 3, 1, 0, 0, 0), (1, 74, 3, 0, 0, 0), (4, 3, 1, 0, 0, 0), (5, 1, 2, 0, 0, 24), (7, 72, 2, 0, 0, 0), (9, 53, 3, 4, 0, 0), (12, 3, 1, 0, 0, 0), (13, 1, 2, 0, 0, 24), (15, 72, 2, 0, 0, 0), (17, 53, 3, 4, 1, 0), (20, 3, 1, 0, 0, 0), (21, 1, 2, 0, 0, 6), (23, 72, 2, 0, 0, 0), (25, 53, 3, 4, 2, 0), (28, 3, 1, 0, 0, 0), (29, 1, 2, 0, 0, 6), (31, 72, 2, 0, 0, 0), (33, 53, 3, 4, 3, 0), (36, 3, 1, 0, 0, 0), (37, 1, 1, 0, 0, 4), (38, 72, 2, 0, 0, 0), (40, 53, 3, 4, 4, 0), (43, 3, 1, 0, 0, 0), (44, 1, 1, 0, 0, 2), (45, 72, 2, 0, 0, 0), (47, 53, 3, 4, 5, 0), (50, 3, 1, 0, 0, 0), (51, 1, 1, 0, 0, 0), (52, 52, 3, 4, 6, 0), (55, 63, 1, 0, 0, 0)]
/-- 109: CardWorkshop$Table.clear()V -/
def cd109 : List (Nat × pm_I) := [(0, 3, 1, 0, 0, 0), (1, 51, 3, 4, 0, 0), (4, 1, 1, 0, 0, (-1)), (5, 60, 3, 132, 2, 0), (8, 3, 1, 0, 0, 0), (9, 51, 3, 4, 1, 0), (12, 1, 1, 0, 0, (-1)), (13, 60, 3, 132, 2, 0), (16, 3, 1, 0, 0, 0), (17, 51, 3, 4, 2, 0), (20, 1, 1, 0, 0, (-1)), (21, 60, 3, 132, 2, 0), (24, 3, 1, 0, 0, 0), (25, 51, 3, 4, 3, 0), (28, 1, 1, 0, 0, 0), (29, 60, 3, 132, 2, 0), (32, 3, 1, 0, 0, 0), (33, 51, 3, 4, 4, 0), (36, 1, 1, 0, 0, 0), (37, 60, 3, 132, 2, 0), (40, 3, 1, 0, 0, 0), (41, 51, 3, 4, 5, 0), (44, 1, 1, 0, 0, 0), (45, 60, 3, 132, 2, 0), (48, 3, 1, 0, 0, 0), (49, 1, 1, 0, 0, 0), (50, 52, 3, 4, 6, 0), (53, 63, 1, 0, 0, 0)]
/-- 110: CardWorkshop$Table.copyFrom(LCardWorkshop$Table;)V -/
def cd110 : List (Nat × pm_I) := [(0, 3, 1, 1, 0, 0), (1, 51, 3, 4, 0, 0), (4, 1, 1, 0, 0, 0), (5, 3, 1, 0, 0, 0), (6, 51, 3, 4, 0, 0), (9, 1, 1, 0, 0, 0), (10, 1, 2, 0, 0, 24), (12, 61, 3, 0, 0, 0), (15, 3, 1, 1, 0, 0), (16, 51, 3, 4, 1, 0), (19, 1, 1, 0, 0, 0), (20, 3, 1, 0, 0, 0), (21, 51, 3, 4, 1, 0), (24, 1, 1, 0, 0, 0), (25, 1, 2, 0, 0, 24), (27, 61, 3, 0, 0, 0), (30, 3, 1, 1, 0, 0), (31, 51, 3, 4, 2, 0), (34, 1, 1, 0, 0, 0), (35, 3, 1, 0, 0, 0), (36, 51, 3, 4, 2, 0), (39, 1, 1, 0, 0, 0), (40, 1, 2, 0, 0, 6), (42, 61, 3, 0, 0, 0), (45, 3, 1, 1, 0, 0), (46, 51, 3, 4, 3, 0), (49, 1, 1, 0, 0, 0), (50, 3, 1, 0, 0, 0), (51, 51, 3, 4, 3, 0), (54, 1, 1, 0, 0, 0), (55, 1, 2, 0, 0, 6), (57, 61, 3, 0, 0, 0), (60, 3, 1, 1, 0, 0), (61, 51, 3, 4, 4, 0), (64, 1, 1, 0, 0, 0), (65, 3, 1, 0, 0, 0), (66, 51, 3, 4, 4, 0), (69, 1, 1, 0, 0, 0), (70, 1, 1, 0, 0, 4), (71, 61, 3, 0, 0, 0), (74, 3, 1, 1, 0, 0), (75, 51, 3, 4, 5, 0), (78, 1, 1, 0, 0, 0), (79, 3, 1, 0, 0, 0), (80, 51, 3, 4, 5, 0), (83, 1, 1, 0, 0, 0), (84, 1, 1, 0, 0, 2), (85, 61, 3, 0, 0, 0), (88, 3, 1, 0, 0, 0), (89, 3, 1, 1, 0, 0), (90, 50, 3, 4, 6, 0), (93, 52, 3, 4, 6, 0), (96, 63, 1, 0, 0, 0)]
/-- 111: CardWorkshop$Table.lay(II)V -/
def cd111 : List (Nat × pm_I) := [(0, 3, 1, 0, 0, 0), (1, 51, 3, 4, 0, 0), (4, 2, 1, 1, 0, 0), (5, 2, 1, 2, 0, 0), (6, 55, 1, 0, 0, 0), (7, 3, 1, 0, 0, 0), (8, 51, 3, 4, 1, 0), (11, 2, 1, 1, 0, 0), (12, 3, 1, 0, 0, 0), (13, 51, 3, 4, 2, 0), (16, 2, 1, 2, 0, 0), (17, 54, 1, 0, 0, 0), (18, 55, 1, 0, 0, 0), (19, 3, 1, 0, 0, 0), (20, 51, 3, 4, 2, 0), (23, 2, 1, 2, 0, 0), (24, 2, 1, 1, 0, 0), (25, 55, 1, 0, 0, 0), (26, 3, 1, 0, 0, 0), (27, 51, 3, 4, 3, 0), (30, 2, 1, 2, 0, 0), (31, 34, 1, 0, 0, 0), (32, 54, 1, 0, 0, 0), (33, 1, 1, 0, 0, 1), (34, 9, 1, 0, 0, 0), (35, 55, 1, 0, 0, 0), (36, 63, 1, 0, 0, 0)]
/-- 112: CardWorkshop$Table.raise(II)V -/
def cd112 : List (Nat × pm_I) := [(0, 3, 1, 0, 0, 0), (1, 51, 3, 4, 0, 0), (4, 2, 1, 1, 0, 0), (5, 54, 1, 0, 0, 0), (6, 5, 1, 3, 0, 0), (7, 2, 1, 3, 0, 0), (8, 40, 3, 43, 2, 0), (11, 3, 1, 0, 0, 0), (12, 51, 3, 4, 3, 0), (15, 2, 1, 3, 0, 0), (16, 34, 1, 0, 0, 0), (17, 54, 1, 0, 0, 0), (18, 1, 1, 0, 0, 1), (19, 10, 1, 0, 0, 0), (20, 55, 1, 0, 0, 0), (21, 3, 1, 0, 0, 0), (22, 51, 3, 4, 2, 0), (25, 2, 1, 3, 0, 0), (26, 54, 1, 0, 0, 0), (27, 2, 1, 1, 0, 0), (28, 41, 3, 43, 1, 0), (31, 3, 1, 0, 0, 0), (32, 51, 3, 4, 2, 0), (35, 2, 1, 3, 0, 0), (36, 3, 1, 0, 0, 0), (37, 51, 3, 4, 1, 0), (40, 2, 1, 1, 0, 0), (41, 54, 1, 0, 0, 0), (42, 55, 1, 0, 0, 0), (43, 1, 1, 0, 0, 0), (44, 5, 2, 4, 0, 0), (46, 2, 2, 4, 0, 0), (48, 1, 2, 0, 0, 24), (50, 41, 3, 83, 3, 0), (53, 3, 1, 0, 0, 0), (54, 51, 3, 4, 1, 0), (57, 2, 2, 4, 0, 0), (59, 54, 1, 0, 0, 0), (60, 2, 1, 1, 0, 0), (61, 41, 3, 77, 1, 0), (64, 3, 1, 0, 0, 0), (65, 51, 3, 4, 1, 0), (68, 2, 2, 4, 0, 0), (70, 3, 1, 0, 0, 0), (71, 51, 3, 4, 1, 0), (74, 2, 1, 1, 0, 0), (75, 54, 1, 0, 0, 0), (76, 55, 1, 0, 0, 0), (77, 8, 3, 4, 0, 1), (80, 42, 3, 46, 0, 0), (83, 3, 1, 0, 0, 0), (84, 2, 1, 1, 0, 0), (85, 2, 1, 2, 0, 0), (86, 60, 3, 111, 3, 0), (89, 63, 1, 0, 0, 0)]
/-- 113: CardWorkshop$Table.cardAt(II)I -/
def cd113 : List (Nat × pm_I) := [(0, 2, 1, 2, 0, 0), (1, 40, 3, 14, 2, 0), (4, 2, 1, 2, 0, 0), (5, 3, 1, 0, 0, 0), (6, 51, 3, 4, 3, 0), (9, 2, 1, 1, 0, 0), (10, 54, 1, 0, 0, 0), (11, 41, 3, 16, 2, 0), (14, 1, 1, 0, 0, (-1)), (15, 64, 1, 0, 0, 0), (16, 3, 1, 0, 0, 0), (17, 51, 3, 4, 2, 0), (20, 2, 1, 1, 0, 0), (21, 54, 1, 0, 0, 0), (22, 5, 1, 3, 0, 0), (23, 3, 1, 0, 0, 0), (24, 51, 3, 4, 3, 0), (27, 2, 1, 1, 0, 0), (28, 54, 1, 0, 0, 0), (29, 1, 1, 0, 0, 1), (30, 10, 1, 0, 0, 0), (31, 5, 2, 4, 0, 0), (33, 2, 2, 4, 0, 0), (35, 2, 1, 2, 0, 0), (36, 41, 3, 56, 5, 0), (39, 2, 1, 3, 0, 0), (40, 40, 3, 56, 2, 0), (43, 3, 1, 0, 0, 0), (44, 51, 3, 4, 1, 0), (47, 2, 1, 3, 0, 0), (48, 54, 1, 0, 0, 0), (49, 5, 1, 3, 0, 0), (50, 8, 3, 4, 0, (-1)), (53, 42, 3, 33, 0, 0), (56, 2, 1, 3, 0, 0), (57, 64, 1, 0, 0, 0)]
/-- 114: CardWorkshopLaw.compile(LCardWorkshop;[J)I -/
def cd114 : List (Nat × pm_I) := [(0, 3, 1, 1, 0, 0), (1, 1, 1, 0, 0, 0), (2, 3, 1, 0, 0, 0), (3, 60, 3, 4, 1, 0), (6, 20, 1, 0, 0, 0), (7, 58, 1, 0, 0, 0), (8, 42, 3, 17, 0, 0), (12, 1, 1, 0, 0, 1), (13, 64, 1, 0, 0, 0), (15, 1, 1, 0, 0, 2), (16, 64, 1, 0, 0, 0), (17, 1, 1, 0, 0, 0), (18, 64, 1, 0, 0, 0)]
/-- 115: CardWorkshopLaw.code(LCardWorkshop;IZ[J)I -/
def cd115 : List (Nat × pm_I) := [(0, 3, 1, 3, 0, 0), (1, 1, 1, 0, 0, 0), (2, 3, 1, 0, 0, 0), (3, 2, 1, 1, 0, 0), (4, 2, 1, 2, 0, 0), (5, 60, 3, 5, 3, 0), (8, 20, 1, 0, 0, 0), (9, 58, 1, 0, 0, 0), (10, 42, 3, 17, 0, 0), (15, 1, 1, 0, 0, 1), (16, 64, 1, 0, 0, 0), (17, 1, 1, 0, 0, 0), (18, 64, 1, 0, 0, 0)]
/-- 116: CardWorkshopLaw.deal(LCardWorkshop;II[J)I -/
def cd116 : List (Nat × pm_I) := [(0, 3, 1, 3, 0, 0), (1, 1, 1, 0, 0, 0), (2, 3, 1, 0, 0, 0), (3, 2, 1, 1, 0, 0), (4, 2, 1, 2, 0, 0), (5, 60, 3, 6, 3, 0), (8, 20, 1, 0, 0, 0), (9, 58, 1, 0, 0, 0), (10, 42, 3, 21, 0, 0), (15, 1, 1, 0, 0, 1), (16, 64, 1, 0, 0, 0), (19, 1, 1, 0, 0, 2), (20, 64, 1, 0, 0, 0), (21, 1, 1, 0, 0, 0), (22, 64, 1, 0, 0, 0)]
/-- 117: CardWorkshopLaw.move(LCardWorkshop;IZ[J)I -/
def cd117 : List (Nat × pm_I) := [(0, 3, 1, 3, 0, 0), (1, 1, 1, 0, 0, 0), (2, 3, 1, 0, 0, 0), (3, 2, 1, 1, 0, 0), (4, 2, 1, 2, 0, 0), (5, 60, 3, 10, 3, 0), (8, 20, 1, 0, 0, 0), (9, 58, 1, 0, 0, 0), (10, 42, 3, 17, 0, 0), (15, 1, 1, 0, 0, 1), (16, 64, 1, 0, 0, 0), (17, 1, 1, 0, 0, 0), (18, 64, 1, 0, 0, 0)]
/-- 118: CardWorkshopLaw.act(LCardWorkshop;I[J)I -/
def cd118 : List (Nat × pm_I) := [(0, 3, 1, 2, 0, 0), (1, 1, 1, 0, 0, 0), (2, 3, 1, 0, 0, 0), (3, 2, 1, 1, 0, 0), (4, 60, 3, 14, 2, 0), (7, 20, 1, 0, 0, 0), (8, 58, 1, 0, 0, 0), (9, 42, 3, 18, 0, 0), (13, 1, 1, 0, 0, 1), (14, 64, 1, 0, 0, 0), (16, 1, 1, 0, 0, 2), (17, 64, 1, 0, 0, 0), (18, 1, 1, 0, 0, 0), (19, 64, 1, 0, 0, 0)]
/-- 119: CardWorkshopLaw.counter(LCardWorkshop;I[J)I -/
def cd119 : List (Nat × pm_I) := [(0, 3, 1, 2, 0, 0), (1, 1, 1, 0, 0, 0), (2, 3, 1, 0, 0, 0), (3, 2, 1, 1, 0, 0), (4, 60, 3, 18, 2, 0), (7, 20, 1, 0, 0, 0), (8, 58, 1, 0, 0, 0), (9, 42, 3, 15, 0, 0), (13, 1, 1, 0, 0, 1), (14, 64, 1, 0, 0, 0), (15, 1, 1, 0, 0, 0), (16, 64, 1, 0, 0, 0)]
/-- 120: CardWorkshopLaw.solve(LCardWorkshop;I[J)I -/
def cd120 : List (Nat × pm_I) := [(0, 3, 1, 2, 0, 0), (1, 1, 1, 0, 0, 0), (2, 3, 1, 0, 0, 0), (3, 2, 1, 1, 0, 0), (4, 60, 3, 20, 2, 0), (7, 20, 1, 0, 0, 0), (8, 58, 1, 0, 0, 0), (9, 42, 3, 21, 0, 0), (13, 1, 1, 0, 0, 1), (14, 64, 1, 0, 0, 0), (16, 1, 1, 0, 0, 2), (17, 64, 1, 0, 0, 0), (19, 1, 1, 0, 0, 3), (20, 64, 1, 0, 0, 0), (21, 1, 1, 0, 0, 0), (22, 64, 1, 0, 0, 0)]
/-- 121: CardWorkshopLaw.law([I)Z -/
def cd121_0 : List (Nat × pm_I) := [(0, 71, 3, 5, 0, 0), (3, 32, 1, 0, 0, 0), (4, 60, 3, 0, 1, 0), (7, 6, 1, 1, 0, 0), (8, 71, 3, 6, 0, 0), (11, 32, 1, 0, 0, 0), (12, 60, 3, 22, 1, 0), (15, 6, 1, 2, 0, 0), (16, 1, 1, 0, 0, 1), (17, 72, 2, 3, 0, 0), (19, 6, 1, 3, 0, 0), (20, 1, 1, 0, 0, 0), (21, 5, 2, 4, 0, 0), (23, 2, 2, 4, 0, 0), (25, 3, 1, 0, 0, 0), (26, 84, 1, 0, 0, 0), (27, 1, 1, 0, 0, 4), (28, 10, 1, 0, 0, 0), (29, 41, 3, 825, 4, 0), (32, 3, 1, 0, 0, 0), (33, 2, 2, 4, 0, 0), (35, 83, 1, 0, 0, 0), (36, 1, 2, 0, 0, 15), (38, 14, 1, 0, 0, 0), (39, 43, 77, 6, 819, 0), (116, 3, 1, 1, 0, 0), (117, 3, 1, 0, 0, 0), (118, 2, 2, 4, 0, 0), (120, 1, 1, 0, 0, 1), (121, 9, 1, 0, 0, 0), (122, 83, 1, 0, 0, 0), (123, 20, 1, 0, 0, 0), (124, 1, 2, 0, 0, 32), (126, 23, 1, 0, 0, 0), (127, 3, 1, 0, 0, 0), (128, 2, 2, 4, 0, 0), (130, 1, 1, 0, 0, 2), (131, 9, 1, 0, 0, 0), (132, 83, 1, 0, 0, 0), (133, 20, 1, 0, 0, 0)]
def cd121_1 : List (Nat × pm_I) := [(134, 15, 3, 0, 0, 0), (137, 25, 1, 0, 0, 0), (138, 26, 1, 0, 0, 0), (139, 60, 3, 1, 2, 0), (142, 3, 1, 2, 0, 0), (143, 3, 1, 0, 0, 0), (144, 2, 2, 4, 0, 0), (146, 1, 1, 0, 0, 1), (147, 9, 1, 0, 0, 0), (148, 83, 1, 0, 0, 0), (149, 20, 1, 0, 0, 0), (150, 1, 2, 0, 0, 32), (152, 23, 1, 0, 0, 0), (153, 3, 1, 0, 0, 0), (154, 2, 2, 4, 0, 0), (156, 1, 1, 0, 0, 2), (157, 9, 1, 0, 0, 0), (158, 83, 1, 0, 0, 0), (159, 20, 1, 0, 0, 0), (160, 15, 3, 0, 0, 0), (163, 25, 1, 0, 0, 0), (164, 26, 1, 0, 0, 0), (165, 60, 3, 24, 2, 0), (168, 41, 3, 819, 0, 0), (171, 1, 1, 0, 0, 0), (172, 64, 1, 2, 0, 0), (173, 3, 1, 1, 0, 0), (174, 60, 3, 3, 1, 0), (177, 3, 1, 2, 0, 0), (178, 60, 3, 25, 1, 0), (181, 42, 3, 819, 0, 0), (184, 3, 1, 1, 0, 0), (185, 3, 1, 3, 0, 0), (186, 60, 3, 114, 2, 0), (189, 5, 2, 5, 0, 0), (191, 3, 1, 2, 0, 0), (192, 60, 3, 45, 1, 0), (195, 5, 2, 6, 0, 0), (197, 3, 1, 2, 0, 0), (198, 60, 3, 23, 1, 0)]
def cd121_2 : List (Nat × pm_I) := [(201, 2, 2, 5, 0, 0), (203, 41, 3, 208, 0, 0), (206, 1, 1, 0, 0, 0), (207, 64, 1, 2, 0, 0), (208, 2, 2, 5, 0, 0), (210, 40, 3, 225, 1, 0), (213, 3, 1, 3, 0, 0), (214, 1, 1, 0, 0, 0), (215, 57, 1, 0, 0, 0), (216, 2, 2, 6, 0, 0), (218, 20, 1, 0, 0, 0), (219, 27, 1, 0, 0, 0), (220, 40, 3, 225, 0, 0), (223, 1, 1, 0, 0, 0), (224, 64, 1, 2, 0, 0), (225, 42, 3, 819, 0, 0), (228, 3, 1, 1, 0, 0), (229, 3, 1, 0, 0, 0), (230, 2, 2, 4, 0, 0), (232, 1, 1, 0, 0, 1), (233, 9, 1, 0, 0, 0), (234, 83, 1, 0, 0, 0), (235, 3, 1, 0, 0, 0), (236, 2, 2, 4, 0, 0), (238, 1, 1, 0, 0, 2), (239, 9, 1, 0, 0, 0), (240, 83, 1, 0, 0, 0), (241, 40, 3, 248, 0, 0), (244, 1, 1, 0, 0, 1), (245, 42, 3, 249, 0, 0), (248, 1, 1, 0, 0, 0), (249, 3, 1, 3, 0, 0), (250, 60, 3, 115, 4, 0), (253, 5, 2, 5, 0, 0), (255, 3, 1, 2, 0, 0), (256, 3, 1, 0, 0, 0), (257, 2, 2, 4, 0, 0), (259, 1, 1, 0, 0, 1), (260, 9, 1, 0, 0, 0), (261, 83, 1, 0, 0, 0)]
def cd121_3 : List (Nat × pm_I) := [(262, 3, 1, 0, 0, 0), (263, 2, 2, 4, 0, 0), (265, 1, 1, 0, 0, 2), (266, 9, 1, 0, 0, 0), (267, 83, 1, 0, 0, 0), (268, 40, 3, 275, 0, 0), (271, 1, 1, 0, 0, 1), (272, 42, 3, 276, 0, 0), (275, 1, 1, 0, 0, 0), (276, 60, 3, 47, 3, 0), (279, 5, 2, 6, 0, 0), (281, 3, 1, 2, 0, 0), (282, 60, 3, 23, 1, 0), (285, 2, 2, 5, 0, 0), (287, 41, 3, 292, 0, 0), (290, 1, 1, 0, 0, 0), (291, 64, 1, 2, 0, 0), (292, 2, 2, 5, 0, 0), (294, 40, 3, 309, 1, 0), (297, 3, 1, 3, 0, 0), (298, 1, 1, 0, 0, 0), (299, 57, 1, 0, 0, 0), (300, 2, 2, 6, 0, 0), (302, 20, 1, 0, 0, 0), (303, 27, 1, 0, 0, 0), (304, 40, 3, 309, 0, 0), (307, 1, 1, 0, 0, 0), (308, 64, 1, 2, 0, 0), (309, 42, 3, 819, 0, 0), (312, 3, 1, 1, 0, 0), (313, 3, 1, 0, 0, 0), (314, 2, 2, 4, 0, 0), (316, 1, 1, 0, 0, 1), (317, 9, 1, 0, 0, 0), (318, 83, 1, 0, 0, 0), (319, 3, 1, 0, 0, 0), (320, 2, 2, 4, 0, 0), (322, 1, 1, 0, 0, 2), (323, 9, 1, 0, 0, 0), (324, 83, 1, 0, 0, 0)]
def cd121_4 : List (Nat × pm_I) := [(325, 3, 1, 3, 0, 0), (326, 60, 3, 116, 4, 0), (329, 5, 2, 5, 0, 0), (331, 3, 1, 2, 0, 0), (332, 3, 1, 0, 0, 0), (333, 2, 2, 4, 0, 0), (335, 1, 1, 0, 0, 1), (336, 9, 1, 0, 0, 0), (337, 83, 1, 0, 0, 0), (338, 3, 1, 0, 0, 0), (339, 2, 2, 4, 0, 0), (341, 1, 1, 0, 0, 2), (342, 9, 1, 0, 0, 0), (343, 83, 1, 0, 0, 0), (344, 60, 3, 62, 3, 0), (347, 5, 2, 6, 0, 0), (349, 3, 1, 2, 0, 0), (350, 60, 3, 23, 1, 0), (353, 2, 2, 5, 0, 0), (355, 41, 3, 360, 0, 0), (358, 1, 1, 0, 0, 0), (359, 64, 1, 2, 0, 0), (360, 2, 2, 5, 0, 0), (362, 40, 3, 377, 1, 0), (365, 3, 1, 3, 0, 0), (366, 1, 1, 0, 0, 0), (367, 57, 1, 0, 0, 0), (368, 2, 2, 6, 0, 0), (370, 20, 1, 0, 0, 0), (371, 27, 1, 0, 0, 0), (372, 40, 3, 377, 0, 0), (375, 1, 1, 0, 0, 0), (376, 64, 1, 2, 0, 0), (377, 42, 3, 819, 0, 0), (380, 3, 1, 1, 0, 0), (381, 3, 1, 0, 0, 0), (382, 2, 2, 4, 0, 0), (384, 1, 1, 0, 0, 1), (385, 9, 1, 0, 0, 0), (386, 83, 1, 0, 0, 0)]
def cd121_5 : List (Nat × pm_I) := [(387, 3, 1, 0, 0, 0), (388, 2, 2, 4, 0, 0), (390, 1, 1, 0, 0, 2), (391, 9, 1, 0, 0, 0), (392, 83, 1, 0, 0, 0), (393, 60, 3, 8, 3, 0), (396, 3, 1, 2, 0, 0), (397, 3, 1, 0, 0, 0), (398, 2, 2, 4, 0, 0), (400, 1, 1, 0, 0, 1), (401, 9, 1, 0, 0, 0), (402, 83, 1, 0, 0, 0), (403, 3, 1, 0, 0, 0), (404, 2, 2, 4, 0, 0), (406, 1, 1, 0, 0, 2), (407, 9, 1, 0, 0, 0), (408, 83, 1, 0, 0, 0), (409, 60, 3, 63, 3, 0), (412, 41, 3, 819, 0, 0), (415, 1, 1, 0, 0, 0), (416, 64, 1, 2, 0, 0), (417, 3, 1, 1, 0, 0), (418, 60, 3, 9, 1, 0), (421, 3, 1, 2, 0, 0), (422, 60, 3, 65, 1, 0), (425, 41, 3, 819, 0, 0), (428, 1, 1, 0, 0, 0), (429, 64, 1, 2, 0, 0), (430, 3, 1, 1, 0, 0), (431, 3, 1, 0, 0, 0), (432, 2, 2, 4, 0, 0), (434, 1, 1, 0, 0, 1), (435, 9, 1, 0, 0, 0), (436, 83, 1, 0, 0, 0), (437, 3, 1, 0, 0, 0), (438, 2, 2, 4, 0, 0), (440, 1, 1, 0, 0, 2), (441, 9, 1, 0, 0, 0), (442, 83, 1, 0, 0, 0), (443, 40, 3, 450, 0, 0)]
def cd121_6 : List (Nat × pm_I) := [(446, 1, 1, 0, 0, 1), (447, 42, 3, 451, 0, 0), (450, 1, 1, 0, 0, 0), (451, 3, 1, 3, 0, 0), (452, 60, 3, 117, 4, 0), (455, 5, 2, 5, 0, 0), (457, 3, 1, 2, 0, 0), (458, 3, 1, 0, 0, 0), (459, 2, 2, 4, 0, 0), (461, 1, 1, 0, 0, 1), (462, 9, 1, 0, 0, 0), (463, 83, 1, 0, 0, 0), (464, 3, 1, 0, 0, 0), (465, 2, 2, 4, 0, 0), (467, 1, 1, 0, 0, 2), (468, 9, 1, 0, 0, 0), (469, 83, 1, 0, 0, 0), (470, 40, 3, 477, 0, 0), (473, 1, 1, 0, 0, 1), (474, 42, 3, 478, 0, 0), (477, 1, 1, 0, 0, 0), (478, 60, 3, 66, 3, 0), (481, 5, 2, 6, 0, 0), (483, 3, 1, 2, 0, 0), (484, 60, 3, 23, 1, 0), (487, 2, 2, 5, 0, 0), (489, 41, 3, 494, 0, 0), (492, 1, 1, 0, 0, 0), (493, 64, 1, 2, 0, 0), (494, 2, 2, 5, 0, 0), (496, 40, 3, 511, 1, 0), (499, 3, 1, 3, 0, 0), (500, 1, 1, 0, 0, 0), (501, 57, 1, 0, 0, 0), (502, 2, 2, 6, 0, 0), (504, 20, 1, 0, 0, 0), (505, 27, 1, 0, 0, 0), (506, 40, 3, 511, 0, 0), (509, 1, 1, 0, 0, 0), (510, 64, 1, 2, 0, 0)]
def cd121_7 : List (Nat × pm_I) := [(511, 42, 3, 819, 0, 0), (514, 3, 1, 1, 0, 0), (515, 3, 1, 0, 0, 0), (516, 2, 2, 4, 0, 0), (518, 1, 1, 0, 0, 1), (519, 9, 1, 0, 0, 0), (520, 83, 1, 0, 0, 0), (521, 3, 1, 3, 0, 0), (522, 60, 3, 118, 3, 0), (525, 5, 2, 5, 0, 0), (527, 3, 1, 2, 0, 0), (528, 3, 1, 0, 0, 0), (529, 2, 2, 4, 0, 0), (531, 1, 1, 0, 0, 1), (532, 9, 1, 0, 0, 0), (533, 83, 1, 0, 0, 0), (534, 60, 3, 67, 2, 0), (537, 5, 2, 6, 0, 0), (539, 3, 1, 2, 0, 0), (540, 60, 3, 23, 1, 0), (543, 2, 2, 5, 0, 0), (545, 41, 3, 550, 0, 0), (548, 1, 1, 0, 0, 0), (549, 64, 1, 2, 0, 0), (550, 2, 2, 5, 0, 0), (552, 40, 3, 567, 1, 0), (555, 3, 1, 3, 0, 0), (556, 1, 1, 0, 0, 0), (557, 57, 1, 0, 0, 0), (558, 2, 2, 6, 0, 0), (560, 20, 1, 0, 0, 0), (561, 27, 1, 0, 0, 0), (562, 40, 3, 567, 0, 0), (565, 1, 1, 0, 0, 0), (566, 64, 1, 2, 0, 0), (567, 42, 3, 819, 0, 0), (570, 3, 1, 1, 0, 0), (571, 60, 3, 15, 1, 0), (574, 3, 1, 2, 0, 0), (575, 60, 3, 68, 1, 0)]
def cd121_8 : List (Nat × pm_I) := [(578, 41, 3, 819, 0, 0), (581, 1, 1, 0, 0, 0), (582, 64, 1, 2, 0, 0), (583, 3, 1, 1, 0, 0), (584, 3, 1, 0, 0, 0), (585, 2, 2, 4, 0, 0), (587, 1, 1, 0, 0, 1), (588, 9, 1, 0, 0, 0), (589, 83, 1, 0, 0, 0), (590, 3, 1, 0, 0, 0), (591, 2, 2, 4, 0, 0), (593, 1, 1, 0, 0, 2), (594, 9, 1, 0, 0, 0), (595, 83, 1, 0, 0, 0), (596, 60, 3, 16, 3, 0), (599, 3, 1, 2, 0, 0), (600, 3, 1, 0, 0, 0), (601, 2, 2, 4, 0, 0), (603, 1, 1, 0, 0, 1), (604, 9, 1, 0, 0, 0), (605, 83, 1, 0, 0, 0), (606, 3, 1, 0, 0, 0), (607, 2, 2, 4, 0, 0), (609, 1, 1, 0, 0, 2), (610, 9, 1, 0, 0, 0), (611, 83, 1, 0, 0, 0), (612, 60, 3, 69, 3, 0), (615, 41, 3, 819, 0, 0), (618, 1, 1, 0, 0, 0), (619, 64, 1, 2, 0, 0), (620, 3, 1, 1, 0, 0), (621, 3, 1, 0, 0, 0), (622, 2, 2, 4, 0, 0), (624, 1, 1, 0, 0, 1), (625, 9, 1, 0, 0, 0), (626, 83, 1, 0, 0, 0), (627, 3, 1, 0, 0, 0), (628, 2, 2, 4, 0, 0), (630, 1, 1, 0, 0, 2), (631, 9, 1, 0, 0, 0)]
def cd121_9 : List (Nat × pm_I) := [(632, 83, 1, 0, 0, 0), (633, 3, 1, 0, 0, 0), (634, 2, 2, 4, 0, 0), (636, 1, 1, 0, 0, 3), (637, 9, 1, 0, 0, 0), (638, 83, 1, 0, 0, 0), (639, 60, 3, 17, 4, 0), (642, 3, 1, 2, 0, 0), (643, 3, 1, 0, 0, 0), (644, 2, 2, 4, 0, 0), (646, 1, 1, 0, 0, 1), (647, 9, 1, 0, 0, 0), (648, 83, 1, 0, 0, 0), (649, 3, 1, 0, 0, 0), (650, 2, 2, 4, 0, 0), (652, 1, 1, 0, 0, 2), (653, 9, 1, 0, 0, 0), (654, 83, 1, 0, 0, 0), (655, 3, 1, 0, 0, 0), (656, 2, 2, 4, 0, 0), (658, 1, 1, 0, 0, 3), (659, 9, 1, 0, 0, 0), (660, 83, 1, 0, 0, 0), (661, 60, 3, 70, 4, 0), (664, 41, 3, 819, 0, 0), (667, 1, 1, 0, 0, 0), (668, 64, 1, 2, 0, 0), (669, 3, 1, 1, 0, 0), (670, 3, 1, 0, 0, 0), (671, 2, 2, 4, 0, 0), (673, 1, 1, 0, 0, 1), (674, 9, 1, 0, 0, 0), (675, 83, 1, 0, 0, 0), (676, 3, 1, 3, 0, 0), (677, 60, 3, 119, 3, 0), (680, 5, 2, 5, 0, 0), (682, 3, 1, 2, 0, 0), (683, 3, 1, 0, 0, 0), (684, 2, 2, 4, 0, 0), (686, 1, 1, 0, 0, 1)]
def cd121_10 : List (Nat × pm_I) := [(687, 9, 1, 0, 0, 0), (688, 83, 1, 0, 0, 0), (689, 60, 3, 71, 2, 0), (692, 5, 2, 6, 0, 0), (694, 3, 1, 2, 0, 0), (695, 60, 3, 23, 1, 0), (698, 2, 2, 5, 0, 0), (700, 41, 3, 705, 0, 0), (703, 1, 1, 0, 0, 0), (704, 64, 1, 2, 0, 0), (705, 2, 2, 5, 0, 0), (707, 40, 3, 722, 1, 0), (710, 3, 1, 3, 0, 0), (711, 1, 1, 0, 0, 0), (712, 57, 1, 0, 0, 0), (713, 2, 2, 6, 0, 0), (715, 20, 1, 0, 0, 0), (716, 27, 1, 0, 0, 0), (717, 40, 3, 722, 0, 0), (720, 1, 1, 0, 0, 0), (721, 64, 1, 2, 0, 0), (722, 42, 3, 819, 0, 0), (725, 3, 1, 1, 0, 0), (726, 3, 1, 0, 0, 0), (727, 2, 2, 4, 0, 0), (729, 1, 1, 0, 0, 1), (730, 9, 1, 0, 0, 0), (731, 83, 1, 0, 0, 0), (732, 60, 3, 19, 2, 0), (735, 3, 1, 2, 0, 0), (736, 3, 1, 0, 0, 0), (737, 2, 2, 4, 0, 0), (739, 1, 1, 0, 0, 1), (740, 9, 1, 0, 0, 0), (741, 83, 1, 0, 0, 0), (742, 60, 3, 72, 2, 0), (745, 41, 3, 819, 0, 0), (748, 1, 1, 0, 0, 0), (749, 64, 1, 2, 0, 0), (750, 3, 1, 1, 0, 0)]
def cd121_11 : List (Nat × pm_I) := [(751, 3, 1, 0, 0, 0), (752, 2, 2, 4, 0, 0), (754, 1, 1, 0, 0, 1), (755, 9, 1, 0, 0, 0), (756, 83, 1, 0, 0, 0), (757, 3, 1, 3, 0, 0), (758, 60, 3, 120, 3, 0), (761, 5, 2, 5, 0, 0), (763, 3, 1, 2, 0, 0), (764, 3, 1, 0, 0, 0), (765, 2, 2, 4, 0, 0), (767, 1, 1, 0, 0, 1), (768, 9, 1, 0, 0, 0), (769, 83, 1, 0, 0, 0), (770, 60, 3, 77, 2, 0), (773, 5, 2, 6, 0, 0), (775, 3, 1, 2, 0, 0), (776, 60, 3, 23, 1, 0), (779, 2, 2, 5, 0, 0), (781, 41, 3, 786, 0, 0), (784, 1, 1, 0, 0, 0), (785, 64, 1, 2, 0, 0), (786, 2, 2, 5, 0, 0), (788, 40, 3, 803, 1, 0), (791, 3, 1, 3, 0, 0), (792, 1, 1, 0, 0, 0), (793, 57, 1, 0, 0, 0), (794, 2, 2, 6, 0, 0), (796, 20, 1, 0, 0, 0), (797, 27, 1, 0, 0, 0), (798, 40, 3, 803, 0, 0), (801, 1, 1, 0, 0, 0), (802, 64, 1, 2, 0, 0), (803, 42, 3, 819, 0, 0), (806, 3, 1, 1, 0, 0), (807, 60, 3, 21, 1, 0), (810, 3, 1, 2, 0, 0), (811, 60, 3, 78, 1, 0), (814, 41, 3, 819, 0, 0), (817, 1, 1, 0, 0, 0)]
def cd121_12 : List (Nat × pm_I) := [(818, 64, 1, 2, 0, 0), (819, 8, 3, 4, 0, 4), (822, 42, 3, 23, 0, 0), (825, 1, 1, 0, 0, 1), (826, 64, 1, 2, 0, 0)]
def cd121 : List (Nat × pm_I) := cd121_0 ++ cd121_1 ++ cd121_2 ++ cd121_3 ++ cd121_4 ++ cd121_5 ++ cd121_6 ++ cd121_7 ++ cd121_8 ++ cd121_9 ++ cd121_10 ++ cd121_11 ++ cd121_12
/-- 122: java/lang/String.indexOf(I)I -/
def cd122 : List (Nat × pm_I) := [(0, 3, 1, 0, 0, 0), (1, 2, 1, 1, 0, 0), (2, 1, 1, 0, 0, 0), (3, 60, 3, 123, 3, 0), (6, 64, 1, 0, 0, 0)]
/-- 123: java/lang/String.indexOf(II)I -/
def cd123 : List (Nat × pm_I) := [(0, 3, 1, 0, 0, 0), (1, 60, 3, 124, 1, 0), (4, 40, 3, 23, 0, 0), (7, 3, 1, 0, 0, 0), (8, 85, 3, 0, 0, 0), (11, 2, 1, 1, 0, 0), (12, 2, 1, 2, 0, 0), (13, 3, 1, 0, 0, 0), (14, 60, 3, 125, 1, 0), (17, 60, 3, 127, 4, 0), (20, 42, 3, 36, 0, 0), (36, 64, 1, 0, 0, 0)]
/-- 124: java/lang/String.isLatin1()Z -/
def cd124 : List (Nat × pm_I) := [(0, 87, 3, 0, 0, 1), (3, 40, 3, 17, 0, 0), (6, 3, 1, 0, 0, 0), (7, 86, 3, 0, 0, 0), (10, 40, 3, 17, 1, 0), (13, 1, 1, 0, 0, 1), (14, 42, 3, 18, 0, 0), (17, 1, 1, 0, 0, 0), (18, 64, 1, 2, 0, 0)]
/-- 125: java/lang/String.length()I -/
def cd125 : List (Nat × pm_I) := [(0, 3, 1, 0, 0, 0), (1, 85, 3, 0, 0, 0), (4, 82, 1, 0, 0, 0), (5, 3, 1, 0, 0, 0), (6, 60, 3, 126, 1, 0), (9, 17, 1, 0, 0, 0), (10, 64, 1, 0, 0, 0)]
/-- 126: java/lang/String.coder()B -/
def cd126 : List (Nat × pm_I) := [(0, 87, 3, 0, 0, 1), (3, 40, 3, 13, 0, 0), (6, 3, 1, 0, 0, 0), (7, 86, 3, 0, 0, 0), (10, 42, 3, 14, 0, 0), (13, 1, 1, 0, 0, 1), (14, 64, 1, 3, 0, 0)]
/-- 127: java/lang/StringLatin1.indexOf([BIII)I -/
def cd127 : List (Nat × pm_I) := [(0, 2, 1, 1, 0, 0), (1, 60, 3, 128, 1, 0), (4, 40, 3, 9, 1, 0), (7, 1, 1, 0, 0, (-1)), (8, 64, 1, 0, 0, 0), (9, 2, 1, 2, 0, 0), (10, 1, 1, 0, 0, 0), (11, 60, 3, 129, 2, 0), (14, 5, 1, 2, 0, 0), (15, 2, 1, 3, 0, 0), (16, 3, 1, 0, 0, 0), (17, 82, 1, 0, 0, 0), (18, 60, 3, 130, 2, 0), (21, 5, 1, 3, 0, 0), (22, 2, 1, 2, 0, 0), (23, 2, 1, 3, 0, 0), (24, 41, 3, 29, 2, 0), (27, 1, 1, 0, 0, (-1)), (28, 64, 1, 0, 0, 0), (29, 3, 1, 0, 0, 0), (30, 2, 1, 1, 0, 0), (31, 2, 1, 2, 0, 0), (32, 2, 1, 3, 0, 0), (33, 60, 3, 131, 4, 0), (36, 64, 1, 0, 0, 0)]
/-- 128: java/lang/StringLatin1.canEncode(I)Z -/
def cd128 : List (Nat × pm_I) := [(0, 2, 1, 0, 0, 0), (1, 40, 3, 15, 2, 0), (4, 2, 1, 0, 0, 0), (5, 1, 3, 0, 0, 255), (8, 41, 3, 15, 4, 0), (11, 1, 1, 0, 0, 1), (12, 42, 3, 16, 0, 0), (15, 1, 1, 0, 0, 0), (16, 64, 1, 2, 0, 0)]
/-- 129: java/lang/Math.max(II)I -/
def cd129 : List (Nat × pm_I) := [(0, 2, 1, 0, 0, 0), (1, 2, 1, 1, 0, 0), (2, 41, 3, 9, 2, 0), (5, 2, 1, 0, 0, 0), (6, 42, 3, 10, 0, 0), (9, 2, 1, 1, 0, 0), (10, 64, 1, 0, 0, 0)]
/-- 130: java/lang/Math.min(II)I -/
def cd130 : List (Nat × pm_I) := [(0, 2, 1, 0, 0, 0), (1, 2, 1, 1, 0, 0), (2, 41, 3, 9, 4, 0), (5, 2, 1, 0, 0, 0), (6, 42, 3, 10, 0, 0), (9, 2, 1, 1, 0, 0), (10, 64, 1, 0, 0, 0)]
/-- 131: java/lang/StringLatin1.indexOfChar([BIII)I -/
def cd131 : List (Nat × pm_I) := [(0, 2, 1, 1, 0, 0), (1, 19, 1, 0, 0, 0), (2, 5, 2, 4, 0, 0), (4, 2, 1, 2, 0, 0), (5, 5, 2, 5, 0, 0), (7, 2, 2, 5, 0, 0), (9, 2, 1, 3, 0, 0), (10, 41, 3, 31, 3, 0), (13, 3, 1, 0, 0, 0), (14, 2, 2, 5, 0, 0), (16, 81, 1, 3, 0, 0), (17, 2, 2, 4, 0, 0), (19, 41, 3, 25, 1, 0), (22, 2, 2, 5, 0, 0), (24, 64, 1, 0, 0, 0), (25, 8, 3, 5, 0, 1), (28, 42, 3, 7, 0, 0), (31, 1, 1, 0, 0, (-1)), (32, 64, 1, 0, 0, 0)]
/-- 132: java/util/Arrays.fill([II)V -/
def cd132 : List (Nat × pm_I) := [(0, 1, 1, 0, 0, 0), (1, 5, 1, 2, 0, 0), (2, 3, 1, 0, 0, 0), (3, 56, 1, 0, 0, 0), (4, 5, 1, 3, 0, 0), (5, 2, 1, 2, 0, 0), (6, 2, 1, 3, 0, 0), (7, 41, 3, 20, 3, 0), (10, 3, 1, 0, 0, 0), (11, 2, 1, 2, 0, 0), (12, 2, 1, 1, 0, 0), (13, 55, 1, 0, 0, 0), (14, 8, 3, 2, 0, 1), (17, 42, 3, 5, 0, 0), (20, 63, 1, 0, 0, 0)]
def pm_cdl : List (List (Nat × pm_I)) := [cd0, cd1, cd2, cd3, cd4, cd5, cd6, cd7, cd8, cd9, cd10, cd11, cd12, cd13, cd14, cd15, cd16, cd17, cd18, cd19, cd20, cd21, cd22, cd23, cd24, cd25, cd26, cd27, cd28, cd29, cd30, cd31, cd32, cd33, cd34, cd35, cd36, cd37, cd38, cd39, cd40, cd41, cd42, cd43, cd44, cd45, cd46, cd47, cd48, cd49, cd50, cd51, cd52, cd53, cd54, cd55, cd56, cd57, cd58, cd59, cd60, cd61, cd62, cd63, cd64, cd65, cd66, cd67, cd68, cd69, cd70, cd71, cd72, cd73, cd74, cd75, cd76, cd77, cd78, cd79, cd80, cd81, cd82, cd83, cd84, cd85, cd86, cd87, cd88, cd89, cd90, cd91, cd92, cd93, cd94, cd95, cd96, cd97, cd98, cd99, cd100, cd101, cd102, cd103, cd104, cd105, cd106, cd107, cd108, cd109, cd110, cd111, cd112, cd113, cd114, cd115, cd116, cd117, cd118, cd119, cd120, cd121, cd122, cd123, cd124, cd125, cd126, cd127, cd128, cd129, cd130, cd131, cd132]
def pm_cd (m pc : Nat) : Option pm_I := (pm_cdl.getD m []).lookup pc
def pm_mll : List Nat := [2, 6, 3, 1, 1, 3, 6, 7, 3, 1, 4, 2, 1, 1, 3, 1, 3, 5, 2, 2, 3, 1, 1, 1, 7, 1, 1, 3, 2, 3, 7, 2, 2, 1, 1, 3, 3, 1, 1, 1, 2, 6, 5, 4, 3, 3, 4, 3, 2, 2, 2, 7, 4, 1, 3, 6, 9, 3, 4, 5, 5, 5, 8, 3, 1, 1, 4, 4, 2, 3, 5, 2, 2, 3, 3, 4, 4, 3, 1, 1, 3, 2, 1, 10, 4, 9, 2, 1, 7, 3, 8, 2, 1, 2, 3, 3, 3, 5, 5, 3, 3, 3, 2, 2, 1, 2, 4, 11, 1, 1, 2, 3, 5, 5, 3, 5, 5, 5, 4, 4, 4, 7, 2, 3, 1, 1, 1, 4, 1, 2, 2, 6, 4]
def pm_ml (m : Nat) : Nat := pm_mll.getD m 0
def pm_catl : List (List Nat) := [[1], [1, 2], [2, 1], [1], [1], [1, 1, 1], [1, 1, 1], [1, 1, 1], [1, 1, 1], [1], [1, 1, 1], [1, 1], [1], [1], [1, 1], [1], [1, 1, 1], [1, 1, 1, 1], [1, 1], [1, 1], [1, 1], [1], [1], [1], [1, 2], [1], [1], [1, 1], [1, 1], [1, 1, 1], [1, 1, 1, 1, 1, 1, 1], [1], [1, 1], [1], [1], [1], [1, 1], [1], [1], [1], [1, 1], [1, 1, 1], [1, 1], [1, 1], [1], [1], [1, 1, 1], [1, 1, 1], [1, 1], [1, 1], [1, 1], [1, 1, 1], [1, 1, 1, 1], [1], [1, 1, 1], [1, 1, 1, 1, 1], [1, 1, 1, 1], [1, 1], [1, 1, 1, 1], [1, 1], [1, 1, 1], [1, 1, 1], [1, 1, 1], [1, 1, 1], [1], [1], [1, 1, 1], [1, 1], [1], [1, 1, 1], [1, 1, 1, 1], [1, 1], [1, 1], [1, 1], [1, 1], [1, 1, 1], [1, 1], [1, 1], [1], [1], [1, 1, 1], [1, 1], [1], [1, 1, 1], [1, 1, 1], [1, 1, 1, 1], [1, 1], [1], [1, 1, 1, 1, 1, 1], [1, 1, 1], [1, 1, 1, 1, 1, 1], [1, 1], [1], [1, 1], [1], [1, 1], [1], [1, 1, 1], [1, 1], [1], [1, 1], [1, 1], [1, 1], [1, 1], [1], [1], [1, 1, 1, 1], [1, 1, 1], [1], [1], [1, 1], [1, 1, 1], [1, 1, 1], [1, 1, 1], [1, 1], [1, 1, 1, 1], [1, 1, 1, 1], [1, 1, 1, 1], [1, 1, 1], [1, 1, 1], [1, 1, 1], [1], [1, 1], [1, 1, 1], [1], [1], [1], [1, 1, 1, 1], [1], [1, 1], [1, 1], [1, 1, 1, 1], [1, 1]]
def pm_cat (m : Nat) : List Nat := pm_catl.getD m []
def pm_owm : List Nat := [5, 5, 5, 5, 5, 5, 5, 5, 5, 5, 5, 5, 5, 5, 5, 5, 5, 5, 5, 5, 5, 5, 6, 6, 6, 6, 6, 6, 6, 6, 6, 6, 6, 6, 6, 6, 6, 6, 6, 6, 6, 6, 6, 6, 6, 6, 6, 6, 6, 6, 6, 6, 6, 6, 6, 6, 6, 6, 6, 6, 6, 6, 6, 6, 6, 6, 6, 6, 6, 6, 6, 6, 6, 6, 6, 6, 6, 6, 6, 0, 0, 0, 1, 1, 1, 1, 1, 1, 1, 1, 1, 1, 2, 2, 2, 2, 2, 2, 2, 2, 2, 2, 2, 2, 2, 3, 3, 3, 4, 4, 4, 4, 4, 4, 7, 7, 7, 7, 7, 7, 7, 7, 8, 8, 8, 8, 8, 9, 9, 11, 11, 9, 10]
def pm_ow (m : Nat) : Nat := pm_owm.getD m 0
def pm_sti : List Bool := [false, false, true, false, false, false, false, false, false, false, false, false, true, true, false, false, false, false, false, false, false, false, false, false, false, false, false, false, false, false, true, false, false, true, true, false, false, true, true, false, false, false, false, false, false, false, false, false, true, true, false, false, false, true, true, false, false, false, false, false, false, false, false, false, false, false, false, false, false, false, false, false, false, false, false, false, false, false, false, false, false, false, false, false, false, false, false, false, false, true, false, true, false, false, false, false, false, false, false, false, false, false, false, false, false, false, false, false, false, false, false, false, false, false, true, true, true, true, true, true, true, true, false, false, false, false, false, true, true, true, true, true, true]
def pm_stc (m : Nat) : Bool := pm_sti.getD m false
def pm_swl : List (List Nat) := [[48, 56, 67, 78, 89, 102, 121, 145], [40, 44, 48, 52, 66, 80], [32, 39, 51, 51], [40, 44, 48, 52, 63, 74], [28, 83, 96], [36, 38, 42, 44, 46], [116, 173, 184, 228, 312, 380, 417, 430, 514, 570, 583, 620, 669, 725, 750, 806]]
def pm_sw (k : Nat) : List Nat := pm_swl.getD k []
/-- handlers: method, from, to, exception, the place behind its first instruction, the local in which that lays it -/
def pm_hdl : List (Nat × Nat × Nat × Nat × Nat × Nat) := [(114, 0, 8, 0, 12, 2), (114, 0, 8, 3, 15, 2), (115, 0, 10, 2, 15, 4), (116, 0, 10, 1, 15, 4), (116, 0, 10, 0, 19, 4), (117, 0, 10, 2, 15, 4), (118, 0, 9, 2, 13, 3), (118, 0, 9, 1, 16, 3), (119, 0, 9, 2, 13, 3), (120, 0, 9, 1, 13, 3), (120, 0, 9, 0, 16, 3), (120, 0, 9, 3, 19, 3)]
def pm_hd (m pc k : Nat) : Option (Nat × Nat) := (pm_hdl.find? (fun h => h.1 == m && (decide (h.2.1 ≤ pc) && (decide (pc < h.2.2.1) && h.2.2.2.1 == k)))).map (fun h => (h.2.2.2.2.1, h.2.2.2.2.2))
/-- the shape of a table's cells: (0, class) an object; (1 int, 2 char, 3 boolean, 4 long, 5 of tables, 6 of int arrays; length) an array -/
def pm_tsh (k : Nat) : Nat × Nat := match k with
  | 0 => (0, 4)
  | 1 => (1, 24)
  | 2 => (1, 24)
  | 3 => (1, 6)
  | 4 => (1, 6)
  | 5 => (1, 4)
  | _ => (1, 2)
def pm_shA : List (Nat × Nat) := [(0, 5), (0, 2), (2, 240), (0, 0), (1, 160), (1, 160), (1, 8), (1, 8), (1, 8), (0, 1), (0, 0), (1, 160), (1, 160), (1, 8), (1, 8), (1, 8), (1, 160), (0, 3), (5, 11), (6, 11), (1, 192), (1, 192), (1, 192), (1, 192), (1, 192), (1, 192), (1, 192), (1, 192), (1, 192), (1, 192), (1, 192)]
def pm_shB : List (Nat × Nat) := [(0, 6), (1, 240), (1, 500), (1, 500), (1, 250), (3, 8), (1, 8), (3, 8), (1, 8), (1, 160), (1, 160), (1, 157), (1, 9420), (1, 250), (1, 11), (1, 2200), (1, 2200), (1, 11), (1, 11), (1, 11), (1, 1727), (4, 1)]
def pm_sh (a : Nat) : Nat × Nat := if a < 31 then pm_shA.getD a (9, 0) else if a < 108 then pm_tsh ((a - 31) % 7) else if a < 115 then pm_tsh (a - 108) else if a < 118 then [(5, 60), (1, 24), (1, 192)].getD (a - 115) (9, 0) else if a < 538 then pm_tsh ((a - 118) % 7) else pm_shB.getD (a - 538) (9, 0)
def pm_n : Nat := 560
/-- the Strings and the static arrays: numbers from 10000 on; a String's bytes have its number and 1 -/
def pm_str (x : Nat) : Prop := x = 10000 ∨ x = 10010 ∨ x = 10020
def pm_tabl (x : Nat) : List Int32 := match x with
  | 10001 => [119, 120, 121, 122]
  | 10011 => [104, 103, 115, 116, 112, 113]
  | 10021 => [124, 38, 60, 61, 43, 45, 42]
  | 10030 => [0, 1, 2, 2, 3, 3, 4]
  | _ => [11, 10, 8, 9, 5, 6, 7]
def pm_tabn (x : Nat) : Nat := (pm_tabl x).length
def pm_tab (x i : Nat) : Int32 := (pm_tabl x).getD i 0
def pm_stl (x : Nat) : Prop := x = 10001 ∨ x = 10011 ∨ x = 10021
def pm_sta (x k : Nat) (j : Int32) : Prop := ((k = 3 ∧ pm_stl x) ∨ (k = 0 ∧ (x = 10030 ∨ x = 10040))) ∧ vp_in j (pm_tabn x)
end
section
/-! THE PURE MACHINE: cells by number; ints in a function, references in another, longs in a third; calls by depth; a thrown exception is a result -/
abbrev pm_Mem : Type := Nat × (Nat → Nat → Int32) × (Nat → Nat → Option Nat) × (Nat → Nat → Int64)
abbrev pm_Loc : Type := List (Option Value)
abbrev pm_Res : Type := (Option Value ⊕ Nat) × pm_Mem
abbrev pm_St : Type := Nat × pm_Loc × List Value × pm_Mem
def pm_up (f : Nat → Nat → Int32) (a i : Nat) (x : Int32) : Nat → Nat → Int32 := fun b j => if b = a ∧ j = i then x else f b j
def pm_upR (f : Nat → Nat → Option Nat) (a i : Nat) (x : Option Nat) : Nat → Nat → Option Nat := fun b j => if b = a ∧ j = i then x else f b j
def pm_upL (f : Nat → Nat → Int64) (a i : Nat) (x : Int64) : Nat → Nat → Int64 := fun b j => if b = a ∧ j = i then x else f b j
def pm_cpy (f : Nat → Nat → Int32) (a sp b dp n : Nat) : Nat → Nat → Int32 := fun c j => if c = b ∧ dp ≤ j ∧ j < dp + n then f a (sp + (j - dp)) else f c j
def pm_rv (r : Option Nat) : Value := match r with
  | some a => .ref a
  | none => .null
def pm_get (ls : pm_Loc) (i : Nat) : Option Value := match ls[i]? with
  | some (some v) => some v
  | _ => none
/-- a switch's target -/
def pm_swt : List Nat → Int32 → Nat → Int32 → Nat
  | [], _, d, _ => d
  | t :: ts, k, d, x => if x = k then t else pm_swt ts (k + 1) d x
/-- a comparison by its number: 0 eq, 1 ne, 2 lt, 3 ge, 4 gt, 5 le -/
def pm_cmp (k : Nat) (x y : Int32) : Bool := match k with
  | 0 => decide (x = y)
  | 1 => decide (¬ x = y)
  | 2 => decide (x < y)
  | 3 => decide (y ≤ x)
  | 4 => decide (y < x)
  | _ => decide (x ≤ y)
/-- what a field, an array or an answer of a small type keeps: 0 int, 1 char, 2 boolean, 3 byte -/
def pm_ty (k : Nat) : FieldType := match k with
  | 0 => .int
  | 1 => .char
  | 2 => .boolean
  | _ => .byte
def pm_arr (M : pm_Mem) (a k : Nat) (i : Int32) : Prop := a < M.1 ∧ (pm_sh a).1 = 1 + k ∧ vp_in i (pm_sh a).2
def pm_obj (M : pm_Mem) (a c : Nat) : Prop := a < M.1 ∧ pm_sh a = (0, c)
/-- how many exceptions were thrown so far: each is one cell more -/
def pm_ct (M : pm_Mem) : Nat := (M.2.2.1 30000 0).getD 0
def pm_tk (M : pm_Mem) : pm_Mem := (M.1, M.2.1, pm_upR M.2.2.1 30000 0 (some (pm_ct M + 1)), M.2.2.2)
/-- the shapes of an operand stack -/
def pm_k1 (st : List Value) (k : Int32 → List Value → Option (Prop × pm_St)) : Option (Prop × pm_St) := match st with
  | .int x :: t => k x t
  | _ => none
def pm_k2 (st : List Value) (k : Int32 → Int32 → List Value → Option (Prop × pm_St)) : Option (Prop × pm_St) := match st with
  | .int y :: .int x :: t => k x y t
  | _ => none
def pm_kl (st : List Value) (k : Int64 → List Value → Option (Prop × pm_St)) : Option (Prop × pm_St) := match st with
  | .long x :: t => k x t
  | _ => none
def pm_kll (st : List Value) (k : Int64 → Int64 → List Value → Option (Prop × pm_St)) : Option (Prop × pm_St) := match st with
  | .long y :: .long x :: t => k x y t
  | _ => none
def pm_kli (st : List Value) (k : Int64 → Int32 → List Value → Option (Prop × pm_St)) : Option (Prop × pm_St) := match st with
  | .int y :: .long x :: t => k x y t
  | _ => none
def pm_kr (st : List Value) (k : Nat → List Value → Option (Prop × pm_St)) : Option (Prop × pm_St) := match st with
  | .ref x :: t => k x t
  | _ => none
def pm_kri (st : List Value) (k : Nat → Int32 → List Value → Option (Prop × pm_St)) : Option (Prop × pm_St) := match st with
  | .int j :: .ref x :: t => k x j t
  | _ => none
def pm_krr (st : List Value) (k : Nat → Nat → List Value → Option (Prop × pm_St)) : Option (Prop × pm_St) := match st with
  | .ref v :: .ref x :: t => k x v t
  | _ => none
def pm_krii (st : List Value) (k : Nat → Int32 → Int32 → List Value → Option (Prop × pm_St)) : Option (Prop × pm_St) := match st with
  | .int v :: .int j :: .ref x :: t => k x j v t
  | _ => none
def pm_kril (st : List Value) (k : Nat → Int32 → Int64 → List Value → Option (Prop × pm_St)) : Option (Prop × pm_St) := match st with
  | .long v :: .int j :: .ref x :: t => k x j v t
  | _ => none
def pm_krir (st : List Value) (k : Nat → Int32 → Nat → List Value → Option (Prop × pm_St)) : Option (Prop × pm_St) := match st with
  | .ref v :: .int j :: .ref x :: t => k x j v t
  | _ => none
def pm_kcp (st : List Value) (k : Nat → Int32 → Nat → Int32 → Int32 → List Value → Option (Prop × pm_St)) : Option (Prop × pm_St) := match st with
  | .int n :: .int dp :: .ref y :: .int sp :: .ref x :: t => k x sp y dp n t
  | _ => none
def pm_li (ls : pm_Loc) (a : Nat) (k : Int32 → Option (Prop × pm_St)) : Option (Prop × pm_St) := match pm_get ls a with
  | some (.int v) => k v
  | _ => none
def pm_lr (ls : pm_Loc) (a : Nat) (k : Nat → Option (Prop × pm_St)) : Option (Prop × pm_St) := match pm_get ls a with
  | some (.ref v) => k v
  | _ => none
def pm_ll (ls : pm_Loc) (a : Nat) (k : Int64 → Option (Prop × pm_St)) : Option (Prop × pm_St) := match pm_get ls a with
  | some (.long v) => k v
  | _ => none
/-- a call's arguments are as the method's descriptor has them: longs where it has longs -/
def pm_sg (m : Nat) (as : List Value) : Bool := as.map (fun v => v.category) == pm_cat m
/-- a call's receiver is an object of the method's class -/
def pm_rc (m : Nat) (as : List Value) (M : pm_Mem) : Prop := if pm_stc m = true then True else match as with
  | .ref x :: _ => if pm_ow m = 8 then pm_str x else pm_obj M x (pm_ow m)
  | _ => False
/-- one instruction that isn't a call, an end or a throw: what it asks, and what comes of it -/
def pm_next (op len a b : Nat) (n : Int32) (pc : Nat) (ls : pm_Loc) (st : List Value) (M : pm_Mem) : Option (Prop × pm_St) := match op with
  | 1 => some (True, pc + len, ls, .int n :: st, M)
  | 2 => pm_li ls a fun v => some (True, pc + len, ls, .int v :: st, M)
  | 3 => pm_lr ls a fun v => some (True, pc + len, ls, .ref v :: st, M)
  | 4 => pm_ll ls a fun v => some (True, pc + len, ls, .long v :: st, M)
  | 5 => pm_k1 st fun v t => some (a < ls.length, pc + len, ls.set a (some (.int v)), t, M)
  | 6 => pm_kr st fun v t => some (a < ls.length, pc + len, ls.set a (some (.ref v)), t, M)
  | 8 => pm_li ls a fun v => some (True, pc + len, ls.set a (some (.int (v + n))), st, M)
  | 9 => pm_k2 st fun x y t => some (True, pc + len, ls, .int (x + y) :: t, M)
  | 10 => pm_k2 st fun x y t => some (True, pc + len, ls, .int (x - y) :: t, M)
  | 11 => pm_k2 st fun x y t => some (True, pc + len, ls, .int (x * y) :: t, M)
  | 12 => pm_k2 st fun x y t => some (¬ y = 0, pc + len, ls, .int (x / y) :: t, M)
  | 13 => pm_k2 st fun x y t => some (¬ y = 0, pc + len, ls, .int (x - x / y * y) :: t, M)
  | 14 => pm_k2 st fun x y t => some (True, pc + len, ls, .int (x &&& y) :: t, M)
  | 15 => some (True, pc + len, ls, .long 4294967295 :: st, M)
  | 17 => pm_k2 st fun x y t => some (True, pc + len, ls, .int (x >>> (y &&& 31)) :: t, M)
  | 18 => pm_k2 st fun x y t => some (True, pc + len, ls, .int (x.toUInt32 >>> (y.toUInt32 &&& Int32.toUInt32 31)).toInt32 :: t, M)
  | 19 => pm_k1 st fun x t => some (True, pc + len, ls, .int x.toInt8.toInt32 :: t, M)
  | 20 => pm_k1 st fun x t => some (True, pc + len, ls, .long x.toInt64 :: t, M)
  | 21 => pm_kl st fun x t => some (True, pc + len, ls, .int x.toInt32 :: t, M)
  | 22 => pm_k1 st fun x t => some (True, pc + len, ls, .int (x.toUInt32 % 65536).toInt32 :: t, M)
  | 23 => pm_kli st fun x y t => some (True, pc + len, ls, .long (x <<< (y.toInt64 &&& 63)) :: t, M)
  | 24 => pm_kli st fun x y t => some (True, pc + len, ls, .long (x.toUInt64 >>> (y.toInt64.toUInt64 &&& Int64.toUInt64 63)).toInt64 :: t, M)
  | 25 => pm_kll st fun x y t => some (True, pc + len, ls, .long (x &&& y) :: t, M)
  | 26 => pm_kll st fun x y t => some (True, pc + len, ls, .long (x ||| y) :: t, M)
  | 27 => pm_kll st fun x y t => some (True, pc + len, ls, .int (lg_cmp x y) :: t, M)
  | 28 => pm_kli st fun x y t => some (True, pc + len, ls, .long (x >>> (y.toInt64 &&& 63)) :: t, M)
  | 29 => some (True, pc + len, ls, .long n.toInt64 :: st, M)
  | 30 => pm_k1 st fun x t => some (True, pc + len, ls, .int x :: .int x :: t, M)
  | 31 => pm_k1 st fun x t => some (True, pc + len, ls, t, M)
  | 32 => pm_kr st fun x t => some (True, pc + len, ls, .ref x :: .ref x :: t, M)
  | 34 => pm_kri st fun x j t => some (True, pc + len, ls, .int j :: .ref x :: .int j :: .ref x :: t, M)
  | 40 => pm_k1 st fun x t => some (True, if pm_cmp b x 0 = true then a else pc + len, ls, t, M)
  | 41 => pm_k2 st fun x y t => some (True, if pm_cmp b x y = true then a else pc + len, ls, t, M)
  | 42 => some (True, a, ls, st, M)
  | 43 => pm_k1 st fun x t => some (True, pm_swt (pm_sw a) n b x, ls, t, M)
  | 50 => pm_kr st fun x t => some (pm_obj M x a, pc + len, ls, .int (M.2.1 x b) :: t, M)
  | 51 => pm_kr st fun x t => some (pm_obj M x a, pc + len, ls, pm_rv (M.2.2.1 x b) :: t, M)
  | 52 => pm_kri st fun x v t => some (pm_obj M x a ∧ fits (pm_ty n.toNatClampNeg) (.int v) = true, pc + len, ls, t, (M.1, pm_up M.2.1 x b v, M.2.2))
  | 53 => pm_krr st fun x v t => some (pm_obj M x a ∧ v < M.1, pc + len, ls, t, (M.1, M.2.1, pm_upR M.2.2.1 x b (some v), M.2.2.2))
  | 54 => pm_kri st fun x j t => some (pm_arr M x a j, pc + len, ls, .int (M.2.1 x j.toNatClampNeg) :: t, M)
  | 55 => pm_krii st fun x j v t => some (pm_arr M x a j, pc + len, ls, t, (M.1, pm_up M.2.1 x j.toNatClampNeg (vp_nar (pm_ty a) v), M.2.2))
  | 56 => pm_kr st fun x t => some (x < M.1 ∧ ¬ (pm_sh x).1 = 0, pc + len, ls, .int (nI (pm_sh x).2) :: t, M)
  | 57 => pm_kri st fun x j t => some (pm_arr M x 3 j, pc + len, ls, .long (M.2.2.2 x j.toNatClampNeg) :: t, M)
  | 58 => pm_kril st fun x j v t => some (pm_arr M x 3 j, pc + len, ls, t, (M.1, M.2.1, M.2.2.1, pm_upL M.2.2.2 x j.toNatClampNeg v))
  | 59 => pm_kri st fun x j t => some (pm_arr M x a j, pc + len, ls, pm_rv (M.2.2.1 x j.toNatClampNeg) :: t, M)
  | 61 => pm_kcp st fun x sp y dp k t => some (x < M.1 ∧ y < M.1 ∧ (pm_sh x).1 = 1 ∧ (pm_sh y).1 = 1 ∧ ¬ sp < 0 ∧ ¬ dp < 0 ∧ ¬ k < 0 ∧ sp.toNatClampNeg + k.toNatClampNeg ≤ (pm_sh x).2 ∧ dp.toNatClampNeg + k.toNatClampNeg ≤ (pm_sh y).2 ∧ t.length ≤ 4, pc + len, ls, t, (M.1, pm_cpy M.2.1 x sp.toNatClampNeg y dp.toNatClampNeg k.toNatClampNeg, M.2.2))
  | 70 => pm_krir st fun x j v t => some (pm_arr M x 4 j ∧ pm_obj M v 4, pc + len, ls, t, (M.1, M.2.1, pm_upR M.2.2.1 x j.toNatClampNeg (some v), M.2.2.2))
  | 71 => some ((pm_sh M.1 = (0, a) ∧ M.1 < pm_n) ∧ pm_ct M = 0, pc + len, ls, .ref M.1 :: st, (M.1 + 1, (fun x j => if x = M.1 then 0 else M.2.1 x j), (fun x j => if x = M.1 then none else M.2.2.1 x j), M.2.2.2))
  | 72 => pm_k1 st fun k t => some ((pm_sh M.1 = (1 + a, k.toNatClampNeg) ∧ ¬ k < 0 ∧ M.1 < pm_n) ∧ pm_ct M = 0, pc + len, ls, .ref M.1 :: t, (M.1 + 1, (fun x j => if x = M.1 then 0 else M.2.1 x j), (fun x j => if x = M.1 then none else M.2.2.1 x j), (fun x j => if x = M.1 then 0 else M.2.2.2 x j)))
  | 73 => pm_k2 st fun h k t => some ((pm_sh M.1 = (6, h.toNatClampNeg) ∧ ¬ k < 0 ∧ ¬ h < 0 ∧ (∀ j, j < h.toNatClampNeg → pm_sh (M.1 + 1 + j) = (1, k.toNatClampNeg)) ∧ M.1 + h.toNatClampNeg < pm_n) ∧ pm_ct M = 0, pc + len, ls, .ref M.1 :: t, (M.1 + 1 + h.toNatClampNeg, (fun x j => if M.1 ≤ x ∧ x < M.1 + 1 + h.toNatClampNeg then 0 else M.2.1 x j), (fun x j => if x = M.1 then (if j < h.toNatClampNeg then some (M.1 + 1 + j) else none) else if M.1 ≤ x ∧ x < M.1 + 1 + h.toNatClampNeg then none else M.2.2.1 x j), M.2.2.2))
  | 74 => pm_kr st fun x t => some (t.length ≤ 4, pc + len, ls, t, M)
  | 80 => some (True, pc + len, ls, .ref a :: st, M)
  | 81 => pm_kri st fun x j t => some (pm_sta x a j, pc + len, ls, .int (pm_tab x j.toNatClampNeg) :: t, M)
  | 82 => pm_kr st fun x t => some (pm_stl x, pc + len, ls, .int (nI (pm_tabn x)) :: t, M)
  | 83 => pm_kri st fun x j t => some (x = 20000 ∧ vp_in j (M.2.1 20001 0).toNatClampNeg, pc + len, ls, .int (M.2.1 20000 j.toNatClampNeg) :: t, M)
  | 84 => pm_kr st fun x t => some (x = 20000, pc + len, ls, .int (M.2.1 20001 0) :: t, M)
  | 85 => pm_kr st fun x t => some (pm_str x, pc + len, ls, .ref (x + 1) :: t, M)
  | 86 => pm_kr st fun x t => some (pm_str x, pc + len, ls, .int 0 :: t, M)
  | 87 => some (True, pc + len, ls, .int n :: st, M)
  | _ => none
/-- behind a call -/
def pm_aft (K : Nat → pm_Loc → List Value → pm_Mem → pm_Res → Prop) (m pc : Nat) (ls : pm_Loc) (rest : List Value) (q r : pm_Res) : Prop := match q with
  | (.inl v, M) => K (pc + 3) ls (v.toList ++ rest) M r
  | (.inr k, M) => match pm_hd m pc k with
    | none => r = (.inr k, M)
    | some h => K h.1 (ls.set h.2 none) [] M r
def pm_stp (C : Nat → List Value → pm_Mem → pm_Res → Prop) (K : Nat → pm_Loc → List Value → pm_Mem → pm_Res → Prop) (m pc : Nat) (ls : pm_Loc) (st : List Value) (M : pm_Mem) (r : pm_Res) : Prop := match pm_cd m pc with
  | none => False
  | some (op, len, a, b, n) =>
    if op = 60 then pm_rc a (st.take b).reverse M ∧ ∃ q, C a (st.take b).reverse M q ∧ (b ≤ st.length ∧ st.length ≤ b + 4 ∧ pm_sg a (st.take b).reverse = true) ∧ pm_aft K m pc ls (st.drop b) q r
    else if op = 63 then st = [] ∧ r = (.inl none, M)
    else if op = 64 then ∃ v, st = [.int v] ∧ fits (pm_ty a) (.int v) = true ∧ r = (.inl (some (.int v)), M)
    else if op = 67 then st = [] ∧ r = (.inr a, pm_tk M)
    else match pm_next op len a b n pc ls st M with
      | none => False
      | some (g, s) => g ∧ K s.1 s.2.1 s.2.2.1 s.2.2.2 r
def pm_N (C : Nat → List Value → pm_Mem → pm_Res → Prop) (m : Nat) : Nat → Nat → pm_Loc → List Value → pm_Mem → pm_Res → Prop
  | 0 => fun _ _ _ _ _ => False
  | k + 1 => fun pc ls st M r => pm_stp C (pm_N C m k) m pc ls st M r
/-- the locals at a method's entry -/
def pm_lay : List Value → pm_Loc
  | [] => []
  | v :: t => if v.category = 2 then some v :: none :: pm_lay t else some v :: pm_lay t
def pm_ini (k : Nat) (args : List Value) : pm_Loc := pm_lay args ++ List.replicate (k - (pm_lay args).length) none
/-- method m, with these arguments and this memory, comes to r, with at most d calls open at once -/
def pm_C : Nat → Nat → List Value → pm_Mem → pm_Res → Prop
  | 0 => fun _ _ _ _ => False
  | d + 1 => fun m args M r => ∃ k, pm_N (pm_C d) m k 0 (pm_ini (pm_ml m) args) [] M r
def pm_R (d m pc : Nat) (ls : pm_Loc) (st : List Value) (M : pm_Mem) (r : pm_Res) : Prop := ∃ k, pm_N (pm_C d) m k pc ls st M r
theorem pm_C_iff {d m : Nat} {args : List Value} {M : pm_Mem} {r : pm_Res} : pm_C (d + 1) m args M r ↔ pm_R d m 0 (pm_ini (pm_ml m) args) [] M r := Iff.rfl
theorem pm_R_iff {d m pc : Nat} {ls : pm_Loc} {st : List Value} {M : pm_Mem} {r : pm_Res} : pm_R d m pc ls st M r ↔ pm_stp (pm_C d) (pm_R d m) m pc ls st M r := by
  unfold pm_R pm_stp
  constructor
  · rintro ⟨k, h⟩
    cases k with
    | zero => exact h.elim
    | succ k =>
      simp only [pm_N, pm_stp] at h
      split at h
      · exact h.elim
      · split at h
        · rename_i h1
          rw [if_pos h1]
          obtain ⟨h6, q, h2, h3, h5⟩ := h
          refine ⟨h6, q, h2, h3, ?_⟩
          unfold pm_aft at h5 ⊢
          split at h5
          · exact ⟨k, h5⟩
          · split at h5
            · exact h5
            · exact ⟨k, h5⟩
        · rename_i h1
          rw [if_neg h1]
          split at h
          · rename_i h2; rw [if_pos h2]; exact h
          · rename_i h2
            rw [if_neg h2]
            split at h
            · rename_i h3; rw [if_pos h3]; exact h
            · rename_i h3
              rw [if_neg h3]
              split at h
              · rename_i h4; rw [if_pos h4]; exact h
              · rename_i h4
                rw [if_neg h4]
                split at h
                · exact h.elim
                · exact ⟨h.1, k, h.2⟩
  · intro h
    split at h
    · exact h.elim
    · rename_i hcd
      split at h
      · rename_i h1
        obtain ⟨h6, q, h2, h3, h5⟩ := h
        unfold pm_aft at h5
        split at h5
        · obtain ⟨k, h5⟩ := h5
          refine ⟨k + 1, ?_⟩
          simp only [pm_N, pm_stp, hcd, if_pos h1]
          exact ⟨h6, _, h2, h3, h5⟩
        · split at h5
          · rename_i hh
            refine ⟨1, ?_⟩
            simp only [pm_N, pm_stp, hcd, if_pos h1]
            refine ⟨h6, _, h2, h3, ?_⟩
            unfold pm_aft
            simp only [hh]
            exact h5
          · rename_i hh
            obtain ⟨k, h5⟩ := h5
            refine ⟨k + 1, ?_⟩
            simp only [pm_N, pm_stp, hcd, if_pos h1]
            refine ⟨h6, _, h2, h3, ?_⟩
            unfold pm_aft
            simp only [hh]
            exact h5
      · rename_i h1
        split at h
        · rename_i h2
          exact ⟨1, by simp only [pm_N, pm_stp, hcd, if_neg h1, if_pos h2]; exact h⟩
        · rename_i h2
          split at h
          · rename_i h3
            exact ⟨1, by simp only [pm_N, pm_stp, hcd, if_neg h1, if_neg h2, if_pos h3]; exact h⟩
          · rename_i h3
            split at h
            · rename_i h4
              exact ⟨1, by simp only [pm_N, pm_stp, hcd, if_neg h1, if_neg h2, if_neg h3, if_pos h4]; exact h⟩
            · rename_i h4
              split at h
              · exact h.elim
              · rename_i hn
                obtain ⟨hg, k, h⟩ := h
                exact ⟨k + 1, by simp only [pm_N, pm_stp, hcd, if_neg h1, if_neg h2, if_neg h3, if_neg h4, hn]; exact ⟨hg, h⟩⟩
end
section
/-! ONE STEP of the pure machine, as equivalences -/
def pm_os (m pc : Nat) (ls : pm_Loc) (st : List Value) (M : pm_Mem) : Option (Prop × pm_St) := match pm_cd m pc with
  | none => none
  | some (op, len, a, b, n) => if op = 60 then none else if op = 63 then none else if op = 64 then none else if op = 67 then none else pm_next op len a b n pc ls st M
section PMS
variable {d m pc : Nat} {ls : pm_Loc} {st : List Value} {M : pm_Mem} {r : pm_Res} {t e : Nat} {ls' : pm_Loc} {st' : List Value} {M' : pm_Mem} {x y : Int32}
theorem pm_go2 {g : Prop} {pc' : Nat} (h : pm_os m pc ls st M = some (g, pc', ls', st', M')) : pm_R d m pc ls st M r ↔ g ∧ pm_R d m pc' ls' st' M' r := by
  rw [pm_R_iff]
  unfold pm_os at h
  unfold pm_stp
  split at h
  · cases h
  · rename_i hcd
    rw [hcd]
    dsimp only
    split at h
    · cases h
    · rename_i h1
      rw [if_neg h1]
      split at h
      · cases h
      · rename_i h2
        rw [if_neg h2]
        split at h
        · cases h
        · rename_i h3
          rw [if_neg h3]
          split at h
          · cases h
          · rename_i h4
            rw [if_neg h4, h]
theorem pm_go1 {pc' : Nat} (h : pm_os m pc ls st M = some (True, pc', ls', st', M')) : pm_R d m pc ls st M r ↔ pm_R d m pc' ls' st' M' r := (pm_go2 h).trans (Iff.of_eq (true_and _))
theorem pm_goB {c : Bool} (h : pm_os m pc ls st M = some (True, (if c = true then t else e), ls', st', M')) : pm_R d m pc ls st M r ↔ if c = true then pm_R d m t ls' st' M' r else pm_R d m e ls' st' M' r := by
  rw [pm_go1 h]
  split <;> exact Iff.rfl
theorem pm_eq (h : pm_os m pc ls st M = some (True, (if pm_cmp 0 x y = true then t else e), ls', st', M')) : pm_R d m pc ls st M r ↔ if x = y then pm_R d m t ls' st' M' r else pm_R d m e ls' st' M' r := by
  rw [pm_goB h]
  simp only [pm_cmp, decide_eq_true_eq]
theorem pm_ne (h : pm_os m pc ls st M = some (True, (if pm_cmp 1 x y = true then t else e), ls', st', M')) : pm_R d m pc ls st M r ↔ if x = y then pm_R d m e ls' st' M' r else pm_R d m t ls' st' M' r := by
  rw [pm_goB h]
  simp only [pm_cmp, decide_eq_true_eq]
  by_cases q : x = y
  · rw [if_neg (fun z => z q), if_pos q]
  · rw [if_pos q, if_neg q]
theorem pm_lt (h : pm_os m pc ls st M = some (True, (if pm_cmp 2 x y = true then t else e), ls', st', M')) : pm_R d m pc ls st M r ↔ if x < y then pm_R d m t ls' st' M' r else pm_R d m e ls' st' M' r := by
  rw [pm_goB h]
  simp only [pm_cmp, decide_eq_true_eq]
theorem pm_ge (h : pm_os m pc ls st M = some (True, (if pm_cmp 3 x y = true then t else e), ls', st', M')) : pm_R d m pc ls st M r ↔ if x < y then pm_R d m e ls' st' M' r else pm_R d m t ls' st' M' r := by
  rw [pm_goB h]
  simp only [pm_cmp, decide_eq_true_eq]
  by_cases q : x < y
  · rw [if_neg (Int32.not_le.mpr q), if_pos q]
  · rw [if_pos (Int32.not_lt.mp q), if_neg q]
theorem pm_gt (h : pm_os m pc ls st M = some (True, (if pm_cmp 4 x y = true then t else e), ls', st', M')) : pm_R d m pc ls st M r ↔ if y < x then pm_R d m t ls' st' M' r else pm_R d m e ls' st' M' r := by
  rw [pm_goB h]
  simp only [pm_cmp, decide_eq_true_eq]
theorem pm_le (h : pm_os m pc ls st M = some (True, (if pm_cmp 5 x y = true then t else e), ls', st', M')) : pm_R d m pc ls st M r ↔ if y < x then pm_R d m e ls' st' M' r else pm_R d m t ls' st' M' r := by
  rw [pm_goB h]
  simp only [pm_cmp, decide_eq_true_eq]
  by_cases q : y < x
  · rw [if_neg (Int32.not_le.mpr q), if_pos q]
  · rw [if_pos (Int32.not_lt.mp q), if_neg q]
/-- what a call's answer leads to -/
def pm_bk (Kr : Option Value → pm_Mem → Prop) (Kt : Nat → pm_Mem → Prop) (q : pm_Res) : Prop := match q with
  | (.inl v, M) => Kr v M
  | (.inr k, M) => Kt k M
theorem pm_bk_r {Kr : Option Value → pm_Mem → Prop} {Kt : Nat → pm_Mem → Prop} {v : Option Value} : pm_bk Kr Kt (.inl v, M) = Kr v M := rfl
theorem pm_bk_t {Kr : Option Value → pm_Mem → Prop} {Kt : Nat → pm_Mem → Prop} {k : Nat} : pm_bk Kr Kt (.inr k, M) = Kt k M := rfl
theorem pm_call {G : Prop} {len a b pc' : Nat} {n : Int32} {as rest : List Value} (h : pm_cd m pc = some (60, len, a, b, n)) (h1 : (st.take b).reverse = as) (h2 : st.drop b = rest) (h3 : b ≤ st.length ∧ st.length ≤ b + 4 ∧ pm_sg a (st.take b).reverse = true) (h4 : pc + 3 = pc') (h5 : ∀ k, pm_hd m pc k = none) (h7 : pm_rc a as M = G) :
    pm_R d m pc ls st M r ↔ G ∧ ∃ q, pm_C d a as M q ∧ pm_bk (fun v M' => pm_R d m pc' ls (v.toList ++ rest) M' r) (fun k M' => r = (.inr k, M')) q := by
  subst h1; subst h2; subst h4; subst h7
  rw [pm_R_iff]
  unfold pm_stp
  rw [h]
  show (_ ∧ ∃ q, _) ↔ _
  constructor
  · rintro ⟨q0, q, q1, -, q2⟩
    refine ⟨q0, q, q1, ?_⟩
    obtain ⟨v | k, M1⟩ := q
    · exact q2
    · simp only [pm_aft, h5] at q2
      exact q2
  · rintro ⟨q0, q, q1, q2⟩
    refine ⟨q0, q, q1, h3, ?_⟩
    obtain ⟨v | k, M1⟩ := q
    · exact q2
    · simp only [pm_aft, h5]
      exact q2
/-- .. a static one -/
theorem pm_callS {len a b pc' : Nat} {n : Int32} {as rest : List Value} (h : pm_cd m pc = some (60, len, a, b, n)) (h1 : (st.take b).reverse = as) (h2 : st.drop b = rest) (h3 : b ≤ st.length ∧ st.length ≤ b + 4 ∧ pm_sg a (st.take b).reverse = true) (h4 : pc + 3 = pc') (h5 : ∀ k, pm_hd m pc k = none) (h7 : pm_stc a = true) :
    pm_R d m pc ls st M r ↔ ∃ q, pm_C d a as M q ∧ pm_bk (fun v M' => pm_R d m pc' ls (v.toList ++ rest) M' r) (fun k M' => r = (.inr k, M')) q :=
  (pm_call h h1 h2 h3 h4 h5 (by unfold pm_rc; rw [if_pos h7])).trans (and_iff_right trivial)
/-- .. in a method that catches -/
theorem pm_callH {G : Prop} {len a b pc' : Nat} {n : Int32} {as rest : List Value} (h : pm_cd m pc = some (60, len, a, b, n)) (h1 : (st.take b).reverse = as) (h2 : st.drop b = rest) (h3 : b ≤ st.length ∧ st.length ≤ b + 4 ∧ pm_sg a (st.take b).reverse = true) (h4 : pc + 3 = pc') (h7 : pm_rc a as M = G) :
    pm_R d m pc ls st M r ↔ G ∧ ∃ q, pm_C d a as M q ∧ pm_bk (fun v M' => pm_R d m pc' ls (v.toList ++ rest) M' r) (fun k M' => match pm_hd m pc k with | none => r = (.inr k, M') | some h => pm_R d m h.1 (ls.set h.2 none) [] M' r) q := by
  subst h1; subst h2; subst h4; subst h7
  rw [pm_R_iff]
  unfold pm_stp
  rw [h]
  show (_ ∧ ∃ q, _) ↔ _
  constructor
  · rintro ⟨q0, q, q1, -, q2⟩
    exact ⟨q0, q, q1, by obtain ⟨v | k, M1⟩ := q <;> exact q2⟩
  · rintro ⟨q0, q, q1, q2⟩
    exact ⟨q0, q, q1, h3, by obtain ⟨v | k, M1⟩ := q <;> exact q2⟩
theorem pm_vret {len a b : Nat} {n : Int32} (h : pm_cd m pc = some (63, len, a, b, n)) : pm_R d m pc ls [] M r ↔ r = (.inl none, M) := by
  rw [pm_R_iff]
  unfold pm_stp
  rw [h]
  show ([] = [] ∧ _) ↔ _
  simp
theorem pm_iret {len a b : Nat} {n : Int32} {v : Int32} (h : pm_cd m pc = some (64, len, a, b, n)) : pm_R d m pc ls [.int v] M r ↔ fits (pm_ty a) (.int v) = true ∧ r = (.inl (some (.int v)), M) := by
  rw [pm_R_iff]
  unfold pm_stp
  rw [h]
  show (∃ v1, _) ↔ _
  constructor
  · rintro ⟨w, h1, h2, h3⟩
    cases h1
    exact ⟨h2, h3⟩
  · rintro ⟨h2, h3⟩
    exact ⟨v, rfl, h2, h3⟩
theorem pm_iret0 {len b : Nat} {n : Int32} {v : Int32} (h : pm_cd m pc = some (64, len, 0, b, n)) : pm_R d m pc ls [.int v] M r ↔ r = (.inl (some (.int v)), M) := by
  rw [pm_iret h]
  exact ⟨fun q => q.2, fun q => ⟨rfl, q⟩⟩
theorem pm_thr {len a b : Nat} {n : Int32} (h : pm_cd m pc = some (67, len, a, b, n)) : pm_R d m pc ls [] M r ↔ r = (.inr a, pm_tk M) := by
  rw [pm_R_iff]
  unfold pm_stp
  rw [h]
  show ([] = [] ∧ _) ↔ _
  simp
theorem pm_swg {ts : List Nat} {k : Int32} {dd : Nat} (h : pm_os m pc ls st M = some (True, pm_swt ts k dd x, ls', st', M')) : pm_R d m pc ls st M r ↔ pm_R d m (pm_swt ts k dd x) ls' st' M' r := pm_go1 h
theorem pm_swc {t dd : Nat} {ts : List Nat} {k : Int32} : pm_R d m (pm_swt (t :: ts) k dd x) ls st M r ↔ if x = k then pm_R d m t ls st M r else pm_R d m (pm_swt ts (k + 1) dd x) ls st M r := by
  rw [show pm_swt (t :: ts) k dd x = if x = k then t else pm_swt ts (k + 1) dd x from rfl]
  split <;> exact Iff.rfl
theorem pm_ifc {c : Prop} {A B B' : Prop} (ic : Decidable c) (h : B ↔ B') : (if c then A else B) ↔ if c then A else B' := by
  split
  · exact Iff.rfl
  · exact h
end PMS
end
section
/-! printed by a program of mine (wip/whole/mk06.py): the classes and their fields; which words of the tables they rest on -/
def pm_cn : List String := ["CardWorkshop$Game", "CardWorkshop$Machine", "CardWorkshop$Reader", "CardWorkshop$Solver", "CardWorkshop$Table", "CardWorkshop", "CardWorkshopModel"]
def pm_f0 : List (String × String × String × Bool) := [("CardWorkshop$Game", "operations", "[I", true), ("CardWorkshop$Game", "arguments", "[I", true), ("CardWorkshop$Game", "length", "I", false), ("CardWorkshop$Game", "cards", "I", false), ("CardWorkshop$Game", "ranks", "I", false), ("CardWorkshop$Game", "rules", "I", false), ("CardWorkshop$Game", "kinds", "[I", true), ("CardWorkshop$Game", "guards", "[I", true), ("CardWorkshop$Game", "effects", "[I", true), ("CardWorkshop$Game", "ending", "I", false)]
def pm_f1 : List (String × String × String × Bool) := [("CardWorkshop$Machine", "game", "LCardWorkshop$Game;", true), ("CardWorkshop$Machine", "stack", "[I", true), ("CardWorkshop$Machine", "height", "I", false)]
def pm_f2 : List (String × String × String × Bool) := [("CardWorkshop$Reader", "text", "[C", true), ("CardWorkshop$Reader", "length", "I", false), ("CardWorkshop$Reader", "draft", "LCardWorkshop$Game;", true), ("CardWorkshop$Reader", "position", "I", false), ("CardWorkshop$Reader", "choosing", "Z", false)]
def pm_f3 : List (String × String × String × Bool) := [("CardWorkshop$Solver", "tables", "[LCardWorkshop$Table;", true), ("CardWorkshop$Solver", "rows", "[[I", true), ("CardWorkshop$Solver", "left", "I", false), ("CardWorkshop$Solver", "firstBest", "I", false)]
def pm_f4 : List (String × String × String × Bool) := [("CardWorkshop$Table", "places", "[I", true), ("CardWorkshop$Table", "below", "[I", true), ("CardWorkshop$Table", "tops", "[I", true), ("CardWorkshop$Table", "sizes", "[I", true), ("CardWorkshop$Table", "counters", "[I", true), ("CardWorkshop$Table", "scores", "[I", true), ("CardWorkshop$Table", "turn", "I", false)]
def pm_f5 : List (String × String × String × Bool) := [("CardWorkshop", "reader", "LCardWorkshop$Reader;", true), ("CardWorkshop", "machine", "LCardWorkshop$Machine;", true), ("CardWorkshop", "solver", "LCardWorkshop$Solver;", true), ("CardWorkshop", "table", "LCardWorkshop$Table;", true), ("CardWorkshop", "history", "[LCardWorkshop$Table;", true), ("CardWorkshop", "made", "I", false), ("CardWorkshop", "dealt", "Z", false), ("CardWorkshop", "deck", "[I", true), ("CardWorkshop", "listed", "[I", true), ("CardWorkshop", "bestMove", "I", false)]
def pm_f6 : List (String × String × String × Bool) := [("CardWorkshopModel", "thrown", "I", false), ("CardWorkshopModel", "size", "I", false), ("CardWorkshopModel", "text", "[I", true), ("CardWorkshopModel", "at", "I", false), ("CardWorkshopModel", "wrong", "Z", false), ("CardWorkshopModel", "made", "I", false), ("CardWorkshopModel", "op", "[I", true), ("CardWorkshopModel", "argument", "[I", true), ("CardWorkshopModel", "waiting", "I", false), ("CardWorkshopModel", "wait", "[I", true), ("CardWorkshopModel", "newRules", "I", false), ("CardWorkshopModel", "newM", "[Z", true), ("CardWorkshopModel", "newAt", "[I", true), ("CardWorkshopModel", "newEnd", "I", false), ("CardWorkshopModel", "is", "Z", false), ("CardWorkshopModel", "suits", "I", false), ("CardWorkshopModel", "ranks", "I", false), ("CardWorkshopModel", "rules", "I", false), ("CardWorkshopModel", "isM", "[Z", true), ("CardWorkshopModel", "ruleAt", "[I", true), ("CardWorkshopModel", "endAt", "I", false), ("CardWorkshopModel", "length", "I", false), ("CardWorkshopModel", "code", "[I", true), ("CardWorkshopModel", "with", "[I", true), ("CardWorkshopModel", "dealt", "Z", false), ("CardWorkshopModel", "now", "[I", true), ("CardWorkshopModel", "acts", "I", false), ("CardWorkshopModel", "was", "[I", true), ("CardWorkshopModel", "stack", "[I", true), ("CardWorkshopModel", "passes", "Z", false), ("CardWorkshopModel", "many", "[I", true), ("CardWorkshopModel", "byRule", "[I", true), ("CardWorkshopModel", "byCard", "[I", true), ("CardWorkshopModel", "tried", "[I", true), ("CardWorkshopModel", "value", "[I", true), ("CardWorkshopModel", "first", "[I", true), ("CardWorkshopModel", "deep", "[I", true), ("CardWorkshopModel", "best", "I", false)]
def pm_fl (c : Nat) : List (String × String × String × Bool) := match c with
  | 0 => pm_f0
  | 1 => pm_f1
  | 2 => pm_f2
  | 3 => pm_f3
  | 4 => pm_f4
  | 5 => pm_f5
  | _ => pm_f6
def pm_t0 : List FieldType := [.array .int, .array .int, .int, .int, .int, .int, .array .int, .array .int, .array .int, .int]
def pm_t1 : List FieldType := [.object "CardWorkshop$Game", .array .int, .int]
def pm_t2 : List FieldType := [.array .char, .int, .object "CardWorkshop$Game", .int, .boolean]
def pm_t3 : List FieldType := [.array (.object "CardWorkshop$Table"), .array (.array .int), .int, .int]
def pm_t4 : List FieldType := [.array .int, .array .int, .array .int, .array .int, .array .int, .array .int, .int]
def pm_t5 : List FieldType := [.object "CardWorkshop$Reader", .object "CardWorkshop$Machine", .object "CardWorkshop$Solver", .object "CardWorkshop$Table", .array (.object "CardWorkshop$Table"), .int, .boolean, .array .int, .array .int, .int]
def pm_t6 : List FieldType := [.int, .int, .array .int, .int, .boolean, .int, .array .int, .array .int, .int, .array .int, .int, .array .boolean, .array .int, .int, .boolean, .int, .int, .int, .array .boolean, .array .int, .int, .int, .array .int, .array .int, .boolean, .array .int, .int, .array .int, .array .int, .boolean, .array .int, .array .int, .array .int, .array .int, .array .int, .array .int, .array .int, .int]
def pm_ftl (c : Nat) : List FieldType := match c with
  | 0 => pm_t0
  | 1 => pm_t1
  | 2 => pm_t2
  | 3 => pm_t3
  | 4 => pm_t4
  | 5 => pm_t5
  | _ => pm_t6
def pm_nf (c : Nat) : Nat := (pm_fl c).length
def pm_T (c : Nat) : u_T := fun k => (pm_fl c).getD k ("", "", "", false)
def pm_ft (c k : Nat) : FieldType := (pm_ftl c).getD k .int
def pm_cnm (c : Nat) : String := pm_cn.getD c ""
def pm_vw : List vw_C := (List.range 7).map fun c => (pm_cnm c, pm_T c, pm_nf c)
theorem pm_vw_at {c : Nat} (h : c < 7) : pm_vw[c]? = some (pm_cnm c, pm_T c, pm_nf c) := by
  simp [pm_vw, List.getElem?_range h]
/-- is the field a reference? -/
def pm_isr (c k : Nat) : Bool := match pm_ft c k with
  | .object _ => true
  | .array _ => true
  | _ => false
theorem pm_nm0 : ∀ c, c < 7 → ∀ a, a < pm_nf c → ∀ b, b < pm_nf c → a ≠ b → (pm_T c a).2.1 ≠ (pm_T c b).2.1 := by decide +kernel
theorem pm_ty0 : ∀ c, c < 7 → ∀ k, k < pm_nf c → parseFieldDescriptor (pm_T c k).2.2.1 = some (pm_ft c k) := by decide +kernel
theorem pm_dc0 : ∀ c, c < 7 → ∀ k, k < pm_nf c → (pm_T c k).1 = pm_cnm c := by decide +kernel
def pm_lw : List (List Nat) := [[76, 78, 80, 82, 84, 86, 88, 90, 92, 94], [129, 131, 133], [106, 108, 110, 112, 114], [190, 192, 194, 196], [170, 172, 174, 176, 178, 180, 182], [211, 213, 215, 217, 219, 221, 223, 225, 227, 229], [742, 744, 746, 748, 750, 752, 754, 756, 758, 760, 762, 764, 766, 768, 770, 772, 774, 776, 778, 780, 782, 784, 786, 788, 790, 792, 794, 796, 798, 800, 802, 804, 806, 808, 810, 812, 814, 816]]
theorem pm_lw_ok : ∀ c, c < 7 → ∀ k, k < pm_nf c → tables_1[(pm_lw.getD c []).getD k 0]? = some (u_lay (pm_cnm c) (pm_T c) k) := by decide +kernel
theorem lw_of {w : Cond} (i : Nat) (h : tables_1[i]? = some w) : w ∈ lw_tbl := List.mem_append_right _ (List.mem_of_getElem? h)
theorem pm_in0 {c : Nat} (hc : c < 7) : ∀ w ∈ u_ws (pm_cnm c) (pm_T c) (pm_nf c), w ∈ lw_tbl := by
  intro w hw
  obtain ⟨k, hk, rfl⟩ := List.mem_map.mp hw
  exact lw_of _ (pm_lw_ok c hc k (List.mem_range.mp hk))
end
section
/-! THE REAL CELLS of a memory of the pure machine: number a lies at the address ad a -/
def pm_cz (ad : Nat → Nat) (v : Value) : Value := match v with
  | .ref a => .ref (ad a)
  | v => v
theorem pm_cz_cat (ad : Nat → Nat) (v : Value) : (pm_cz ad v).category = v.category := by cases v <;> rfl
theorem pm_cz_rv (ad : Nat → Nat) (r : Option Nat) : pm_cz ad (pm_rv r) = va_rf (r.map ad) := by cases r <;> rfl
def pm_fv (ad : Nat → Nat) (M : pm_Mem) (c a k : Nat) : Value := if pm_isr c k = true then pm_cz ad (pm_rv (M.2.2.1 a k)) else .int (M.2.1 a k)
def pm_ac (ad : Nat → Nat) (M : pm_Mem) (a k : Nat) : (Nat → Int32) ⊕ (Nat → Int64) ⊕ (Nat → UInt32) ⊕ (Nat → UInt64) ⊕ (Nat → Option Nat) := match k with
  | 0 => .inl (M.2.1 a)
  | 1 => .inl (M.2.1 a)
  | 2 => .inl (M.2.1 a)
  | 3 => .inr (.inl (M.2.2.2 a))
  | _ => .inr (.inr (.inr (.inr (fun i => (M.2.2.1 a i).map ad))))
def pm_cell (dA : Nat → ClassId) (ad : Nat → Nat) (M : pm_Mem) (a : Nat) : va_E := match pm_sh a with
  | (0, c) => .inr (c, (List.range (pm_nf c)).map (pm_fv ad M c a))
  | (k + 1, n) => .inl (dA k, n, pm_ac ad M a k)
def pm_ws (dA : Nat → ClassId) (ad : Nat → Nat) (M : pm_Mem) : va_W := (List.range M.1).map fun a => (ad a, pm_cell dA ad M a)
theorem pm_ws_at {dA : Nat → ClassId} {ad : Nat → Nat} {M : pm_Mem} {a : Nat} (h : a < M.1) : (pm_ws dA ad M)[a]? = some (ad a, pm_cell dA ad M a) := by
  simp [pm_ws, List.getElem?_range h]
theorem pm_ws_set {dA : Nat → ClassId} {ad : Nat → Nat} {M M' : pm_Mem} {a : Nat} {x : va_E} (h1 : M'.1 = M.1) (h2 : a < M.1 → pm_cell dA ad M' a = x) (h3 : ∀ b, b ≠ a → pm_cell dA ad M' b = pm_cell dA ad M b) : (pm_ws dA ad M).set a (ad a, x) = pm_ws dA ad M' := by
  apply List.ext_getElem?
  intro i
  by_cases hi : i < M.1
  · rw [pm_ws_at (M := M') (by rw [h1]; exact hi)]
    by_cases e : i = a
    · subst e
      rw [List.getElem?_set_self (by simp [pm_ws, hi]), h2 hi]
    · rw [List.getElem?_set_ne (fun q => e q.symm), pm_ws_at hi, h3 i e]
  · rw [List.getElem?_eq_none (by simp [pm_ws]; omega), List.getElem?_eq_none (by simp [pm_ws, h1]; omega)]
theorem pm_ws_len {dA : Nat → ClassId} {ad : Nat → Nat} {M : pm_Mem} : (pm_ws dA ad M).length = M.1 := by simp [pm_ws]
/-- the addresses: from z on, number by number -/
def pm_ad (z : Nat) (ad : Nat → Nat) : Prop := ∀ a, a < pm_n → ad a = z + a
theorem pm_wsD {dA : Nat → ClassId} {ad : Nat → Nat} {M : pm_Mem} {z : Nat} (h : pm_ad z ad) (hn : M.1 ≤ pm_n) : va_D (fun q : Nat => z ≤ q) (pm_ws dA ad M) := by
  have key : ∀ (i : Nat) (q : Nat × va_E), (pm_ws dA ad M)[i]? = some q → q.1 = z + i := by
    intro i q hq
    have hi : i < M.1 := by have := (List.getElem?_eq_some_iff.mp hq).1; rwa [pm_ws_len] at this
    rw [pm_ws_at hi] at hq
    cases hq
    exact h i (by omega)
  refine ⟨fun i j p q h1 h2 h3 => ?_, fun k q h1 => ?_⟩
  · have e1 := key i p h1
    have e2 := key j q h2
    omega
  · have e1 := key k q h1
    show z ≤ q.1
    omega
/-- the array classes -/
def pm_tys (dA : Nat → ClassId) : List (ClassId × FieldType) := [(dA 0, .int), (dA 1, .char), (dA 2, .boolean), (dA 3, .long), (dA 4, .object "CardWorkshop$Table"), (dA 5, .array .int)]
/-! the locals -/
def pm_LV (ad : Nat → Nat) (lsC : Array Slot) (ls : pm_Loc) : Prop := lsC.size = ls.length ∧ lv_wf lsC ∧ ∀ i v, pm_get ls i = some v → lsC[i]? = some (.val (pm_cz ad v))
/-- longs stand only where the method's descriptor lays them -/
def pm_lgs : Nat → List Nat → List Nat
  | _, [] => []
  | i, k :: t => if k = 2 then i :: pm_lgs (i + 2) t else pm_lgs (i + 1) t
def pm_J (m : Nat) (ls : pm_Loc) : Prop := ls.length = pm_ml m ∧ ∀ i v, pm_get ls i = some v → v.category = 2 → i ∈ pm_lgs 0 (pm_cat m)
def pm_lvs (ad : Nat → Nat) (ls : pm_Loc) : List (Nat × Value) := (List.range ls.length).filterMap fun i => (pm_get ls i).map fun v => (i, pm_cz ad v)
theorem pm_get_lt {ls : pm_Loc} {i : Nat} {v : Value} (h : pm_get ls i = some v) : i < ls.length := by
  unfold pm_get at h
  split at h
  · rename_i h1
    exact (List.getElem?_eq_some_iff.mp h1).1
  · cases h
theorem pm_lvs_mem {ad : Nat → Nat} {ls : pm_Loc} {i : Nat} {v : Value} (h : pm_get ls i = some v) : (i, pm_cz ad v) ∈ pm_lvs ad ls :=
  List.mem_filterMap.mpr ⟨i, List.mem_range.mpr (pm_get_lt h), by rw [h]; rfl⟩
theorem pm_LV.has {ad : Nat → Nat} {lsC : Array Slot} {ls : pm_Loc} (h : pm_LV ad lsC ls) : lv_has lsC ls.length (pm_lvs ad ls) := by
  refine ⟨h.1, h.2.1, fun q hq => ?_⟩
  obtain ⟨i, -, hi⟩ := List.mem_filterMap.mp hq
  cases e : pm_get ls i with
  | none => rw [e] at hi; cases hi
  | some v => rw [e] at hi; cases hi; exact h.2.2 i v e
theorem pm_get_set {ls : pm_Loc} {i j : Nat} {x : Option Value} {v : Value} (h : pm_get (ls.set i x) j = some v) : (j = i ∧ x = some v) ∨ (j ≠ i ∧ pm_get ls j = some v) := by
  have hj := pm_get_lt h
  rw [List.length_set] at hj
  unfold pm_get at h
  by_cases e : j = i
  · subst e
    rw [List.getElem?_set_self hj] at h
    cases x with
    | none => cases h
    | some y => exact Or.inl ⟨rfl, h⟩
  · rw [List.getElem?_set_ne (fun q => e q.symm)] at h
    exact Or.inr ⟨e, h⟩
theorem pm_J.set {m i : Nat} {ls : pm_Loc} {x : Option Value} (h : pm_J m ls) (hx : ∀ v, x = some v → ¬ v.category = 2) : pm_J m (ls.set i x) := by
  refine ⟨by rw [List.length_set]; exact h.1, fun j v h1 h2 => ?_⟩
  rcases pm_get_set h1 with ⟨-, e⟩ | ⟨-, e⟩
  · exact absurd h2 (hx v e)
  · exact h.2 j v e h2
/-- the locals behind a store of one slot -/
theorem pm_LV.set {ad : Nat → Nat} {m : Nat} {lsC' : Array Slot} {ls : pm_Loc} {i : Nat} {x : Option Value} {y : Value} (hJ : pm_J m ls) (hs : ∀ j, j + 1 = i → j ∉ pm_lgs 0 (pm_cat m)) (hx : ∀ v, x = some v → y = pm_cz ad v)
    (h' : lv_has lsC' ls.length ((i, y) :: (pm_lvs ad ls).filter (fun q => !(q.1 == i) && !(q.1 + 1 == i && q.2.category == 2)))) : pm_LV ad lsC' (ls.set i x) := by
  refine ⟨by rw [List.length_set]; exact h'.1, h'.2.1, fun j v hj => ?_⟩
  rcases pm_get_set hj with ⟨e1, e2⟩ | ⟨e1, e2⟩
  · subst e1
    rw [← hx v e2]
    exact h'.2.2 (j, y) List.mem_cons_self
  · refine h'.2.2 (j, pm_cz ad v) (List.mem_cons_of_mem _ (List.mem_filter.mpr ⟨pm_lvs_mem e2, ?_⟩))
    have h1 : (j == i) = false := by simpa using e1
    have h2 : (j + 1 == i && (pm_cz ad v).category == 2) = false := by
      rw [Bool.and_eq_false_iff]
      by_cases e3 : j + 1 = i
      · right
        have : ¬ v.category = 2 := fun q => hs j e3 (hJ.2 j v e2 q)
        rw [pm_cz_cat]
        simpa using this
      · left
        simpa using e3
    simp only [h1, h2]
    rfl
end
section
/-! printed by a program of mine (wip/whole/mk08.py): methods by their numbers, the pool's entries, by their places in the words of the tables; and that each row of the tables is the decoded instruction -/
def pm_owl : List String := ["CardWorkshop$Game", "CardWorkshop$Machine", "CardWorkshop$Reader", "CardWorkshop$Solver", "CardWorkshop$Table", "CardWorkshop", "CardWorkshopModel", "CardWorkshopLaw", "java/lang/String", "java/lang/StringLatin1", "java/util/Arrays", "java/lang/Math"]
def pm_onm (k : Nat) : String := pm_owl.getD k ""
def pm_bl : List ByteArray := [prog_1_method_1_code, prog_1_method_2_code, prog_1_method_3_code, prog_1_method_4_code, prog_1_method_5_code, prog_1_method_6_code, prog_1_method_7_code, prog_1_method_8_code, prog_1_method_9_code, prog_1_method_10_code, prog_1_method_11_code, prog_1_method_12_code, prog_1_method_13_code, prog_1_method_14_code, prog_1_method_15_code, prog_1_method_16_code, prog_1_method_17_code, prog_1_method_18_code, prog_1_method_19_code, prog_1_method_20_code, prog_1_method_21_code, prog_1_method_22_code, prog_8_method_1_code, prog_8_method_2_code, prog_8_method_3_code, prog_8_method_4_code, prog_8_method_5_code, prog_8_method_6_code, prog_8_method_7_code, prog_8_method_8_code, prog_8_method_9_code, prog_8_method_10_code, prog_8_method_11_code, prog_8_method_12_code, prog_8_method_13_code, prog_8_method_14_code, prog_8_method_15_code, prog_8_method_16_code, prog_8_method_17_code, prog_8_method_18_code, prog_8_method_19_code, prog_8_method_20_code, prog_8_method_21_code, prog_8_method_22_code, prog_8_method_23_code, prog_8_method_24_code, prog_8_method_25_code, prog_8_method_26_code, prog_8_method_27_code, prog_8_method_28_code, prog_8_method_29_code, prog_8_method_30_code, prog_8_method_31_code, prog_8_method_32_code, prog_8_method_33_code, prog_8_method_34_code, prog_8_method_35_code, prog_8_method_36_code, prog_8_method_37_code, prog_8_method_38_code, prog_8_method_39_code, prog_8_method_40_code, prog_8_method_41_code, prog_8_method_42_code, prog_8_method_43_code, prog_8_method_44_code, prog_8_method_45_code, prog_8_method_46_code, prog_8_method_47_code, prog_8_method_48_code, prog_8_method_49_code, prog_8_method_50_code, prog_8_method_51_code, prog_8_method_52_code, prog_8_method_53_code, prog_8_method_54_code, prog_8_method_55_code, prog_8_method_56_code, prog_8_method_57_code, prog_2_method_1_code, prog_2_method_2_code, prog_2_method_3_code, prog_3_method_1_code, prog_3_method_2_code, prog_3_method_3_code, prog_3_method_4_code, prog_3_method_5_code, prog_3_method_6_code, prog_3_method_7_code, prog_3_method_8_code, prog_3_method_9_code, prog_3_method_10_code, prog_4_method_1_code, prog_4_method_2_code, prog_4_method_3_code, prog_4_method_4_code, prog_4_method_5_code, prog_4_method_6_code, prog_4_method_7_code, prog_4_method_8_code, prog_4_method_9_code, prog_4_method_10_code, prog_4_method_11_code, prog_4_method_12_code, prog_4_method_13_code, prog_5_method_1_code, prog_5_method_2_code, prog_5_method_3_code, prog_6_method_1_code, prog_6_method_2_code, prog_6_method_3_code, prog_6_method_4_code, prog_6_method_5_code, prog_6_method_6_code, method_3_code, method_4_code, method_5_code, method_6_code, method_7_code, method_8_code, method_9_code, code, prog_16_method_79_code, prog_16_method_80_code, prog_16_method_154_code, prog_16_method_54_code, prog_16_method_152_code, prog_17_method_22_code, prog_17_method_4_code, prog_14_method_65_code, prog_14_method_69_code, prog_17_method_23_code, prog_22_method_103_code]
def pm_b (m : Nat) : ByteArray := pm_bl.getD m ⟨#[]⟩
def pm_yl : List (String × String) := [("<init>", "()V"), ("type", "(J)Z"), ("byteOf", "(JI)I"), ("wipe", "()V"), ("compile", "()I"), ("code", "(IZ)I"), ("deal", "(II)I"), ("shuffle", "(II)V"), ("put", "(II)Z"), ("moves", "()I"), ("move", "(IZ)I"), ("findMove", "(I)I"), ("ruleOf", "(I)I"), ("cardOf", "(I)I"), ("act", "(I)I"), ("undo", "()Z"), ("card", "(II)I"), ("seen", "(III)I"), ("counter", "(I)I"), ("look", "(I)I"), ("solve", "(I)I"), ("best", "()I"), ("<init>", "()V"), ("thrown", "()I"), ("type", "(J)Z"), ("wipe", "()V"), ("peek", "()I"), ("eat", "(I)Z"), ("need", "(I)V"), ("emit", "(II)V"), ("among", "(IIIIIII)I"), ("zone", "()I"), ("cardZone", "(Z)I"), ("counterOf", "(I)I"), ("isDigit", "(I)Z"), ("number", "()V"), ("plain", "(Z)Z"), ("operator", "(I)I"), ("strength", "(I)I"), ("top", "()I"), ("release", "(I)V"), ("operand", "(IZ)I"), ("expr", "(Z)V"), ("effect", "(Z)V"), ("rule", "()V"), ("compile", "()I"), ("take", "(II)I"), ("code", "(IZ)I"), ("placeOf", "(II)I"), ("spot", "(II)I"), ("topOf", "(I)I"), ("go", "(II)V"), ("cardAt", "(III)I"), ("truth", "(Z)I"), ("worked", "(III)I"), ("asked", "(IIII)I"), ("run", "(III)I"), ("behind", "(I)I"), ("note", "(III)V"), ("list", "(I)V"), ("lies", "(II)Z"), ("make", "(II)V"), ("deal", "(II)I"), ("put", "(II)Z"), ("listed", "()I"), ("moves", "()I"), ("move", "(IZ)I"), ("act", "(I)I"), ("undo", "()Z"), ("card", "(II)I"), ("seen", "(III)I"), ("counter", "(I)I"), ("look", "(I)I"), ("keep", "(I)V"), ("back", "(I)V"), ("give", "(II)V"), ("search", "(I)Z"), ("solve", "(I)I"), ("best", "()I"), ("<init>", "()V"), ("emit", "(II)V"), ("copyFrom", "(LCardWorkshop$Game;)V"), ("<init>", "()V"), ("listMoves", "(LCardWorkshop$Table;[I)I"), ("makeMove", "(LCardWorkshop$Table;I)V"), ("run", "(LCardWorkshop$Table;II)I"), ("push", "(I)V"), ("pop", "()I"), ("operand", "(IILCardWorkshop$Table;II)I"), ("combine", "(III)I"), ("doEffect", "(IILCardWorkshop$Table;II)V"), ("placeOf", "(II)I"), ("<init>", "()V"), ("append", "(C)V"), ("readGame", "()V"), ("readRule", "(I)V"), ("readEffect", "()V"), ("readExpr", "(II)V"), ("readUnit", "(I)V"), ("readNumber", "()I"), ("readZone", "(Z)I"), ("readDigit", "(I)I"), ("expect", "(C)V"), ("take", "(C)Z"), ("next", "()C"), ("<init>", "()V"), ("valueOf", "(LCardWorkshop$Machine;LCardWorkshop$Table;I)I"), ("valueAt", "(LCardWorkshop$Machine;I)I"), ("<init>", "()V"), ("clear", "()V"), ("copyFrom", "(LCardWorkshop$Table;)V"), ("lay", "(II)V"), ("raise", "(II)V"), ("cardAt", "(II)I"), ("compile", "(LCardWorkshop;[J)I"), ("code", "(LCardWorkshop;IZ[J)I"), ("deal", "(LCardWorkshop;II[J)I"), ("move", "(LCardWorkshop;IZ[J)I"), ("act", "(LCardWorkshop;I[J)I"), ("counter", "(LCardWorkshop;I[J)I"), ("solve", "(LCardWorkshop;I[J)I"), ("law", "([I)Z"), ("indexOf", "(I)I"), ("indexOf", "(II)I"), ("isLatin1", "()Z"), ("length", "()I"), ("coder", "()B"), ("indexOf", "([BIII)I"), ("canEncode", "(I)Z"), ("max", "(II)I"), ("min", "(II)I"), ("indexOfChar", "([BIII)I"), ("fill", "([II)V")]
def pm_y (m : Nat) : MethodName := ⟨pm_onm (pm_ow m), (pm_yl.getD m ("", "")).1, (pm_yl.getD m ("", "")).2⟩
def pm_rtl : List (Option FieldType) := [none, some .boolean, some .int, none, some .int, some .int, some .int, none, some .boolean, some .int, some .int, some .int, some .int, some .int, some .int, some .boolean, some .int, some .int, some .int, some .int, some .int, some .int, none, some .int, some .boolean, none, some .int, some .boolean, none, none, some .int, some .int, some .int, some .int, some .boolean, none, some .boolean, some .int, some .int, some .int, none, some .int, none, none, none, some .int, some .int, some .int, some .int, some .int, some .int, none, some .int, some .int, some .int, some .int, some .int, some .int, none, none, some .boolean, none, some .int, some .boolean, some .int, some .int, some .int, some .int, some .boolean, some .int, some .int, some .int, some .int, none, none, none, some .boolean, some .int, some .int, none, none, none, none, some .int, none, some .int, none, some .int, some .int, some .int, none, some .int, none, none, none, none, none, none, none, some .int, some .int, some .int, none, some .boolean, some .char, none, some .int, some .int, none, none, none, none, none, some .int, some .int, some .int, some .int, some .int, some .int, some .int, some .int, some .boolean, some .int, some .int, some .boolean, some .int, some .byte, some .int, some .boolean, some .int, some .int, some .int, none]
def pm_rt (m : Nat) : Option FieldType := pm_rtl.getD m none
/-- fields: (owner, entry), class, field, 1 by a nest mate, place of the word -/
def pm_fk : List ((Nat × Nat) × Nat × Nat × Nat × Nat) := [((0, 9), 0, 0, 0, 43), ((0, 15), 0, 1, 0, 46), ((0, 18), 0, 2, 0, 49), ((0, 22), 0, 3, 0, 53), ((0, 25), 0, 4, 0, 57), ((0, 28), 0, 5, 0, 60), ((0, 31), 0, 6, 0, 64), ((0, 34), 0, 7, 0, 67), ((0, 37), 0, 8, 0, 70), ((0, 40), 0, 9, 0, 73), ((1, 12), 1, 0, 0, 125), ((1, 18), 1, 1, 0, 127), ((1, 22), 1, 2, 0, 128), ((1, 26), 0, 9, 1, 74), ((1, 33), 0, 5, 1, 61), ((1, 36), 0, 6, 1, 65), ((1, 39), 0, 3, 1, 54), ((1, 42), 4, 0, 1, 152), ((1, 47), 4, 6, 1, 167), ((1, 50), 0, 7, 1, 68), ((1, 57), 0, 8, 1, 71), ((1, 63), 0, 2, 1, 51), ((1, 66), 0, 0, 1, 44), ((1, 69), 0, 1, 1, 47), ((1, 92), 4, 4, 1, 160), ((1, 95), 4, 3, 1, 157), ((1, 102), 4, 2, 1, 155), ((1, 105), 0, 4, 1, 59), ((1, 112), 4, 5, 1, 164), ((2, 9), 2, 0, 0, 99), ((2, 15), 2, 1, 0, 100), ((2, 22), 2, 2, 0, 102), ((2, 26), 2, 3, 0, 104), ((2, 29), 2, 4, 0, 105), ((2, 33), 0, 2, 1, 50), ((2, 34), 0, 5, 1, 62), ((2, 45), 0, 4, 1, 58), ((2, 48), 0, 3, 1, 55), ((2, 59), 0, 9, 1, 75), ((2, 76), 0, 6, 1, 66), ((2, 80), 0, 7, 1, 69), ((2, 83), 0, 8, 1, 72), ((3, 11), 3, 0, 0, 185), ((3, 19), 3, 1, 0, 186), ((3, 22), 3, 2, 0, 187), ((3, 26), 3, 3, 0, 188), ((3, 44), 4, 5, 1, 163), ((3, 59), 4, 6, 1, 168), ((4, 9), 4, 0, 0, 151), ((4, 15), 4, 1, 0, 153), ((4, 18), 4, 2, 0, 154), ((4, 21), 4, 3, 0, 156), ((4, 24), 4, 4, 0, 159), ((4, 27), 4, 5, 0, 162), ((4, 30), 4, 6, 0, 166), ((5, 12), 5, 0, 0, 201), ((5, 19), 5, 1, 0, 202), ((5, 26), 5, 2, 0, 203), ((5, 33), 5, 3, 0, 204), ((5, 37), 5, 4, 0, 205), ((5, 41), 5, 5, 0, 206), ((5, 45), 5, 6, 0, 207), ((5, 49), 5, 7, 0, 208), ((5, 53), 5, 8, 0, 209), ((5, 56), 5, 9, 0, 210), ((5, 63), 2, 1, 1, 101), ((5, 73), 2, 2, 1, 103), ((5, 77), 0, 2, 1, 52), ((5, 87), 1, 0, 1, 126), ((5, 99), 0, 1, 1, 48), ((5, 102), 0, 0, 1, 45), ((5, 115), 0, 3, 1, 56), ((5, 161), 4, 3, 1, 158), ((5, 173), 4, 4, 1, 161), ((5, 176), 4, 5, 1, 165), ((5, 179), 0, 5, 1, 63), ((5, 182), 4, 6, 1, 169), ((5, 193), 3, 3, 1, 189), ((6, 7), 6, 2, 0, 706), ((6, 13), 6, 6, 0, 710), ((6, 16), 6, 7, 0, 711), ((6, 19), 6, 9, 0, 713), ((6, 22), 6, 11, 0, 715), ((6, 26), 6, 12, 0, 716), ((6, 29), 6, 18, 0, 722), ((6, 32), 6, 19, 0, 723), ((6, 35), 6, 22, 0, 726), ((6, 38), 6, 23, 0, 727), ((6, 41), 6, 25, 0, 729), ((6, 44), 6, 27, 0, 731), ((6, 47), 6, 28, 0, 732), ((6, 50), 6, 30, 0, 734), ((6, 53), 6, 31, 0, 735), ((6, 56), 6, 32, 0, 736), ((6, 59), 6, 33, 0, 737), ((6, 62), 6, 34, 0, 738), ((6, 65), 6, 35, 0, 739), ((6, 68), 6, 36, 0, 740), ((6, 71), 6, 37, 0, 741), ((6, 75), 6, 0, 0, 704), ((6, 80), 6, 1, 0, 705), ((6, 83), 6, 3, 0, 707), ((6, 94), 6, 4, 0, 708), ((6, 98), 6, 5, 0, 709), ((6, 126), 6, 8, 0, 712), ((6, 157), 6, 10, 0, 714), ((6, 166), 6, 13, 0, 717), ((6, 173), 6, 14, 0, 718), ((6, 176), 6, 15, 0, 719), ((6, 179), 6, 16, 0, 720), ((6, 182), 6, 17, 0, 721), ((6, 185), 6, 20, 0, 724), ((6, 188), 6, 21, 0, 725), ((6, 191), 6, 24, 0, 728), ((6, 194), 6, 26, 0, 730), ((6, 223), 6, 29, 0, 733)]
/-- ints: (owner, entry), value, place -/
def pm_ck : List ((Nat × Nat) × Int32 × Nat) := [((5, 128), 22695477, 626), ((6, 240), 22695477, 920)]
/-- methods: (owner, entry), method, 1 by a nest mate, place -/
def pm_mk : List ((Nat × Nat) × Nat × Nat × Nat) := [((1, 11), 79, 1, 124), ((1, 29), 85, 0, 267), ((1, 53), 12, 1, 665), ((1, 60), 13, 1, 666), ((1, 72), 88, 0, 271), ((1, 76), 86, 0, 278), ((1, 80), 87, 0, 282), ((1, 84), 89, 0, 286), ((1, 88), 90, 0, 289), ((1, 98), 91, 0, 275), ((1, 108), 112, 1, 293), ((2, 21), 79, 1, 39), ((2, 37), 102, 0, 340), ((2, 41), 101, 0, 417), ((2, 51), 104, 0, 344), ((2, 55), 95, 0, 422), ((2, 62), 97, 0, 426), ((2, 66), 80, 1, 525), ((2, 86), 96, 0, 545), ((2, 89), 103, 0, 434), ((2, 95), 122, 0, 439), ((2, 100), 100, 0, 529), ((2, 104), 98, 0, 430), ((2, 115), 99, 0, 535), ((3, 29), 108, 1, 147), ((3, 30), 110, 1, 688), ((3, 34), 107, 0, 689), ((3, 38), 83, 1, 693), ((3, 55), 84, 1, 697), ((4, 34), 132, 0, 631), ((4, 46), 111, 0, 255), ((5, 11), 92, 1, 33), ((5, 18), 82, 1, 119), ((5, 25), 105, 1, 138), ((5, 32), 108, 1, 200), ((5, 59), 2, 0, 236), ((5, 66), 93, 1, 239), ((5, 70), 94, 1, 336), ((5, 90), 81, 1, 566), ((5, 118), 7, 0, 622), ((5, 122), 109, 1, 627), ((5, 125), 111, 1, 634), ((5, 129), 112, 1, 251), ((5, 132), 83, 1, 263), ((5, 136), 11, 0, 642), ((5, 140), 13, 0, 647), ((5, 143), 12, 0, 650), ((5, 146), 9, 0, 322), ((5, 154), 110, 1, 298), ((5, 157), 84, 1, 661), ((5, 164), 113, 1, 309), ((5, 168), 16, 0, 317), ((5, 189), 106, 1, 684), ((6, 86), 26, 0, 845), ((6, 90), 27, 0, 841), ((6, 101), 30, 0, 879), ((6, 105), 31, 0, 882), ((6, 108), 34, 0, 865), ((6, 111), 29, 0, 872), ((6, 115), 35, 0, 868), ((6, 118), 33, 0, 876), ((6, 122), 32, 0, 886), ((6, 129), 39, 0, 894), ((6, 132), 38, 0, 898), ((6, 135), 36, 0, 861), ((6, 139), 40, 0, 890), ((6, 143), 41, 0, 857), ((6, 147), 37, 0, 901), ((6, 150), 42, 0, 853), ((6, 154), 28, 0, 837), ((6, 160), 43, 0, 904), ((6, 163), 44, 0, 849), ((6, 169), 46, 0, 908), ((6, 197), 49, 0, 925), ((6, 200), 48, 0, 952), ((6, 203), 50, 0, 959), ((6, 206), 53, 0, 966), ((6, 209), 52, 0, 955), ((6, 213), 55, 0, 948), ((6, 217), 54, 0, 963), ((6, 220), 51, 0, 921), ((6, 226), 56, 0, 944), ((6, 229), 58, 0, 969), ((6, 233), 60, 0, 973), ((6, 237), 57, 0, 989), ((6, 241), 59, 0, 940), ((6, 244), 64, 0, 936), ((6, 247), 61, 0, 985), ((6, 250), 69, 0, 1005), ((6, 253), 73, 0, 1022), ((6, 256), 75, 0, 1026), ((6, 259), 74, 0, 1030), ((6, 262), 76, 0, 1018), ((7, 7), 4, 0, 332), ((7, 17), 5, 0, 575), ((7, 23), 6, 0, 599), ((7, 29), 10, 0, 638), ((7, 32), 14, 0, 656), ((7, 36), 18, 0, 670), ((7, 39), 20, 0, 678), ((7, 42), 0, 0, 25), ((7, 45), 22, 0, 700), ((7, 48), 1, 0, 232), ((7, 52), 24, 0, 824), ((7, 53), 3, 0, 243), ((7, 56), 25, 0, 829), ((7, 57), 114, 0, 327), ((7, 62), 45, 0, 833), ((7, 63), 23, 0, 820), ((7, 66), 115, 0, 571), ((7, 69), 47, 0, 912), ((7, 70), 116, 0, 595), ((7, 73), 62, 0, 916), ((7, 74), 8, 0, 247), ((7, 78), 63, 0, 928), ((7, 79), 9, 0, 259), ((7, 82), 65, 0, 932), ((7, 83), 117, 0, 635), ((7, 85), 66, 0, 977), ((7, 86), 118, 0, 653), ((7, 89), 67, 0, 981), ((7, 90), 15, 0, 294), ((7, 94), 68, 0, 993), ((7, 95), 16, 0, 305), ((7, 98), 69, 0, 997), ((7, 99), 17, 0, 313), ((7, 103), 70, 0, 1001), ((7, 104), 119, 0, 667), ((7, 106), 71, 0, 1006), ((7, 107), 19, 0, 318), ((7, 110), 72, 0, 1010), ((7, 111), 120, 0, 675), ((7, 113), 77, 0, 1014), ((7, 114), 21, 0, 323), ((7, 117), 78, 0, 1034), ((8, 335), 126, 0, 457), ((8, 492), 124, 0, 447), ((8, 505), 125, 0, 453), ((8, 633), 123, 0, 443), ((8, 637), 127, 0, 461), ((9, 38), 130, 0, 470), ((9, 88), 128, 0, 464), ((9, 92), 129, 0, 467), ((9, 95), 131, 0, 473)]
/-- constructors of exceptions: (owner, entry), which, place -/
def pm_ek : List ((Nat × Nat) × Nat × Nat) := [((2, 73), 0, 391), ((3, 52), 3, 696), ((5, 84), 3, 560), ((5, 98), 2, 589), ((5, 109), 1, 613), ((5, 114), 0, 621)]
/-- classes: (owner, entry), class, place -/
def pm_kk : List ((Nat × Nat) × Nat × Nat) := [((1, 9), 0, 123), ((2, 19), 0, 37), ((3, 9), 4, 142), ((5, 9), 2, 31), ((5, 16), 1, 117), ((5, 23), 3, 136), ((5, 30), 4, 199), ((7, 8), 5, 23), ((7, 43), 6, 698)]
/-- exception classes: (owner, entry), which, place -/
def pm_jk : List ((Nat × Nat) × Nat × Nat) := [((2, 69), 0, 348), ((3, 48), 3, 694), ((5, 80), 3, 550), ((5, 94), 2, 579), ((5, 105), 1, 603), ((5, 110), 0, 619), ((7, 13), 0, 330), ((7, 15), 3, 331), ((7, 21), 2, 574), ((7, 27), 1, 598)]
/-- Strings: (owner, entry), number, place -/
def pm_sk : List ((Nat × Nat) × Nat × Nat) := [((2, 93), 10000, 438), ((2, 107), 10020, 540), ((2, 121), 10010, 533)]
def pm_exl : List String := ["java/lang/IllegalArgumentException", "java/lang/IllegalStateException", "java/lang/IndexOutOfBoundsException", "java/lang/UnsupportedOperationException"]
def pm_ex (k : Nat) : String := pm_exl.getD k ""
theorem pm_fk_ok : ∀ q ∈ pm_fk, tables_1[q.2.2.2.2]? = some (if q.2.2.2.1 = 1 then .fieldLinkNest (pm_onm q.1.1) q.1.2 (pm_cnm q.2.1) (pm_T q.2.1 q.2.2.1).2.1 (pm_T q.2.1 q.2.2.1).2.2.1 "CardWorkshop" else .fieldLink (pm_onm q.1.1) q.1.2 (pm_cnm q.2.1) (pm_T q.2.1 q.2.2.1).2.1 (pm_T q.2.1 q.2.2.1).2.2.1) := by decide +kernel
theorem pm_ck_ok : ∀ q ∈ pm_ck, tables_1[q.2.2]? = some (.constant (pm_onm q.1.1) q.1.2 q.2.1) := by decide +kernel
theorem pm_mk_ok : ∀ q ∈ pm_mk, tables_1[q.2.2.2]? = some (if q.2.2.1 = 1 then .methodLinkNest (pm_onm q.1.1) q.1.2 (pm_y q.2.1) "CardWorkshop" else .methodLink (pm_onm q.1.1) q.1.2 (pm_y q.2.1)) := by decide +kernel
theorem pm_ek_ok : ∀ q ∈ pm_ek, tables_1[q.2.2]? = some (.methodLink (pm_onm q.1.1) q.1.2 ⟨pm_ex q.2.1, "<init>", "(Ljava/lang/String;)V"⟩) := by decide +kernel
theorem pm_kk_ok : ∀ q ∈ pm_kk, tables_1[q.2.2]? = some (.classLink (pm_onm q.1.1) q.1.2 (pm_cnm q.2.1)) := by decide +kernel
theorem pm_jk_ok : ∀ q ∈ pm_jk, tables_1[q.2.2]? = some (.classLink (pm_onm q.1.1) q.1.2 (pm_ex q.2.1)) := by decide +kernel
/-- a method's words, by their places in lw_tbl: its code, static or not, selects, its class initialised -/
def pm_mw : List (Nat × Nat × Nat × Nat) := [(88, 87, 0, 62), (296, 294, 295, 62), (299, 298, 0, 62), (307, 305, 306, 62), (396, 394, 395, 62), (639, 637, 638, 62), (663, 661, 662, 62), (686, 685, 25, 62), (311, 309, 310, 62), (323, 321, 322, 62), (702, 700, 701, 62), (706, 705, 27, 62), (713, 712, 0, 62), (710, 709, 0, 62), (720, 718, 719, 62), (358, 356, 357, 62), (369, 367, 368, 62), (377, 375, 376, 62), (734, 732, 733, 62), (382, 380, 381, 62), (742, 740, 741, 62), (387, 385, 386, 62), (763, 762, 0, 68), (884, 882, 883, 68), (888, 886, 887, 68), (893, 891, 892, 68), (909, 908, 33, 68), (905, 904, 32, 68), (901, 900, 31, 68), (936, 935, 39, 68), (942, 941, 0, 68), (946, 945, 40, 68), (950, 949, 41, 68), (939, 938, 0, 68), (928, 927, 0, 68), (932, 931, 38, 68), (925, 924, 37, 68), (964, 963, 0, 68), (961, 960, 0, 68), (958, 957, 43, 68), (954, 953, 42, 68), (921, 920, 36, 68), (917, 916, 35, 68), (968, 967, 44, 68), (913, 912, 34, 68), (897, 895, 896, 68), (972, 971, 45, 68), (976, 974, 975, 68), (1015, 1014, 0, 68), (988, 987, 0, 68), (1023, 1022, 52, 68), (985, 984, 46, 68), (1019, 1018, 51, 68), (1029, 1028, 0, 68), (1026, 1025, 0, 68), (1012, 1011, 50, 68), (1008, 1007, 49, 68), (1053, 1052, 56, 68), (1033, 1032, 53, 68), (1004, 1003, 48, 68), (1037, 1036, 54, 68), (1049, 1048, 55, 68), (980, 978, 979, 68), (992, 990, 991, 68), (1000, 999, 47, 68), (996, 994, 995, 68), (1041, 1039, 1040, 68), (1045, 1043, 1044, 68), (1057, 1055, 1056, 68), (1061, 1059, 1060, 68), (1065, 1063, 1064, 68), (1070, 1068, 1069, 68), (1074, 1072, 1073, 68), (1086, 1085, 58, 68), (1094, 1093, 60, 68), (1090, 1089, 59, 68), (1082, 1081, 57, 68), (1078, 1076, 1077, 68), (1098, 1096, 1097, 68), (102, 101, 0, 64), (589, 588, 20, 64), (630, 629, 24, 64), (182, 181, 0, 65), (327, 326, 3, 65), (725, 724, 28, 65), (331, 330, 4, 65), (342, 341, 6, 65), (346, 345, 7, 65), (335, 334, 5, 65), (349, 348, 0, 65), (353, 352, 8, 65), (338, 337, 0, 65), (96, 95, 0, 63), (303, 302, 0, 63), (400, 399, 11, 63), (486, 485, 16, 63), (609, 608, 23, 63), (490, 489, 17, 63), (494, 493, 18, 63), (599, 598, 22, 63), (593, 592, 21, 63), (481, 480, 15, 63), (404, 403, 12, 63), (498, 497, 19, 63), (408, 407, 13, 63), (201, 200, 0, 66), (748, 747, 29, 66), (753, 752, 30, 66), (210, 209, 0, 67), (691, 690, 26, 67), (362, 361, 9, 67), (319, 318, 2, 67), (315, 314, 1, 67), (373, 372, 10, 67), (390, 389, 0, 61), (634, 633, 0, 61), (658, 657, 0, 61), (698, 697, 0, 61), (716, 715, 0, 61), (730, 729, 0, 61), (738, 737, 0, 61), (0, 0, 0, 0), (503, 501, 502, 73), (507, 505, 506, 73), (511, 509, 510, 73), (517, 515, 516, 73), (521, 519, 520, 73), (524, 523, 0, 74), (527, 526, 0, 74), (530, 529, 0, 75), (533, 532, 0, 75), (536, 535, 0, 74), (694, 693, 0, 83)]
/-- methods that catch -/
def pm_hms : List Nat := [114, 115, 116, 117, 118, 119, 120]
def pm_hhl : List (List (Nat × Nat × Nat × Nat)) := [[], [], [], [], [], [], [], [], [], [], [], [], [], [], [], [], [], [], [], [], [], [], [], [], [], [], [], [], [], [], [], [], [], [], [], [], [], [], [], [], [], [], [], [], [], [], [], [], [], [], [], [], [], [], [], [], [], [], [], [], [], [], [], [], [], [], [], [], [], [], [], [], [], [], [], [], [], [], [], [], [], [], [], [], [], [], [], [], [], [], [], [], [], [], [], [], [], [], [], [], [], [], [], [], [], [], [], [], [], [], [], [], [], [], [(0, 8, 11, 13), (0, 8, 14, 15)], [(0, 10, 13, 21)], [(0, 10, 13, 27), (0, 10, 17, 13)], [(0, 10, 13, 21)], [(0, 9, 12, 21), (0, 9, 15, 27)], [(0, 9, 12, 21)], [(0, 9, 12, 27), (0, 9, 15, 13), (0, 9, 18, 15)], [], [], [], [], [], [], [], [], [], [], [], []]
def pm_hh (m : Nat) : List (Nat × Nat × Nat × Nat) := pm_hhl.getD m []
def pm_wcode (m : Nat) : Cond := if pm_hh m = [] then .code (pm_y m) (pm_b m) (pm_ml m) (pm_rt m) else .codeWith (pm_y m) (pm_b m) (pm_ml m) (pm_rt m) (pm_hh m)
def pm_wst (m : Nat) : Cond := if pm_stc m = true then .static (pm_y m) else .instanceMethod (pm_y m)
def pm_wat (m : Nat) : Nat × Nat × Nat × Nat := pm_mw.getD m (0, 0, 0, 0)
theorem pm_w_st : ∀ m, m < 133 → m ≠ 121 → lw_tbl[(pm_wat m).2.1]? = some (pm_wst m) := by decide +kernel
theorem pm_w_sel : ∀ m, m < 133 → m ≠ 121 → (pm_wat m).2.2.1 ≠ 0 ∨ m = 93 → lw_tbl[(pm_wat m).2.2.1]? = some (.selects (pm_y m).cls (pm_y m) (pm_y m)) := by decide +kernel
theorem pm_w_ini : ∀ m, m < 133 → m ≠ 121 → lw_tbl[(pm_wat m).2.2.2]? = some (.initialized (pm_y m).cls) := by decide +kernel
theorem pm_y_pl : ∀ m, m < 133 → m ≠ 129 → m ≠ 130 → plainFor (pm_y m) = true := by decide +kernel
theorem pm_y_mh : ∀ m, m < 133 → (pm_y m).cls ≠ "java/lang/invoke/MethodHandle" ∧ (pm_y m).cls ≠ "java/lang/invoke/VarHandle" := by decide +kernel
theorem pm_y_ds : ∀ m, m < 133 → (parseMethodDescriptor (pm_y m).desc).map (fun d => d.parameters.length + (if pm_stc m = true then 0 else 1)) = some (pm_cat m).length := by decide +kernel
set_option maxRecDepth 100000 in
theorem pm_wc0 : lw_tbl[88]? = some (pm_wcode 0) := by rfl
set_option maxRecDepth 100000 in
theorem pm_wc1 : lw_tbl[296]? = some (pm_wcode 1) := by rfl
set_option maxRecDepth 100000 in
theorem pm_wc2 : lw_tbl[299]? = some (pm_wcode 2) := by rfl
set_option maxRecDepth 100000 in
theorem pm_wc3 : lw_tbl[307]? = some (pm_wcode 3) := by rfl
set_option maxRecDepth 100000 in
theorem pm_wc4 : lw_tbl[396]? = some (pm_wcode 4) := by rfl
set_option maxRecDepth 100000 in
theorem pm_wc5 : lw_tbl[639]? = some (pm_wcode 5) := by rfl
set_option maxRecDepth 100000 in
theorem pm_wc6 : lw_tbl[663]? = some (pm_wcode 6) := by rfl
set_option maxRecDepth 100000 in
theorem pm_wc7 : lw_tbl[686]? = some (pm_wcode 7) := by rfl
set_option maxRecDepth 100000 in
theorem pm_wc8 : lw_tbl[311]? = some (pm_wcode 8) := by rfl
set_option maxRecDepth 100000 in
theorem pm_wc9 : lw_tbl[323]? = some (pm_wcode 9) := by rfl
set_option maxRecDepth 100000 in
theorem pm_wc10 : lw_tbl[702]? = some (pm_wcode 10) := by rfl
set_option maxRecDepth 100000 in
theorem pm_wc11 : lw_tbl[706]? = some (pm_wcode 11) := by rfl
set_option maxRecDepth 100000 in
theorem pm_wc12 : lw_tbl[713]? = some (pm_wcode 12) := by rfl
set_option maxRecDepth 100000 in
theorem pm_wc13 : lw_tbl[710]? = some (pm_wcode 13) := by rfl
set_option maxRecDepth 100000 in
theorem pm_wc14 : lw_tbl[720]? = some (pm_wcode 14) := by rfl
set_option maxRecDepth 100000 in
theorem pm_wc15 : lw_tbl[358]? = some (pm_wcode 15) := by rfl
set_option maxRecDepth 100000 in
theorem pm_wc16 : lw_tbl[369]? = some (pm_wcode 16) := by rfl
set_option maxRecDepth 100000 in
theorem pm_wc17 : lw_tbl[377]? = some (pm_wcode 17) := by rfl
set_option maxRecDepth 100000 in
theorem pm_wc18 : lw_tbl[734]? = some (pm_wcode 18) := by rfl
set_option maxRecDepth 100000 in
theorem pm_wc19 : lw_tbl[382]? = some (pm_wcode 19) := by rfl
set_option maxRecDepth 100000 in
theorem pm_wc20 : lw_tbl[742]? = some (pm_wcode 20) := by rfl
set_option maxRecDepth 100000 in
theorem pm_wc21 : lw_tbl[387]? = some (pm_wcode 21) := by rfl
set_option maxRecDepth 100000 in
theorem pm_wc22 : lw_tbl[763]? = some (pm_wcode 22) := by rfl
set_option maxRecDepth 100000 in
theorem pm_wc23 : lw_tbl[884]? = some (pm_wcode 23) := by rfl
set_option maxRecDepth 100000 in
theorem pm_wc24 : lw_tbl[888]? = some (pm_wcode 24) := by rfl
set_option maxRecDepth 100000 in
theorem pm_wc25 : lw_tbl[893]? = some (pm_wcode 25) := by rfl
set_option maxRecDepth 100000 in
theorem pm_wc26 : lw_tbl[909]? = some (pm_wcode 26) := by rfl
set_option maxRecDepth 100000 in
theorem pm_wc27 : lw_tbl[905]? = some (pm_wcode 27) := by rfl
set_option maxRecDepth 100000 in
theorem pm_wc28 : lw_tbl[901]? = some (pm_wcode 28) := by rfl
set_option maxRecDepth 100000 in
theorem pm_wc29 : lw_tbl[936]? = some (pm_wcode 29) := by rfl
set_option maxRecDepth 100000 in
theorem pm_wc30 : lw_tbl[942]? = some (pm_wcode 30) := by rfl
set_option maxRecDepth 100000 in
theorem pm_wc31 : lw_tbl[946]? = some (pm_wcode 31) := by rfl
set_option maxRecDepth 100000 in
theorem pm_wc32 : lw_tbl[950]? = some (pm_wcode 32) := by rfl
set_option maxRecDepth 100000 in
theorem pm_wc33 : lw_tbl[939]? = some (pm_wcode 33) := by rfl
set_option maxRecDepth 100000 in
theorem pm_wc34 : lw_tbl[928]? = some (pm_wcode 34) := by rfl
set_option maxRecDepth 100000 in
theorem pm_wc35 : lw_tbl[932]? = some (pm_wcode 35) := by rfl
set_option maxRecDepth 100000 in
theorem pm_wc36 : lw_tbl[925]? = some (pm_wcode 36) := by rfl
set_option maxRecDepth 100000 in
theorem pm_wc37 : lw_tbl[964]? = some (pm_wcode 37) := by rfl
set_option maxRecDepth 100000 in
theorem pm_wc38 : lw_tbl[961]? = some (pm_wcode 38) := by rfl
set_option maxRecDepth 100000 in
theorem pm_wc39 : lw_tbl[958]? = some (pm_wcode 39) := by rfl
set_option maxRecDepth 100000 in
theorem pm_wc40 : lw_tbl[954]? = some (pm_wcode 40) := by rfl
set_option maxRecDepth 100000 in
theorem pm_wc41 : lw_tbl[921]? = some (pm_wcode 41) := by rfl
set_option maxRecDepth 100000 in
theorem pm_wc42 : lw_tbl[917]? = some (pm_wcode 42) := by rfl
set_option maxRecDepth 100000 in
theorem pm_wc43 : lw_tbl[968]? = some (pm_wcode 43) := by rfl
set_option maxRecDepth 100000 in
theorem pm_wc44 : lw_tbl[913]? = some (pm_wcode 44) := by rfl
set_option maxRecDepth 100000 in
theorem pm_wc45 : lw_tbl[897]? = some (pm_wcode 45) := by rfl
set_option maxRecDepth 100000 in
theorem pm_wc46 : lw_tbl[972]? = some (pm_wcode 46) := by rfl
set_option maxRecDepth 100000 in
theorem pm_wc47 : lw_tbl[976]? = some (pm_wcode 47) := by rfl
set_option maxRecDepth 100000 in
theorem pm_wc48 : lw_tbl[1015]? = some (pm_wcode 48) := by rfl
set_option maxRecDepth 100000 in
theorem pm_wc49 : lw_tbl[988]? = some (pm_wcode 49) := by rfl
set_option maxRecDepth 100000 in
theorem pm_wc50 : lw_tbl[1023]? = some (pm_wcode 50) := by rfl
set_option maxRecDepth 100000 in
theorem pm_wc51 : lw_tbl[985]? = some (pm_wcode 51) := by rfl
set_option maxRecDepth 100000 in
theorem pm_wc52 : lw_tbl[1019]? = some (pm_wcode 52) := by rfl
set_option maxRecDepth 100000 in
theorem pm_wc53 : lw_tbl[1029]? = some (pm_wcode 53) := by rfl
set_option maxRecDepth 100000 in
theorem pm_wc54 : lw_tbl[1026]? = some (pm_wcode 54) := by rfl
set_option maxRecDepth 100000 in
theorem pm_wc55 : lw_tbl[1012]? = some (pm_wcode 55) := by rfl
set_option maxRecDepth 100000 in
theorem pm_wc56 : lw_tbl[1008]? = some (pm_wcode 56) := by rfl
set_option maxRecDepth 100000 in
theorem pm_wc57 : lw_tbl[1053]? = some (pm_wcode 57) := by rfl
set_option maxRecDepth 100000 in
theorem pm_wc58 : lw_tbl[1033]? = some (pm_wcode 58) := by rfl
set_option maxRecDepth 100000 in
theorem pm_wc59 : lw_tbl[1004]? = some (pm_wcode 59) := by rfl
set_option maxRecDepth 100000 in
theorem pm_wc60 : lw_tbl[1037]? = some (pm_wcode 60) := by rfl
set_option maxRecDepth 100000 in
theorem pm_wc61 : lw_tbl[1049]? = some (pm_wcode 61) := by rfl
set_option maxRecDepth 100000 in
theorem pm_wc62 : lw_tbl[980]? = some (pm_wcode 62) := by rfl
set_option maxRecDepth 100000 in
theorem pm_wc63 : lw_tbl[992]? = some (pm_wcode 63) := by rfl
set_option maxRecDepth 100000 in
theorem pm_wc64 : lw_tbl[1000]? = some (pm_wcode 64) := by rfl
set_option maxRecDepth 100000 in
theorem pm_wc65 : lw_tbl[996]? = some (pm_wcode 65) := by rfl
set_option maxRecDepth 100000 in
theorem pm_wc66 : lw_tbl[1041]? = some (pm_wcode 66) := by rfl
set_option maxRecDepth 100000 in
theorem pm_wc67 : lw_tbl[1045]? = some (pm_wcode 67) := by rfl
set_option maxRecDepth 100000 in
theorem pm_wc68 : lw_tbl[1057]? = some (pm_wcode 68) := by rfl
set_option maxRecDepth 100000 in
theorem pm_wc69 : lw_tbl[1061]? = some (pm_wcode 69) := by rfl
set_option maxRecDepth 100000 in
theorem pm_wc70 : lw_tbl[1065]? = some (pm_wcode 70) := by rfl
set_option maxRecDepth 100000 in
theorem pm_wc71 : lw_tbl[1070]? = some (pm_wcode 71) := by rfl
set_option maxRecDepth 100000 in
theorem pm_wc72 : lw_tbl[1074]? = some (pm_wcode 72) := by rfl
set_option maxRecDepth 100000 in
theorem pm_wc73 : lw_tbl[1086]? = some (pm_wcode 73) := by rfl
set_option maxRecDepth 100000 in
theorem pm_wc74 : lw_tbl[1094]? = some (pm_wcode 74) := by rfl
set_option maxRecDepth 100000 in
theorem pm_wc75 : lw_tbl[1090]? = some (pm_wcode 75) := by rfl
set_option maxRecDepth 100000 in
theorem pm_wc76 : lw_tbl[1082]? = some (pm_wcode 76) := by rfl
set_option maxRecDepth 100000 in
theorem pm_wc77 : lw_tbl[1078]? = some (pm_wcode 77) := by rfl
set_option maxRecDepth 100000 in
theorem pm_wc78 : lw_tbl[1098]? = some (pm_wcode 78) := by rfl
set_option maxRecDepth 100000 in
theorem pm_wc79 : lw_tbl[102]? = some (pm_wcode 79) := by rfl
set_option maxRecDepth 100000 in
theorem pm_wc80 : lw_tbl[589]? = some (pm_wcode 80) := by rfl
set_option maxRecDepth 100000 in
theorem pm_wc81 : lw_tbl[630]? = some (pm_wcode 81) := by rfl
set_option maxRecDepth 100000 in
theorem pm_wc82 : lw_tbl[182]? = some (pm_wcode 82) := by rfl
set_option maxRecDepth 100000 in
theorem pm_wc83 : lw_tbl[327]? = some (pm_wcode 83) := by rfl
set_option maxRecDepth 100000 in
theorem pm_wc84 : lw_tbl[725]? = some (pm_wcode 84) := by rfl
set_option maxRecDepth 100000 in
theorem pm_wc85 : lw_tbl[331]? = some (pm_wcode 85) := by rfl
set_option maxRecDepth 100000 in
theorem pm_wc86 : lw_tbl[342]? = some (pm_wcode 86) := by rfl
set_option maxRecDepth 100000 in
theorem pm_wc87 : lw_tbl[346]? = some (pm_wcode 87) := by rfl
set_option maxRecDepth 100000 in
theorem pm_wc88 : lw_tbl[335]? = some (pm_wcode 88) := by rfl
set_option maxRecDepth 100000 in
theorem pm_wc89 : lw_tbl[349]? = some (pm_wcode 89) := by rfl
set_option maxRecDepth 100000 in
theorem pm_wc90 : lw_tbl[353]? = some (pm_wcode 90) := by rfl
set_option maxRecDepth 100000 in
theorem pm_wc91 : lw_tbl[338]? = some (pm_wcode 91) := by rfl
set_option maxRecDepth 100000 in
theorem pm_wc92 : lw_tbl[96]? = some (pm_wcode 92) := by rfl
set_option maxRecDepth 100000 in
theorem pm_wc93 : lw_tbl[303]? = some (pm_wcode 93) := by rfl
set_option maxRecDepth 100000 in
theorem pm_wc94 : lw_tbl[400]? = some (pm_wcode 94) := by rfl
set_option maxRecDepth 100000 in
theorem pm_wc95 : lw_tbl[486]? = some (pm_wcode 95) := by rfl
set_option maxRecDepth 100000 in
theorem pm_wc96 : lw_tbl[609]? = some (pm_wcode 96) := by rfl
set_option maxRecDepth 100000 in
theorem pm_wc97 : lw_tbl[490]? = some (pm_wcode 97) := by rfl
set_option maxRecDepth 100000 in
theorem pm_wc98 : lw_tbl[494]? = some (pm_wcode 98) := by rfl
set_option maxRecDepth 100000 in
theorem pm_wc99 : lw_tbl[599]? = some (pm_wcode 99) := by rfl
set_option maxRecDepth 100000 in
theorem pm_wc100 : lw_tbl[593]? = some (pm_wcode 100) := by rfl
set_option maxRecDepth 100000 in
theorem pm_wc101 : lw_tbl[481]? = some (pm_wcode 101) := by rfl
set_option maxRecDepth 100000 in
theorem pm_wc102 : lw_tbl[404]? = some (pm_wcode 102) := by rfl
set_option maxRecDepth 100000 in
theorem pm_wc103 : lw_tbl[498]? = some (pm_wcode 103) := by rfl
set_option maxRecDepth 100000 in
theorem pm_wc104 : lw_tbl[408]? = some (pm_wcode 104) := by rfl
set_option maxRecDepth 100000 in
theorem pm_wc105 : lw_tbl[201]? = some (pm_wcode 105) := by rfl
set_option maxRecDepth 100000 in
theorem pm_wc106 : lw_tbl[748]? = some (pm_wcode 106) := by rfl
set_option maxRecDepth 100000 in
theorem pm_wc107 : lw_tbl[753]? = some (pm_wcode 107) := by rfl
set_option maxRecDepth 100000 in
theorem pm_wc108 : lw_tbl[210]? = some (pm_wcode 108) := by rfl
set_option maxRecDepth 100000 in
theorem pm_wc109 : lw_tbl[691]? = some (pm_wcode 109) := by rfl
set_option maxRecDepth 100000 in
theorem pm_wc110 : lw_tbl[362]? = some (pm_wcode 110) := by rfl
set_option maxRecDepth 100000 in
theorem pm_wc111 : lw_tbl[319]? = some (pm_wcode 111) := by rfl
set_option maxRecDepth 100000 in
theorem pm_wc112 : lw_tbl[315]? = some (pm_wcode 112) := by rfl
set_option maxRecDepth 100000 in
theorem pm_wc113 : lw_tbl[373]? = some (pm_wcode 113) := by rfl
set_option maxRecDepth 100000 in
theorem pm_wc114 : lw_tbl[390]? = some (pm_wcode 114) := by rfl
set_option maxRecDepth 100000 in
theorem pm_wc115 : lw_tbl[634]? = some (pm_wcode 115) := by rfl
set_option maxRecDepth 100000 in
theorem pm_wc116 : lw_tbl[658]? = some (pm_wcode 116) := by rfl
set_option maxRecDepth 100000 in
theorem pm_wc117 : lw_tbl[698]? = some (pm_wcode 117) := by rfl
set_option maxRecDepth 100000 in
theorem pm_wc118 : lw_tbl[716]? = some (pm_wcode 118) := by rfl
set_option maxRecDepth 100000 in
theorem pm_wc119 : lw_tbl[730]? = some (pm_wcode 119) := by rfl
set_option maxRecDepth 100000 in
theorem pm_wc120 : lw_tbl[738]? = some (pm_wcode 120) := by rfl
set_option maxRecDepth 100000 in
theorem pm_wc122 : lw_tbl[503]? = some (pm_wcode 122) := by rfl
set_option maxRecDepth 100000 in
theorem pm_wc123 : lw_tbl[507]? = some (pm_wcode 123) := by rfl
set_option maxRecDepth 100000 in
theorem pm_wc124 : lw_tbl[511]? = some (pm_wcode 124) := by rfl
set_option maxRecDepth 100000 in
theorem pm_wc125 : lw_tbl[517]? = some (pm_wcode 125) := by rfl
set_option maxRecDepth 100000 in
theorem pm_wc126 : lw_tbl[521]? = some (pm_wcode 126) := by rfl
set_option maxRecDepth 100000 in
theorem pm_wc127 : lw_tbl[524]? = some (pm_wcode 127) := by rfl
set_option maxRecDepth 100000 in
theorem pm_wc128 : lw_tbl[527]? = some (pm_wcode 128) := by rfl
set_option maxRecDepth 100000 in
theorem pm_wc129 : lw_tbl[530]? = some (pm_wcode 129) := by rfl
set_option maxRecDepth 100000 in
theorem pm_wc130 : lw_tbl[533]? = some (pm_wcode 130) := by rfl
set_option maxRecDepth 100000 in
theorem pm_wc131 : lw_tbl[536]? = some (pm_wcode 131) := by rfl
set_option maxRecDepth 100000 in
theorem pm_wc132 : lw_tbl[694]? = some (pm_wcode 132) := by rfl
end
section
/-- links of System.arraycopy, of Object.<init>: owner, entry; the places of their words -/
def pm_acl : List (Nat × Nat) := [(0, 43), (4, 40)]
def pm_obl : List (Nat × Nat) := [(0, 3), (1, 3), (2, 3), (3, 3), (4, 3), (5, 3), (6, 1)]
def pm_acj : List Nat := [570, 302]
def pm_obj2 : List Nat := [42, 122, 36, 141, 150, 28, 703]
theorem pm_acl_ok : ∀ k, k < 2 → tables_1[pm_acj.getD k 0]? = some (.methodLink (pm_onm (pm_acl.getD k (0, 0)).1) (pm_acl.getD k (0, 0)).2 arraycopyName) := by decide +kernel
theorem pm_obl_ok : ∀ k, k < 7 → tables_1[pm_obj2.getD k 0]? = some (.methodLink (pm_onm (pm_obl.getD k (0, 0)).1) (pm_obl.getD k (0, 0)).2 objectInit) := by decide +kernel
/-- messages of exceptions: owner, entry -/
def pm_msg : List (Nat × Nat) := [(2, 71), (2, 119), (2, 123), (2, 125), (2, 127), (3, 50), (5, 82), (5, 96), (5, 107), (5, 112), (5, 150), (5, 152), (5, 171), (5, 185), (5, 187)]
/-! EACH ROW OF THE TABLES IS THE DECODED INSTRUCTION -/
theorem pm_y_pl2 : plainFor (pm_y 129) = true ∧ plainFor (pm_y 130) = true := by decide +kernel
def pm_cdi (k : Nat) : Jvm.ClassFile.Cond := match k with
  | 0 => .eq
  | 1 => .ne
  | 2 => .lt
  | 3 => .ge
  | 4 => .gt
  | _ => .le
def pm_at1 (k : Nat) : ArrayType := match k with
  | 0 => .int
  | 1 => .char
  | 2 => .boolean
  | _ => .long
/-- is it the instruction that the row says? -/
def pm_dk (own op len a b : Nat) (n : Int32) (pc : Nat) (i : Instr) : Bool := match op with
  | 1 => match i with
    | .iconst k => decide (Int32.ofInt k = n) && len == 1
    | .bipush k => decide ((Int8.ofInt k).toInt32 = n) && len == 2
    | .sipush k => decide ((Int16.ofInt k).toInt32 = n) && len == 3
    | .ldc j => decide ((pm_ck.lookup (own, j)).map (fun q => q.1) = some n) && len == 2
    | _ => false
  | 2 => match i with
    | .iload_n k => k.val == a && len == 1
    | .iload k => k == a && len == 2
    | _ => false
  | 3 => match i with
    | .aload_n k => k.val == a && len == 1
    | .aload k => k == a && len == 2
    | _ => false
  | 4 => match i with
    | .lload_n k => k.val == a && len == 1
    | .lload k => k == a && len == 2
    | _ => false
  | 5 => match i with
    | .istore_n k => k.val == a && len == 1
    | .istore k => k == a && len == 2
    | _ => false
  | 6 => match i with
    | .astore_n k => k.val == a && len == 1
    | .astore k => k == a && len == 2
    | _ => false
  | 8 => match i with
    | .iinc k c => k == a && decide (Int32.ofInt c = n) && len == 3
    | _ => false
  | 9 => decide (i = .iadd) && len == 1
  | 10 => decide (i = .isub) && len == 1
  | 11 => decide (i = .imul) && len == 1
  | 12 => decide (i = .idiv) && len == 1
  | 13 => decide (i = .irem) && len == 1
  | 14 => decide (i = .iand) && len == 1
  | 15 => match i with
    | .ldc2_w j => own == 7 && j == 46 && len == 3
    | _ => false
  | 17 => decide (i = .ishr) && len == 1
  | 18 => decide (i = .iushr) && len == 1
  | 19 => decide (i = .i2b) && len == 1
  | 20 => decide (i = .i2l) && len == 1
  | 21 => decide (i = .l2i) && len == 1
  | 22 => decide (i = .i2c) && len == 1
  | 23 => decide (i = .lshl) && len == 1
  | 24 => decide (i = .lushr) && len == 1
  | 25 => decide (i = .land) && len == 1
  | 26 => decide (i = .lor) && len == 1
  | 27 => decide (i = .lcmp) && len == 1
  | 28 => decide (i = .lshr) && len == 1
  | 29 => match i with
    | .ldc2_w j => own == 6 && j == 78 && len == 3 && decide (n = 255)
    | _ => false
  | 30 => decide (i = .dup) && len == 1
  | 31 => decide (i = .pop) && len == 1
  | 32 => decide (i = .dup) && len == 1
  | 34 => decide (i = .dup2) && len == 1
  | 40 => match i with
    | .ifCond c off => decide (c = pm_cdi b) && decide ((pc : Int) + off = (a : Int)) && len == 3 && decide (b < 6)
    | _ => false
  | 41 => match i with
    | .if_icmp c off => decide (c = pm_cdi b) && decide ((pc : Int) + off = (a : Int)) && len == 3 && decide (b < 6)
    | _ => false
  | 42 => match i with
    | .goto off => decide ((pc : Int) + off = (a : Int)) && len == 3
    | _ => false
  | 43 => match i with
    | .tableswitch d lo hi offs => decide ((pc : Int) + d = (b : Int)) && decide (Int32.ofInt lo = n) && decide ((pm_sw a).length = offs.size) && decide (hi = lo + offs.size - 1) && decide (0 ≤ lo) && decide (hi < 100) && (List.range offs.size).all (fun k => decide ((pc : Int) + offs[k]! = ((pm_sw a).getD k 0 : Int)))
    | _ => false
  | 50 => match i with
    | .getfield j => decide ((pm_fk.lookup (own, j)).map (fun q => (q.1, q.2.1)) = some (a, b)) && !pm_isr a b && len == 3
    | _ => false
  | 51 => match i with
    | .getfield j => decide ((pm_fk.lookup (own, j)).map (fun q => (q.1, q.2.1)) = some (a, b)) && pm_isr a b && len == 3
    | _ => false
  | 52 => match i with
    | .putfield j => decide ((pm_fk.lookup (own, j)).map (fun q => (q.1, q.2.1)) = some (a, b)) && decide (pm_ft a b = pm_ty n.toNatClampNeg) && !(pm_T a b).2.2.2 && len == 3
    | _ => false
  | 53 => match i with
    | .putfield j => decide ((pm_fk.lookup (own, j)).map (fun q => (q.1, q.2.1)) = some (a, b)) && pm_isr a b && (pm_T a b).2.2.2 && own == a && decide ((pm_fk.lookup (own, j)).map (fun q => q.2.2.1) = some 0) && len == 3
    | _ => false
  | 54 => decide (i = (if a = 0 then .iaload else if a = 1 then .caload else .baload)) && len == 1 && decide (a < 3)
  | 55 => decide (i = (if a = 0 then .iastore else if a = 1 then .castore else .bastore)) && len == 1 && decide (a < 3)
  | 56 => decide (i = .arraylength) && len == 1
  | 57 => decide (i = .laload) && len == 1
  | 58 => decide (i = .lastore) && len == 1
  | 59 => decide (i = .aaload) && len == 1 && (a == 4 || a == 5)
  | 60 => match i with
    | .invokevirtual j => decide ((pm_mk.lookup (own, j)).map (fun q => q.1) = some a) && !pm_stc a && b == (pm_cat a).length && decide ((pm_y a).name ≠ "<init>") && len == 3 && decide (a < 133) && decide (a ≠ 121)
    | .invokestatic j => decide ((pm_mk.lookup (own, j)).map (fun q => q.1) = some a) && pm_stc a && b == (pm_cat a).length && len == 3 && decide (a < 133) && decide (a ≠ 121)
    | .invokespecial j => decide ((pm_mk.lookup (own, j)).map (fun q => q.1) = some a) && !pm_stc a && b == (pm_cat a).length && decide ((pm_y a).name = "<init>") && len == 3 && decide (a < 133) && decide (a ≠ 121)
    | _ => false
  | 61 => match i with
    | .invokestatic j => len == 3 && pm_acl.contains (own, j)
    | _ => false
  | 63 => decide (i = .return_) && len == 1
  | 64 => decide (i = .ireturn) && len == 1
  | 70 => decide (i = .aastore) && len == 1
  | 71 => match i with
    | .new j => decide ((pm_kk.lookup (own, j)).map (fun q => q.1) = some a) && len == 3 && decide (a < 7)
    | _ => false
  | 72 => match i with
    | .newarray t => decide (a < 4) && decide (t = pm_at1 a) && len == 2
    | .anewarray j => decide (a = 4) && decide ((pm_kk.lookup (own, j)).map (fun q => q.1) = some 4) && len == 3
    | _ => false
  | 73 => match i with
    | .multianewarray j d => own == 3 && j == 17 && d == 2 && len == 4
    | _ => false
  | 74 => match i with
    | .invokespecial j => len == 3 && pm_obl.contains (own, j)
    | _ => false
  | 80 => match i with
    | .ldc j => decide ((pm_sk.lookup (own, j)).map (fun q => q.1) = some a) && len == 2 && decide (a < 10030)
    | .getstatic j => len == 3 && ((own == 2 && j == 109 && a == 10030) || (own == 2 && j == 112 && a == 10040))
    | _ => false
  | 81 => decide (i = (if a = 0 then .iaload else .baload)) && len == 1
  | 82 => decide (i = .arraylength) && len == 1
  | 83 => decide (i = .iaload) && len == 1
  | 84 => decide (i = .arraylength) && len == 1
  | 85 => match i with
    | .getfield j => own == 8 && j == 9 && len == 3
    | _ => false
  | 86 => match i with
    | .getfield j => own == 8 && j == 15 && len == 3
    | _ => false
  | 87 => match i with
    | .getstatic j => own == 8 && j == 38 && len == 3 && decide (n = 1)
    | _ => false
  | _ => false
/-- the throws: new, dup, ldc, invokespecial, athrow -/
def pm_dth (own len a pc : Nat) (c : ByteArray) : Bool := match decode c pc, decode c (pc + 3), decode c (pc + 4), decode c (pc + 6), decode c (pc + 9) with
  | .ok (.new j, 3), .ok (.dup, 1), .ok (.ldc s, 2), .ok (.invokespecial k, 3), .ok (.athrow, 1) => decide ((pm_jk.lookup (own, j)).map (fun q => q.1) = some a) && decide ((pm_ek.lookup (own, k)).map (fun q => q.1) = some a) && pm_msg.contains (own, s) && len == 10
  | _, _, _, _, _ => false
def pm_ok1 (m : Nat) (e : Nat × pm_I) : Bool := match e with
  | (pc, op, len, a, b, n) => if op = 67 then pm_dth (pm_ow m) len a pc (pm_b m) else match decode (pm_b m) pc with
    | .ok (i, l) => l == len && pm_dk (pm_ow m) op len a b n pc i && (!(op == 5 || op == 6 || op == 8) || a == 0 || !(pm_lgs 0 (pm_cat m)).contains (a - 1)) && (!(op == 5 || op == 6 || op == 8) || decide (a < pm_ml m)) && (!(op == 53) || decide ((pm_y m).name = "<init>"))
    | _ => false
end
section
theorem pm_ok_0 : cd0.all (pm_ok1 0) = true := by decide +kernel
theorem pm_ok_1 : cd1.all (pm_ok1 1) = true := by decide +kernel
theorem pm_ok_2 : cd2.all (pm_ok1 2) = true := by decide +kernel
theorem pm_ok_3 : cd3.all (pm_ok1 3) = true := by decide +kernel
theorem pm_ok_4 : cd4.all (pm_ok1 4) = true := by decide +kernel
theorem pm_ok_5 : cd5.all (pm_ok1 5) = true := by decide +kernel
theorem pm_ok_6 : cd6.all (pm_ok1 6) = true := by decide +kernel
theorem pm_ok_7 : cd7.all (pm_ok1 7) = true := by decide +kernel
theorem pm_ok_8 : cd8.all (pm_ok1 8) = true := by decide +kernel
theorem pm_ok_9 : cd9.all (pm_ok1 9) = true := by decide +kernel
theorem pm_ok_10 : cd10.all (pm_ok1 10) = true := by decide +kernel
theorem pm_ok_11 : cd11.all (pm_ok1 11) = true := by decide +kernel
theorem pm_ok_12 : cd12.all (pm_ok1 12) = true := by decide +kernel
theorem pm_ok_13 : cd13.all (pm_ok1 13) = true := by decide +kernel
theorem pm_ok_14 : cd14.all (pm_ok1 14) = true := by decide +kernel
theorem pm_ok_15 : cd15.all (pm_ok1 15) = true := by decide +kernel
theorem pm_ok_16 : cd16.all (pm_ok1 16) = true := by decide +kernel
theorem pm_ok_17 : cd17.all (pm_ok1 17) = true := by decide +kernel
theorem pm_ok_18 : cd18.all (pm_ok1 18) = true := by decide +kernel
theorem pm_ok_19 : cd19.all (pm_ok1 19) = true := by decide +kernel
theorem pm_ok_20 : cd20.all (pm_ok1 20) = true := by decide +kernel
theorem pm_ok_21 : cd21.all (pm_ok1 21) = true := by decide +kernel
theorem pm_ok_22 : cd22.all (pm_ok1 22) = true := by decide +kernel
theorem pm_ok_23 : cd23.all (pm_ok1 23) = true := by decide +kernel
theorem pm_ok_24 : cd24.all (pm_ok1 24) = true := by decide +kernel
theorem pm_ok_25 : cd25.all (pm_ok1 25) = true := by decide +kernel
theorem pm_ok_26 : cd26.all (pm_ok1 26) = true := by decide +kernel
theorem pm_ok_27 : cd27.all (pm_ok1 27) = true := by decide +kernel
theorem pm_ok_28 : cd28.all (pm_ok1 28) = true := by decide +kernel
theorem pm_ok_29 : cd29.all (pm_ok1 29) = true := by decide +kernel
theorem pm_ok_30 : cd30.all (pm_ok1 30) = true := by decide +kernel
theorem pm_ok_31 : cd31.all (pm_ok1 31) = true := by decide +kernel
theorem pm_ok_32 : cd32.all (pm_ok1 32) = true := by decide +kernel
theorem pm_ok_33 : cd33.all (pm_ok1 33) = true := by decide +kernel
theorem pm_ok_34 : cd34.all (pm_ok1 34) = true := by decide +kernel
theorem pm_ok_35 : cd35.all (pm_ok1 35) = true := by decide +kernel
theorem pm_ok_36 : cd36.all (pm_ok1 36) = true := by decide +kernel
theorem pm_ok_37 : cd37.all (pm_ok1 37) = true := by decide +kernel
theorem pm_ok_38 : cd38.all (pm_ok1 38) = true := by decide +kernel
theorem pm_ok_39 : cd39.all (pm_ok1 39) = true := by decide +kernel
theorem pm_ok_40 : cd40.all (pm_ok1 40) = true := by decide +kernel
theorem pm_ok_41 : cd41.all (pm_ok1 41) = true := by decide +kernel
theorem pm_ok_42 : cd42.all (pm_ok1 42) = true := by decide +kernel
theorem pm_ok_43 : cd43.all (pm_ok1 43) = true := by decide +kernel
theorem pm_ok_44 : cd44.all (pm_ok1 44) = true := by decide +kernel
theorem pm_ok_45 : cd45.all (pm_ok1 45) = true := by decide +kernel
theorem pm_ok_46 : cd46.all (pm_ok1 46) = true := by decide +kernel
theorem pm_ok_47 : cd47.all (pm_ok1 47) = true := by decide +kernel
theorem pm_ok_48 : cd48.all (pm_ok1 48) = true := by decide +kernel
theorem pm_ok_49 : cd49.all (pm_ok1 49) = true := by decide +kernel
theorem pm_ok_50 : cd50.all (pm_ok1 50) = true := by decide +kernel
theorem pm_ok_51 : cd51.all (pm_ok1 51) = true := by decide +kernel
theorem pm_ok_52 : cd52.all (pm_ok1 52) = true := by decide +kernel
theorem pm_ok_53 : cd53.all (pm_ok1 53) = true := by decide +kernel
theorem pm_ok_54 : cd54.all (pm_ok1 54) = true := by decide +kernel
theorem pm_ok_55 : cd55.all (pm_ok1 55) = true := by decide +kernel
theorem pm_ok_56 : cd56.all (pm_ok1 56) = true := by decide +kernel
theorem pm_ok_57 : cd57.all (pm_ok1 57) = true := by decide +kernel
theorem pm_ok_58 : cd58.all (pm_ok1 58) = true := by decide +kernel
theorem pm_ok_59 : cd59.all (pm_ok1 59) = true := by decide +kernel
theorem pm_ok_60 : cd60.all (pm_ok1 60) = true := by decide +kernel
theorem pm_ok_61 : cd61.all (pm_ok1 61) = true := by decide +kernel
theorem pm_ok_62 : cd62.all (pm_ok1 62) = true := by decide +kernel
theorem pm_ok_63 : cd63.all (pm_ok1 63) = true := by decide +kernel
theorem pm_ok_64 : cd64.all (pm_ok1 64) = true := by decide +kernel
theorem pm_ok_65 : cd65.all (pm_ok1 65) = true := by decide +kernel
theorem pm_ok_66 : cd66.all (pm_ok1 66) = true := by decide +kernel
theorem pm_ok_67 : cd67.all (pm_ok1 67) = true := by decide +kernel
theorem pm_ok_68 : cd68.all (pm_ok1 68) = true := by decide +kernel
theorem pm_ok_69 : cd69.all (pm_ok1 69) = true := by decide +kernel
theorem pm_ok_70 : cd70.all (pm_ok1 70) = true := by decide +kernel
theorem pm_ok_71 : cd71.all (pm_ok1 71) = true := by decide +kernel
theorem pm_ok_72 : cd72.all (pm_ok1 72) = true := by decide +kernel
theorem pm_ok_73 : cd73.all (pm_ok1 73) = true := by decide +kernel
theorem pm_ok_74 : cd74.all (pm_ok1 74) = true := by decide +kernel
theorem pm_ok_75 : cd75.all (pm_ok1 75) = true := by decide +kernel
theorem pm_ok_76 : cd76.all (pm_ok1 76) = true := by decide +kernel
theorem pm_ok_77 : cd77.all (pm_ok1 77) = true := by decide +kernel
theorem pm_ok_78 : cd78.all (pm_ok1 78) = true := by decide +kernel
theorem pm_ok_79 : cd79.all (pm_ok1 79) = true := by decide +kernel
theorem pm_ok_80 : cd80.all (pm_ok1 80) = true := by decide +kernel
theorem pm_ok_81 : cd81.all (pm_ok1 81) = true := by decide +kernel
theorem pm_ok_82 : cd82.all (pm_ok1 82) = true := by decide +kernel
theorem pm_ok_83 : cd83.all (pm_ok1 83) = true := by decide +kernel
theorem pm_ok_84 : cd84.all (pm_ok1 84) = true := by decide +kernel
theorem pm_ok_85 : cd85.all (pm_ok1 85) = true := by decide +kernel
theorem pm_ok_86 : cd86.all (pm_ok1 86) = true := by decide +kernel
theorem pm_ok_87 : cd87.all (pm_ok1 87) = true := by decide +kernel
theorem pm_ok_88 : cd88.all (pm_ok1 88) = true := by decide +kernel
theorem pm_ok_89 : cd89.all (pm_ok1 89) = true := by decide +kernel
theorem pm_ok_90 : cd90.all (pm_ok1 90) = true := by decide +kernel
theorem pm_ok_91 : cd91.all (pm_ok1 91) = true := by decide +kernel
theorem pm_ok_92 : cd92.all (pm_ok1 92) = true := by decide +kernel
theorem pm_ok_93 : cd93.all (pm_ok1 93) = true := by decide +kernel
theorem pm_ok_94 : cd94.all (pm_ok1 94) = true := by decide +kernel
theorem pm_ok_95 : cd95.all (pm_ok1 95) = true := by decide +kernel
theorem pm_ok_96 : cd96.all (pm_ok1 96) = true := by decide +kernel
theorem pm_ok_97 : cd97.all (pm_ok1 97) = true := by decide +kernel
theorem pm_ok_98 : cd98.all (pm_ok1 98) = true := by decide +kernel
theorem pm_ok_99 : cd99.all (pm_ok1 99) = true := by decide +kernel
theorem pm_ok_100 : cd100.all (pm_ok1 100) = true := by decide +kernel
theorem pm_ok_101 : cd101.all (pm_ok1 101) = true := by decide +kernel
theorem pm_ok_102 : cd102.all (pm_ok1 102) = true := by decide +kernel
theorem pm_ok_103 : cd103.all (pm_ok1 103) = true := by decide +kernel
theorem pm_ok_104 : cd104.all (pm_ok1 104) = true := by decide +kernel
theorem pm_ok_105 : cd105.all (pm_ok1 105) = true := by decide +kernel
theorem pm_ok_106 : cd106.all (pm_ok1 106) = true := by decide +kernel
theorem pm_ok_107 : cd107.all (pm_ok1 107) = true := by decide +kernel
theorem pm_ok_108 : cd108.all (pm_ok1 108) = true := by decide +kernel
theorem pm_ok_109 : cd109.all (pm_ok1 109) = true := by decide +kernel
theorem pm_ok_110 : cd110.all (pm_ok1 110) = true := by decide +kernel
theorem pm_ok_111 : cd111.all (pm_ok1 111) = true := by decide +kernel
theorem pm_ok_112 : cd112.all (pm_ok1 112) = true := by decide +kernel
theorem pm_ok_113 : cd113.all (pm_ok1 113) = true := by decide +kernel
theorem pm_ok_114 : cd114.all (pm_ok1 114) = true := by decide +kernel
theorem pm_ok_115 : cd115.all (pm_ok1 115) = true := by decide +kernel
theorem pm_ok_116 : cd116.all (pm_ok1 116) = true := by decide +kernel
theorem pm_ok_117 : cd117.all (pm_ok1 117) = true := by decide +kernel
theorem pm_ok_118 : cd118.all (pm_ok1 118) = true := by decide +kernel
theorem pm_ok_119 : cd119.all (pm_ok1 119) = true := by decide +kernel
theorem pm_ok_120 : cd120.all (pm_ok1 120) = true := by decide +kernel
theorem pm_ok_122 : cd122.all (pm_ok1 122) = true := by decide +kernel
theorem pm_ok_123 : cd123.all (pm_ok1 123) = true := by decide +kernel
theorem pm_ok_124 : cd124.all (pm_ok1 124) = true := by decide +kernel
theorem pm_ok_125 : cd125.all (pm_ok1 125) = true := by decide +kernel
theorem pm_ok_126 : cd126.all (pm_ok1 126) = true := by decide +kernel
theorem pm_ok_127 : cd127.all (pm_ok1 127) = true := by decide +kernel
theorem pm_ok_128 : cd128.all (pm_ok1 128) = true := by decide +kernel
theorem pm_ok_129 : cd129.all (pm_ok1 129) = true := by decide +kernel
theorem pm_ok_130 : cd130.all (pm_ok1 130) = true := by decide +kernel
theorem pm_ok_131 : cd131.all (pm_ok1 131) = true := by decide +kernel
theorem pm_ok_132 : cd132.all (pm_ok1 132) = true := by decide +kernel
end
section
/-! the law, row by row -/
theorem pm_ok_121_0 : cd121_0.all (pm_ok1 121) = true := by decide +kernel
theorem pm_ok_121_1 : cd121_1.all (pm_ok1 121) = true := by decide +kernel
theorem pm_ok_121_2 : cd121_2.all (pm_ok1 121) = true := by decide +kernel
theorem pm_ok_121_3 : cd121_3.all (pm_ok1 121) = true := by decide +kernel
theorem pm_ok_121_4 : cd121_4.all (pm_ok1 121) = true := by decide +kernel
end
section
/-! the law, row by row -/
theorem pm_ok_121_5 : cd121_5.all (pm_ok1 121) = true := by decide +kernel
theorem pm_ok_121_6 : cd121_6.all (pm_ok1 121) = true := by decide +kernel
theorem pm_ok_121_7 : cd121_7.all (pm_ok1 121) = true := by decide +kernel
theorem pm_ok_121_8 : cd121_8.all (pm_ok1 121) = true := by decide +kernel
theorem pm_ok_121_9 : cd121_9.all (pm_ok1 121) = true := by decide +kernel
end
section
/-! the law, row by row -/
theorem pm_ok_121_10 : cd121_10.all (pm_ok1 121) = true := by decide +kernel
theorem pm_ok_121_11 : cd121_11.all (pm_ok1 121) = true := by decide +kernel
theorem pm_ok_121_12 : cd121_12.all (pm_ok1 121) = true := by decide +kernel
end
section
/-! ALL ROWS OF THE TABLES -/
def pm_okP (k : Nat) (l : List (List (Nat × pm_I))) : Prop := ∀ i, (l.getD i []).all (pm_ok1 (k + i)) = true
theorem pm_okn {k : Nat} : pm_okP k [] := fun i => by simp
theorem pm_okc {k : Nat} {c : List (Nat × pm_I)} {l : List (List (Nat × pm_I))} (h : c.all (pm_ok1 k) = true) (h1 : pm_okP (k + 1) l) : pm_okP k (c :: l) := fun i => by
  cases i with
  | zero => exact h
  | succ i =>
    have := h1 i
    rw [show k + 1 + i = k + (i + 1) by omega] at this
    exact this
theorem pm_ok_121 : cd121.all (pm_ok1 121) = true := by
  unfold cd121
  simp only [List.all_append, Bool.and_eq_true]
  exact ⟨⟨⟨⟨⟨⟨⟨⟨⟨⟨⟨⟨pm_ok_121_0, pm_ok_121_1⟩, pm_ok_121_2⟩, pm_ok_121_3⟩, pm_ok_121_4⟩, pm_ok_121_5⟩, pm_ok_121_6⟩, pm_ok_121_7⟩, pm_ok_121_8⟩, pm_ok_121_9⟩, pm_ok_121_10⟩, pm_ok_121_11⟩, pm_ok_121_12⟩
theorem pm_ok_t133 : pm_okP 133 [] := pm_okn
def pm_cdt120 : List (List (Nat × pm_I)) := cd120 :: cd121 :: cd122 :: cd123 :: cd124 :: cd125 :: cd126 :: cd127 :: cd128 :: cd129 :: cd130 :: cd131 :: cd132 :: []
theorem pm_ok_t120 : pm_okP 120 pm_cdt120 := pm_okc (k := 120) pm_ok_120 <| pm_okc (k := 121) pm_ok_121 <| pm_okc (k := 122) pm_ok_122 <| pm_okc (k := 123) pm_ok_123 <| pm_okc (k := 124) pm_ok_124 <| pm_okc (k := 125) pm_ok_125 <| pm_okc (k := 126) pm_ok_126 <| pm_okc (k := 127) pm_ok_127 <| pm_okc (k := 128) pm_ok_128 <| pm_okc (k := 129) pm_ok_129 <| pm_okc (k := 130) pm_ok_130 <| pm_okc (k := 131) pm_ok_131 <| pm_okc (k := 132) pm_ok_132 <| pm_ok_t133
def pm_cdt100 : List (List (Nat × pm_I)) := cd100 :: cd101 :: cd102 :: cd103 :: cd104 :: cd105 :: cd106 :: cd107 :: cd108 :: cd109 :: cd110 :: cd111 :: cd112 :: cd113 :: cd114 :: cd115 :: cd116 :: cd117 :: cd118 :: cd119 :: pm_cdt120
theorem pm_ok_t100 : pm_okP 100 pm_cdt100 := pm_okc (k := 100) pm_ok_100 <| pm_okc (k := 101) pm_ok_101 <| pm_okc (k := 102) pm_ok_102 <| pm_okc (k := 103) pm_ok_103 <| pm_okc (k := 104) pm_ok_104 <| pm_okc (k := 105) pm_ok_105 <| pm_okc (k := 106) pm_ok_106 <| pm_okc (k := 107) pm_ok_107 <| pm_okc (k := 108) pm_ok_108 <| pm_okc (k := 109) pm_ok_109 <| pm_okc (k := 110) pm_ok_110 <| pm_okc (k := 111) pm_ok_111 <| pm_okc (k := 112) pm_ok_112 <| pm_okc (k := 113) pm_ok_113 <| pm_okc (k := 114) pm_ok_114 <| pm_okc (k := 115) pm_ok_115 <| pm_okc (k := 116) pm_ok_116 <| pm_okc (k := 117) pm_ok_117 <| pm_okc (k := 118) pm_ok_118 <| pm_okc (k := 119) pm_ok_119 <| pm_ok_t120
def pm_cdt80 : List (List (Nat × pm_I)) := cd80 :: cd81 :: cd82 :: cd83 :: cd84 :: cd85 :: cd86 :: cd87 :: cd88 :: cd89 :: cd90 :: cd91 :: cd92 :: cd93 :: cd94 :: cd95 :: cd96 :: cd97 :: cd98 :: cd99 :: pm_cdt100
theorem pm_ok_t80 : pm_okP 80 pm_cdt80 := pm_okc (k := 80) pm_ok_80 <| pm_okc (k := 81) pm_ok_81 <| pm_okc (k := 82) pm_ok_82 <| pm_okc (k := 83) pm_ok_83 <| pm_okc (k := 84) pm_ok_84 <| pm_okc (k := 85) pm_ok_85 <| pm_okc (k := 86) pm_ok_86 <| pm_okc (k := 87) pm_ok_87 <| pm_okc (k := 88) pm_ok_88 <| pm_okc (k := 89) pm_ok_89 <| pm_okc (k := 90) pm_ok_90 <| pm_okc (k := 91) pm_ok_91 <| pm_okc (k := 92) pm_ok_92 <| pm_okc (k := 93) pm_ok_93 <| pm_okc (k := 94) pm_ok_94 <| pm_okc (k := 95) pm_ok_95 <| pm_okc (k := 96) pm_ok_96 <| pm_okc (k := 97) pm_ok_97 <| pm_okc (k := 98) pm_ok_98 <| pm_okc (k := 99) pm_ok_99 <| pm_ok_t100
def pm_cdt60 : List (List (Nat × pm_I)) := cd60 :: cd61 :: cd62 :: cd63 :: cd64 :: cd65 :: cd66 :: cd67 :: cd68 :: cd69 :: cd70 :: cd71 :: cd72 :: cd73 :: cd74 :: cd75 :: cd76 :: cd77 :: cd78 :: cd79 :: pm_cdt80
theorem pm_ok_t60 : pm_okP 60 pm_cdt60 := pm_okc (k := 60) pm_ok_60 <| pm_okc (k := 61) pm_ok_61 <| pm_okc (k := 62) pm_ok_62 <| pm_okc (k := 63) pm_ok_63 <| pm_okc (k := 64) pm_ok_64 <| pm_okc (k := 65) pm_ok_65 <| pm_okc (k := 66) pm_ok_66 <| pm_okc (k := 67) pm_ok_67 <| pm_okc (k := 68) pm_ok_68 <| pm_okc (k := 69) pm_ok_69 <| pm_okc (k := 70) pm_ok_70 <| pm_okc (k := 71) pm_ok_71 <| pm_okc (k := 72) pm_ok_72 <| pm_okc (k := 73) pm_ok_73 <| pm_okc (k := 74) pm_ok_74 <| pm_okc (k := 75) pm_ok_75 <| pm_okc (k := 76) pm_ok_76 <| pm_okc (k := 77) pm_ok_77 <| pm_okc (k := 78) pm_ok_78 <| pm_okc (k := 79) pm_ok_79 <| pm_ok_t80
def pm_cdt40 : List (List (Nat × pm_I)) := cd40 :: cd41 :: cd42 :: cd43 :: cd44 :: cd45 :: cd46 :: cd47 :: cd48 :: cd49 :: cd50 :: cd51 :: cd52 :: cd53 :: cd54 :: cd55 :: cd56 :: cd57 :: cd58 :: cd59 :: pm_cdt60
theorem pm_ok_t40 : pm_okP 40 pm_cdt40 := pm_okc (k := 40) pm_ok_40 <| pm_okc (k := 41) pm_ok_41 <| pm_okc (k := 42) pm_ok_42 <| pm_okc (k := 43) pm_ok_43 <| pm_okc (k := 44) pm_ok_44 <| pm_okc (k := 45) pm_ok_45 <| pm_okc (k := 46) pm_ok_46 <| pm_okc (k := 47) pm_ok_47 <| pm_okc (k := 48) pm_ok_48 <| pm_okc (k := 49) pm_ok_49 <| pm_okc (k := 50) pm_ok_50 <| pm_okc (k := 51) pm_ok_51 <| pm_okc (k := 52) pm_ok_52 <| pm_okc (k := 53) pm_ok_53 <| pm_okc (k := 54) pm_ok_54 <| pm_okc (k := 55) pm_ok_55 <| pm_okc (k := 56) pm_ok_56 <| pm_okc (k := 57) pm_ok_57 <| pm_okc (k := 58) pm_ok_58 <| pm_okc (k := 59) pm_ok_59 <| pm_ok_t60
def pm_cdt20 : List (List (Nat × pm_I)) := cd20 :: cd21 :: cd22 :: cd23 :: cd24 :: cd25 :: cd26 :: cd27 :: cd28 :: cd29 :: cd30 :: cd31 :: cd32 :: cd33 :: cd34 :: cd35 :: cd36 :: cd37 :: cd38 :: cd39 :: pm_cdt40
theorem pm_ok_t20 : pm_okP 20 pm_cdt20 := pm_okc (k := 20) pm_ok_20 <| pm_okc (k := 21) pm_ok_21 <| pm_okc (k := 22) pm_ok_22 <| pm_okc (k := 23) pm_ok_23 <| pm_okc (k := 24) pm_ok_24 <| pm_okc (k := 25) pm_ok_25 <| pm_okc (k := 26) pm_ok_26 <| pm_okc (k := 27) pm_ok_27 <| pm_okc (k := 28) pm_ok_28 <| pm_okc (k := 29) pm_ok_29 <| pm_okc (k := 30) pm_ok_30 <| pm_okc (k := 31) pm_ok_31 <| pm_okc (k := 32) pm_ok_32 <| pm_okc (k := 33) pm_ok_33 <| pm_okc (k := 34) pm_ok_34 <| pm_okc (k := 35) pm_ok_35 <| pm_okc (k := 36) pm_ok_36 <| pm_okc (k := 37) pm_ok_37 <| pm_okc (k := 38) pm_ok_38 <| pm_okc (k := 39) pm_ok_39 <| pm_ok_t40
def pm_cdt0 : List (List (Nat × pm_I)) := cd0 :: cd1 :: cd2 :: cd3 :: cd4 :: cd5 :: cd6 :: cd7 :: cd8 :: cd9 :: cd10 :: cd11 :: cd12 :: cd13 :: cd14 :: cd15 :: cd16 :: cd17 :: cd18 :: cd19 :: pm_cdt20
theorem pm_ok_t0 : pm_okP 0 pm_cdt0 := pm_okc (k := 0) pm_ok_0 <| pm_okc (k := 1) pm_ok_1 <| pm_okc (k := 2) pm_ok_2 <| pm_okc (k := 3) pm_ok_3 <| pm_okc (k := 4) pm_ok_4 <| pm_okc (k := 5) pm_ok_5 <| pm_okc (k := 6) pm_ok_6 <| pm_okc (k := 7) pm_ok_7 <| pm_okc (k := 8) pm_ok_8 <| pm_okc (k := 9) pm_ok_9 <| pm_okc (k := 10) pm_ok_10 <| pm_okc (k := 11) pm_ok_11 <| pm_okc (k := 12) pm_ok_12 <| pm_okc (k := 13) pm_ok_13 <| pm_okc (k := 14) pm_ok_14 <| pm_okc (k := 15) pm_ok_15 <| pm_okc (k := 16) pm_ok_16 <| pm_okc (k := 17) pm_ok_17 <| pm_okc (k := 18) pm_ok_18 <| pm_okc (k := 19) pm_ok_19 <| pm_ok_t20
theorem pm_okall (m : Nat) : (pm_cdl.getD m []).all (pm_ok1 m) = true := by
  have h := pm_ok_t0 m
  rw [Nat.zero_add] at h
  exact h
/-- a row, by its place -/
theorem pm_row {m pc : Nat} {i : pm_I} (h : pm_cd m pc = some i) : pm_ok1 m (pc, i) = true := by
  have h1 := List.all_eq_true.mp (pm_okall m) (pc, i)
  refine h1 ?_
  unfold pm_cd at h
  generalize pm_cdl.getD m [] = l at h
  induction l with
  | nil => cases h
  | cons x t ih =>
    obtain ⟨u, v⟩ := x
    rw [List.lookup_cons] at h
    cases e : pc == u with
    | true =>
      rw [e] at h
      cases h
      rw [eq_of_beq e]
      exact List.mem_cons_self
    | false =>
      rw [e] at h
      exact List.mem_cons_of_mem _ (ih h)
theorem pm_cd_lt {m pc : Nat} {i : pm_I} (h : pm_cd m pc = some i) : m < 133 := by
  refine Nat.lt_of_not_le (fun hm => ?_)
  unfold pm_cd at h
  rw [List.getD_eq_getElem?_getD, List.getElem?_eq_none (show pm_cdl.length ≤ m from hm)] at h
  cases h
end
section
theorem pm_lk {α β : Type} [BEq α] [LawfulBEq α] {l : List (α × β)} {a : α} {b : β} (h : l.lookup a = some b) : (a, b) ∈ l := by
  induction l with
  | nil => cases h
  | cons x t ih =>
    obtain ⟨u, v⟩ := x
    rw [List.lookup_cons] at h
    cases e : a == u with
    | true =>
      rw [e] at h
      cases h
      rw [eq_of_beq e]
      exact List.mem_cons_self
    | false =>
      rw [e] at h
      exact List.mem_cons_of_mem _ (ih h)
/-! WHAT STANDS AT EACH PLACE of a method's walk -/
/-- words that stay true when the tables get warmer -/
def pm_gw (w : Cond) : Bool := goodWord w || match w with
  | .fieldLinkNest .. => true
  | .methodLinkNest .. => true
  | _ => w.onTables && w.keepsFace
def pm_Ts : List Cond := lw_tbl.filter pm_gw
def pm_Wd (U : State) : Prop := ∀ (a : Array Value) (w : Cond), w ∈ pm_Ts → w.before a U = true
theorem pm_Wd.warm {s U : State} (h : pm_Wd s) (hW : s.WarmedH U.vm) : pm_Wd U := by
  intro a w hw
  have hb := h #[] w hw
  have hg := (List.mem_filter.mp hw).2
  unfold pm_gw at hg
  rw [Bool.or_eq_true] at hg
  rcases hg with hg | hg
  · exact word_at hW (good_of_word hg) hb
  · split at hg
    · exact va_Nw.use rfl (va_Nw.warmF hW (va_Nw.of rfl hb))
    · exact va_Nw.use rfl (va_Nw.warmM hW (va_Nw.of rfl hb))
    · rw [Bool.and_eq_true] at hg
      exact va_tabs hg.1 (rfl : (s.setVm U.vm).vm = U.vm) (Cond.before_shiftedFace (State.Shifted.of_warmed hW) w hg.2 hb)
theorem pm_Ts_of {w : Cond} (i : Nat) (h : tables_1[i]? = some w) (hg : pm_gw w = true) : w ∈ pm_Ts := List.mem_filter.mpr ⟨lw_of i h, hg⟩
theorem pm_in1 {c : Nat} (hc : c < 7) : ∀ w ∈ u_ws (pm_cnm c) (pm_T c) (pm_nf c), w ∈ pm_Ts := by
  intro w hw
  refine List.mem_filter.mpr ⟨pm_in0 hc w hw, ?_⟩
  obtain ⟨k, hk, rfl⟩ := List.mem_map.mp hw
  unfold u_lay
  split <;> rfl
/-- the Strings: their numbers and texts -/
def pm_txt (x : Nat) : String := if x = 10000 then "wxyz" else if x = 10010 then "hgstpq" else "|&<=+-*"
/-- one String, its bytes -/
def pm_FS (z : Nat) (ad : Nat → Nat) (x : Nat) (U : State) : Prop := (∀ q ∈ pm_sk, q.2.1 = x → vk_R (pm_onm q.1.1) q.1.2 (pm_txt x) (ad x) U) ∧ va_O "java/lang/String" (ad x) (fun q => z ≤ q) U U.heap ∧ va_OF "java/lang/String" "value" "[B" (.ref (ad (x + 1))) (ad x) (fun q => z ≤ q) U U.heap ∧ va_OF "java/lang/String" "coder" "B" (.int 0) (ad x) (fun q => z ≤ q) U U.heap ∧ va_T .byte (ad (x + 1)) (pm_tabn (x + 1)) (fun j => .int (pm_tab (x + 1) j)) (fun q => z ≤ q) U U.heap
/-- a static array -/
def pm_FT (z : Nat) (ad : Nat → Nat) (x : Nat) (nm : String) (U : State) : Prop := va_Z "CardWorkshop$Reader" nm "[I" (.ref (ad x)) (fun q => z ≤ q) U U.heap ∧ va_T .int (ad x) (pm_tabn x) (fun j => .int (pm_tab x j)) (fun q => z ≤ q) U U.heap
/-- a static field of Throwable: laid, a reference or null -/
def pm_LS (z : Nat) (n d : String) (U : State) : Prop := ∃ (c : ClassId) (k : Class) (i : Nat) (f : Field) (a : Nat) (cell : Cell) (v : Value), U.vm.findClass "java/lang/Throwable" = some c ∧ U.fieldFound? "java/lang/Throwable" n d = some (c, k, i, f) ∧ f.isStatic = true ∧ k.statics = some a ∧ U.heap[a]? = some cell ∧ cell.vm.isStatics = true ∧ cell.cls = c ∧ f.slot < cell.slots.size ∧ k.staticTypes[f.slot]? = some f.type ∧ cell.slots[f.slot]? = some v ∧ (v = .null ∨ ∃ t, v = .ref t) ∧ a < z
theorem pm_LS.go {z : Nat} {n d : String} {s U : State} (h : pm_LS z n d s) (hal : s.vm.Alike U.vm) (hh : ∀ q : Nat, q < s.heap.size → ¬ z ≤ q → U.heap[q]? = s.heap[q]?) : pm_LS z n d U := by
  obtain ⟨c, k, i, f, a, cell, v, h1, h2, h3, h4, h5, h6, h7, h8, h9, h10, h11, h12⟩ := h
  obtain ⟨k', hf', he⟩ := State.fieldFound?_setVm hal h2
  exact ⟨c, k', i, f, a, cell, v, by rw [hal.findClass]; exact h1, hf', h3, by rw [he]; exact h4, (hh a (Array.getElem?_eq_some_iff.mp h5).1 (Nat.not_le.mpr h12)).trans h5, h6, h7, h8, by rw [he]; exact h9, h10, h11, h12⟩
theorem pm_LS.lays {z : Nat} {n d : String} {s : State} (h : pm_LS z n d s) (args : Array Value) : (Cond.laysStatic "java/lang/Throwable" n d).before args s = true := by
  obtain ⟨c, k, i, f, a, cell, v, h1, h2, h3, h4, h5, h6, h7, h8, h9, h10, h11, h12⟩ := h
  exact Cond.laysStatic_of h1 h2 h3 h4 h5 h6 h7 h8 h9
theorem pm_LS.ref {z : Nat} {n d : String} {s : State} (h : pm_LS z n d s) (args : Array Value) : (Cond.isRef (.static "java/lang/Throwable" n d)).before args s = true := by
  obtain ⟨c, k, i, f, a, cell, v, h1, h2, h3, h4, h5, h6, h7, h8, h9, h10, h11, h12⟩ := h
  have hv : (Term.static "java/lang/Throwable" n d).eval args s none [] s = some v := Term.static_eval h2 h3 h4 h5 h6 h10
  rcases h11 with rfl | ⟨t, rfl⟩ <;> simp [Cond.before, Cond.holds, Cond.value, hv]
/-- what stays the same from the law's start on: the words, the Strings, the static arrays, the script -/
def pm_F (z : Nat) (ad : Nat → Nat) (L : Nat) (xs : Nat → Int32) (U : State) : Prop :=
  pm_Wd U ∧ (pm_FS z ad 10000 U ∧ pm_FS z ad 10010 U ∧ pm_FS z ad 10020 U) ∧ (pm_FT z ad 10030 "OPERATOR_LEVELS" U ∧ pm_FT z ad 10040 "OPERATOR_CODES" U) ∧ va_Z "java/lang/String" "COMPACT_STRINGS" "Z" (.int 1) (fun q => z ≤ q) U U.heap ∧
  (va_X (ad 20000) L xs U U.heap ∧ ad 20000 < z) ∧ (va_AO "CardWorkshop$Table" U ∧ (Cond.arrayOver (.array .int)).before #[] U = true) ∧
  (pm_LS z "UNASSIGNED_STACK" "[Ljava/lang/StackTraceElement;" U ∧ pm_LS z "SUPPRESSED_SENTINEL" "Ljava/util/List;" U) ∧ (∀ j k, j < 4 → k < 4 → j ≠ k → va_Nc (pm_ex j) (pm_ex k) U) ∧ (∀ q ∈ pm_msg, ∃ (tx : String) (a : Nat), vk_R (pm_onm q.1) q.2 tx a U)
def pm_X (p : Program) (s : State) (mi : MethodId) (args : Array Value) (meth : Method) (c : Code) (m z L : Nat) (xs : Nat → Int32) (D : va_G) (dA : Nat → ClassId) (ad : Nat → Nat) : Prop :=
  (p.tables.exec = Jvm.exec ∧ c.code = pm_b m ∧ c.maxLocals = pm_ml m ∧ s.vm.findClass (pm_onm (pm_ow m)) = some mi.cls ∧ meth.locks = false ∧ meth.name = (pm_y m).name ∧ meth.sig.returnType = pm_rt m) ∧ va_K D pm_vw (pm_tys dA) s ∧ pm_F z ad L xs s ∧ pm_ad z ad ∧ z ≤ s.heap.size
def pm_V (s : State) (z L : Nat) (xs : Nat → Int32) (D : va_G) (dA : Nat → ClassId) (ad : Nat → Nat) (M : pm_Mem) (H : Heap) (locs : List Loc) : Prop :=
  va_P D pm_vw (pm_ws dA ad M) H ∧ va_S (fun q => z ≤ q) s.heap H locs ∧ M.1 ≤ pm_n ∧ ((∀ j, j < L → M.2.1 20000 j = xs j) ∧ M.2.1 20001 0 = nI L ∧ L ≤ 2048)
def pm_slt (q : Nat × Nat) : Nat := if q.1 = 0 then pm_nf q.2 else q.2
/-- the slots of the first k cells -/
def pm_sl : Nat → Nat
  | 0 => 0
  | k + 1 => pm_sl k + pm_slt (pm_sh k)
/-- an instruction by its number is sound -/
def pm_Snd (op : Nat) : Prop := ∀ (p : Program) (l : Launch) (e : Env) (R : Room) (s : State) (mi : MethodId) (args : Array Value) (below : List Frame) (meth : Method) (c : Code) (Q : State → Prop) (m z L : Nat) (xs : Nat → Int32) (D : va_G) (dA : Nat → ClassId) (ad : Nat → Nat) (pc len a b : Nat) (n : Int32) (ls ls' : pm_Loc) (st st' : List Value) (M M' : pm_Mem) (g : Prop) (pc' : Nat) (i : Instr) (lsC : Array Slot) (H : Heap) (locs : List Loc) (cells slots : Nat),
  pm_X p s mi args meth c m z L xs D dA ad → decode (pm_b m) pc = .ok (i, len) → pm_dk (pm_ow m) op len a b n pc i = true → ((op = 5 ∨ op = 6 ∨ op = 8) → ∀ j, j + 1 = a → j ∉ pm_lgs 0 (pm_cat m)) → (op = 53 → (pm_y m).name = "<init>") → pm_next op len a b n pc ls st M = some (g, pc', ls', st', M') → g → pm_J m ls → pm_LV ad lsC ls → pm_V s z L xs D dA ad M H locs → (M.1 < pm_n → pm_ct M = 0 → s.heap.size + cells = z + M.1) →
  (cells + M'.1 ≤ R.cells + M.1 ∧ slots + pm_sl M'.1 ≤ R.slots + pm_sl M.1 ∧ 4 ≤ R.frames ∧ 200 ≤ R.locals) →
  (∀ (lsC' : Array Slot) (H' : Heap) (locs' : List Loc) (cells' slots' : Nat), pm_J m ls' → pm_LV ad lsC' ls' → pm_V s z L xs D dA ad M' H' locs' → cells' + M.1 = cells + M'.1 → slots' + pm_sl M.1 = slots + pm_sl M'.1 → W p l e R s mi args below meth c H' locs' cells' slots' Q (F0 mi pc' lsC' (st'.map (pm_cz ad)))) →
  W p l e R s mi args below meth c H locs cells slots Q (F0 mi pc lsC (st.map (pm_cz ad)))
theorem pm_s1 : pm_Snd 1 := by
  intro p l e R s mi args below meth c Q m z L xs D dA ad pc len a b n ls ls' st st' M M' g pc' i lsC H locs cells slots hX hd hk hs hs0 hn hg hJ hL hV hph hR kk
  obtain ⟨⟨hx, hb, hml, hown, hlocks, hnm, hret⟩, hK, hF, had, hz⟩ := hX
  cases hn
  have kk := kk lsC H locs cells slots hJ hL hV rfl rfl
  simp only [pm_dk] at hk
  split at hk
  · simp only [Bool.and_eq_true, decide_eq_true_eq, beq_iff_eq] at hk
    obtain ⟨h1, rfl⟩ := hk
    exact lv_iconst hx hb hd h1 kk
  · simp only [Bool.and_eq_true, decide_eq_true_eq, beq_iff_eq] at hk
    obtain ⟨h1, rfl⟩ := hk
    exact lv_bipush hx hb hd h1 kk
  · simp only [Bool.and_eq_true, decide_eq_true_eq, beq_iff_eq] at hk
    obtain ⟨h1, rfl⟩ := hk
    exact lv_sipush hx hb hd h1 kk
  · simp only [Bool.and_eq_true, decide_eq_true_eq, beq_iff_eq] at hk
    obtain ⟨h1, rfl⟩ := hk
    rw [Option.map_eq_some_iff] at h1
    obtain ⟨⟨w, j⟩, h1, rfl⟩ := h1
    exact lv_ldc hx hb hown (hF.1 _ _ (pm_Ts_of _ (pm_ck_ok _ (pm_lk h1)) rfl)) hd kk
  · cases hk
theorem pm_s2 : pm_Snd 2 := by
  intro p l e R s mi args below meth c Q m z L xs D dA ad pc len a b n ls ls' st st' M M' g pc' i lsC H locs cells slots hX hd hk hs hs0 hn hg hJ hL hV hph hR kk
  obtain ⟨⟨hx, hb, hml, hown, hlocks, hnm, hret⟩, hK, hF, had, hz⟩ := hX
  simp only [pm_next, pm_li] at hn
  split at hn
  · rename_i v hv
    cases hn
    have kk := kk lsC H locs cells slots hJ hL hV rfl rfl
    have hl := hL.2.2 _ _ hv
    simp only [pm_dk] at hk
    split at hk
    · simp only [Bool.and_eq_true, beq_iff_eq] at hk
      obtain ⟨h1, rfl⟩ := hk
      exact lv_iload_n hx hb hd h1 hl kk
    · simp only [Bool.and_eq_true, beq_iff_eq] at hk
      obtain ⟨h1, rfl⟩ := hk
      subst h1
      exact lv_iload hx hb hd hl kk
    · cases hk
  · cases hn
theorem pm_s3 : pm_Snd 3 := by
  intro p l e R s mi args below meth c Q m z L xs D dA ad pc len a b n ls ls' st st' M M' g pc' i lsC H locs cells slots hX hd hk hs hs0 hn hg hJ hL hV hph hR kk
  obtain ⟨⟨hx, hb, hml, hown, hlocks, hnm, hret⟩, hK, hF, had, hz⟩ := hX
  simp only [pm_next, pm_lr] at hn
  split at hn
  · rename_i v hv
    cases hn
    have kk := kk lsC H locs cells slots hJ hL hV rfl rfl
    have hl := hL.2.2 _ _ hv
    simp only [pm_dk] at hk
    split at hk
    · simp only [Bool.and_eq_true, beq_iff_eq] at hk
      obtain ⟨h1, rfl⟩ := hk
      exact lv_aload_n hx hb hd h1 hl kk
    · simp only [Bool.and_eq_true, beq_iff_eq] at hk
      obtain ⟨h1, rfl⟩ := hk
      subst h1
      exact lv_aload hx hb hd hl kk
    · cases hk
  · cases hn
theorem pm_s4 : pm_Snd 4 := by
  intro p l e R s mi args below meth c Q m z L xs D dA ad pc len a b n ls ls' st st' M M' g pc' i lsC H locs cells slots hX hd hk hs hs0 hn hg hJ hL hV hph hR kk
  obtain ⟨⟨hx, hb, hml, hown, hlocks, hnm, hret⟩, hK, hF, had, hz⟩ := hX
  simp only [pm_next, pm_ll] at hn
  split at hn
  · rename_i v hv
    cases hn
    have kk := kk lsC H locs cells slots hJ hL hV rfl rfl
    have hl := hL.2.2 _ _ hv
    simp only [pm_dk] at hk
    split at hk
    · simp only [Bool.and_eq_true, beq_iff_eq] at hk
      obtain ⟨h1, rfl⟩ := hk
      exact lv_lload_n hx hb hd h1 hl kk
    · simp only [Bool.and_eq_true, beq_iff_eq] at hk
      obtain ⟨h1, rfl⟩ := hk
      subst h1
      exact lv_lload hx hb hd hl kk
    · cases hk
  · cases hn
theorem pm_s5 : pm_Snd 5 := by
  intro p l e R s mi args below meth c Q m z L xs D dA ad pc len a b n ls ls' st st' M M' g pc' i lsC H locs cells slots hX hd hk hs hs0 hn hg hJ hL hV hph hR kk
  obtain ⟨⟨hx, hb, hml, hown, hlocks, hnm, hret⟩, hK, hF, had, hz⟩ := hX
  simp only [pm_next, pm_k1] at hn
  split at hn
  · rename_i v t
    cases hn
    have hJ' : pm_J m (ls.set a (some (.int v))) := hJ.set (fun w hw => by cases hw; exact fun q => by cases q)
    simp only [pm_dk] at hk
    split at hk
    · simp only [Bool.and_eq_true, beq_iff_eq] at hk
      obtain ⟨h1, rfl⟩ := hk
      exact lv_istore_n hx hb hd h1 hL.has hg rfl (fun lsC' h' => kk lsC' H locs cells slots hJ' (pm_LV.set hJ (hs (by decide)) (fun w hw => by cases hw; rfl) h') hV rfl rfl)
    · simp only [Bool.and_eq_true, beq_iff_eq] at hk
      obtain ⟨h1, rfl⟩ := hk
      subst h1
      exact lv_istore hx hb hd hL.has hg rfl (fun lsC' h' => kk lsC' H locs cells slots hJ' (pm_LV.set hJ (hs (by decide)) (fun w hw => by cases hw; rfl) h') hV rfl rfl)
    · cases hk
  · cases hn
theorem pm_s6 : pm_Snd 6 := by
  intro p l e R s mi args below meth c Q m z L xs D dA ad pc len a b n ls ls' st st' M M' g pc' i lsC H locs cells slots hX hd hk hs hs0 hn hg hJ hL hV hph hR kk
  obtain ⟨⟨hx, hb, hml, hown, hlocks, hnm, hret⟩, hK, hF, had, hz⟩ := hX
  simp only [pm_next, pm_kr] at hn
  split at hn
  · rename_i v t
    cases hn
    have hJ' : pm_J m (ls.set a (some (.ref v))) := hJ.set (fun w hw => by cases hw; exact fun q => by cases q)
    simp only [pm_dk] at hk
    split at hk
    · simp only [Bool.and_eq_true, beq_iff_eq] at hk
      obtain ⟨h1, rfl⟩ := hk
      exact lv_astore_n hx hb hd h1 hL.has hg rfl (fun lsC' h' => kk lsC' H locs cells slots hJ' (pm_LV.set hJ (hs (by decide)) (fun w hw => by cases hw; rfl) h') hV rfl rfl)
    · simp only [Bool.and_eq_true, beq_iff_eq] at hk
      obtain ⟨h1, rfl⟩ := hk
      subst h1
      exact lv_astore hx hb hd hL.has hg rfl (fun lsC' h' => kk lsC' H locs cells slots hJ' (pm_LV.set hJ (hs (by decide)) (fun w hw => by cases hw; rfl) h') hV rfl rfl)
    · cases hk
  · cases hn
theorem pm_lvs_ix {ad : Nat → Nat} {ls : pm_Loc} {i : Nat} {v : Value} (h : pm_get ls i = some v) : ∃ k : Nat, (pm_lvs ad ls)[k]? = some (i, pm_cz ad v) := List.getElem?_of_mem (pm_lvs_mem h)
theorem pm_s8 : pm_Snd 8 := by
  intro p l e R s mi args below meth c Q m z L xs D dA ad pc len a b n ls ls' st st' M M' g pc' i lsC H locs cells slots hX hd hk hs hs0 hn hg hJ hL hV hph hR kk
  obtain ⟨⟨hx, hb, hml, hown, hlocks, hnm, hret⟩, hK, hF, had, hz⟩ := hX
  simp only [pm_next, pm_li] at hn
  split at hn
  · rename_i v hv
    cases hn
    have hJ' : pm_J m (ls.set a (some (.int (v + n)))) := hJ.set (fun w hw => by cases hw; exact fun q => by cases q)
    simp only [pm_dk] at hk
    split at hk
    · simp only [Bool.and_eq_true, decide_eq_true_eq, beq_iff_eq] at hk
      obtain ⟨⟨h1, h2⟩, rfl⟩ := hk
      subst h1
      obtain ⟨k, hk9⟩ := pm_lvs_ix (ad := ad) hv
      exact lv_iinc (v := v + n) hx hb hd hL.has hk9 (by rw [h2]) (pm_get_lt hv) rfl (fun lsC' h' => kk lsC' H locs cells slots hJ' (pm_LV.set hJ (hs (by decide)) (fun w hw => by cases hw; rfl) h') hV rfl rfl)
    · cases hk
  · cases hn
theorem pm_s9 : pm_Snd 9 := by
  intro p l e R s mi args below meth c Q m z L xs D dA ad pc len a b n ls ls' st st' M M' g pc' i lsC H locs cells slots hX hd hk hs hs0 hn hg hJ hL hV hph hR kk
  obtain ⟨⟨hx, hb, hml, hown, hlocks, hnm, hret⟩, hK, hF, had, hz⟩ := hX
  simp only [pm_next, pm_k2] at hn
  split at hn
  · rename_i y x t
    cases hn
    have kk := kk lsC H locs cells slots hJ hL hV rfl rfl
    simp only [pm_dk, Bool.and_eq_true, decide_eq_true_eq, beq_iff_eq] at hk
    obtain ⟨rfl, rfl⟩ := hk
    exact lv_iadd hx hb hd kk
  · cases hn
theorem pm_s10 : pm_Snd 10 := by
  intro p l e R s mi args below meth c Q m z L xs D dA ad pc len a b n ls ls' st st' M M' g pc' i lsC H locs cells slots hX hd hk hs hs0 hn hg hJ hL hV hph hR kk
  obtain ⟨⟨hx, hb, hml, hown, hlocks, hnm, hret⟩, hK, hF, had, hz⟩ := hX
  simp only [pm_next, pm_k2] at hn
  split at hn
  · rename_i y x t
    cases hn
    have kk := kk lsC H locs cells slots hJ hL hV rfl rfl
    simp only [pm_dk, Bool.and_eq_true, decide_eq_true_eq, beq_iff_eq] at hk
    obtain ⟨rfl, rfl⟩ := hk
    exact lv_isub hx hb hd kk
  · cases hn
theorem pm_s11 : pm_Snd 11 := by
  intro p l e R s mi args below meth c Q m z L xs D dA ad pc len a b n ls ls' st st' M M' g pc' i lsC H locs cells slots hX hd hk hs hs0 hn hg hJ hL hV hph hR kk
  obtain ⟨⟨hx, hb, hml, hown, hlocks, hnm, hret⟩, hK, hF, had, hz⟩ := hX
  simp only [pm_next, pm_k2] at hn
  split at hn
  · rename_i y x t
    cases hn
    have kk := kk lsC H locs cells slots hJ hL hV rfl rfl
    simp only [pm_dk, Bool.and_eq_true, decide_eq_true_eq, beq_iff_eq] at hk
    obtain ⟨rfl, rfl⟩ := hk
    exact lv_imul hx hb hd kk
  · cases hn
theorem pm_s14 : pm_Snd 14 := by
  intro p l e R s mi args below meth c Q m z L xs D dA ad pc len a b n ls ls' st st' M M' g pc' i lsC H locs cells slots hX hd hk hs hs0 hn hg hJ hL hV hph hR kk
  obtain ⟨⟨hx, hb, hml, hown, hlocks, hnm, hret⟩, hK, hF, had, hz⟩ := hX
  simp only [pm_next, pm_k2] at hn
  split at hn
  · rename_i y x t
    cases hn
    have kk := kk lsC H locs cells slots hJ hL hV rfl rfl
    simp only [pm_dk, Bool.and_eq_true, decide_eq_true_eq, beq_iff_eq] at hk
    obtain ⟨rfl, rfl⟩ := hk
    exact lv_iand hx hb hd kk
  · cases hn
theorem pm_s17 : pm_Snd 17 := by
  intro p l e R s mi args below meth c Q m z L xs D dA ad pc len a b n ls ls' st st' M M' g pc' i lsC H locs cells slots hX hd hk hs hs0 hn hg hJ hL hV hph hR kk
  obtain ⟨⟨hx, hb, hml, hown, hlocks, hnm, hret⟩, hK, hF, had, hz⟩ := hX
  simp only [pm_next, pm_k2] at hn
  split at hn
  · rename_i y x t
    cases hn
    have kk := kk lsC H locs cells slots hJ hL hV rfl rfl
    simp only [pm_dk, Bool.and_eq_true, decide_eq_true_eq, beq_iff_eq] at hk
    obtain ⟨rfl, rfl⟩ := hk
    exact lv_ishr hx hb hd kk
  · cases hn
theorem pm_s12 : pm_Snd 12 := by
  intro p l e R s mi args below meth c Q m z L xs D dA ad pc len a b n ls ls' st st' M M' g pc' i lsC H locs cells slots hX hd hk hs hs0 hn hg hJ hL hV hph hR kk
  obtain ⟨⟨hx, hb, hml, hown, hlocks, hnm, hret⟩, hK, hF, had, hz⟩ := hX
  simp only [pm_next, pm_k2] at hn
  split at hn
  · rename_i y x t
    cases hn
    have kk := kk lsC H locs cells slots hJ hL hV rfl rfl
    simp only [pm_dk, Bool.and_eq_true, decide_eq_true_eq, beq_iff_eq] at hk
    obtain ⟨rfl, rfl⟩ := hk
    exact lv_idiv hx hb hd hg kk
  · cases hn
theorem pm_s13 : pm_Snd 13 := by
  intro p l e R s mi args below meth c Q m z L xs D dA ad pc len a b n ls ls' st st' M M' g pc' i lsC H locs cells slots hX hd hk hs hs0 hn hg hJ hL hV hph hR kk
  obtain ⟨⟨hx, hb, hml, hown, hlocks, hnm, hret⟩, hK, hF, had, hz⟩ := hX
  simp only [pm_next, pm_k2] at hn
  split at hn
  · rename_i y x t
    cases hn
    have kk := kk lsC H locs cells slots hJ hL hV rfl rfl
    simp only [pm_dk, Bool.and_eq_true, decide_eq_true_eq, beq_iff_eq] at hk
    obtain ⟨rfl, rfl⟩ := hk
    exact lv_irem hx hb hd hg kk
  · cases hn
theorem pm_s18 : pm_Snd 18 := by
  intro p l e R s mi args below meth c Q m z L xs D dA ad pc len a b n ls ls' st st' M M' g pc' i lsC H locs cells slots hX hd hk hs hs0 hn hg hJ hL hV hph hR kk
  obtain ⟨⟨hx, hb, hml, hown, hlocks, hnm, hret⟩, hK, hF, had, hz⟩ := hX
  simp only [pm_next, pm_k2] at hn
  split at hn
  · rename_i y x t
    cases hn
    have kk := kk lsC H locs cells slots hJ hL hV rfl rfl
    simp only [pm_dk, Bool.and_eq_true, decide_eq_true_eq, beq_iff_eq] at hk
    obtain ⟨rfl, rfl⟩ := hk
    exact lv_iushr hx hb hd rfl kk
  · cases hn
theorem pm_s19 : pm_Snd 19 := by
  intro p l e R s mi args below meth c Q m z L xs D dA ad pc len a b n ls ls' st st' M M' g pc' i lsC H locs cells slots hX hd hk hs hs0 hn hg hJ hL hV hph hR kk
  obtain ⟨⟨hx, hb, hml, hown, hlocks, hnm, hret⟩, hK, hF, had, hz⟩ := hX
  simp only [pm_next, pm_k1] at hn
  split at hn
  · rename_i x t
    cases hn
    have kk := kk lsC H locs cells slots hJ hL hV rfl rfl
    simp only [pm_dk, Bool.and_eq_true, decide_eq_true_eq, beq_iff_eq] at hk
    obtain ⟨rfl, rfl⟩ := hk
    exact lv_i2b hx hb hd rfl kk
  · cases hn
theorem pm_s20 : pm_Snd 20 := by
  intro p l e R s mi args below meth c Q m z L xs D dA ad pc len a b n ls ls' st st' M M' g pc' i lsC H locs cells slots hX hd hk hs hs0 hn hg hJ hL hV hph hR kk
  obtain ⟨⟨hx, hb, hml, hown, hlocks, hnm, hret⟩, hK, hF, had, hz⟩ := hX
  simp only [pm_next, pm_k1] at hn
  split at hn
  · rename_i x t
    cases hn
    have kk := kk lsC H locs cells slots hJ hL hV rfl rfl
    simp only [pm_dk, Bool.and_eq_true, decide_eq_true_eq, beq_iff_eq] at hk
    obtain ⟨rfl, rfl⟩ := hk
    exact lv_i2l hx hb hd rfl kk
  · cases hn
theorem pm_s21 : pm_Snd 21 := by
  intro p l e R s mi args below meth c Q m z L xs D dA ad pc len a b n ls ls' st st' M M' g pc' i lsC H locs cells slots hX hd hk hs hs0 hn hg hJ hL hV hph hR kk
  obtain ⟨⟨hx, hb, hml, hown, hlocks, hnm, hret⟩, hK, hF, had, hz⟩ := hX
  simp only [pm_next, pm_kl] at hn
  split at hn
  · rename_i x t
    cases hn
    have kk := kk lsC H locs cells slots hJ hL hV rfl rfl
    simp only [pm_dk, Bool.and_eq_true, decide_eq_true_eq, beq_iff_eq] at hk
    obtain ⟨rfl, rfl⟩ := hk
    exact lv_l2i hx hb hd rfl kk
  · cases hn
theorem pm_s22 : pm_Snd 22 := by
  intro p l e R s mi args below meth c Q m z L xs D dA ad pc len a b n ls ls' st st' M M' g pc' i lsC H locs cells slots hX hd hk hs hs0 hn hg hJ hL hV hph hR kk
  obtain ⟨⟨hx, hb, hml, hown, hlocks, hnm, hret⟩, hK, hF, had, hz⟩ := hX
  simp only [pm_next, pm_k1] at hn
  split at hn
  · rename_i x t
    cases hn
    have kk := kk lsC H locs cells slots hJ hL hV rfl rfl
    simp only [pm_dk, Bool.and_eq_true, decide_eq_true_eq, beq_iff_eq] at hk
    obtain ⟨rfl, rfl⟩ := hk
    exact lv_i2c hx hb hd rfl kk
  · cases hn
theorem pm_s23 : pm_Snd 23 := by
  intro p l e R s mi args below meth c Q m z L xs D dA ad pc len a b n ls ls' st st' M M' g pc' i lsC H locs cells slots hX hd hk hs hs0 hn hg hJ hL hV hph hR kk
  obtain ⟨⟨hx, hb, hml, hown, hlocks, hnm, hret⟩, hK, hF, had, hz⟩ := hX
  simp only [pm_next, pm_kli] at hn
  split at hn
  · rename_i y x t
    cases hn
    have kk := kk lsC H locs cells slots hJ hL hV rfl rfl
    simp only [pm_dk, Bool.and_eq_true, decide_eq_true_eq, beq_iff_eq] at hk
    obtain ⟨rfl, rfl⟩ := hk
    exact lv_lshl hx hb hd rfl kk
  · cases hn
theorem pm_s24 : pm_Snd 24 := by
  intro p l e R s mi args below meth c Q m z L xs D dA ad pc len a b n ls ls' st st' M M' g pc' i lsC H locs cells slots hX hd hk hs hs0 hn hg hJ hL hV hph hR kk
  obtain ⟨⟨hx, hb, hml, hown, hlocks, hnm, hret⟩, hK, hF, had, hz⟩ := hX
  simp only [pm_next, pm_kli] at hn
  split at hn
  · rename_i y x t
    cases hn
    have kk := kk lsC H locs cells slots hJ hL hV rfl rfl
    simp only [pm_dk, Bool.and_eq_true, decide_eq_true_eq, beq_iff_eq] at hk
    obtain ⟨rfl, rfl⟩ := hk
    exact lv_lushr hx hb hd rfl kk
  · cases hn
theorem pm_s28 : pm_Snd 28 := by
  intro p l e R s mi args below meth c Q m z L xs D dA ad pc len a b n ls ls' st st' M M' g pc' i lsC H locs cells slots hX hd hk hs hs0 hn hg hJ hL hV hph hR kk
  obtain ⟨⟨hx, hb, hml, hown, hlocks, hnm, hret⟩, hK, hF, had, hz⟩ := hX
  simp only [pm_next, pm_kli] at hn
  split at hn
  · rename_i y x t
    cases hn
    have kk := kk lsC H locs cells slots hJ hL hV rfl rfl
    simp only [pm_dk, Bool.and_eq_true, decide_eq_true_eq, beq_iff_eq] at hk
    obtain ⟨rfl, rfl⟩ := hk
    exact lv_lshr hx hb hd rfl kk
  · cases hn
theorem pm_s25 : pm_Snd 25 := by
  intro p l e R s mi args below meth c Q m z L xs D dA ad pc len a b n ls ls' st st' M M' g pc' i lsC H locs cells slots hX hd hk hs hs0 hn hg hJ hL hV hph hR kk
  obtain ⟨⟨hx, hb, hml, hown, hlocks, hnm, hret⟩, hK, hF, had, hz⟩ := hX
  simp only [pm_next, pm_kll] at hn
  split at hn
  · rename_i y x t
    cases hn
    have kk := kk lsC H locs cells slots hJ hL hV rfl rfl
    simp only [pm_dk, Bool.and_eq_true, decide_eq_true_eq, beq_iff_eq] at hk
    obtain ⟨rfl, rfl⟩ := hk
    exact lv_land hx hb hd kk
  · cases hn
theorem pm_s26 : pm_Snd 26 := by
  intro p l e R s mi args below meth c Q m z L xs D dA ad pc len a b n ls ls' st st' M M' g pc' i lsC H locs cells slots hX hd hk hs hs0 hn hg hJ hL hV hph hR kk
  obtain ⟨⟨hx, hb, hml, hown, hlocks, hnm, hret⟩, hK, hF, had, hz⟩ := hX
  simp only [pm_next, pm_kll] at hn
  split at hn
  · rename_i y x t
    cases hn
    have kk := kk lsC H locs cells slots hJ hL hV rfl rfl
    simp only [pm_dk, Bool.and_eq_true, decide_eq_true_eq, beq_iff_eq] at hk
    obtain ⟨rfl, rfl⟩ := hk
    exact lv_lor hx hb hd kk
  · cases hn
theorem pm_s27 : pm_Snd 27 := by
  intro p l e R s mi args below meth c Q m z L xs D dA ad pc len a b n ls ls' st st' M M' g pc' i lsC H locs cells slots hX hd hk hs hs0 hn hg hJ hL hV hph hR kk
  obtain ⟨⟨hx, hb, hml, hown, hlocks, hnm, hret⟩, hK, hF, had, hz⟩ := hX
  simp only [pm_next, pm_kll] at hn
  split at hn
  · rename_i y x t
    cases hn
    have kk := kk lsC H locs cells slots hJ hL hV rfl rfl
    simp only [pm_dk, Bool.and_eq_true, decide_eq_true_eq, beq_iff_eq] at hk
    obtain ⟨rfl, rfl⟩ := hk
    exact W.lcmp hx hb hd kk
  · cases hn
theorem pm_s30 : pm_Snd 30 := by
  intro p l e R s mi args below meth c Q m z L xs D dA ad pc len a b n ls ls' st st' M M' g pc' i lsC H locs cells slots hX hd hk hs hs0 hn hg hJ hL hV hph hR kk
  obtain ⟨⟨hx, hb, hml, hown, hlocks, hnm, hret⟩, hK, hF, had, hz⟩ := hX
  simp only [pm_next, pm_k1] at hn
  split at hn
  · rename_i x t
    cases hn
    have kk := kk lsC H locs cells slots hJ hL hV rfl rfl
    simp only [pm_dk, Bool.and_eq_true, decide_eq_true_eq, beq_iff_eq] at hk
    obtain ⟨rfl, rfl⟩ := hk
    exact lv_dup hx hb hd rfl kk
  · cases hn
theorem pm_s31 : pm_Snd 31 := by
  intro p l e R s mi args below meth c Q m z L xs D dA ad pc len a b n ls ls' st st' M M' g pc' i lsC H locs cells slots hX hd hk hs hs0 hn hg hJ hL hV hph hR kk
  obtain ⟨⟨hx, hb, hml, hown, hlocks, hnm, hret⟩, hK, hF, had, hz⟩ := hX
  simp only [pm_next, pm_k1] at hn
  split at hn
  · rename_i x t
    cases hn
    have kk := kk lsC H locs cells slots hJ hL hV rfl rfl
    simp only [pm_dk, Bool.and_eq_true, decide_eq_true_eq, beq_iff_eq] at hk
    obtain ⟨rfl, rfl⟩ := hk
    exact lv_pop hx hb hd rfl kk
  · cases hn
theorem pm_s32 : pm_Snd 32 := by
  intro p l e R s mi args below meth c Q m z L xs D dA ad pc len a b n ls ls' st st' M M' g pc' i lsC H locs cells slots hX hd hk hs hs0 hn hg hJ hL hV hph hR kk
  obtain ⟨⟨hx, hb, hml, hown, hlocks, hnm, hret⟩, hK, hF, had, hz⟩ := hX
  simp only [pm_next, pm_kr] at hn
  split at hn
  · rename_i x t
    cases hn
    have kk := kk lsC H locs cells slots hJ hL hV rfl rfl
    simp only [pm_dk, Bool.and_eq_true, decide_eq_true_eq, beq_iff_eq] at hk
    obtain ⟨rfl, rfl⟩ := hk
    exact lv_dup hx hb hd rfl kk
  · cases hn
theorem pm_s34 : pm_Snd 34 := by
  intro p l e R s mi args below meth c Q m z L xs D dA ad pc len a b n ls ls' st st' M M' g pc' i lsC H locs cells slots hX hd hk hs hs0 hn hg hJ hL hV hph hR kk
  obtain ⟨⟨hx, hb, hml, hown, hlocks, hnm, hret⟩, hK, hF, had, hz⟩ := hX
  simp only [pm_next, pm_kri] at hn
  split at hn
  · rename_i j x t
    cases hn
    have kk := kk lsC H locs cells slots hJ hL hV rfl rfl
    simp only [pm_dk, Bool.and_eq_true, decide_eq_true_eq, beq_iff_eq] at hk
    obtain ⟨rfl, rfl⟩ := hk
    exact lv_dup2_11 hx hb hd rfl rfl kk
  · cases hn
theorem pm_w255 : tables_1[828]? = some (.constantLong "CardWorkshopModel" 78 255) := by decide +kernel
theorem pm_wmask : tables_1[1038]? = some (.constantLong "CardWorkshopLaw" 46 4294967295) := by decide +kernel
theorem pm_s15 : pm_Snd 15 := by
  intro p l e R s mi args below meth c Q m z L xs D dA ad pc len a b n ls ls' st st' M M' g pc' i lsC H locs cells slots hX hd hk hs hs0 hn hg hJ hL hV hph hR kk
  obtain ⟨⟨hx, hb, hml, hown, hlocks, hnm, hret⟩, hK, hF, had, hz⟩ := hX
  cases hn
  have kk := kk lsC H locs cells slots hJ hL hV rfl rfl
  simp only [pm_dk] at hk
  split at hk
  · simp only [Bool.and_eq_true, decide_eq_true_eq, beq_iff_eq] at hk
    obtain ⟨⟨h1, rfl⟩, rfl⟩ := hk
    rw [h1] at hown
    exact lv_ldc2 hx hb hown (hF.1 _ _ (pm_Ts_of _ pm_wmask rfl)) hd kk
  · cases hk
theorem pm_s29 : pm_Snd 29 := by
  intro p l e R s mi args below meth c Q m z L xs D dA ad pc len a b n ls ls' st st' M M' g pc' i lsC H locs cells slots hX hd hk hs hs0 hn hg hJ hL hV hph hR kk
  obtain ⟨⟨hx, hb, hml, hown, hlocks, hnm, hret⟩, hK, hF, had, hz⟩ := hX
  cases hn
  have kk := kk lsC H locs cells slots hJ hL hV rfl rfl
  simp only [pm_dk] at hk
  split at hk
  · simp only [Bool.and_eq_true, decide_eq_true_eq, beq_iff_eq] at hk
    obtain ⟨⟨⟨h1, rfl⟩, rfl⟩, rfl⟩ := hk
    rw [show (255 : Int32).toInt64 = 255 by decide] at kk
    rw [h1] at hown
    exact lv_ldc2 hx hb hown (hF.1 _ _ (pm_Ts_of _ pm_w255 rfl)) hd kk
  · cases hk
end
section
theorem pm_s40 : pm_Snd 40 := by
  intro p l e R s mi args below meth c Q m z L xs D dA ad pc len a b n ls ls' st st' M M' g pc' i lsC H locs cells slots hX hd hk hs hs0 hn hg hJ hL hV hph hR kk
  obtain ⟨⟨hx, hb, hml, hown, hlocks, hnm, hret⟩, hK, hF, had, hz⟩ := hX
  simp only [pm_next, pm_k1] at hn
  split at hn
  · rename_i x t
    cases hn
    simp only [pm_dk] at hk
    split at hk
    · simp only [Bool.and_eq_true, decide_eq_true_eq, beq_iff_eq] at hk
      obtain ⟨⟨⟨hc, ht⟩, rfl⟩, h6⟩ := hk
      subst hc
      rcases (show b = 0 ∨ b = 1 ∨ b = 2 ∨ b = 3 ∨ b = 4 ∨ b = 5 by omega) with rfl | rfl | rfl | rfl | rfl | rfl
      · have kk := kk lsC H locs cells slots hJ hL hV rfl rfl
        simp only [pm_cmp, decide_eq_true_eq] at kk
        exact lv_if_eq hx hb hd ht (fun h => by rw [if_pos h] at kk; exact kk) (fun h => by rw [if_neg h] at kk; exact kk)
      · have kk := kk lsC H locs cells slots hJ hL hV rfl rfl
        simp only [pm_cmp, decide_eq_true_eq] at kk
        exact lv_if_ne hx hb hd ht (fun h => by rw [if_pos h] at kk; exact kk) (fun h => by rw [if_neg (fun q => q h)] at kk; exact kk)
      · have kk := kk lsC H locs cells slots hJ hL hV rfl rfl
        simp only [pm_cmp, decide_eq_true_eq] at kk
        exact lv_if_lt hx hb hd ht (fun h => by rw [if_pos h] at kk; exact kk) (fun h => by rw [if_neg h] at kk; exact kk)
      · have kk := kk lsC H locs cells slots hJ hL hV rfl rfl
        simp only [pm_cmp, decide_eq_true_eq] at kk
        exact lv_if_ge hx hb hd ht (fun h => by rw [if_pos h] at kk; exact kk) (fun h => by rw [if_neg h] at kk; exact kk)
      · have kk := kk lsC H locs cells slots hJ hL hV rfl rfl
        simp only [pm_cmp, decide_eq_true_eq] at kk
        exact lv_if_gt hx hb hd ht (fun h => by rw [if_pos h] at kk; exact kk) (fun h => by rw [if_neg h] at kk; exact kk)
      · have kk := kk lsC H locs cells slots hJ hL hV rfl rfl
        simp only [pm_cmp, decide_eq_true_eq] at kk
        exact lv_if_le hx hb hd ht (fun h => by rw [if_pos h] at kk; exact kk) (fun h => by rw [if_neg h] at kk; exact kk)
    · cases hk
  · cases hn
theorem pm_s41 : pm_Snd 41 := by
  intro p l e R s mi args below meth c Q m z L xs D dA ad pc len a b n ls ls' st st' M M' g pc' i lsC H locs cells slots hX hd hk hs hs0 hn hg hJ hL hV hph hR kk
  obtain ⟨⟨hx, hb, hml, hown, hlocks, hnm, hret⟩, hK, hF, had, hz⟩ := hX
  simp only [pm_next, pm_k2] at hn
  split at hn
  · rename_i y x t
    cases hn
    simp only [pm_dk] at hk
    split at hk
    · simp only [Bool.and_eq_true, decide_eq_true_eq, beq_iff_eq] at hk
      obtain ⟨⟨⟨hc, ht⟩, rfl⟩, h6⟩ := hk
      subst hc
      rcases (show b = 0 ∨ b = 1 ∨ b = 2 ∨ b = 3 ∨ b = 4 ∨ b = 5 by omega) with rfl | rfl | rfl | rfl | rfl | rfl
      · have kk := kk lsC H locs cells slots hJ hL hV rfl rfl
        simp only [pm_cmp, decide_eq_true_eq] at kk
        exact lv_icmp_eq hx hb hd ht (fun h => by rw [if_pos h] at kk; exact kk) (fun h => by rw [if_neg h] at kk; exact kk)
      · have kk := kk lsC H locs cells slots hJ hL hV rfl rfl
        simp only [pm_cmp, decide_eq_true_eq] at kk
        exact lv_icmp_ne hx hb hd ht (fun h => by rw [if_pos h] at kk; exact kk) (fun h => by rw [if_neg (fun q => q h)] at kk; exact kk)
      · have kk := kk lsC H locs cells slots hJ hL hV rfl rfl
        simp only [pm_cmp, decide_eq_true_eq] at kk
        exact lv_icmp_lt hx hb hd ht (fun h => by rw [if_pos h] at kk; exact kk) (fun h => by rw [if_neg h] at kk; exact kk)
      · have kk := kk lsC H locs cells slots hJ hL hV rfl rfl
        simp only [pm_cmp, decide_eq_true_eq] at kk
        exact lv_icmp_ge hx hb hd ht (fun h => by rw [if_pos h] at kk; exact kk) (fun h => by rw [if_neg h] at kk; exact kk)
      · have kk := kk lsC H locs cells slots hJ hL hV rfl rfl
        simp only [pm_cmp, decide_eq_true_eq] at kk
        exact lv_icmp_gt hx hb hd ht (fun h => by rw [if_pos h] at kk; exact kk) (fun h => by rw [if_neg h] at kk; exact kk)
      · have kk := kk lsC H locs cells slots hJ hL hV rfl rfl
        simp only [pm_cmp, decide_eq_true_eq] at kk
        exact lv_icmp_le hx hb hd ht (fun h => by rw [if_pos h] at kk; exact kk) (fun h => by rw [if_neg h] at kk; exact kk)
    · cases hk
  · cases hn
theorem pm_s42 : pm_Snd 42 := by
  intro p l e R s mi args below meth c Q m z L xs D dA ad pc len a b n ls ls' st st' M M' g pc' i lsC H locs cells slots hX hd hk hs hs0 hn hg hJ hL hV hph hR kk
  obtain ⟨⟨hx, hb, hml, hown, hlocks, hnm, hret⟩, hK, hF, had, hz⟩ := hX
  cases hn
  have kk := kk lsC H locs cells slots hJ hL hV rfl rfl
  simp only [pm_dk] at hk
  split at hk
  · simp only [Bool.and_eq_true, decide_eq_true_eq, beq_iff_eq] at hk
    obtain ⟨h1, rfl⟩ := hk
    exact lv_goto hx hb hd h1 kk
  · cases hk
theorem pm_swt_eq {d : Nat} {x : Int32} : ∀ (ts : List Nat) (k : Int32), 0 ≤ k.toInt → k.toInt + ts.length < 2147483648 → pm_swt ts k d x = if k.toInt ≤ x.toInt ∧ x.toInt < k.toInt + ts.length then ts.getD (x.toInt - k.toInt).toNat d else d := by
  intro ts
  induction ts with
  | nil =>
    intro k h0 h1
    rw [if_neg (fun h => by simp only [List.length_nil] at h; omega)]
    rfl
  | cons t ts ih =>
    intro k h0 h1
    simp only [List.length_cons] at h1 ⊢
    have e : (k + 1).toInt = k.toInt + 1 := by
      rw [Int32.toInt_add, Int32.toInt_one, Int.bmod_eq_of_le (by omega) (by omega)]
    rw [show pm_swt (t :: ts) k d x = if x = k then t else pm_swt ts (k + 1) d x from rfl]
    by_cases hx : x = k
    · subst hx
      rw [if_pos rfl, if_pos (by omega)]
      simp
    · have hne : ¬ x.toInt = k.toInt := fun q => hx (Int32.toInt_inj.mp q)
      rw [if_neg hx, ih (k + 1) (by omega) (by omega), e]
      by_cases h : k.toInt ≤ x.toInt ∧ x.toInt < k.toInt + (ts.length + 1)
      · rw [if_pos (by omega), if_pos (by omega)]
        rw [show (x.toInt - k.toInt).toNat = (x.toInt - (k.toInt + 1)).toNat + 1 by omega]
        simp
      · rw [if_neg (by omega), if_neg (by omega)]
theorem pm_s43 : pm_Snd 43 := by
  intro p l e R s mi args below meth c Q m z L xs D dA ad pc len a b n ls ls' st st' M M' g pc' i lsC H locs cells slots hX hd hk hs hs0 hn hg hJ hL hV hph hR kk
  obtain ⟨⟨hx, hb, hml, hown, hlocks, hnm, hret⟩, hK, hF, had, hz⟩ := hX
  simp only [pm_next, pm_k1] at hn
  split at hn
  · rename_i x t
    cases hn
    have kk := kk lsC H locs cells slots hJ hL hV rfl rfl
    simp only [pm_dk] at hk
    split at hk
    · rename_i d lo hi offs
      simp only [Bool.and_eq_true, decide_eq_true_eq, List.all_eq_true, List.mem_range] at hk
      obtain ⟨⟨⟨⟨⟨⟨h1, h2⟩, h3⟩, h4⟩, h5⟩, h6⟩, h7⟩ := hk
      have e : n.toInt = lo := by
        rw [← h2, Int32.toInt_ofInt, Int.bmod_eq_of_le (by rw [show Int32.size = 4294967296 from rfl]; omega) (by rw [show Int32.size = 4294967296 from rfl]; omega)]
      rw [pm_swt_eq _ _ (by omega) (by omega), e, h3] at kk
      by_cases hin : lo ≤ x.toInt ∧ x.toInt < lo + offs.size
      · rw [if_pos hin] at kk
        have hlt : (x.toInt - lo).toNat < offs.size := by omega
        have h8 := h7 _ hlt
        rw [getElem!_pos offs _ hlt] at h8
        have e9 : (pm_sw a).getD (x.toInt - lo).toNat b = (pm_sw a).getD (x.toInt - lo).toNat 0 := by
          simp [List.getD_eq_getElem?_getD, List.getElem?_eq_getElem (show (x.toInt - lo).toNat < (pm_sw a).length by omega)]
        rw [e9] at kk
        exact lv_tableIn hx hb hd (by omega) (by omega) (Array.getElem?_eq_getElem hlt) h8 kk
      · rw [if_neg hin] at kk
        exact lv_tableOut hx hb hd (by omega) h1 kk
    · cases hk
  · cases hn
end
section
theorem pm_fk_rg : ∀ q ∈ pm_fk, q.2.1 < 7 ∧ q.2.2.1 < pm_nf q.2.1 := by decide +kernel
theorem pm_cnm_onm : ∀ a, a < 7 → pm_cnm a = pm_onm a := by decide +kernel
theorem pm_cell_o {dA : Nat → ClassId} {ad : Nat → Nat} {M : pm_Mem} {x c : Nat} (h : pm_sh x = (0, c)) : pm_cell dA ad M x = .inr (c, (List.range (pm_nf c)).map (pm_fv ad M c x)) := by
  unfold pm_cell
  rw [h]
theorem pm_cell_a {dA : Nat → ClassId} {ad : Nat → Nat} {M : pm_Mem} {x k : Nat} (h : (pm_sh x).1 = 1 + k) : pm_cell dA ad M x = .inl (dA k, (pm_sh x).2, pm_ac ad M x k) := by
  obtain ⟨u, v⟩ : ∃ q, pm_sh x = q := ⟨_, rfl⟩
  rw [v] at h ⊢
  unfold pm_cell
  rw [v]
  obtain ⟨k1, n1⟩ := u
  have h : k1 = 1 + k := h
  rw [show k1 = k + 1 by omega]
theorem pm_cell_c {dA : Nat → ClassId} {ad : Nat → Nat} {M M' : pm_Mem} {y : Nat} (h1 : ∀ j, M'.2.1 y j = M.2.1 y j) (h2 : ∀ j, M'.2.2.1 y j = M.2.2.1 y j) (h3 : ∀ j, M'.2.2.2 y j = M.2.2.2 y j) : pm_cell dA ad M' y = pm_cell dA ad M y := by
  have e1 : M'.2.1 y = M.2.1 y := funext h1
  have e2 : M'.2.2.1 y = M.2.2.1 y := funext h2
  have e3 : M'.2.2.2 y = M.2.2.2 y := funext h3
  unfold pm_cell pm_ac pm_fv
  rw [e1, e2, e3]
theorem pm_fl_at {ad : Nat → Nat} {M : pm_Mem} {c x b : Nat} (h : b < pm_nf c) : ((List.range (pm_nf c)).map (pm_fv ad M c x))[b]? = some (pm_fv ad M c x b) := by
  simp [List.getElem?_range h]
theorem pm_fl_set {ad : Nat → Nat} {M M' : pm_Mem} {c x b : Nat} {v : Value} (h1 : b < pm_nf c → pm_fv ad M' c x b = v) (h2 : ∀ j, j ≠ b → pm_fv ad M' c x j = pm_fv ad M c x j) : ((List.range (pm_nf c)).map (pm_fv ad M c x)).set b v = (List.range (pm_nf c)).map (pm_fv ad M' c x) := by
  apply List.ext_getElem?
  intro i
  by_cases hi : i < pm_nf c
  · rw [pm_fl_at hi]
    by_cases e : i = b
    · subst e
      rw [List.getElem?_set_self (by simpa using hi), h1 hi]
    · rw [List.getElem?_set_ne (fun q => e q.symm), pm_fl_at hi, h2 i e]
  · rw [List.getElem?_eq_none (by simpa using hi), List.getElem?_eq_none (by simpa using hi)]
section PMG
variable {p : Program} {l : Launch} {e : Env} {R : Room} {s : State} {mi : MethodId} {args : Array Value} {below : List Frame} {meth : Method} {c : Code} {H : Heap} {locs : List Loc} {cells slots : Nat} {Q : State → Prop} {cc : ByteArray}
theorem pm_getf {z L own j a b x pc : Nat} {xs : Nat → Int32} {D : va_G} {dA : Nat → ClassId} {ad : Nat → Nat} {M : pm_Mem} {lsC : Array Slot} {rest : List Value} (hx : p.tables.exec = Jvm.exec) (hb : c.code = cc) (hown : s.vm.findClass (pm_onm own) = some mi.cls) (hK : va_K D pm_vw (pm_tys dA) s) (hW : pm_Wd s) (hV : pm_V s z L xs D dA ad M H locs)
    (h1 : (pm_fk.lookup (own, j)).map (fun q => (q.1, q.2.1)) = some (a, b)) (hg : pm_obj M x a) (hd : decode cc pc = .ok (.getfield j, 3)) (kk : W p l e R s mi args below meth c H locs cells slots Q (F0 mi (pc + 3) lsC (pm_fv ad M a x b :: rest))) : W p l e R s mi args below meth c H locs cells slots Q (F0 mi pc lsC (.ref (ad x) :: rest)) := by
  obtain ⟨⟨c1, k1, ne, w⟩, hl, he⟩ := Option.map_eq_some_iff.mp h1
  obtain ⟨rfl, rfl⟩ : a = c1 ∧ b = k1 := by cases he; exact ⟨rfl, rfl⟩
  have hm := pm_lk hl
  have hw := pm_fk_ok _ hm
  obtain ⟨ha, hbk⟩ := pm_fk_rg _ hm
  have hat := pm_ws_at (dA := dA) (ad := ad) hg.1
  rw [pm_cell_o hg.2] at hat
  have hsame : ∀ y, s.fieldFound? (pm_T a b).1 (pm_T a b).2.1 (pm_T a b).2.2.1 = some y → s.fieldFound? (pm_cnm a) (pm_T a b).2.1 (pm_T a b).2.2.1 = some y := fun y hy => by rw [← pm_dc0 a ha b hbk]; exact hy
  by_cases hne : ne = 1
  · rw [if_pos hne] at hw
    exact va_getN hx hb (fun w h => hW args w h) (pm_in1 ha) hown hK hV.1 x hat (pm_vw_at ha) b hbk (hW _ _ (pm_Ts_of _ hw rfl)) hsame (pm_fl_at hbk) hd kk
  · rw [if_neg hne] at hw
    exact va_get hx hb (fun w h => hW args w h) (pm_in1 ha) hown hK hV.1 x hat (pm_vw_at ha) b hbk (hW _ _ (pm_Ts_of _ hw rfl)) hsame (pm_fl_at hbk) hd kk
theorem pm_putf {z L own j a b x pc : Nat} {xs : Nat → Int32} {D : va_G} {dA : Nat → ClassId} {ad : Nat → Nat} {M M' : pm_Mem} {lsC : Array Slot} {rest : List Value} {v : Value} (hx : p.tables.exec = Jvm.exec) (hb : c.code = cc) (hown : s.vm.findClass (pm_onm own) = some mi.cls) (hK : va_K D pm_vw (pm_tys dA) s) (hW : pm_Wd s) (had : pm_ad z ad) (hV : pm_V s z L xs D dA ad M H locs)
    (h1 : (pm_fk.lookup (own, j)).map (fun q => (q.1, q.2.1)) = some (a, b)) (hg : pm_obj M x a) (hfin : (pm_T a b).2.2.2 = false ∨ ((pm_T a b).2.2.2 = true ∧ meth.name = "<init>" ∧ pm_cnm a = pm_onm own ∧ (pm_fk.lookup (own, j)).map (fun q => q.2.2.1) = some 0)) (hn : narrow (pm_ft a b) v = v) (hf : fits (pm_ft a b) v = true)
    (e1 : M'.1 = M.1) (e2 : b < pm_nf a → pm_fv ad M' a x b = v) (e3 : ∀ k, k ≠ b → pm_fv ad M' a x k = pm_fv ad M a x k) (e4 : ∀ y, y ≠ x → pm_cell dA ad M' y = pm_cell dA ad M y) (e5 : ((∀ k, k < L → M'.2.1 20000 k = xs k) ∧ M'.2.1 20001 0 = nI L ∧ L ≤ 2048))
    (hd : decode cc pc = .ok (.putfield j, 3)) (kk : ∀ (H' : Heap) (locs' : List Loc), pm_V s z L xs D dA ad M' H' locs' → W p l e R s mi args below meth c H' locs' cells slots Q (F0 mi (pc + 3) lsC rest)) : W p l e R s mi args below meth c H locs cells slots Q (F0 mi pc lsC (v :: .ref (ad x) :: rest)) := by
  obtain ⟨⟨c1, k1, ne, w⟩, hl, he⟩ := Option.map_eq_some_iff.mp h1
  obtain ⟨rfl, rfl⟩ : a = c1 ∧ b = k1 := by cases he; exact ⟨rfl, rfl⟩
  have hm := pm_lk hl
  have hw := pm_fk_ok _ hm
  obtain ⟨ha, hbk⟩ := pm_fk_rg _ hm
  have hat := pm_ws_at (dA := dA) (ad := ad) hg.1
  rw [pm_cell_o hg.2] at hat
  have hsame : ∀ y, s.fieldFound? (pm_T a b).1 (pm_T a b).2.1 (pm_T a b).2.2.1 = some y → s.fieldFound? (pm_cnm a) (pm_T a b).2.1 (pm_T a b).2.2.1 = some y := fun y hy => by rw [← pm_dc0 a ha b hbk]; exact hy
  have hset : (pm_ws dA ad M).set x (ad x, .inr (a, ((List.range (pm_nf a)).map (pm_fv ad M a x)).set b v)) = pm_ws dA ad M' := pm_ws_set e1 (fun _ => by rw [pm_cell_o hg.2, pm_fl_set e2 e3]) e4
  have hD := pm_wsD (dA := dA) had hV.2.2.1
  have fin : ∀ (H1 : Heap) (locs1 : List Loc), va_P D pm_vw ((pm_ws dA ad M).set x (ad x, .inr (a, ((List.range (pm_nf a)).map (pm_fv ad M a x)).set b v))) H1 → va_S (fun q => z ≤ q) s.heap H1 locs1 → W p l e R s mi args below meth c H1 locs1 cells slots Q (F0 mi (pc + 3) lsC rest) := fun H1 locs1 g1 g2 => kk H1 locs1 ⟨by rw [← hset]; exact g1, g2, by rw [e1]; exact hV.2.2.1, e5⟩
  rcases hfin with hfin | ⟨hfin, hini, hcn, hne⟩
  · by_cases hne : ne = 1
    · rw [if_pos hne] at hw
      exact va_putN hx hb (fun w h => hW args w h) (pm_in1 ha) (pm_ft a) (pm_ty0 a ha) (pm_nm0 a ha) hown hK hV.1 hD hV.2.1 x hat (pm_vw_at ha) b hbk (hW _ _ (pm_Ts_of _ hw rfl)) hsame hfin (pm_ty0 a ha b hbk) hn hf (by simpa using hbk) hd (fun H1 locs1 g1 _ g2 => fin H1 locs1 g1 g2)
    · rw [if_neg hne] at hw
      exact va_put hx hb (fun w h => hW args w h) (pm_in1 ha) (pm_ft a) (pm_ty0 a ha) (pm_nm0 a ha) hown hK hV.1 hD hV.2.1 x hat (pm_vw_at ha) b hbk (hW _ _ (pm_Ts_of _ hw rfl)) hsame hfin (pm_ty0 a ha b hbk) hn hf (by simpa using hbk) hd (fun H1 locs1 g1 _ g2 => fin H1 locs1 g1 g2)
  · rw [hl] at hne
    have hne : ne = 0 := Option.some.inj hne
    rw [if_neg (fun q => absurd (hne.symm.trans q) (by decide))] at hw
    exact va_putF hx hb (fun w h => hW args w h) (pm_in1 ha) (pm_ft a) (pm_ty0 a ha) (pm_nm0 a ha) hown hK hV.1 hD hV.2.1 x hat (pm_vw_at ha) b hbk (hW _ _ (pm_Ts_of _ hw rfl)) hsame hfin hini (by rw [pm_dc0 a ha b hbk]; exact hcn) (pm_ty0 a ha b hbk) hn hf (by simpa using hbk) hd (fun H1 locs1 g1 _ g2 => fin H1 locs1 g1 g2)
end PMG
theorem pm_s50 : pm_Snd 50 := by
  intro p l e R s mi args below meth c Q m z L xs D dA ad pc len a b n ls ls' st st' M M' g pc' i lsC H locs cells slots hX hd hk hs hs0 hn hg hJ hL hV hph hR kk
  obtain ⟨⟨hx, hb, hml, hown, hlocks, hnm, hret⟩, hK, hF, had, hz⟩ := hX
  simp only [pm_next, pm_kr] at hn
  split at hn
  · rename_i x t
    cases hn
    have kk := kk lsC H locs cells slots hJ hL hV rfl rfl
    simp only [pm_dk] at hk
    split at hk
    · rename_i j
      simp only [Bool.and_eq_true, decide_eq_true_eq, beq_iff_eq, Bool.not_eq_true'] at hk
      obtain ⟨⟨h1, h2⟩, rfl⟩ := hk
      have e1 : pm_fv ad M a x b = .int (M.2.1 x b) := by
        unfold pm_fv
        rw [h2]
        rfl
      refine pm_getf hx hb hown hK hF.1 hV h1 hg hd ?_
      rw [e1]
      exact kk
    · cases hk
  · cases hn
theorem pm_s51 : pm_Snd 51 := by
  intro p l e R s mi args below meth c Q m z L xs D dA ad pc len a b n ls ls' st st' M M' g pc' i lsC H locs cells slots hX hd hk hs hs0 hn hg hJ hL hV hph hR kk
  obtain ⟨⟨hx, hb, hml, hown, hlocks, hnm, hret⟩, hK, hF, had, hz⟩ := hX
  simp only [pm_next, pm_kr] at hn
  split at hn
  · rename_i x t
    cases hn
    have kk := kk lsC H locs cells slots hJ hL hV rfl rfl
    simp only [pm_dk] at hk
    split at hk
    · rename_i j
      simp only [Bool.and_eq_true, decide_eq_true_eq, beq_iff_eq] at hk
      obtain ⟨⟨h1, h2⟩, rfl⟩ := hk
      have e1 : pm_fv ad M a x b = pm_cz ad (pm_rv (M.2.2.1 x b)) := by
        unfold pm_fv
        rw [h2]
        rfl
      refine pm_getf hx hb hown hK hF.1 hV h1 hg hd ?_
      rw [e1]
      exact kk
    · cases hk
  · cases hn
theorem pm_isr_ty {c k n : Nat} (h : pm_ft c k = pm_ty n) : pm_isr c k = false := by
  unfold pm_isr
  rw [h]
  rcases n with _ | _ | _ | n <;> rfl
theorem pm_n_lt {M : pm_Mem} {x : Nat} (h : x < M.1) (hn : M.1 ≤ pm_n) : x < 560 := by
  have : pm_n = 560 := rfl
  omega
theorem pm_s52 : pm_Snd 52 := by
  intro p l e R s mi args below meth c Q m z L xs D dA ad pc len a b n ls ls' st st' M M' g pc' i lsC H locs cells slots hX hd hk hs hs0 hn hg hJ hL hV hph hR kk
  obtain ⟨⟨hx, hb, hml, hown, hlocks, hnm, hret⟩, hK, hF, had, hz⟩ := hX
  simp only [pm_next, pm_kri] at hn
  split at hn
  · rename_i v x t
    cases hn
    simp only [pm_dk] at hk
    split at hk
    · rename_i j
      simp only [Bool.and_eq_true, decide_eq_true_eq, beq_iff_eq, Bool.not_eq_true'] at hk
      obtain ⟨⟨⟨h1, h2⟩, h3⟩, rfl⟩ := hk
      obtain ⟨hg, hf⟩ := hg
      have hi := pm_isr_ty h2
      have hx5 := pm_n_lt hg.1 hV.2.2.1
      have u1 : ∀ y k, y ≠ x → pm_up M.2.1 x b v y k = M.2.1 y k := fun y k hy => if_neg (fun q => hy q.1)
      refine pm_putf (M' := (M.1, pm_up M.2.1 x b v, M.2.2)) hx hb hown hK hF.1 had hV h1 hg (Or.inl h3) (by rw [h2]; exact narrow_of_fits hf) (by rw [h2]; exact hf) rfl (fun _ => ?_) (fun k hk => ?_) (fun y hy => pm_cell_c (fun k => u1 y k hy) (fun _ => rfl) (fun _ => rfl)) ⟨fun k hk => ?_, ?_, hV.2.2.2.2.2⟩ hd (fun H' locs' hV' => kk lsC H' locs' cells slots hJ hL hV' rfl rfl)
      · unfold pm_fv
        rw [hi]
        show Value.int (pm_up M.2.1 x b v x b) = _
        rw [show pm_up M.2.1 x b v x b = v from if_pos ⟨rfl, rfl⟩]
        rfl
      · unfold pm_fv
        show (if _ then _ else Value.int (pm_up M.2.1 x b v x k)) = _
        rw [show pm_up M.2.1 x b v x k = M.2.1 x k from if_neg (fun q => hk q.2)]
      · show pm_up M.2.1 x b v 20000 k = _
        rw [u1 20000 k (Nat.ne_of_gt (Nat.lt_of_lt_of_le hx5 (by decide)))]
        exact hV.2.2.2.1 k hk
      · show pm_up M.2.1 x b v 20001 0 = _
        rw [u1 20001 0 (Nat.ne_of_gt (Nat.lt_of_lt_of_le hx5 (by decide)))]
        exact hV.2.2.2.2.1
    · cases hk
  · cases hn
theorem pm_s53 : pm_Snd 53 := by
  intro p l e R s mi args below meth c Q m z L xs D dA ad pc len a b n ls ls' st st' M M' g pc' i lsC H locs cells slots hX hd hk hs hs0 hn hg hJ hL hV hph hR kk
  obtain ⟨⟨hx, hb, hml, hown, hlocks, hnm, hret⟩, hK, hF, had, hz⟩ := hX
  simp only [pm_next, pm_krr] at hn
  split at hn
  · rename_i v x t
    cases hn
    simp only [pm_dk] at hk
    split at hk
    · rename_i j
      simp only [Bool.and_eq_true, decide_eq_true_eq, beq_iff_eq] at hk
      obtain ⟨⟨⟨⟨⟨h1, hi⟩, h3⟩, h4⟩, h5⟩, rfl⟩ := hk
      obtain ⟨hg, hv⟩ := hg
      have u1 : ∀ y k, y ≠ x → pm_upR M.2.2.1 x b (some v) y k = M.2.2.1 y k := fun y k hy => if_neg (fun q => hy q.1)
      have hrf : narrow (pm_ft a b) (.ref (ad v)) = .ref (ad v) ∧ fits (pm_ft a b) (.ref (ad v)) = true := by
        unfold pm_isr at hi
        split at hi
        · rename_i q; rw [q]; exact ⟨rfl, rfl⟩
        · rename_i q; rw [q]; exact ⟨rfl, rfl⟩
        · cases hi
      have hown5 : pm_cnm a = pm_onm (pm_ow m) ∧ meth.name = "<init>" := by
        obtain ⟨⟨c1, k1, ne, w⟩, hl, he⟩ := Option.map_eq_some_iff.mp h1
        obtain ⟨rfl, rfl⟩ : a = c1 ∧ b = k1 := by cases he; exact ⟨rfl, rfl⟩
        have ha := (pm_fk_rg _ (pm_lk hl)).1
        refine ⟨by rw [h4]; exact pm_cnm_onm a ha, ?_⟩
        rw [hnm]
        exact hs0 rfl
      refine pm_putf (M' := (M.1, M.2.1, pm_upR M.2.2.1 x b (some v), M.2.2.2)) hx hb hown hK hF.1 had hV h1 hg (Or.inr ⟨h3, hown5.2, hown5.1, h5⟩) hrf.1 hrf.2 rfl (fun _ => ?_) (fun k hk => ?_) (fun y hy => pm_cell_c (fun _ => rfl) (fun k => u1 y k hy) (fun _ => rfl)) hV.2.2.2 hd (fun H' locs' hV' => kk lsC H' locs' cells slots hJ hL hV' rfl rfl)
      · unfold pm_fv
        rw [hi]
        show pm_cz ad (pm_rv (pm_upR M.2.2.1 x b (some v) x b)) = _
        rw [show pm_upR M.2.2.1 x b (some v) x b = some v from if_pos ⟨rfl, rfl⟩]
        rfl
      · unfold pm_fv
        show (if _ then pm_cz ad (pm_rv (pm_upR M.2.2.1 x b (some v) x k)) else _) = _
        rw [show pm_upR M.2.2.1 x b (some v) x k = M.2.2.1 x k from if_neg (fun q => hk q.2)]
    · cases hk
  · cases hn
end
section
theorem pm_tys_at {dA : Nat → ClassId} : (pm_tys dA)[0]? = some (dA 0, .int) ∧ (pm_tys dA)[1]? = some (dA 1, .char) ∧ (pm_tys dA)[2]? = some (dA 2, .boolean) ∧ (pm_tys dA)[3]? = some (dA 3, .long) ∧ (pm_tys dA)[4]? = some (dA 4, .object "CardWorkshop$Table") ∧ (pm_tys dA)[5]? = some (dA 5, .array .int) := ⟨rfl, rfl, rfl, rfl, rfl, rfl⟩
theorem pm_at_a {dA : Nat → ClassId} {ad : Nat → Nat} {M : pm_Mem} {x k : Nat} (h0 : x < M.1) (h : (pm_sh x).1 = 1 + k) : (pm_ws dA ad M)[x]? = some (ad x, .inl (dA k, (pm_sh x).2, pm_ac ad M x k)) := by
  rw [pm_ws_at h0, pm_cell_a h]
theorem pm_up_V {s : State} {z L : Nat} {xs : Nat → Int32} {D : va_G} {dA : Nat → ClassId} {ad : Nat → Nat} {M : pm_Mem} {H H1 : Heap} {locs locs1 : List Loc} {x i k : Nat} {v : Int32} (hV : pm_V s z L xs D dA ad M H locs) (h0 : x < M.1) (hk : k < 3) (h : (pm_sh x).1 = 1 + k)
    (g1 : va_P D pm_vw ((pm_ws dA ad M).set x (ad x, .inl (dA k, (pm_sh x).2, .inl (upd (M.2.1 x) i v)))) H1) (g2 : va_S (fun q => z ≤ q) s.heap H1 locs1) : pm_V s z L xs D dA ad (M.1, pm_up M.2.1 x i v, M.2.2) H1 locs1 := by
  have hx5 := pm_n_lt h0 hV.2.2.1
  have u1 : ∀ y k, y ≠ x → pm_up M.2.1 x i v y k = M.2.1 y k := fun y k hy => if_neg (fun q => hy q.1)
  have u2 : pm_up M.2.1 x i v x = upd (M.2.1 x) i v := by
    funext j
    unfold pm_up upd
    by_cases e : j = i
    · rw [if_pos ⟨rfl, e⟩, if_pos e]
    · rw [if_neg (fun q => e q.2), if_neg e]
  refine ⟨?_, g2, hV.2.2.1, fun k hk => ?_, ?_, hV.2.2.2.2.2⟩
  · rw [← pm_ws_set (M := M) (M' := (M.1, pm_up M.2.1 x i v, M.2.2)) (a := x) rfl (fun _ => ?_) (fun y hy => pm_cell_c (fun k => u1 y k hy) (fun _ => rfl) (fun _ => rfl))]
    · exact g1
    · rw [pm_cell_a h]
      rcases (show k = 0 ∨ k = 1 ∨ k = 2 by omega) with rfl | rfl | rfl
      · show Sum.inl (dA 0, _, Sum.inl (pm_up M.2.1 x i v x)) = _
        rw [u2]
      · show Sum.inl (dA 1, _, Sum.inl (pm_up M.2.1 x i v x)) = _
        rw [u2]
      · show Sum.inl (dA 2, _, Sum.inl (pm_up M.2.1 x i v x)) = _
        rw [u2]
  · show pm_up M.2.1 x i v 20000 k = _
    rw [u1 20000 k (Nat.ne_of_gt (Nat.lt_of_lt_of_le hx5 (by decide)))]
    exact hV.2.2.2.1 k hk
  · show pm_up M.2.1 x i v 20001 0 = _
    rw [u1 20001 0 (Nat.ne_of_gt (Nat.lt_of_lt_of_le hx5 (by decide)))]
    exact hV.2.2.2.2.1
theorem pm_s54 : pm_Snd 54 := by
  intro p l e R s mi args below meth c Q m z L xs D dA ad pc len a b n ls ls' st st' M M' g pc' i lsC H locs cells slots hX hd hk hs hs0 hn hg hJ hL hV hph hR kk
  obtain ⟨⟨hx, hb, hml, hown, hlocks, hnm, hret⟩, hK, hF, had, hz⟩ := hX
  simp only [pm_next, pm_kri] at hn
  split at hn
  · rename_i j x t
    cases hn
    have kk := kk lsC H locs cells slots hJ hL hV rfl rfl
    simp only [pm_dk, Bool.and_eq_true, decide_eq_true_eq, beq_iff_eq] at hk
    obtain ⟨⟨h1, rfl⟩, h3⟩ := hk
    obtain ⟨h4, h5, h6⟩ := hg
    have hat := pm_at_a (dA := dA) (ad := ad) h4 h5
    rcases (show a = 0 ∨ a = 1 ∨ a = 2 by omega) with rfl | rfl | rfl
    · rw [if_pos rfl] at h1
      subst h1
      exact va_iald hx hb hK hV.1 x 0 hat pm_tys_at.1 h6 hd kk
    · rw [if_neg (by decide), if_pos rfl] at h1
      subst h1
      exact va_cald hx hb hK hV.1 x 1 hat pm_tys_at.2.1 h6 hd kk
    · rw [if_neg (by decide), if_neg (by decide)] at h1
      subst h1
      exact va_zald hx hb hK hV.1 x 2 hat pm_tys_at.2.2.1 h6 hd kk
  · cases hn
theorem pm_s55 : pm_Snd 55 := by
  intro p l e R s mi args below meth c Q m z L xs D dA ad pc len a b n ls ls' st st' M M' g pc' i lsC H locs cells slots hX hd hk hs hs0 hn hg hJ hL hV hph hR kk
  obtain ⟨⟨hx, hb, hml, hown, hlocks, hnm, hret⟩, hK, hF, had, hz⟩ := hX
  simp only [pm_next, pm_krii] at hn
  split at hn
  · rename_i v j x t
    cases hn
    simp only [pm_dk, Bool.and_eq_true, decide_eq_true_eq, beq_iff_eq] at hk
    obtain ⟨⟨h1, rfl⟩, h3⟩ := hk
    obtain ⟨h4, h5, h6⟩ := hg
    have hat := pm_at_a (dA := dA) (ad := ad) h4 h5
    have hD := pm_wsD (dA := dA) had hV.2.2.1
    rcases (show a = 0 ∨ a = 1 ∨ a = 2 by omega) with rfl | rfl | rfl
    · rw [if_pos rfl] at h1
      subst h1
      exact va_iast hx hb hK hV.1 hD hV.2.1 x 0 hat pm_tys_at.1 h6 hd (fun H1 locs1 g1 _ g2 => kk lsC H1 locs1 cells slots hJ hL (pm_up_V hV h4 h3 h5 g1 g2) rfl rfl)
    · rw [if_neg (by decide), if_pos rfl] at h1
      subst h1
      exact va_cast hx hb hK hV.1 hD hV.2.1 x 1 hat pm_tys_at.2.1 h6 hd (fun H1 locs1 g1 _ g2 => kk lsC H1 locs1 cells slots hJ hL (pm_up_V hV h4 h3 h5 g1 g2) rfl rfl)
    · rw [if_neg (by decide), if_neg (by decide)] at h1
      subst h1
      exact va_zast hx hb hK hV.1 hD hV.2.1 x 2 hat pm_tys_at.2.2.1 h6 hd (fun H1 locs1 g1 _ g2 => kk lsC H1 locs1 cells slots hJ hL (pm_up_V hV h4 h3 h5 g1 g2) rfl rfl)
  · cases hn
theorem pm_sh_le : ∀ x, x < 560 → (pm_sh x).1 ≤ 6 := by decide +kernel
theorem pm_s56 : pm_Snd 56 := by
  intro p l e R s mi args below meth c Q m z L xs D dA ad pc len a b n ls ls' st st' M M' g pc' i lsC H locs cells slots hX hd hk hs hs0 hn hg hJ hL hV hph hR kk
  obtain ⟨⟨hx, hb, hml, hown, hlocks, hnm, hret⟩, hK, hF, had, hz⟩ := hX
  simp only [pm_next, pm_kr] at hn
  split at hn
  · rename_i x t
    cases hn
    have kk := kk lsC H locs cells slots hJ hL hV rfl rfl
    simp only [pm_dk, Bool.and_eq_true, decide_eq_true_eq, beq_iff_eq] at hk
    obtain ⟨rfl, rfl⟩ := hk
    obtain ⟨h4, h5⟩ := hg
    have h6 := pm_sh_le x (pm_n_lt h4 hV.2.2.1)
    obtain ⟨k, hk⟩ : ∃ k, (pm_sh x).1 = 1 + k := ⟨(pm_sh x).1 - 1, by omega⟩
    have hat := pm_at_a (dA := dA) (ad := ad) h4 hk
    obtain ⟨ty, hty⟩ : ∃ ty, (pm_tys dA)[k]? = some (dA k, ty) := by
      rcases (show k = 0 ∨ k = 1 ∨ k = 2 ∨ k = 3 ∨ k = 4 ∨ k = 5 by omega) with rfl | rfl | rfl | rfl | rfl | rfl <;> exact ⟨_, rfl⟩
    exact va_alen hx hb hK hV.1 x k hat hty rfl hd kk
  · cases hn
theorem pm_s57 : pm_Snd 57 := by
  intro p l e R s mi args below meth c Q m z L xs D dA ad pc len a b n ls ls' st st' M M' g pc' i lsC H locs cells slots hX hd hk hs hs0 hn hg hJ hL hV hph hR kk
  obtain ⟨⟨hx, hb, hml, hown, hlocks, hnm, hret⟩, hK, hF, had, hz⟩ := hX
  simp only [pm_next, pm_kri] at hn
  split at hn
  · rename_i j x t
    cases hn
    have kk := kk lsC H locs cells slots hJ hL hV rfl rfl
    simp only [pm_dk, Bool.and_eq_true, decide_eq_true_eq, beq_iff_eq] at hk
    obtain ⟨rfl, rfl⟩ := hk
    obtain ⟨h4, h5, h6⟩ := hg
    exact va_lald hx hb hK hV.1 x 3 (pm_at_a (dA := dA) (ad := ad) h4 h5) pm_tys_at.2.2.2.1 h6 hd kk
  · cases hn
theorem pm_s58 : pm_Snd 58 := by
  intro p l e R s mi args below meth c Q m z L xs D dA ad pc len a b n ls ls' st st' M M' g pc' i lsC H locs cells slots hX hd hk hs hs0 hn hg hJ hL hV hph hR kk
  obtain ⟨⟨hx, hb, hml, hown, hlocks, hnm, hret⟩, hK, hF, had, hz⟩ := hX
  simp only [pm_next, pm_kril] at hn
  split at hn
  · rename_i v j x t
    cases hn
    simp only [pm_dk, Bool.and_eq_true, decide_eq_true_eq, beq_iff_eq] at hk
    obtain ⟨rfl, rfl⟩ := hk
    obtain ⟨h4, h5, h6⟩ := hg
    have hD := pm_wsD (dA := dA) had hV.2.2.1
    have u1 : ∀ y k, y ≠ x → pm_upL M.2.2.2 x j.toNatClampNeg v y k = M.2.2.2 y k := fun y k hy => if_neg (fun q => hy q.1)
    have u2 : pm_upL M.2.2.2 x j.toNatClampNeg v x = vp_updL (M.2.2.2 x) j.toNatClampNeg v := by
      funext k
      unfold pm_upL vp_updL
      by_cases e : k = j.toNatClampNeg
      · rw [if_pos ⟨rfl, e⟩, if_pos e]
      · rw [if_neg (fun q => e q.2), if_neg e]
    refine va_last hx hb hK hV.1 hD hV.2.1 x 3 (pm_at_a (dA := dA) (ad := ad) h4 h5) pm_tys_at.2.2.2.1 h6 hd (fun H1 locs1 g1 _ g2 => kk lsC H1 locs1 cells slots hJ hL ⟨?_, g2, hV.2.2⟩ rfl rfl)
    rw [← pm_ws_set (M := M) (M' := (M.1, M.2.1, M.2.2.1, pm_upL M.2.2.2 x j.toNatClampNeg v)) (a := x) rfl (fun _ => ?_) (fun y hy => pm_cell_c (fun _ => rfl) (fun _ => rfl) (fun k => u1 y k hy))]
    · exact g1
    · rw [pm_cell_a h5]
      show Sum.inl (dA 3, _, Sum.inr (Sum.inl (pm_upL M.2.2.2 x j.toNatClampNeg v x))) = _
      rw [u2]
  · cases hn
theorem pm_s59 : pm_Snd 59 := by
  intro p l e R s mi args below meth c Q m z L xs D dA ad pc len a b n ls ls' st st' M M' g pc' i lsC H locs cells slots hX hd hk hs hs0 hn hg hJ hL hV hph hR kk
  obtain ⟨⟨hx, hb, hml, hown, hlocks, hnm, hret⟩, hK, hF, had, hz⟩ := hX
  simp only [pm_next, pm_kri] at hn
  split at hn
  · rename_i j x t
    cases hn
    have kk := kk lsC H locs cells slots hJ hL hV rfl rfl
    simp only [pm_dk, Bool.and_eq_true, decide_eq_true_eq, beq_iff_eq, Bool.or_eq_true] at hk
    obtain ⟨⟨rfl, rfl⟩, h3⟩ := hk
    obtain ⟨h4, h5, h6⟩ := hg
    have hat := pm_at_a (dA := dA) (ad := ad) h4 h5
    have hlt : j.toNatClampNeg < (pm_sh x).2 := Nat.not_le.mp fun q => h6 (Or.inr q)
    simp only [List.map_cons, pm_cz_rv] at kk
    rcases h3 with rfl | rfl
    · exact va_aldq hx hb hK hV.1 x 4 hat pm_tys_at.2.2.2.2.1 h6 hd kk
    · exact W.aald (v := va_rf ((M.2.2.1 x j.toNatClampNeg).map ad)) (ty := .array .int) hx hb (hV.1 x _ hat) ((hK.2 5 _ pm_tys_at.2.2.2.2.2).1 _ (fun j => va_rf ((M.2.2.1 x j).map ad))) rfl (fun q => by cases q) (by show ¬ (j < 0 ∨ (arrV _ _ _).slots.size ≤ _); rw [arrV_size]; exact h6) (by show (arrV _ _ _).slots[_]? = _; rw [arrV_read _ _ hlt]) rfl rfl hd kk
  · cases hn
theorem pm_s70 : pm_Snd 70 := by
  intro p l e R s mi args below meth c Q m z L xs D dA ad pc len a b n ls ls' st st' M M' g pc' i lsC H locs cells slots hX hd hk hs hs0 hn hg hJ hL hV hph hR kk
  obtain ⟨⟨hx, hb, hml, hown, hlocks, hnm, hret⟩, hK, hF, had, hz⟩ := hX
  simp only [pm_next, pm_krir] at hn
  split at hn
  · rename_i v j x t
    cases hn
    simp only [pm_dk, Bool.and_eq_true, decide_eq_true_eq, beq_iff_eq] at hk
    obtain ⟨rfl, rfl⟩ := hk
    obtain ⟨⟨h4, h5, h6⟩, h7⟩ := hg
    have hat := pm_at_a (dA := dA) (ad := ad) h4 h5
    have hav := pm_ws_at (dA := dA) (ad := ad) h7.1
    rw [pm_cell_o h7.2] at hav
    have hD := pm_wsD (dA := dA) had hV.2.2.1
    have u1 : ∀ y k, y ≠ x → pm_upR M.2.2.1 x j.toNatClampNeg (some v) y k = M.2.2.1 y k := fun y k hy => if_neg (fun q => hy q.1)
    refine va_astq (r := (pm_cnm 4, pm_T 4, pm_nf 4)) hx hb hK hV.1 hD hV.2.1 x 4 v 4 hat pm_tys_at.2.2.2.2.1 hav (pm_vw_at (by decide)) h6 hd (fun H1 locs1 g1 _ g2 => kk lsC H1 locs1 cells slots hJ hL ⟨?_, g2, hV.2.2⟩ rfl rfl)
    rw [← pm_ws_set (M := M) (M' := (M.1, M.2.1, pm_upR M.2.2.1 x j.toNatClampNeg (some v), M.2.2.2)) (a := x) rfl (fun _ => ?_) (fun y hy => pm_cell_c (fun _ => rfl) (fun k => u1 y k hy) (fun _ => rfl))]
    · exact g1
    · rw [pm_cell_a h5]
      refine congrArg (fun f => Sum.inl (dA 4, (pm_sh x).2, Sum.inr (Sum.inr (Sum.inr (Sum.inr f))))) (funext fun k => ?_)
      show (pm_upR M.2.2.1 x j.toNatClampNeg (some v) x k).map ad = va_up (fun i => (M.2.2.1 x i).map ad) j.toNatClampNeg (some (ad v)) k
      unfold pm_upR va_up
      by_cases e : k = j.toNatClampNeg
      · rw [if_pos ⟨rfl, e⟩, if_pos e]
        rfl
      · rw [if_neg (fun q => e q.2), if_neg e]
  · cases hn
end
section
theorem pm_lw_a : tables_1[304]? = some (.native arraycopyName) ∧ tables_1[303]? = some (.static arraycopyName) ∧ tables_1[19]? = some (.initialized "java/lang/System") := by decide +kernel
theorem pm_lw_o1 : tables_1[29]? = some (.instanceMethod objectInit) := by decide +kernel
theorem pm_lw_o2 : tables_1[30]? = some (.code objectInit ⟨#[0xb1]⟩ 1 none) := by rfl
theorem pm_sum8 {ad : Nat → Nat} {t : List Value} (h : t.length ≤ 4) : ((t.map (pm_cz ad)).map fun v => v.category).sum ≤ 8 := by
  have key : ∀ (t : List Value), ((t.map (pm_cz ad)).map fun v => v.category).sum ≤ 2 * t.length := by
    intro t
    induction t with
    | nil => simp
    | cons v t ih =>
      simp only [List.map_cons, List.sum_cons, List.length_cons]
      have : (pm_cz ad v).category ≤ 2 := by rw [pm_cz_cat]; cases v <;> simp [Value.category]
      omega
  have := key t
  omega
theorem pm_cont {l : List (Nat × Nat)} {q : Nat × Nat} (h : l.contains q = true) : ∃ k, k < l.length ∧ l.getD k (0, 0) = q := by
  obtain ⟨k, hk⟩ := List.getElem?_of_mem (List.contains_iff_mem.mp h)
  exact ⟨k, (List.getElem?_eq_some_iff.mp hk).1, by rw [List.getD_eq_getElem?_getD, hk]; rfl⟩
theorem pm_s61 : pm_Snd 61 := by
  intro p l e R s mi args below meth c Q m z L xs D dA ad pc len a b n ls ls' st st' M M' g pc' i lsC H locs cells slots hX hd hk hs hs0 hn hg hJ hL hV hph hR kk
  obtain ⟨⟨hx, hb, hml, hown, hlocks, hnm, hret⟩, hK, hF, had, hz⟩ := hX
  simp only [pm_next, pm_kcp] at hn
  split at hn
  · rename_i k dp y sp x t
    cases hn
    simp only [pm_dk] at hk
    split at hk
    · rename_i j
      simp only [Bool.and_eq_true, beq_iff_eq] at hk
      obtain ⟨rfl, hk⟩ := hk
      obtain ⟨q, hq1, hq2⟩ := pm_cont hk
      have hlink := pm_acl_ok q hq1
      rw [hq2] at hlink
      obtain ⟨g1, g2, g3, g4, g5, g6, g7, g8, g9, g10⟩ := hg
      have hD := pm_wsD (dA := dA) had hV.2.2.1
      have hy5 := pm_n_lt g2 hV.2.2.1
      have u1 : ∀ w i, w ≠ y → pm_cpy M.2.1 x sp.toNatClampNeg y dp.toNatClampNeg k.toNatClampNeg w i = M.2.1 w i := fun w i hw => if_neg (fun q => hw q.1)
      have u2 : pm_cpy M.2.1 x sp.toNatClampNeg y dp.toNatClampNeg k.toNatClampNeg y = va_cpy (M.2.1 x) (M.2.1 y) sp.toNatClampNeg dp.toNatClampNeg k.toNatClampNeg := by
        funext i
        unfold pm_cpy va_cpy
        by_cases e : dp.toNatClampNeg ≤ i ∧ i < dp.toNatClampNeg + k.toNatClampNeg
        · rw [if_pos ⟨rfl, e⟩, if_pos e]
        · rw [if_neg (fun q => e q.2), if_neg e]
      have h8 := pm_sum8 (ad := ad) g10
      refine va_copyi hx hb (by rw [hml, hL.1, hJ.1]) hown (hF.1 _ _ (pm_Ts_of _ hlink rfl)) (hF.1 _ _ (pm_Ts_of _ pm_lw_a.1 rfl)) (hF.1 _ _ (pm_Ts_of _ pm_lw_a.2.1 rfl)) (hF.1 _ _ (pm_Ts_of _ pm_lw_a.2.2 rfl)) hK hV.1 hD hV.2.1 x y 0 0 (pm_at_a (dA := dA) (ad := ad) (k := 0) g1 g3) (pm_at_a (dA := dA) (ad := ad) (k := 0) g2 g4) pm_tys_at.1 pm_tys_at.1 rfl g5 g6 g7 g8 g9 (fun _ _ => rfl) (by omega) (by
        have e : nativeFrameWords "java/lang/System" "arraycopy" 5 = 7 := by decide
        rw [e]
        omega) hd (fun H1 locs1 w1 _ w2 => kk lsC H1 locs1 cells slots hJ hL ⟨?_, w2, hV.2.2.1, fun i hi => ?_, ?_, hV.2.2.2.2.2⟩ rfl rfl)
      · rw [← pm_ws_set (M := M) (M' := (M.1, pm_cpy M.2.1 x sp.toNatClampNeg y dp.toNatClampNeg k.toNatClampNeg, M.2.2)) (a := y) rfl (fun _ => ?_) (fun w hw => pm_cell_c (fun i => u1 w i hw) (fun _ => rfl) (fun _ => rfl))]
        · exact w1
        · rw [pm_cell_a (k := 0) g4]
          show Sum.inl (dA 0, _, Sum.inl (pm_cpy M.2.1 x sp.toNatClampNeg y dp.toNatClampNeg k.toNatClampNeg y)) = _
          rw [u2]
      · show pm_cpy _ _ _ _ _ _ 20000 i = _
        rw [u1 20000 i (Nat.ne_of_gt (Nat.lt_of_lt_of_le hy5 (by decide)))]
        exact hV.2.2.2.1 i hi
      · show pm_cpy _ _ _ _ _ _ 20001 0 = _
        rw [u1 20001 0 (Nat.ne_of_gt (Nat.lt_of_lt_of_le hy5 (by decide)))]
        exact hV.2.2.2.2.1
    · cases hk
  · cases hn
theorem pm_s74 : pm_Snd 74 := by
  intro p l e R s mi args below meth c Q m z L xs D dA ad pc len a b n ls ls' st st' M M' g pc' i lsC H locs cells slots hX hd hk hs hs0 hn hg hJ hL hV hph hR kk
  obtain ⟨⟨hx, hb, hml, hown, hlocks, hnm, hret⟩, hK, hF, had, hz⟩ := hX
  simp only [pm_next, pm_kr] at hn
  split at hn
  · rename_i x t
    cases hn
    have kk := kk lsC H locs cells slots hJ hL hV rfl rfl
    simp only [pm_dk] at hk
    split at hk
    · rename_i j
      simp only [Bool.and_eq_true, beq_iff_eq] at hk
      obtain ⟨rfl, hk⟩ := hk
      obtain ⟨q, hq1, hq2⟩ := pm_cont hk
      have hlink := pm_obl_ok q hq1
      rw [hq2] at hlink
      have h8 := pm_sum8 (ad := ad) hg
      exact W.objInit hx hb hown (hF.1 _ _ (pm_Ts_of _ hlink rfl)) (hF.1 _ _ (pm_Ts_of _ pm_lw_o1 rfl)) (hF.1 _ _ (pm_Ts_of _ pm_lw_o2 rfl)) rfl (by show lsC.size = _; rw [hml, hL.1, hJ.1]) (a := ad x) (rest := List.map (pm_cz ad) st') rfl hd (by omega) (by show 2 * 0 + _ + 12 ≤ _; omega) kk
    · cases hk
  · cases hn
theorem pm_lw_s : tables_1[451]? = some (.fieldLink "java/lang/String" 38 "java/lang/String" "COMPACT_STRINGS" "Z") ∧ tables_1[541]? = some (.fieldLink "CardWorkshop$Reader" 109 "CardWorkshop$Reader" "OPERATOR_LEVELS" "[I") ∧ tables_1[543]? = some (.fieldLink "CardWorkshop$Reader" 112 "CardWorkshop$Reader" "OPERATOR_CODES" "[I") ∧ tables_1[1041]? = some (.fieldLink "java/lang/String" 15 "java/lang/String" "coder" "B") ∧ tables_1[1042]? = some (.fieldLink "java/lang/String" 9 "java/lang/String" "value" "[B") := by decide +kernel
theorem pm_sk_rg : ∀ q ∈ pm_sk, q.2.1 = 10000 ∨ q.2.1 = 10010 ∨ q.2.1 = 10020 := by decide +kernel
theorem pm_F.S {z L x : Nat} {ad : Nat → Nat} {xs : Nat → Int32} {U : State} (h : pm_F z ad L xs U) (hx : pm_str x) : pm_FS z ad x U := by
  rcases hx with rfl | rfl | rfl
  · exact h.2.1.1
  · exact h.2.1.2.1
  · exact h.2.1.2.2
theorem pm_F.B {z L x : Nat} {ad : Nat → Nat} {xs : Nat → Int32} {U : State} (h : pm_F z ad L xs U) (hx : pm_stl x) : va_T .byte (ad x) (pm_tabn x) (fun j => .int (pm_tab x j)) (fun q => z ≤ q) U U.heap := by
  rcases hx with rfl | rfl | rfl
  · exact h.2.1.1.2.2.2.2
  · exact h.2.1.2.1.2.2.2.2
  · exact h.2.1.2.2.2.2.2.2
theorem pm_s80 : pm_Snd 80 := by
  intro p l e R s mi args below meth c Q m z L xs D dA ad pc len a b n ls ls' st st' M M' g pc' i lsC H locs cells slots hX hd hk hs hs0 hn hg hJ hL hV hph hR kk
  obtain ⟨⟨hx, hb, hml, hown, hlocks, hnm, hret⟩, hK, hF, had, hz⟩ := hX
  cases hn
  have kk := kk lsC H locs cells slots hJ hL hV rfl rfl
  simp only [pm_dk] at hk
  split at hk
  · rename_i j
    simp only [Bool.and_eq_true, decide_eq_true_eq, beq_iff_eq] at hk
    obtain ⟨⟨h1, rfl⟩, h2⟩ := hk
    obtain ⟨⟨a1, w⟩, hl, he⟩ := Option.map_eq_some_iff.mp h1
    obtain rfl : a = a1 := he.symm
    have hm := pm_lk hl
    have hs := hF.S (pm_sk_rg _ hm)
    have h9 : vk_R (pm_onm (pm_ow m)) j (pm_txt a) (ad a) s := hs.1 ((pm_ow m, j), a, w) hm rfl
    exact va_ldcS hx hb hown h9 hd kk
  · rename_i j
    simp only [Bool.and_eq_true, beq_iff_eq, Bool.or_eq_true] at hk
    obtain ⟨rfl, hk⟩ := hk
    rcases hk with ⟨⟨h1, rfl⟩, rfl⟩ | ⟨⟨h1, rfl⟩, rfl⟩
    · rw [h1] at hown
      exact va_gets hx hb hF.2.2.1.1.1 hV.2.1 hown (hF.1 _ _ (pm_Ts_of _ pm_lw_s.2.1 rfl)) (fun _ h9 => h9) hd kk
    · rw [h1] at hown
      exact va_gets hx hb hF.2.2.1.2.1 hV.2.1 hown (hF.1 _ _ (pm_Ts_of _ pm_lw_s.2.2.1 rfl)) (fun _ h9 => h9) hd kk
  · cases hk
theorem pm_s81 : pm_Snd 81 := by
  intro p l e R s mi args below meth c Q m z L xs D dA ad pc len a b n ls ls' st st' M M' g pc' i lsC H locs cells slots hX hd hk hs hs0 hn hg hJ hL hV hph hR kk
  obtain ⟨⟨hx, hb, hml, hown, hlocks, hnm, hret⟩, hK, hF, had, hz⟩ := hX
  simp only [pm_next, pm_kri] at hn
  split at hn
  · rename_i j x t
    cases hn
    have kk := kk lsC H locs cells slots hJ hL hV rfl rfl
    simp only [pm_dk, Bool.and_eq_true, decide_eq_true_eq, beq_iff_eq] at hk
    obtain ⟨h1, rfl⟩ := hk
    obtain ⟨h2, h3⟩ := hg
    rcases h2 with ⟨rfl, h2⟩ | ⟨rfl, h2⟩
    · rw [if_neg (by decide)] at h1
      subst h1
      exact va_tb hx hb (hF.B h2) hV.2.1 h3 rfl hd kk
    · rw [if_pos rfl] at h1
      subst h1
      rcases h2 with rfl | rfl
      · exact va_ti hx hb hF.2.2.1.1.2 hV.2.1 h3 rfl hd kk
      · exact va_ti hx hb hF.2.2.1.2.2 hV.2.1 h3 rfl hd kk
  · cases hn
theorem pm_s82 : pm_Snd 82 := by
  intro p l e R s mi args below meth c Q m z L xs D dA ad pc len a b n ls ls' st st' M M' g pc' i lsC H locs cells slots hX hd hk hs hs0 hn hg hJ hL hV hph hR kk
  obtain ⟨⟨hx, hb, hml, hown, hlocks, hnm, hret⟩, hK, hF, had, hz⟩ := hX
  simp only [pm_next, pm_kr] at hn
  split at hn
  · rename_i x t
    cases hn
    have kk := kk lsC H locs cells slots hJ hL hV rfl rfl
    simp only [pm_dk, Bool.and_eq_true, decide_eq_true_eq, beq_iff_eq] at hk
    obtain ⟨rfl, rfl⟩ := hk
    exact va_tlen hx hb (hF.B hg) hV.2.1 rfl hd kk
  · cases hn
theorem pm_s83 : pm_Snd 83 := by
  intro p l e R s mi args below meth c Q m z L xs D dA ad pc len a b n ls ls' st st' M M' g pc' i lsC H locs cells slots hX hd hk hs hs0 hn hg hJ hL hV hph hR kk
  obtain ⟨⟨hx, hb, hml, hown, hlocks, hnm, hret⟩, hK, hF, had, hz⟩ := hX
  simp only [pm_next, pm_kri] at hn
  split at hn
  · rename_i j x t
    cases hn
    have kk := kk lsC H locs cells slots hJ hL hV rfl rfl
    simp only [pm_dk, Bool.and_eq_true, decide_eq_true_eq, beq_iff_eq] at hk
    obtain ⟨rfl, rfl⟩ := hk
    obtain ⟨rfl, h2⟩ := hg
    have hX := hF.2.2.2.2.1
    rw [hV.2.2.2.2.1, nI_clamp (by have := hV.2.2.2.2.2; omega)] at h2
    have hlt : j.toNatClampNeg < L := Nat.not_le.mp fun q => h2 (Or.inr q)
    refine va_sld hx hb hX.1 (Nat.lt_of_lt_of_le hX.2 hz) (fun q => Nat.lt_irrefl _ (Nat.lt_of_lt_of_le hX.2 q)) hV.2.1 h2 hd ?_
    rw [← hV.2.2.2.1 _ hlt]
    exact kk
  · cases hn
theorem pm_s84 : pm_Snd 84 := by
  intro p l e R s mi args below meth c Q m z L xs D dA ad pc len a b n ls ls' st st' M M' g pc' i lsC H locs cells slots hX hd hk hs hs0 hn hg hJ hL hV hph hR kk
  obtain ⟨⟨hx, hb, hml, hown, hlocks, hnm, hret⟩, hK, hF, had, hz⟩ := hX
  simp only [pm_next, pm_kr] at hn
  split at hn
  · rename_i x t
    cases hn
    have kk := kk lsC H locs cells slots hJ hL hV rfl rfl
    simp only [pm_dk, Bool.and_eq_true, decide_eq_true_eq, beq_iff_eq] at hk
    obtain ⟨rfl, rfl⟩ := hk
    have hX := hF.2.2.2.2.1
    subst hg
    rw [hV.2.2.2.2.1] at kk
    exact va_slen hx hb hX.1 (Nat.lt_of_lt_of_le hX.2 hz) (fun q => Nat.lt_irrefl _ (Nat.lt_of_lt_of_le hX.2 q)) hV.2.1 hd kk
  · cases hn
theorem pm_s85 : pm_Snd 85 := by
  intro p l e R s mi args below meth c Q m z L xs D dA ad pc len a b n ls ls' st st' M M' g pc' i lsC H locs cells slots hX hd hk hs hs0 hn hg hJ hL hV hph hR kk
  obtain ⟨⟨hx, hb, hml, hown, hlocks, hnm, hret⟩, hK, hF, had, hz⟩ := hX
  simp only [pm_next, pm_kr] at hn
  split at hn
  · rename_i x t
    cases hn
    have kk := kk lsC H locs cells slots hJ hL hV rfl rfl
    simp only [pm_dk] at hk
    split at hk
    · simp only [Bool.and_eq_true, beq_iff_eq] at hk
      obtain ⟨⟨h1, rfl⟩, rfl⟩ := hk
      rw [h1] at hown
      exact vk_getf hx hb (hF.S hg).2.2.1 hV.2.1 hown (hF.1 _ _ (pm_Ts_of _ pm_lw_s.2.2.2.2 rfl)) (fun _ h9 => h9) hd kk
    · cases hk
  · cases hn
theorem pm_s86 : pm_Snd 86 := by
  intro p l e R s mi args below meth c Q m z L xs D dA ad pc len a b n ls ls' st st' M M' g pc' i lsC H locs cells slots hX hd hk hs hs0 hn hg hJ hL hV hph hR kk
  obtain ⟨⟨hx, hb, hml, hown, hlocks, hnm, hret⟩, hK, hF, had, hz⟩ := hX
  simp only [pm_next, pm_kr] at hn
  split at hn
  · rename_i x t
    cases hn
    have kk := kk lsC H locs cells slots hJ hL hV rfl rfl
    simp only [pm_dk] at hk
    split at hk
    · simp only [Bool.and_eq_true, beq_iff_eq] at hk
      obtain ⟨⟨h1, rfl⟩, rfl⟩ := hk
      rw [h1] at hown
      exact vk_getf hx hb (hF.S hg).2.2.2.1 hV.2.1 hown (hF.1 _ _ (pm_Ts_of _ pm_lw_s.2.2.2.1 rfl)) (fun _ h9 => h9) hd kk
    · cases hk
  · cases hn
theorem pm_s87 : pm_Snd 87 := by
  intro p l e R s mi args below meth c Q m z L xs D dA ad pc len a b n ls ls' st st' M M' g pc' i lsC H locs cells slots hX hd hk hs hs0 hn hg hJ hL hV hph hR kk
  obtain ⟨⟨hx, hb, hml, hown, hlocks, hnm, hret⟩, hK, hF, had, hz⟩ := hX
  cases hn
  have kk := kk lsC H locs cells slots hJ hL hV rfl rfl
  simp only [pm_dk] at hk
  split at hk
  · simp only [Bool.and_eq_true, decide_eq_true_eq, beq_iff_eq] at hk
    obtain ⟨⟨⟨h1, rfl⟩, rfl⟩, rfl⟩ := hk
    rw [h1] at hown
    exact va_gets hx hb hF.2.2.2.1 hV.2.1 hown (hF.1 _ _ (pm_Ts_of _ pm_lw_s.1 rfl)) (fun _ h9 => h9) hd kk
  · cases hk
end
section
section PMN
variable {p : Program} {l : Launch} {e : Env} {R : Room} {s : State} {mi : MethodId} {args : Array Value} {below : List Frame} {meth : Method} {c : Code} {H H1 : Heap} {locs : List Loc} {cells slots : Nat} {Q : State → Prop} {z L : Nat} {xs : Nat → Int32} {D : va_G} {dA : Nat → ClassId} {ad : Nat → Nat} {M M' : pm_Mem}
theorem pm_size {g : JFrame} (h : H.size ≤ s.heap.size + cells → W p l e R s mi args below meth c H locs cells slots Q g) : W p l e R s mi args below meth c H locs cells slots Q g := fun T hT X => h (by rw [← hT]; exact X.heapSize) T hT X
theorem pm_szeq (had : pm_ad z ad) (hz : z ≤ s.heap.size) (hV : pm_V s z L xs D dA ad M H locs) (h0 : M.1 < pm_n) (h1 : s.heap.size + cells = z + M.1) (h2 : H.size ≤ s.heap.size + cells) : H.size = z + M.1 := by
  have h3 : z + M.1 ≤ H.size := by
    rcases Nat.eq_zero_or_pos M.1 with e | e
    · have := hV.2.1.1
      omega
    · have h4 : (ad (M.1 - 1), pm_cell dA ad M (M.1 - 1)).1 < H.size := (hV.1 (M.1 - 1) _ (pm_ws_at (by omega))).lt
      have h4 : ad (M.1 - 1) < H.size := h4
      have e2 := had (M.1 - 1) (by omega)
      omega
  omega
theorem pm_ws_push (h1 : M'.1 = M.1 + 1) (h2 : ∀ a, a < M.1 → pm_cell dA ad M' a = pm_cell dA ad M a) : pm_ws dA ad M' = pm_ws dA ad M ++ [(ad M.1, pm_cell dA ad M' M.1)] := by
  unfold pm_ws
  rw [h1, List.range_succ, List.map_append]
  congr 1
  apply List.map_congr_left
  intro a ha
  rw [h2 a (List.mem_range.mp ha)]
theorem pm_newV (hV : pm_V s z L xs D dA ad M H locs) (h1 : M'.1 = M.1 + 1) (h2 : ∀ a, a < M.1 → pm_cell dA ad M' a = pm_cell dA ad M a) (hlt : M.1 < pm_n) (o1 : ∀ q : Nat, q < H.size → H1[q]? = H[q]?) (z1 : H.size ≤ H1.size) (hat : va_at D pm_vw (ad M.1, pm_cell dA ad M' M.1) H1) (hsc : ∀ x j, 560 ≤ x → M'.2.1 x j = M.2.1 x j) : pm_V s z L xs D dA ad M' H1 locs := by
  refine ⟨?_, ⟨Nat.le_trans hV.2.1.1 z1, fun q g1 g2 => (o1 q (Nat.lt_of_lt_of_le g1 hV.2.1.1)).trans (hV.2.1.2.1 q g1 g2), hV.2.1.2.2⟩, by omega, fun j hj => ?_, ?_, hV.2.2.2.2.2⟩
  · rw [pm_ws_push h1 h2]
    refine (hV.1.kept (fun k q hq => o1 q.1 ((hV.1 k q hq).lt))).app (fun k q hq => ?_)
    have hz : k < 1 := (List.getElem?_eq_some_iff.mp hq).1
    rw [show k = 0 by omega] at hq
    cases hq
    exact hat
  · rw [hsc _ _ (by decide)]
    exact hV.2.2.2.1 j hj
  · rw [hsc _ _ (by decide)]
    exact hV.2.2.2.2.1
end PMN
def pm_inl : List Nat := [38, 118, 32, 137, 146, 24, 699]
def pm_itl : List Nat := [3, 4, 2, 5, 6, 1, 7]
theorem pm_inl_ok : ∀ c, c < 7 → tables_1[pm_inl.getD c 0]? = some (.instantiable (pm_cnm c) (pm_nf c)) ∧ tables_1[pm_itl.getD c 0]? = some (.initialized (pm_cnm c)) := by decide +kernel
theorem pm_dfl : ∀ c, c < 7 → ∀ k, k < pm_nf c → defaultValue (pm_ft c k) = if pm_isr c k = true then .null else .int 0 := by decide +kernel
theorem pm_sh_bd : ∀ x, x < 560 → (pm_sh x).2 ≤ 9420 := by decide +kernel
theorem pm_s71 : pm_Snd 71 := by
  intro p l e R s mi args below meth c Q m z L xs D dA ad pc len a b n ls ls' st st' M M' g pc' i lsC H locs cells slots hX hd hk hs hs0 hn hg hJ hL hV hph hR kk
  obtain ⟨⟨hx, hb, hml, hown, hlocks, hnm, hret⟩, hK, hF, had, hz⟩ := hX
  cases hn
  simp only [pm_dk] at hk
  split at hk
  · rename_i j
    simp only [Bool.and_eq_true, decide_eq_true_eq, beq_iff_eq] at hk
    obtain ⟨⟨h1, rfl⟩, ha⟩ := hk
    obtain ⟨⟨a1, w⟩, hl, he⟩ := Option.map_eq_some_iff.mp h1
    obtain rfl : a = a1 := he.symm
    have hw := pm_kk_ok _ (pm_lk hl)
    obtain ⟨⟨hsh, hlt⟩, hct⟩ := hg
    refine pm_size (fun hsz => ?_)
    have hH := pm_szeq had hz hV hlt (hph hlt hct) hsz
    have hA := had _ hlt
    have hKn := hK.1 a _ (pm_vw_at ha)
    have hsl : pm_sl (M.1 + 1) = pm_sl M.1 + pm_nf a := by
      show pm_sl M.1 + pm_slt (pm_sh M.1) = _
      rw [hsh]
      rfl
    have hR1 : cells + (M.1 + 1) ≤ R.cells + M.1 := hR.1
    have hR2 : slots + pm_sl (M.1 + 1) ≤ R.slots + pm_sl M.1 := hR.2.1
    refine W.newcK hx hb hown (hF.1 _ _ (pm_Ts_of _ hw rfl)) (hF.1 _ _ (pm_Ts_of _ (pm_inl_ok a ha).1 rfl)) (hF.1 _ _ (pm_Ts_of _ (pm_inl_ok a ha).2 rfl)) rfl hd (by omega) (by omega) hKn.2.1 hH (fun H1 kC hkC e1 z1 o1 => ?_)
    have hat : va_at D pm_vw (ad M.1, pm_cell dA ad (M.1 + 1, (fun x j => if x = M.1 then 0 else M.2.1 x j), (fun x j => if x = M.1 then none else M.2.2.1 x j), M.2.2.2) M.1) H1 := by
      rw [pm_cell_o hsh, hA]
      refine ⟨_, pm_vw_at ha, (u_born (pm_ft a) (fun w h => hF.1 args w h) (pm_in1 ha) hKn hkC e1 (pm_ty0 a ha)).to (fun k hk => ?_)⟩
      show defaultValue (pm_ft a k) = List.getD _ k .null
      rw [List.getD_eq_getElem?_getD, pm_fl_at hk, pm_dfl a ha k hk]
      unfold pm_fv
      by_cases h9 : pm_isr a k = true
      · rw [if_pos h9, if_pos h9]
        show Value.null = pm_cz ad (pm_rv (if M.1 = M.1 then none else M.2.2.1 M.1 k))
        rw [if_pos rfl]
        rfl
      · rw [if_neg h9, if_neg h9]
        show Value.int 0 = Value.int (if M.1 = M.1 then 0 else M.2.1 M.1 k)
        rw [if_pos rfl]
    have hV' := pm_newV (M' := (M.1 + 1, (fun x j => if x = M.1 then 0 else M.2.1 x j), (fun x j => if x = M.1 then none else M.2.2.1 x j), M.2.2.2)) hV rfl (fun y hy => pm_cell_c (fun k => if_neg (Nat.ne_of_lt hy)) (fun k => if_neg (Nat.ne_of_lt hy)) (fun _ => rfl)) hlt (by rw [hH]; exact o1) (by omega) hat (fun x k hx => if_neg (fun q => by have : pm_n = 560 := rfl; omega))
    have kk := kk lsC H1 locs (cells + 1) (slots + pm_nf a) hJ hL hV' (by show cells + 1 + M.1 = cells + (M.1 + 1); omega) (by rw [hsl]; omega)
    simp only [List.map_cons, pm_cz, hA] at kk
    exact kk
  · cases hk
def pm_arw : List Nat := [98, 97, 819, 1039]
theorem pm_arw_ok : ∀ k, k < 4 → tables_1[pm_arw.getD k 0]? = some (.arrayClass (newarray.typeOf (pm_at1 k))) := by decide +kernel
theorem pm_cb : ∀ k, k < 4 → componentBytes (newarray.typeOf (pm_at1 k)) ≤ 8 := by decide +kernel
theorem pm_isrt (n : Nat) : pm_slt (1 + n, 7) = 7 := by
  unfold pm_slt
  rw [if_neg (by show ¬ 1 + n = 0; omega)]
theorem pm_slt_a {q : Nat × Nat} {k n : Nat} (h : q = (1 + k, n)) : pm_slt q = n := by
  rw [h]
  unfold pm_slt
  rw [if_neg (by show ¬ 1 + k = 0; omega)]
theorem pm_s72 : pm_Snd 72 := by
  intro p l e R s mi args below meth c Q m z L xs D dA ad pc len a b n ls ls' st st' M M' g pc' i lsC H locs cells slots hX hd hk hs hs0 hn hg hJ hL hV hph hR kk
  obtain ⟨⟨hx, hb, hml, hown, hlocks, hnm, hret⟩, hK, hF, had, hz⟩ := hX
  simp only [pm_next, pm_k1] at hn
  split at hn
  · rename_i k t
    cases hn
    obtain ⟨⟨hsh, hk0, hlt⟩, hct⟩ := hg
    have hA := had _ hlt
    have hsl : pm_sl (M.1 + 1) = pm_sl M.1 + k.toNatClampNeg := by
      show pm_sl M.1 + pm_slt (pm_sh M.1) = _
      rw [pm_slt_a hsh]
    have hR1 : cells + (M.1 + 1) ≤ R.cells + M.1 := hR.1
    have hR2 : slots + pm_sl (M.1 + 1) ≤ R.slots + pm_sl M.1 := hR.2.1
    have hbd : k.toNatClampNeg ≤ 9420 := by
      have := pm_sh_bd M.1 (by have : pm_n = 560 := rfl; omega)
      rw [hsh] at this
      exact this
    refine pm_size (fun hsz => ?_)
    have hH := pm_szeq had hz hV hlt (hph hlt hct) hsz
    have hk1 : (pm_sh M.1).1 = 1 + a := by rw [hsh]
    have hk2 : (pm_sh M.1).2 = k.toNatClampNeg := by rw [hsh]
    have fin : ∀ (H1 : Heap), H1.size = z + M.1 + 1 → (∀ q : Nat, q < z + M.1 → H1[q]? = H[q]?) → H1[z + M.1]? = some (vp_cell (dA a) (k.toNatClampNeg, pm_ac ad (M.1 + 1, (fun x j => if x = M.1 then 0 else M.2.1 x j), (fun x j => if x = M.1 then none else M.2.2.1 x j), (fun x j => if x = M.1 then 0 else M.2.2.2 x j)) M.1 a)) →
        W p l e R s mi args below meth c H1 locs (cells + 1) (slots + k.toNatClampNeg) Q (F0 mi (pc + len) lsC (.ref (z + M.1) :: List.map (pm_cz ad) t)) := by
      intro H1 z1 o1 e1
      have hat : va_at D pm_vw (ad M.1, pm_cell dA ad (M.1 + 1, (fun x j => if x = M.1 then 0 else M.2.1 x j), (fun x j => if x = M.1 then none else M.2.2.1 x j), (fun x j => if x = M.1 then 0 else M.2.2.2 x j)) M.1) H1 := by
        rw [pm_cell_a hk1, hA, hk2]
        exact e1
      have hV' := pm_newV (M' := (M.1 + 1, (fun x j => if x = M.1 then 0 else M.2.1 x j), (fun x j => if x = M.1 then none else M.2.2.1 x j), (fun x j => if x = M.1 then 0 else M.2.2.2 x j))) hV rfl (fun y hy => pm_cell_c (fun k => if_neg (Nat.ne_of_lt hy)) (fun k => if_neg (Nat.ne_of_lt hy)) (fun k => if_neg (Nat.ne_of_lt hy))) hlt (by rw [hH]; exact o1) (by omega) hat (fun x k hx => if_neg (fun q => by have : pm_n = 560 := rfl; omega))
      have kk := kk lsC H1 locs (cells + 1) (slots + k.toNatClampNeg) hJ hL hV' (by show cells + 1 + M.1 = cells + (M.1 + 1); omega) (by rw [hsl]; omega)
      simp only [List.map_cons, pm_cz, hA] at kk
      exact kk
    simp only [pm_dk] at hk
    split at hk
    · rename_i at9
      simp only [Bool.and_eq_true, decide_eq_true_eq, beq_iff_eq] at hk
      obtain ⟨⟨ha, rfl⟩, rfl⟩ := hk
      have hcb := pm_cb a ha
      refine va_newaK hx hb (hF.1 _ _ (pm_Ts_of _ (pm_arw_ok a ha) rfl)) rfl hd (rest := List.map (pm_cz ad) t) rfl hk0 rfl (Nat.le_trans (Nat.mul_le_mul hbd hcb) (by decide)) (by omega) (by omega) hH (fun H1 cA e1 z1 o1 hAr hNm => fin H1 z1 o1 ?_)
      rw [e1]
      rcases (show a = 0 ∨ a = 1 ∨ a = 2 ∨ a = 3 by omega) with rfl | rfl | rfl | rfl
      · have e2 : cA = dA 0 := Option.some.inj (hNm.symm.trans (hK.2 0 _ pm_tys_at.1).2)
        rw [e2]
        show _ = some (vp_cell (dA 0) (_, .inl (fun j => if M.1 = M.1 then (0 : Int32) else M.2.1 M.1 j)))
        rw [vp_cell_i]
        simp only [if_pos]
        rfl
      · have e2 : cA = dA 1 := Option.some.inj (hNm.symm.trans (hK.2 1 _ pm_tys_at.2.1).2)
        rw [e2]
        show _ = some (vp_cell (dA 1) (_, .inl (fun j => if M.1 = M.1 then (0 : Int32) else M.2.1 M.1 j)))
        rw [vp_cell_i]
        simp only [if_pos]
        rfl
      · have e2 : cA = dA 2 := Option.some.inj (hNm.symm.trans (hK.2 2 _ pm_tys_at.2.2.1).2)
        rw [e2]
        show _ = some (vp_cell (dA 2) (_, .inl (fun j => if M.1 = M.1 then (0 : Int32) else M.2.1 M.1 j)))
        rw [vp_cell_i]
        simp only [if_pos]
        rfl
      · have e2 : cA = dA 3 := Option.some.inj (hNm.symm.trans (hK.2 3 _ pm_tys_at.2.2.2.1).2)
        rw [e2]
        show _ = some (vp_cell (dA 3) (_, .inr (.inl (fun j => if M.1 = M.1 then (0 : Int64) else M.2.2.2 M.1 j))))
        rw [vp_cell_l]
        simp only [if_pos]
        rfl
    · rename_i j
      simp only [Bool.and_eq_true, decide_eq_true_eq, beq_iff_eq] at hk
      obtain ⟨⟨rfl, h1⟩, rfl⟩ := hk
      obtain ⟨⟨a1, w⟩, hl, he⟩ := Option.map_eq_some_iff.mp h1
      obtain rfl : 4 = a1 := he.symm
      have hw := pm_kk_ok _ (pm_lk hl)
      refine W.anew hx hb hown (hF.1 _ _ (pm_Ts_of _ hw rfl)) (va_AO.use hF.2.2.2.2.2.1.1) rfl hd rfl hk0 (by omega) (by omega) (by omega) (fun cA kA comp f1 f2 f3 f4 => ?_)
      have e2 : cA = dA 4 := by
        obtain ⟨kA9, comp9, q1, q2, q3, q4⟩ := (hK.2 4 _ pm_tys_at.2.2.2.2.1).2
        exact Option.some.inj (f1.symm.trans q4)
      subst e2
      rw [hH]
      refine fin _ (by rw [Array.size_push, hH]) (fun q hq => by rw [Array.getElem?_push, if_neg (by rw [hH]; exact Nat.ne_of_lt hq)]) ?_
      rw [← hH, Array.getElem?_push_size]
      show _ = some (vp_cell (dA 4) (_, .inr (.inr (.inr (.inr (fun i => (if M.1 = M.1 then (none : Option Nat) else M.2.2.1 M.1 i).map ad))))))
      rw [vp_cell_q]
      simp only [if_pos, Option.map_none]
      show _ = some (arrV _ _ (fun _ => Value.null))
      rw [← arrV_new]
    · cases hk
  · cases hn
theorem vr_outer (c : ClassId) (N h0 : Nat) : ∀ i : Nat, Jvm.Free.Multi.outerC c N h0 i = arrV c N (fun j => va_rf (if j < i then some (h0 + 1 + j) else none))
  | 0 => by
    show ({ cls := c, slots := Array.replicate N .null, vm := .none } : Cell) = _
    rw [arrV_new]
    refine congrArg (arrV c N) (funext fun j => ?_)
    simp [va_rf]
  | i + 1 => by
    show (Jvm.Free.Multi.outerC c N h0 i).setSlot i (.ref (h0 + 1 + i)) = _
    rw [vr_outer c N h0 i, arrV_store]
    refine congrArg (arrV c N) (funext fun j => ?_)
    by_cases e : j = i
    · subst e
      simp [updV, va_rf]
    · by_cases h : j < i
      · simp [updV, e, h, Nat.lt_succ_of_lt h]
      · simp [updV, e, h, show ¬ j < i + 1 by omega]
theorem pm_lw_m : tables_1[144]? = some (.classLink "CardWorkshop$Solver" 17 ("[" ++ (FieldType.array .int).toString)) ∧ tables_1[98]? = some (.arrayClass .int) := by decide +kernel
theorem pm_sl_m {n h k : Nat} (h1 : pm_sh n = (6, h)) (h2 : ∀ j, j < h → pm_sh (n + 1 + j) = (1, k)) : ∀ j, j ≤ h → pm_sl (n + 1 + j) = pm_sl n + h + j * k := by
  intro j
  induction j with
  | zero =>
    intro _
    show pm_sl n + pm_slt (pm_sh n) = _
    rw [h1]
    show pm_sl n + h = _
    omega
  | succ j ih =>
    intro hj
    have e := ih (by omega)
    show pm_sl (n + 1 + j) + pm_slt (pm_sh (n + 1 + j)) = _
    rw [e, h2 j (by omega), Nat.succ_mul]
    show pm_sl n + h + j * k + k = _
    omega
theorem pm_inner (c : ClassId) (k : Nat) : Jvm.Free.Multi.innerC c k (defaultValue .int) = vp_cell c (k, .inl (fun _ => (0 : Int32))) := by
  rw [vp_cell_i]
  show ({ cls := c, slots := Array.replicate k (.int 0), vm := .none } : Cell) = _
  rw [arrV_new]
theorem pm_h11a : ∀ x, x < 560 → (pm_sh x).1 = 6 → (pm_sh x).2 = 11 := by decide +kernel
theorem pm_h11 {n h : Nat} (h1 : pm_sh n = (6, h)) (hn : n < 560) : h = 11 := by
  have := pm_h11a n hn (by rw [h1])
  rw [h1] at this
  exact this
theorem pm_s73 : pm_Snd 73 := by
  intro p l e R s mi args below meth c Q m z L xs D dA ad pc len a b n ls ls' st st' M M' g pc' i lsC H locs cells slots hX hd hk hs hs0 hn hg hJ hL hV hph hR kk
  obtain ⟨⟨hx, hb, hml, hown, hlocks, hnm, hret⟩, hK, hF, had, hz⟩ := hX
  simp only [pm_next, pm_k2] at hn
  split at hn
  · rename_i k h t
    cases hn
    obtain ⟨⟨hsh, hk0, hh0, hin, hlt0⟩, hct⟩ := hg
    have hlt : M.1 < pm_n := by omega
    have h560 : pm_n = 560 := rfl
    simp only [pm_dk] at hk
    split at hk
    · simp only [Bool.and_eq_true, beq_iff_eq] at hk
      obtain ⟨⟨⟨hw, rfl⟩, rfl⟩, rfl⟩ := hk
      rw [hw] at hown
      have hsl := pm_sl_m hsh hin _ (Nat.le_refl _)
      have hR1 : cells + (M.1 + 1 + h.toNatClampNeg) ≤ R.cells + M.1 := hR.1
      have hR2 : slots + pm_sl (M.1 + 1 + h.toNatClampNeg) ≤ R.slots + pm_sl M.1 := hR.2.1
      have hbh : h.toNatClampNeg ≤ 560 := by omega
      refine pm_size (fun hsz => ?_)
      have hH := pm_szeq had hz hV hlt (hph hlt hct) hsz
      have hbk : 0 < h.toNatClampNeg → k.toNatClampNeg ≤ 9420 := fun q => by
        have := pm_sh_bd (M.1 + 1 + 0) (by omega)
        rw [hin 0 q] at this
        exact this
      by_cases hpos : 0 < h.toNatClampNeg
      · have hbk := hbk hpos
        intro T hT Xs
        obtain ⟨vm₁, cA, comp, -, fA, fC, hO, -, X', step⟩ := Xs.multianewarray2F hx hown (hF.1 _ _ (pm_Ts_of _ pm_lw_m.1 rfl)) hF.2.2.2.2.2.1.2 (hF.1 _ _ (pm_Ts_of _ pm_lw_m.2 rfl)) (g := F0 mi pc lsC (.int k :: .int h :: List.map (pm_cz ad) t)) rfl (by rw [hb]; exact hd) rfl hh0 hk0 (by omega) (Nat.le_trans (Nat.mul_le_mul hbk (show componentBytes .int ≤ 8 by decide)) (by decide)) (by omega) rfl rfl (by omega) (by omega)
        have ec : comp = dA 0 := Option.some.inj (fC.symm.trans (hK.2 0 _ pm_tys_at.1).2)
        have ea : cA = dA 5 := Option.some.inj (fA.symm.trans (hK.2 5 _ pm_tys_at.2.2.2.2.2).2)
        subst ec
        subst ea
        generalize hFl : Jvm.Free.Multi.fill (T.setVm vm₁) (dA 5) (dA 0) h.toNatClampNeg k.toNatClampNeg (defaultValue .int) h.toNatClampNeg = F at X' step
        have hTh : (T.setVm vm₁).heap = H := hT
        obtain ⟨f1, f2, -, -⟩ := Jvm.Free.Multi.fill_facts (T.setVm vm₁) (dA 5) (dA 0) h.toNatClampNeg k.toNatClampNeg (defaultValue .int) h.toNatClampNeg
        rw [hFl, hTh] at f1 f2
        have hold : ∀ x : Nat, x < H.size → F.heap[x]? = H[x]? := fun x hx => by
          have := Jvm.Free.Multi.fill_old (T.setVm vm₁) (dA 5) (dA 0) h.toNatClampNeg k.toNatClampNeg (defaultValue .int) (a := x) (by rw [hTh]; exact hx) h.toNatClampNeg
          rw [hFl, hTh] at this
          exact this
        have hrow : ∀ j : Nat, j < h.toNatClampNeg → F.heap[H.size + 1 + j]? = some (vp_cell (dA 0) (k.toNatClampNeg, .inl (fun _ => (0 : Int32)))) := fun j hj => by
          have := Jvm.Free.Multi.fill_inner (T.setVm vm₁) (dA 5) (dA 0) h.toNatClampNeg k.toNatClampNeg (defaultValue .int) h.toNatClampNeg j hj
          rw [hFl, hTh, pm_inner] at this
          exact this
        rw [vr_outer] at f2
        have hP' : va_P D pm_vw (pm_ws dA ad (M.1 + 1 + h.toNatClampNeg, (fun x j => if M.1 ≤ x ∧ x < M.1 + 1 + h.toNatClampNeg then 0 else M.2.1 x j), (fun x j => if x = M.1 then (if j < h.toNatClampNeg then some (M.1 + 1 + j) else none) else if M.1 ≤ x ∧ x < M.1 + 1 + h.toNatClampNeg then none else M.2.2.1 x j), M.2.2.2)) F.heap := by
          intro x q hq
          have hx9 : x < M.1 + 1 + h.toNatClampNeg := by
            have := (List.getElem?_eq_some_iff.mp hq).1
            rwa [pm_ws_len] at this
          rw [pm_ws_at (M := (M.1 + 1 + h.toNatClampNeg, (fun x j => if M.1 ≤ x ∧ x < M.1 + 1 + h.toNatClampNeg then 0 else M.2.1 x j), (fun x j => if x = M.1 then (if j < h.toNatClampNeg then some (M.1 + 1 + j) else none) else if M.1 ≤ x ∧ x < M.1 + 1 + h.toNatClampNeg then none else M.2.2.1 x j), M.2.2.2)) hx9] at hq
          cases hq
          rcases Nat.lt_trichotomy x M.1 with g1 | g1 | g1
          · have e9 : pm_cell dA ad (M.1 + 1 + h.toNatClampNeg, (fun x j => if M.1 ≤ x ∧ x < M.1 + 1 + h.toNatClampNeg then 0 else M.2.1 x j), (fun x j => if x = M.1 then (if j < h.toNatClampNeg then some (M.1 + 1 + j) else none) else if M.1 ≤ x ∧ x < M.1 + 1 + h.toNatClampNeg then none else M.2.2.1 x j), M.2.2.2) x = pm_cell dA ad M x := pm_cell_c (fun j => by
                show (if M.1 ≤ x ∧ x < M.1 + 1 + h.toNatClampNeg then 0 else M.2.1 x j) = _
                rw [if_neg (by omega)]) (fun j => by
                show (if x = M.1 then _ else if M.1 ≤ x ∧ x < M.1 + 1 + h.toNatClampNeg then none else M.2.2.1 x j) = _
                rw [if_neg (by omega), if_neg (by omega)]) (fun _ => rfl)
            rw [e9]
            have g2 := hV.1 x _ (pm_ws_at g1)
            exact g2.kept (hold _ g2.lt)
          · subst g1
            rw [pm_cell_a (k := 5) (by rw [hsh])]
            show F.heap[ad M.1]? = some (vp_cell _ _)
            rw [had _ hlt, ← hH, f2, hsh]
            show _ = some (vp_cell (dA 5) (_, .inr (.inr (.inr (.inr (fun i => (if M.1 = M.1 then (if i < h.toNatClampNeg then some (M.1 + 1 + i) else none) else if M.1 ≤ M.1 ∧ M.1 < M.1 + 1 + h.toNatClampNeg then none else M.2.2.1 M.1 i).map ad))))))
            rw [vp_cell_q]
            refine congrArg some (congrArg (arrV (dA 5) h.toNatClampNeg) (funext fun j => ?_))
            rw [if_pos rfl]
            by_cases hj : j < h.toNatClampNeg
            · rw [if_pos hj, if_pos hj]
              show va_rf (some _) = va_rf (some (ad _))
              rw [had _ (by omega), hH]
              congr 2
              omega
            · rw [if_neg hj, if_neg hj]
              rfl
          · obtain ⟨j, rfl⟩ : ∃ j, x = M.1 + 1 + j := ⟨x - M.1 - 1, by omega⟩
            have hj : j < h.toNatClampNeg := by omega
            rw [pm_cell_a (k := 0) (by rw [hin j hj])]
            show F.heap[ad (M.1 + 1 + j)]? = some (vp_cell _ _)
            have e9 := hrow j hj
            rw [hH] at e9
            rw [had _ (by omega), show z + (M.1 + 1 + j) = z + M.1 + 1 + j by omega, e9, hin j hj]
            refine congrArg (fun f => some (vp_cell (dA 0) (k.toNatClampNeg, .inl f))) (funext fun i => ?_)
            show 0 = (if M.1 ≤ M.1 + 1 + j ∧ M.1 + 1 + j < M.1 + 1 + h.toNatClampNeg then 0 else M.2.1 (M.1 + 1 + j) i)
            rw [if_pos (by omega)]
        have hV' : pm_V s z L xs D dA ad (M.1 + 1 + h.toNatClampNeg, (fun x j => if M.1 ≤ x ∧ x < M.1 + 1 + h.toNatClampNeg then 0 else M.2.1 x j), (fun x j => if x = M.1 then (if j < h.toNatClampNeg then some (M.1 + 1 + j) else none) else if M.1 ≤ x ∧ x < M.1 + 1 + h.toNatClampNeg then none else M.2.2.1 x j), M.2.2.2) F.heap locs := by
          refine ⟨hP', ⟨by rw [f1]; have := hV.2.1.1; omega, fun q w1 w2 => (hold q (Nat.lt_of_lt_of_le w1 hV.2.1.1)).trans (hV.2.1.2.1 q w1 w2), hV.2.1.2.2⟩, by show M.1 + 1 + h.toNatClampNeg ≤ pm_n; omega, fun j hj => ?_, ?_, hV.2.2.2.2.2⟩
          · show (if M.1 ≤ 20000 ∧ 20000 < M.1 + 1 + h.toNatClampNeg then 0 else M.2.1 20000 j) = _
            rw [if_neg (by omega)]
            exact hV.2.2.2.1 j hj
          · show (if M.1 ≤ 20001 ∧ 20001 < M.1 + 1 + h.toNatClampNeg then 0 else M.2.1 20001 0) = _
            rw [if_neg (by omega)]
            exact hV.2.2.2.2.1
        have kk := kk lsC F.heap locs (cells + 1 + h.toNatClampNeg) (slots + h.toNatClampNeg + h.toNatClampNeg * k.toNatClampNeg) hJ hL hV' (by show cells + 1 + h.toNatClampNeg + M.1 = cells + (M.1 + 1 + h.toNatClampNeg); omega) (by show _ = slots + pm_sl (M.1 + 1 + h.toNatClampNeg); rw [hsl]; omega)
        simp only [List.map_cons, pm_cz, had _ hlt] at kk
        obtain ⟨t9, a1, b1⟩ := kk F rfl X'
        refine ⟨t9, step t9 ?_, b1⟩
        rw [hT, hH]
        exact a1
      · exact absurd (show 0 < h.toNatClampNeg by have := pm_h11 hsh (by omega); omega) hpos
    · cases hk
  · cases hn
end
section
/-! WHAT A CALLEE FINDS -/
theorem pm_FS.go {z x : Nat} {ad : Nat → Nat} {s U : State} (h : pm_FS z ad x s) (hW : s.WarmedH U.vm) (hh : ∀ q : Nat, q < s.heap.size → ¬ z ≤ q → U.heap[q]? = s.heap[q]?) : pm_FS z ad x U :=
  ⟨fun q h1 h2 => vk_R.warm hW (h.1 q h1 h2), (h.2.1.moved hW.alike).kept hh, (h.2.2.1.moved hW.alike).kept hh, (h.2.2.2.1.moved hW.alike).kept hh, (h.2.2.2.2.moved hW.alike).kept hh⟩
theorem pm_FT.go {z x : Nat} {ad : Nat → Nat} {nm : String} {s U : State} (h : pm_FT z ad x nm s) (hW : s.WarmedH U.vm) (hh : ∀ q : Nat, q < s.heap.size → ¬ z ≤ q → U.heap[q]? = s.heap[q]?) : pm_FT z ad x nm U :=
  ⟨(h.1.moved hW.alike).kept hh, (h.2.moved hW.alike).kept hh⟩
theorem pm_F.go {z L : Nat} {ad : Nat → Nat} {xs : Nat → Int32} {s U : State} (h : pm_F z ad L xs s) (hW : s.WarmedH U.vm) (hz : z ≤ s.heap.size) (hh : ∀ q : Nat, q < s.heap.size → ¬ z ≤ q → U.heap[q]? = s.heap[q]?) : pm_F z ad L xs U := by
  obtain ⟨h1, ⟨h2, h3, h4⟩, ⟨h5, h6⟩, h7, ⟨h8, h9⟩, ⟨h10, h11⟩, ⟨h12, h13⟩, h14, h15⟩ := h
  refine ⟨h1.warm hW, ⟨h2.go hW hh, h3.go hW hh, h4.go hW hh⟩, ⟨h5.go hW hh, h6.go hW hh⟩, (h7.moved hW.alike).kept hh, ⟨(h8.moved hW.alike).kept (hh _ (by omega) (by omega)), h9⟩, ⟨h10.moved hW.alike, ?_⟩, ⟨h12.go hW.alike hh, h13.go hW.alike hh⟩, fun j k h1 h2 h3 => (h14 j k h1 h2 h3).moved hW.alike, fun q hq => by obtain ⟨tx, a, h⟩ := h15 q hq; exact ⟨tx, a, vk_R.warm hW h⟩⟩
  have e : (Cond.arrayOver (.array .int)).before #[] (s.setVm U.vm) = true := by
    rw [Cond.arrayOver_setVmC hW.alike]
    exact h11
  exact e
theorem pm_wT {w : Cond} (i : Nat) (h : lw_tbl[i]? = some w) (hg : pm_gw w = true) : w ∈ pm_Ts := List.mem_filter.mpr ⟨List.mem_of_getElem? h, hg⟩
theorem pm_wca : ∀ k, k < 133 → k ≠ 121 → lw_tbl[(pm_wat k).1]? = some (pm_wcode k) := fun k => match k with
  | 0 => fun _ _ => pm_wc0
  | 1 => fun _ _ => pm_wc1
  | 2 => fun _ _ => pm_wc2
  | 3 => fun _ _ => pm_wc3
  | 4 => fun _ _ => pm_wc4
  | 5 => fun _ _ => pm_wc5
  | 6 => fun _ _ => pm_wc6
  | 7 => fun _ _ => pm_wc7
  | 8 => fun _ _ => pm_wc8
  | 9 => fun _ _ => pm_wc9
  | 10 => fun _ _ => pm_wc10
  | 11 => fun _ _ => pm_wc11
  | 12 => fun _ _ => pm_wc12
  | 13 => fun _ _ => pm_wc13
  | 14 => fun _ _ => pm_wc14
  | 15 => fun _ _ => pm_wc15
  | 16 => fun _ _ => pm_wc16
  | 17 => fun _ _ => pm_wc17
  | 18 => fun _ _ => pm_wc18
  | 19 => fun _ _ => pm_wc19
  | 20 => fun _ _ => pm_wc20
  | 21 => fun _ _ => pm_wc21
  | 22 => fun _ _ => pm_wc22
  | 23 => fun _ _ => pm_wc23
  | 24 => fun _ _ => pm_wc24
  | 25 => fun _ _ => pm_wc25
  | 26 => fun _ _ => pm_wc26
  | 27 => fun _ _ => pm_wc27
  | 28 => fun _ _ => pm_wc28
  | 29 => fun _ _ => pm_wc29
  | 30 => fun _ _ => pm_wc30
  | 31 => fun _ _ => pm_wc31
  | 32 => fun _ _ => pm_wc32
  | 33 => fun _ _ => pm_wc33
  | 34 => fun _ _ => pm_wc34
  | 35 => fun _ _ => pm_wc35
  | 36 => fun _ _ => pm_wc36
  | 37 => fun _ _ => pm_wc37
  | 38 => fun _ _ => pm_wc38
  | 39 => fun _ _ => pm_wc39
  | 40 => fun _ _ => pm_wc40
  | 41 => fun _ _ => pm_wc41
  | 42 => fun _ _ => pm_wc42
  | 43 => fun _ _ => pm_wc43
  | 44 => fun _ _ => pm_wc44
  | 45 => fun _ _ => pm_wc45
  | 46 => fun _ _ => pm_wc46
  | 47 => fun _ _ => pm_wc47
  | 48 => fun _ _ => pm_wc48
  | 49 => fun _ _ => pm_wc49
  | 50 => fun _ _ => pm_wc50
  | 51 => fun _ _ => pm_wc51
  | 52 => fun _ _ => pm_wc52
  | 53 => fun _ _ => pm_wc53
  | 54 => fun _ _ => pm_wc54
  | 55 => fun _ _ => pm_wc55
  | 56 => fun _ _ => pm_wc56
  | 57 => fun _ _ => pm_wc57
  | 58 => fun _ _ => pm_wc58
  | 59 => fun _ _ => pm_wc59
  | 60 => fun _ _ => pm_wc60
  | 61 => fun _ _ => pm_wc61
  | 62 => fun _ _ => pm_wc62
  | 63 => fun _ _ => pm_wc63
  | 64 => fun _ _ => pm_wc64
  | 65 => fun _ _ => pm_wc65
  | 66 => fun _ _ => pm_wc66
  | 67 => fun _ _ => pm_wc67
  | 68 => fun _ _ => pm_wc68
  | 69 => fun _ _ => pm_wc69
  | 70 => fun _ _ => pm_wc70
  | 71 => fun _ _ => pm_wc71
  | 72 => fun _ _ => pm_wc72
  | 73 => fun _ _ => pm_wc73
  | 74 => fun _ _ => pm_wc74
  | 75 => fun _ _ => pm_wc75
  | 76 => fun _ _ => pm_wc76
  | 77 => fun _ _ => pm_wc77
  | 78 => fun _ _ => pm_wc78
  | 79 => fun _ _ => pm_wc79
  | 80 => fun _ _ => pm_wc80
  | 81 => fun _ _ => pm_wc81
  | 82 => fun _ _ => pm_wc82
  | 83 => fun _ _ => pm_wc83
  | 84 => fun _ _ => pm_wc84
  | 85 => fun _ _ => pm_wc85
  | 86 => fun _ _ => pm_wc86
  | 87 => fun _ _ => pm_wc87
  | 88 => fun _ _ => pm_wc88
  | 89 => fun _ _ => pm_wc89
  | 90 => fun _ _ => pm_wc90
  | 91 => fun _ _ => pm_wc91
  | 92 => fun _ _ => pm_wc92
  | 93 => fun _ _ => pm_wc93
  | 94 => fun _ _ => pm_wc94
  | 95 => fun _ _ => pm_wc95
  | 96 => fun _ _ => pm_wc96
  | 97 => fun _ _ => pm_wc97
  | 98 => fun _ _ => pm_wc98
  | 99 => fun _ _ => pm_wc99
  | 100 => fun _ _ => pm_wc100
  | 101 => fun _ _ => pm_wc101
  | 102 => fun _ _ => pm_wc102
  | 103 => fun _ _ => pm_wc103
  | 104 => fun _ _ => pm_wc104
  | 105 => fun _ _ => pm_wc105
  | 106 => fun _ _ => pm_wc106
  | 107 => fun _ _ => pm_wc107
  | 108 => fun _ _ => pm_wc108
  | 109 => fun _ _ => pm_wc109
  | 110 => fun _ _ => pm_wc110
  | 111 => fun _ _ => pm_wc111
  | 112 => fun _ _ => pm_wc112
  | 113 => fun _ _ => pm_wc113
  | 114 => fun _ _ => pm_wc114
  | 115 => fun _ _ => pm_wc115
  | 116 => fun _ _ => pm_wc116
  | 117 => fun _ _ => pm_wc117
  | 118 => fun _ _ => pm_wc118
  | 119 => fun _ _ => pm_wc119
  | 120 => fun _ _ => pm_wc120
  | 121 => fun _ h => absurd rfl h
  | 122 => fun _ _ => pm_wc122
  | 123 => fun _ _ => pm_wc123
  | 124 => fun _ _ => pm_wc124
  | 125 => fun _ _ => pm_wc125
  | 126 => fun _ _ => pm_wc126
  | 127 => fun _ _ => pm_wc127
  | 128 => fun _ _ => pm_wc128
  | 129 => fun _ _ => pm_wc129
  | 130 => fun _ _ => pm_wc130
  | 131 => fun _ _ => pm_wc131
  | 132 => fun _ _ => pm_wc132
  | k + 133 => fun h => absurd h (by omega)
theorem pm_wcode_g (k : Nat) : pm_gw (pm_wcode k) = true := by
  unfold pm_wcode
  split <;> rfl
theorem pm_wst_g (k : Nat) : pm_gw (pm_wst k) = true := by
  unfold pm_wst
  split <;> rfl
/-- a method's own facts, out of its words -/
theorem pm_fct {s : State} {k : Nat} (hW : pm_Wd s) (hk : k < 133) (h121 : k ≠ 121) : ∃ (mk : MethodId) (meth : Method) (c : Code), s.methodNamed? (pm_y k) = some mk ∧ s.vm.method? mk = some meth ∧ meth.code = some c ∧ c.code = pm_b k ∧ c.maxLocals = pm_ml k ∧ meth.sig.returnType = pm_rt k ∧ meth.locks = false ∧ c.exceptionTable.toList.map (fun h => (h.startPc, h.endPc, h.handlerPc, h.catchType)) = pm_hh k ∧ parseMethodDescriptor (pm_y k).desc = some meth.sig := by
  have hc := hW #[] _ (pm_wT _ (pm_wca k hk h121) (pm_wcode_g k))
  unfold pm_wcode at hc
  split at hc
  · rename_i hh
    obtain ⟨mk, hn⟩ := Cond.code_named hc
    obtain ⟨meth, c, h1, h2, h3, h4, h5, h6, h7, h8⟩ := Cond.code_spec hn hc
    refine ⟨mk, meth, c, hn, h1, h2, h3, h4, h5, h6, ?_, h8⟩
    have e : c.exceptionTable = #[] := by simpa using h7
    rw [e, hh]
    rfl
  · obtain ⟨mk, meth, c, hn, h1, h2, h3, h4, h9, h5, h6, h8⟩ := Cond.codeWith_spec hc
    exact ⟨mk, meth, c, hn, h1, h2, h3, h4, h5, h6, h9, h8⟩
end
section
/-! WHAT A METHOD COMES TO, and a call of it -/
def pm_out (s : State) (ad : Nat → Nat) (r : pm_Res) (o : Outcome) (t : State) : Prop := match r.1 with
  | .inl v => o = .returned (v.map (pm_cz ad))
  | .inr k => ∃ (x : Addr) (cell : Cell), o = .threw x ∧ t.heap[x]? = some cell ∧ cell.vm.isStatics = false ∧ s.vm.findClass (pm_ex k) = some cell.cls
def pm_kc (M : pm_Mem) (r : pm_Res) : Nat := r.2.1 - M.1 + (pm_ct r.2 - pm_ct M)
def pm_ks (M : pm_Mem) (r : pm_Res) : Nat := pm_sl r.2.1 - pm_sl M.1 + 6 * (pm_ct r.2 - pm_ct M)
def pm_Q (below : List Frame) (s : State) (z L : Nat) (xs : Nat → Int32) (D : va_G) (dA : Nat → ClassId) (ad : Nat → Nat) (M : pm_Mem) (r : pm_Res) : State → Prop := fun t =>
  ∃ (o : Outcome) (Lc : List Loc), t.status = .running ∧ Ended t below o ∧ s.WarmedH t.vm ∧ s.sameButNew ({ t with vm := s.vm } : State) Lc (pm_kc M r) (pm_ks M r) ∧ pm_V s z L xs D dA ad r.2 t.heap Lc ∧ pm_out s ad r o t
def pm_K (d m : Nat) (as : List Value) (M : pm_Mem) (r : pm_Res) : Prop := (M.1 ≤ r.2.1 ∧ pm_ct M ≤ pm_ct r.2) ∧
  ∀ (p : Program) (l : Launch) (e : Env) (R : Room) (s : State) (mi : MethodId) (args : Array Value) (below : List Frame) (meth : Method) (c : Code) (z L : Nat) (xs : Nat → Int32) (D : va_G) (dA : Nat → ClassId) (ad : Nat → Nat),
  l.flags = flags0 → pm_X p s mi args meth c m z L xs D dA ad → c.exceptionTable.toList.map (fun h => (h.startPc, h.endPc, h.handlerPc, h.catchType)) = pm_hh m → args = (as.map (pm_cz ad)).toArray → pm_V s z L xs D dA ad M s.heap [] → (M.1 < pm_n → pm_ct M = 0 → s.heap.size = z + M.1) →
  (d + 8 ≤ R.frames ∧ 40 * d + 300 ≤ R.locals ∧ pm_kc M r ≤ R.cells ∧ pm_ks M r ≤ R.slots) →
  W p l e R s mi args below meth c s.heap [] 0 0 (pm_Q below s z L xs D dA ad M r) (entryFrame mi args (pm_ml m))
theorem pm_ml_le : ∀ k, k < 133 → pm_ml k ≤ 11 := by decide +kernel
theorem pm_y_all : ∀ k, k < 133 → plainFor (pm_y k) = true := by
  intro k hk
  by_cases h1 : k = 129
  · subst h1; exact pm_y_pl2.1
  · by_cases h2 : k = 130
    · subst h2; exact pm_y_pl2.2
    · exact pm_y_pl k hk h1 h2
theorem pm_S_trans {A : Nat → Prop} {H0 H H1 : Heap} {locs Lc : List Loc} (h : va_S A H0 H locs) (h1 : va_S A H H1 Lc) : va_S A H0 H1 (locs ++ Lc) := by
  refine ⟨Nat.le_trans h.1 h1.1, fun q g1 g2 => (h1.2.1 q (Nat.lt_of_lt_of_le g1 h.1) g2).trans (h.2.1 q g1 g2), fun q hq => ?_⟩
  rcases List.mem_append.mp hq with h2 | h2
  · exact h.2.2 q h2
  · exact h1.2.2 q h2
theorem pm_invoked {p : Program} {l : Launch} {e : Env} {R : Room} {s : State} {mi : MethodId} {args : Array Value} {below : List Frame} {meth : Method} {c : Code} {U : State} {locs : List Loc} {cells slots : Nat} {d m k z L : Nat} {xs : Nat → Int32} {D : va_G} {dA : Nat → ClassId} {ad : Nat → Nat} {as : List Value} {M : pm_Mem} {q : pm_Res}
    (hq : pm_K d k as M q) (hk : k < 133) (h121 : k ≠ 121) (hX : pm_X p s mi args meth c m z L xs D dA ad) (hfl : l.flags = flags0) (X : Stand p l e R s mi args below meth c U locs cells slots) (hV : pm_V s z L xs D dA ad M U.heap locs) (hct : M.1 < pm_n → pm_ct M = 0 → U.heap.size = z + M.1)
    {g : JFrame} (hg : g.method = mi) (hsize : g.locals.size = c.maxLocals) {ig : Instr} (hdg : decode c.code g.pc = .ok (ig, 3)) (hst : 2 * g.monitorRoom + (g.stack.map fun v => v.category).sum ≤ 8) {mk : MethodId} (hn : s.methodNamed? (pm_y k) = some mk)
    (hR : d + 9 ≤ R.frames ∧ 40 * (d + 1) + 300 ≤ R.locals ∧ cells + pm_kc M q ≤ R.cells ∧ slots + pm_ks M q ≤ R.slots) :
    ∃ (t T' : State) (Lc : List Loc), (∀ acts, Steps p.tables e below (doInvoke e (U.setTop g) acts mk (as.map (pm_cz ad)).toArray).1 t) ∧ Stand p l e R s mi args below meth c T' (locs ++ Lc) (cells + pm_kc M q) (slots + pm_ks M q) ∧ pm_V s z L xs D dA ad q.2 T'.heap (locs ++ Lc) ∧
      match q.1 with
      | .inl v => t = T'.setTop { g with pc := g.pc + 3, stack := (v.map (pm_cz ad)).toList ++ g.stack }
      | .inr j => ∃ (x : Addr) (cell : Cell), t = (T'.setTop g).pushFrame (.throwing x) ∧ T'.heap[x]? = some cell ∧ cell.vm.isStatics = false ∧ s.vm.findClass (pm_ex j) = some cell.cls := by
  obtain ⟨⟨hx, hb, hml, hown, hlocks, hnm, hret⟩, hK, hF, had, hz⟩ := hX
  have hWU : pm_Wd U := hF.1.warm X.warmed
  obtain ⟨mk', methk, ck, hnU, hmk, hck, hbk, hmlk, hretk, hlk, hexk, hsigk⟩ := pm_fct hWU hk h121
  have hnU' := X.named hn
  cases hnU.symm.trans hnU'
  have hpk : U.plainMethod mk := State.plainMethod.of_named (pm_y_all k hk) hnU hmk
  have hmle := pm_ml_le k hk
  obtain ⟨Y₀, hin⟩ := X.into hg hsize hdg (as.map (pm_cz ad)).toArray (R' := { frames := R.frames - 1, cells := pm_kc M q, slots := pm_ks M q, locals := R.locals - 40 }) hmk hck hlk hpk (by show R.frames - 1 + 1 ≤ _; omega) (by rw [hmlk]; show _ + (R.locals - 40) ≤ _; omega) hR.2.2.1 hR.2.2.2
  have hSU := hV.2.1
  have hal : s.WarmedH (U.calling g mk (as.map (pm_cz ad)).toArray).vm := X.warmed
  have hF' : pm_F z ad L xs (U.calling g mk (as.map (pm_cz ad)).toArray) := hF.go hal hz (fun w h1 h2 => hSU.2.1 w h1 h2)
  have hX' : pm_X p (U.calling g mk (as.map (pm_cz ad)).toArray) mk (as.map (pm_cz ad)).toArray methk ck k z L xs D dA ad :=
    ⟨⟨hx, hbk, hmlk, findClass_of_methodNamed hnU, hlk, (name_of_methodNamed hnU hmk).1, hretk⟩, hK.moved hal.alike, hF', had, Nat.le_trans hz hSU.1⟩
  obtain ⟨t, hst1, o, Lc, hrun, hend, hWt, hsame, hVt, hout⟩ := hq.2 p l e { frames := R.frames - 1, cells := pm_kc M q, slots := pm_ks M q, locals := R.locals - 40 } (U.calling g mk (as.map (pm_cz ad)).toArray) mk _ (.java g :: below) methk ck z L xs D dA ad hfl hX' hexk rfl ⟨hV.1, va_S.rf, hV.2.2⟩ hct ⟨by show d + 8 ≤ R.frames - 1; omega, by show 40 * d + 300 ≤ R.locals - 40; omega, Nat.le_refl _, Nat.le_refl _⟩ ((U.setTop g).pushFrame (.java (entryFrame mk (as.map (pm_cz ad)).toArray ck.maxLocals))) rfl Y₀
  have hstep : ∀ acts, Steps p.tables e below (doInvoke e (U.setTop g) acts mk (as.map (pm_cz ad)).toArray).1 t := fun acts => by
    rw [hin acts, hmlk]
    rw [hmlk] at hst1
    exact Steps.weaken (mid := [.java g]) hst1
  obtain ⟨r1, rM⟩ := q
  cases r1 with
  | inl v =>
    have ho : o = .returned (v.map (pm_cz ad)) := hout
    subst ho
    obtain ⟨T', X', hW', -, ht⟩ := X.outOf hg hdg hend hWt hsame
    have hh : T'.heap = t.heap := by rw [ht]; rfl
    exact ⟨t, T', Lc, hstep, X', ⟨by rw [hh]; exact hVt.1, by rw [hh]; exact pm_S_trans hSU hVt.2.1, hVt.2.2⟩, ht⟩
  | inr j =>
    obtain ⟨x, cell, ho, h1, h2, h3⟩ := hout
    subst ho
    obtain ⟨T', X', hW', -, ht⟩ := X.outOfThrown hg hend hWt hsame
    have hh : T'.heap = t.heap := by rw [ht]; rfl
    refine ⟨t, T', Lc, hstep, X', ⟨by rw [hh]; exact hVt.1, by rw [hh]; exact pm_S_trans hSU hVt.2.1, hVt.2.2⟩, x, cell, ht, by rw [hh]; exact h1, h2, ?_⟩
    have e9 : U.vm.findClass (pm_ex j) = some cell.cls := h3
    rw [X.warmed.alike.findClass] at e9
    exact e9
end
section
/-! THE INVOKING INSTRUCTIONS, up to the callee's entry -/
theorem pm_sh_cl : ∀ x, x < 560 → (pm_sh x).1 = 0 → (pm_sh x).2 < 7 := by decide +kernel
theorem pm_ini_hh : ∀ k, k < 133 → (pm_y k).name = "<init>" → pm_hh k = [] ∧ pm_rt k = none := by decide +kernel
theorem pm_wsel_g (k : Nat) : pm_gw (.selects (pm_y k).cls (pm_y k) (pm_y k)) = true := rfl
theorem pm_wini_g (k : Nat) : pm_gw (.initialized (pm_y k).cls) = true := rfl
theorem pm_sel0 : ∀ k, k < 133 → k ≠ 121 → pm_stc k = false → (pm_y k).name ≠ "<init>" → ((pm_wat k).2.2.1 ≠ 0 ∨ k = 93) := by decide +kernel
theorem pm_len {k : Nat} {as : List Value} {sig : MethodDescriptor} (hk : k < 133) (hsg : pm_sg k as = true) (hs : parseMethodDescriptor (pm_y k).desc = some sig) : as.length = sig.parameters.length + (if pm_stc k = true then 0 else 1) := by
  have h1 := pm_y_ds k hk
  rw [hs] at h1
  have h1 := Option.some.inj h1
  unfold pm_sg at hsg
  have h2 := congrArg List.length (eq_of_beq hsg)
  rw [List.length_map] at h2
  rw [h2]
  exact h1.symm
theorem pm_prefix {p : Program} {l : Launch} {e : Env} {R : Room} {s : State} {mi : MethodId} {args : Array Value} {below : List Frame} {meth : Method} {c : Code} {T : State} {locs : List Loc} {cells slots : Nat} {m z L pc len a b : Nat} {n : Int32} {i : Instr} {xs : Nat → Int32} {D : va_G} {dA : Nat → ClassId} {ad : Nat → Nat} {as rest : List Value} {M : pm_Mem} {lsC : Array Slot}
    (hX : pm_X p s mi args meth c m z L xs D dA ad) (hd : decode (pm_b m) pc = .ok (i, len)) (hk : pm_dk (pm_ow m) 60 len a b n pc i = true) (hsg : pm_sg a as = true) (hrc : pm_rc a as M) (X : Stand p l e R s mi args below meth c T locs cells slots) (hV : pm_V s z L xs D dA ad M T.heap locs) :
    (len = 3 ∧ a < 133 ∧ a ≠ 121) ∧ ∃ (vm₁ : Vm) (mk : MethodId), s.methodNamed? (pm_y a) = some mk ∧ Stand p l e R s mi args below meth c (T.setVm vm₁) locs cells slots ∧
      ∀ target, (∀ acts, Steps p.tables e below (doInvoke e ((T.setVm vm₁).setTop (F0 mi pc lsC (rest.map (pm_cz ad)))) acts mk (as.map (pm_cz ad)).toArray).1 target) → Steps p.tables e below (T.setTop (F0 mi pc lsC ((as.reverse ++ rest).map (pm_cz ad)))) target := by
  obtain ⟨⟨hx, hb, hml, hown, hlocks, hnm, hret⟩, hK, hF, had, hz⟩ := hX
  have hWd := hF.1
  simp only [pm_dk] at hk
  split at hk
  · -- invokevirtual
    rename_i j
    simp only [Bool.and_eq_true, decide_eq_true_eq, beq_iff_eq, Bool.not_eq_true'] at hk
    obtain ⟨⟨⟨⟨⟨⟨h1, h2⟩, h3⟩, h4⟩, rfl⟩, ha⟩, h121⟩ := hk
    refine ⟨⟨rfl, ha, h121⟩, ?_⟩
    obtain ⟨⟨a1, ne, w⟩, hl, he⟩ := Option.map_eq_some_iff.mp h1
    obtain rfl : a = a1 := he.symm
    have hw := pm_mk_ok _ (pm_lk hl)
    obtain ⟨mk', methk, ck, hn', hmk', hck', -, -, -, -, -, hsig⟩ := pm_fct hWd ha h121
    have hlen := pm_len ha hsg hsig
    rw [h2] at hlen
    have hlen : as.length = methk.sig.parameters.length + 1 := hlen
    unfold pm_rc at hrc
    rw [if_neg (by rw [h2]; decide)] at hrc
    cases as with
    | nil => exact hrc.elim
    | cons v0 as' =>
      cases v0 with
      | ref x =>
        have hrc : if pm_ow a = 8 then pm_str x else pm_obj M x (pm_ow a) := hrc
        have hlen' : (as'.map (pm_cz ad)).length = methk.sig.parameters.length := by
          rw [List.length_map]
          simp only [List.length_cons] at hlen
          omega
        obtain ⟨cellB, hcell, hobj, hcls⟩ : ∃ cellB : Cell, T.heap[ad x]? = some cellB ∧ cellB.vm.isStatics = false ∧ s.vm.findClass (pm_y a).cls = some cellB.cls := by
          by_cases h8 : pm_ow a = 8
          · rw [if_pos h8] at hrc
            obtain ⟨cell, g1, g2, g3, -⟩ := (hF.S hrc).2.1.kept hV.2.1.2.1
            refine ⟨cell, g1, g2, ?_⟩
            show s.vm.findClass (pm_onm (pm_ow a)) = _
            rw [h8]
            exact g3
          · rw [if_neg h8] at hrc
            have hc7 : pm_ow a < 7 := by
              have := pm_sh_cl x (pm_n_lt hrc.1 hV.2.2.1) (by rw [hrc.2])
              rw [hrc.2] at this
              exact this
            have hat := pm_ws_at (dA := dA) (ad := ad) hrc.1
            rw [pm_cell_o hrc.2] at hat
            obtain ⟨cell, g1, g2, g3⟩ := va_recv hK hV.1 (pm_vw_at hc7) hat
            refine ⟨cell, g1, g2, ?_⟩
            show s.vm.findClass (pm_onm (pm_ow a)) = _
            rw [← pm_cnm_onm _ hc7]
            exact g3
        have hinst : (Cond.instanceMethod (pm_y a)).before args s = true := by
          have h9 := hWd args _ (pm_wT _ (pm_w_st a ha h121) (pm_wst_g a))
          unfold pm_wst at h9
          rw [if_neg (by rw [h2]; decide)] at h9
          exact h9
        have hsel := hWd args _ (pm_wT _ (pm_w_sel a ha h121 (pm_sel0 a ha h121 h2 h4)) (pm_wsel_g a))
        have hy := pm_y_mh a ha
        obtain ⟨mk, methM, hnamed, hmethM, hstM, habM⟩ := Cond.instanceMethod_spec hinst
        cases hnamed.symm.trans hn'
        cases hmethM.symm.trans hmk'
        obtain ⟨c2, r2, m2, q1, q2, q3, q4, kP, hkP, hkPi⟩ := Cond.selects_spec hsel
        cases hcls.symm.trans q1
        cases (State.methodFound?_of_named hnamed hy).symm.trans q2
        cases hnamed.symm.trans q3
        have hselP : selectMethod e.platform s.vm cellB.cls mk' = .method mk' := by rw [Launch.admits_selectMethod X.admits]; exact q4
        have hstk : ((Value.ref x :: as').reverse ++ rest).map (pm_cz ad) = (as'.map (pm_cz ad)).reverse ++ .ref (ad x) :: rest.map (pm_cz ad) := by
          simp [pm_cz]
        by_cases hne : ne = 1
        · rw [if_pos hne] at hw
          obtain ⟨vm₁, X₁, hstep₁⟩ := X.invokevirtualNest hx hown (hWd _ _ (pm_Ts_of _ hw rfl)) hnamed hmethM hstM hkP hkPi hy (a := ad x) (cell := cellB) hcell (fun z h => by rw [h] at hobj; cases hobj) hselP hmethM habM hkP hkPi (g := F0 mi pc lsC (((Value.ref x :: as').reverse ++ rest).map (pm_cz ad))) rfl (argsL := as'.map (pm_cz ad)) (rest := rest.map (pm_cz ad)) hlen' hstk (by rw [hb]; exact hd)
          exact ⟨vm₁, mk', hnamed, X₁, hstep₁⟩
        · rw [if_neg hne] at hw
          obtain ⟨vm₁, X₁, hstep₁⟩ := X.invokevirtual hx hown (hWd _ _ (pm_Ts_of _ hw rfl)) hnamed hmethM hstM hkP hkPi hy (a := ad x) (cell := cellB) hcell (fun z h => by rw [h] at hobj; cases hobj) hselP hmethM habM hkP hkPi (g := F0 mi pc lsC (((Value.ref x :: as').reverse ++ rest).map (pm_cz ad))) rfl (argsL := as'.map (pm_cz ad)) (rest := rest.map (pm_cz ad)) hlen' hstk (by rw [hb]; exact hd)
          exact ⟨vm₁, mk', hnamed, X₁, hstep₁⟩
      | _ => exact hrc.elim
  · -- invokestatic
    rename_i j
    simp only [Bool.and_eq_true, decide_eq_true_eq, beq_iff_eq] at hk
    obtain ⟨⟨⟨⟨⟨h1, h2⟩, h3⟩, rfl⟩, ha⟩, h121⟩ := hk
    refine ⟨⟨rfl, ha, h121⟩, ?_⟩
    obtain ⟨⟨a1, ne, w⟩, hl, he⟩ := Option.map_eq_some_iff.mp h1
    obtain rfl : a = a1 := he.symm
    have hw := pm_mk_ok _ (pm_lk hl)
    obtain ⟨mk, methM, ck, hnamed, hmethM, hck', -, -, -, -, -, hsig⟩ := pm_fct hWd ha h121
    have hlen := pm_len ha hsg hsig
    rw [if_pos h2] at hlen
    have hstat : (Cond.static (pm_y a)).before args s = true := by
      have h9 := hWd args _ (pm_wT _ (pm_w_st a ha h121) (pm_wst_g a))
      unfold pm_wst at h9
      rw [if_pos h2] at h9
      exact h9
    have hinit := hWd args _ (pm_wT _ (pm_w_ini a ha h121) (pm_wini_g a))
    have hy := pm_y_mh a ha
    have hstatic : methM.isStatic = true := Cond.static_spec hnamed hmethM hstat
    obtain ⟨kP, hkP, -⟩ := className_of_methodNamed hnamed
    have hinitP : kP.init = .initialized := Cond.initialized_spec (findClass_of_methodNamed hnamed) hkP hinit
    have hstk : (as.reverse ++ rest).map (pm_cz ad) = (as.map (pm_cz ad)).reverse ++ rest.map (pm_cz ad) := by
      simp
    by_cases hne : ne = 1
    · rw [if_pos hne] at hw
      obtain ⟨vm₁, X₁, hstep₁⟩ := X.invokestaticNest hx hown (hWd _ _ (pm_Ts_of _ hw rfl)) hnamed hmethM hstatic hkP hinitP hy (g := F0 mi pc lsC ((as.reverse ++ rest).map (pm_cz ad))) rfl (argsL := as.map (pm_cz ad)) (rest := rest.map (pm_cz ad)) (by rw [List.length_map]; exact hlen) hstk (by rw [hb]; exact hd)
      exact ⟨vm₁, mk, hnamed, X₁, hstep₁⟩
    · rw [if_neg hne] at hw
      obtain ⟨vm₁, X₁, hstep₁⟩ := X.invokestatic hx hown (hWd _ _ (pm_Ts_of _ hw rfl)) hnamed hmethM hstatic hkP hinitP hy (g := F0 mi pc lsC ((as.reverse ++ rest).map (pm_cz ad))) rfl (argsL := as.map (pm_cz ad)) (rest := rest.map (pm_cz ad)) (by rw [List.length_map]; exact hlen) hstk (by rw [hb]; exact hd)
      exact ⟨vm₁, mk, hnamed, X₁, hstep₁⟩
  · -- invokespecial
    rename_i j
    simp only [Bool.and_eq_true, decide_eq_true_eq, beq_iff_eq, Bool.not_eq_true'] at hk
    obtain ⟨⟨⟨⟨⟨⟨h1, h2⟩, h3⟩, h4⟩, rfl⟩, ha⟩, h121⟩ := hk
    refine ⟨⟨rfl, ha, h121⟩, ?_⟩
    obtain ⟨⟨a1, ne, w⟩, hl, he⟩ := Option.map_eq_some_iff.mp h1
    obtain rfl : a = a1 := he.symm
    have hw := pm_mk_ok _ (pm_lk hl)
    unfold pm_rc at hrc
    rw [if_neg (by rw [h2]; decide)] at hrc
    cases as with
    | nil => exact hrc.elim
    | cons v0 as' =>
      cases v0 with
      | ref x =>
        have hinst : (Cond.instanceMethod (pm_y a)).before args s = true := by
          have h9 := hWd args _ (pm_wT _ (pm_w_st a ha h121) (pm_wst_g a))
          unfold pm_wst at h9
          rw [if_neg (by rw [h2]; decide)] at h9
          exact h9
        have hhh : pm_hh a = [] ∧ pm_rt a = none := pm_ini_hh a ha h4
        have hcode : (Cond.code (pm_y a) (pm_b a) (pm_ml a) none).before args s = true := by
          have h9 := hWd args _ (pm_wT _ (pm_wca a ha h121) (pm_wcode_g a))
          unfold pm_wcode at h9
          rw [if_pos hhh.1, hhh.2] at h9
          exact h9
        have hy := pm_y_mh a ha
        have hpl : e.platform.magicAccessors = ({} : Platform).magicAccessors := by rw [X.admits.platform]
        have hlen : ∀ sig, parseMethodDescriptor (pm_y a).desc = some sig → (as'.map (pm_cz ad)).length = sig.parameters.length := fun sig hs => by
          have := pm_len ha hsg hs
          rw [h2] at this
          have this : (Value.ref x :: as').length = sig.parameters.length + 1 := this
          rw [List.length_map]
          simp only [List.length_cons] at this
          omega
        have hstk : ((Value.ref x :: as').reverse ++ rest).map (pm_cz ad) = (as'.map (pm_cz ad)).reverse ++ .ref (ad x) :: rest.map (pm_cz ad) := by
          simp [pm_cz]
        by_cases hne : ne = 1
        · rw [if_pos hne] at hw
          obtain ⟨mk, methM, cM, kP, vm₁, hnamed, hmethM, hcodeM, -, hlocalsM, -, hkP, -, hW₁, hstep₁⟩ := Steps.initColdArgsNest (e := e) X.here hx X.warmed hpl hown h4 hy (hWd args _ (pm_Ts_of _ hw rfl)) hinst hcode (f := F0 mi pc lsC (((Value.ref x :: as').reverse ++ rest).map (pm_cz ad))) rfl hlen hstk (by rw [hb]; exact hd)
          exact ⟨vm₁, mk, hnamed, X.noted hW₁, hstep₁⟩
        · rw [if_neg hne] at hw
          obtain ⟨mk, methM, cM, kP, vm₁, hnamed, hmethM, hcodeM, -, hlocalsM, -, hkP, -, hW₁, hstep₁⟩ := Steps.initColdArgs (e := e) X.here hx X.warmed hpl hown h4 hy (hWd args _ (pm_Ts_of _ hw rfl)) hinst hcode (f := F0 mi pc lsC (((Value.ref x :: as').reverse ++ rest).map (pm_cz ad))) rfl hlen hstk (by rw [hb]; exact hd)
          exact ⟨vm₁, mk, hnamed, X.noted hW₁, hstep₁⟩
      | _ => exact hrc.elim
  · cases hk
end
section
/-! ALL PLAIN INSTRUCTIONS ARE SOUND -/
theorem pm_snd (op : Nat) : pm_Snd op := by
  intro p l e R s mi args below meth c Q m z L xs D dA ad pc len a b n ls ls' st st' M M' g pc' i lsC H locs cells slots hX hd hk hs hs0 hn hg hJ hL hV hph hR kk
  have hn0 := hn
  unfold pm_next at hn
  split at hn
  · exact pm_s1 p l e R s mi args below meth c Q m z L xs D dA ad pc len a b n ls ls' st st' M M' g pc' i lsC H locs cells slots hX hd hk hs hs0 hn0 hg hJ hL hV hph hR kk
  · exact pm_s2 p l e R s mi args below meth c Q m z L xs D dA ad pc len a b n ls ls' st st' M M' g pc' i lsC H locs cells slots hX hd hk hs hs0 hn0 hg hJ hL hV hph hR kk
  · exact pm_s3 p l e R s mi args below meth c Q m z L xs D dA ad pc len a b n ls ls' st st' M M' g pc' i lsC H locs cells slots hX hd hk hs hs0 hn0 hg hJ hL hV hph hR kk
  · exact pm_s4 p l e R s mi args below meth c Q m z L xs D dA ad pc len a b n ls ls' st st' M M' g pc' i lsC H locs cells slots hX hd hk hs hs0 hn0 hg hJ hL hV hph hR kk
  · exact pm_s5 p l e R s mi args below meth c Q m z L xs D dA ad pc len a b n ls ls' st st' M M' g pc' i lsC H locs cells slots hX hd hk hs hs0 hn0 hg hJ hL hV hph hR kk
  · exact pm_s6 p l e R s mi args below meth c Q m z L xs D dA ad pc len a b n ls ls' st st' M M' g pc' i lsC H locs cells slots hX hd hk hs hs0 hn0 hg hJ hL hV hph hR kk
  · exact pm_s8 p l e R s mi args below meth c Q m z L xs D dA ad pc len a b n ls ls' st st' M M' g pc' i lsC H locs cells slots hX hd hk hs hs0 hn0 hg hJ hL hV hph hR kk
  · exact pm_s9 p l e R s mi args below meth c Q m z L xs D dA ad pc len a b n ls ls' st st' M M' g pc' i lsC H locs cells slots hX hd hk hs hs0 hn0 hg hJ hL hV hph hR kk
  · exact pm_s10 p l e R s mi args below meth c Q m z L xs D dA ad pc len a b n ls ls' st st' M M' g pc' i lsC H locs cells slots hX hd hk hs hs0 hn0 hg hJ hL hV hph hR kk
  · exact pm_s11 p l e R s mi args below meth c Q m z L xs D dA ad pc len a b n ls ls' st st' M M' g pc' i lsC H locs cells slots hX hd hk hs hs0 hn0 hg hJ hL hV hph hR kk
  · exact pm_s12 p l e R s mi args below meth c Q m z L xs D dA ad pc len a b n ls ls' st st' M M' g pc' i lsC H locs cells slots hX hd hk hs hs0 hn0 hg hJ hL hV hph hR kk
  · exact pm_s13 p l e R s mi args below meth c Q m z L xs D dA ad pc len a b n ls ls' st st' M M' g pc' i lsC H locs cells slots hX hd hk hs hs0 hn0 hg hJ hL hV hph hR kk
  · exact pm_s14 p l e R s mi args below meth c Q m z L xs D dA ad pc len a b n ls ls' st st' M M' g pc' i lsC H locs cells slots hX hd hk hs hs0 hn0 hg hJ hL hV hph hR kk
  · exact pm_s15 p l e R s mi args below meth c Q m z L xs D dA ad pc len a b n ls ls' st st' M M' g pc' i lsC H locs cells slots hX hd hk hs hs0 hn0 hg hJ hL hV hph hR kk
  · exact pm_s17 p l e R s mi args below meth c Q m z L xs D dA ad pc len a b n ls ls' st st' M M' g pc' i lsC H locs cells slots hX hd hk hs hs0 hn0 hg hJ hL hV hph hR kk
  · exact pm_s18 p l e R s mi args below meth c Q m z L xs D dA ad pc len a b n ls ls' st st' M M' g pc' i lsC H locs cells slots hX hd hk hs hs0 hn0 hg hJ hL hV hph hR kk
  · exact pm_s19 p l e R s mi args below meth c Q m z L xs D dA ad pc len a b n ls ls' st st' M M' g pc' i lsC H locs cells slots hX hd hk hs hs0 hn0 hg hJ hL hV hph hR kk
  · exact pm_s20 p l e R s mi args below meth c Q m z L xs D dA ad pc len a b n ls ls' st st' M M' g pc' i lsC H locs cells slots hX hd hk hs hs0 hn0 hg hJ hL hV hph hR kk
  · exact pm_s21 p l e R s mi args below meth c Q m z L xs D dA ad pc len a b n ls ls' st st' M M' g pc' i lsC H locs cells slots hX hd hk hs hs0 hn0 hg hJ hL hV hph hR kk
  · exact pm_s22 p l e R s mi args below meth c Q m z L xs D dA ad pc len a b n ls ls' st st' M M' g pc' i lsC H locs cells slots hX hd hk hs hs0 hn0 hg hJ hL hV hph hR kk
  · exact pm_s23 p l e R s mi args below meth c Q m z L xs D dA ad pc len a b n ls ls' st st' M M' g pc' i lsC H locs cells slots hX hd hk hs hs0 hn0 hg hJ hL hV hph hR kk
  · exact pm_s24 p l e R s mi args below meth c Q m z L xs D dA ad pc len a b n ls ls' st st' M M' g pc' i lsC H locs cells slots hX hd hk hs hs0 hn0 hg hJ hL hV hph hR kk
  · exact pm_s25 p l e R s mi args below meth c Q m z L xs D dA ad pc len a b n ls ls' st st' M M' g pc' i lsC H locs cells slots hX hd hk hs hs0 hn0 hg hJ hL hV hph hR kk
  · exact pm_s26 p l e R s mi args below meth c Q m z L xs D dA ad pc len a b n ls ls' st st' M M' g pc' i lsC H locs cells slots hX hd hk hs hs0 hn0 hg hJ hL hV hph hR kk
  · exact pm_s27 p l e R s mi args below meth c Q m z L xs D dA ad pc len a b n ls ls' st st' M M' g pc' i lsC H locs cells slots hX hd hk hs hs0 hn0 hg hJ hL hV hph hR kk
  · exact pm_s28 p l e R s mi args below meth c Q m z L xs D dA ad pc len a b n ls ls' st st' M M' g pc' i lsC H locs cells slots hX hd hk hs hs0 hn0 hg hJ hL hV hph hR kk
  · exact pm_s29 p l e R s mi args below meth c Q m z L xs D dA ad pc len a b n ls ls' st st' M M' g pc' i lsC H locs cells slots hX hd hk hs hs0 hn0 hg hJ hL hV hph hR kk
  · exact pm_s30 p l e R s mi args below meth c Q m z L xs D dA ad pc len a b n ls ls' st st' M M' g pc' i lsC H locs cells slots hX hd hk hs hs0 hn0 hg hJ hL hV hph hR kk
  · exact pm_s31 p l e R s mi args below meth c Q m z L xs D dA ad pc len a b n ls ls' st st' M M' g pc' i lsC H locs cells slots hX hd hk hs hs0 hn0 hg hJ hL hV hph hR kk
  · exact pm_s32 p l e R s mi args below meth c Q m z L xs D dA ad pc len a b n ls ls' st st' M M' g pc' i lsC H locs cells slots hX hd hk hs hs0 hn0 hg hJ hL hV hph hR kk
  · exact pm_s34 p l e R s mi args below meth c Q m z L xs D dA ad pc len a b n ls ls' st st' M M' g pc' i lsC H locs cells slots hX hd hk hs hs0 hn0 hg hJ hL hV hph hR kk
  · exact pm_s40 p l e R s mi args below meth c Q m z L xs D dA ad pc len a b n ls ls' st st' M M' g pc' i lsC H locs cells slots hX hd hk hs hs0 hn0 hg hJ hL hV hph hR kk
  · exact pm_s41 p l e R s mi args below meth c Q m z L xs D dA ad pc len a b n ls ls' st st' M M' g pc' i lsC H locs cells slots hX hd hk hs hs0 hn0 hg hJ hL hV hph hR kk
  · exact pm_s42 p l e R s mi args below meth c Q m z L xs D dA ad pc len a b n ls ls' st st' M M' g pc' i lsC H locs cells slots hX hd hk hs hs0 hn0 hg hJ hL hV hph hR kk
  · exact pm_s43 p l e R s mi args below meth c Q m z L xs D dA ad pc len a b n ls ls' st st' M M' g pc' i lsC H locs cells slots hX hd hk hs hs0 hn0 hg hJ hL hV hph hR kk
  · exact pm_s50 p l e R s mi args below meth c Q m z L xs D dA ad pc len a b n ls ls' st st' M M' g pc' i lsC H locs cells slots hX hd hk hs hs0 hn0 hg hJ hL hV hph hR kk
  · exact pm_s51 p l e R s mi args below meth c Q m z L xs D dA ad pc len a b n ls ls' st st' M M' g pc' i lsC H locs cells slots hX hd hk hs hs0 hn0 hg hJ hL hV hph hR kk
  · exact pm_s52 p l e R s mi args below meth c Q m z L xs D dA ad pc len a b n ls ls' st st' M M' g pc' i lsC H locs cells slots hX hd hk hs hs0 hn0 hg hJ hL hV hph hR kk
  · exact pm_s53 p l e R s mi args below meth c Q m z L xs D dA ad pc len a b n ls ls' st st' M M' g pc' i lsC H locs cells slots hX hd hk hs hs0 hn0 hg hJ hL hV hph hR kk
  · exact pm_s54 p l e R s mi args below meth c Q m z L xs D dA ad pc len a b n ls ls' st st' M M' g pc' i lsC H locs cells slots hX hd hk hs hs0 hn0 hg hJ hL hV hph hR kk
  · exact pm_s55 p l e R s mi args below meth c Q m z L xs D dA ad pc len a b n ls ls' st st' M M' g pc' i lsC H locs cells slots hX hd hk hs hs0 hn0 hg hJ hL hV hph hR kk
  · exact pm_s56 p l e R s mi args below meth c Q m z L xs D dA ad pc len a b n ls ls' st st' M M' g pc' i lsC H locs cells slots hX hd hk hs hs0 hn0 hg hJ hL hV hph hR kk
  · exact pm_s57 p l e R s mi args below meth c Q m z L xs D dA ad pc len a b n ls ls' st st' M M' g pc' i lsC H locs cells slots hX hd hk hs hs0 hn0 hg hJ hL hV hph hR kk
  · exact pm_s58 p l e R s mi args below meth c Q m z L xs D dA ad pc len a b n ls ls' st st' M M' g pc' i lsC H locs cells slots hX hd hk hs hs0 hn0 hg hJ hL hV hph hR kk
  · exact pm_s59 p l e R s mi args below meth c Q m z L xs D dA ad pc len a b n ls ls' st st' M M' g pc' i lsC H locs cells slots hX hd hk hs hs0 hn0 hg hJ hL hV hph hR kk
  · exact pm_s61 p l e R s mi args below meth c Q m z L xs D dA ad pc len a b n ls ls' st st' M M' g pc' i lsC H locs cells slots hX hd hk hs hs0 hn0 hg hJ hL hV hph hR kk
  · exact pm_s70 p l e R s mi args below meth c Q m z L xs D dA ad pc len a b n ls ls' st st' M M' g pc' i lsC H locs cells slots hX hd hk hs hs0 hn0 hg hJ hL hV hph hR kk
  · exact pm_s71 p l e R s mi args below meth c Q m z L xs D dA ad pc len a b n ls ls' st st' M M' g pc' i lsC H locs cells slots hX hd hk hs hs0 hn0 hg hJ hL hV hph hR kk
  · exact pm_s72 p l e R s mi args below meth c Q m z L xs D dA ad pc len a b n ls ls' st st' M M' g pc' i lsC H locs cells slots hX hd hk hs hs0 hn0 hg hJ hL hV hph hR kk
  · exact pm_s73 p l e R s mi args below meth c Q m z L xs D dA ad pc len a b n ls ls' st st' M M' g pc' i lsC H locs cells slots hX hd hk hs hs0 hn0 hg hJ hL hV hph hR kk
  · exact pm_s74 p l e R s mi args below meth c Q m z L xs D dA ad pc len a b n ls ls' st st' M M' g pc' i lsC H locs cells slots hX hd hk hs hs0 hn0 hg hJ hL hV hph hR kk
  · exact pm_s80 p l e R s mi args below meth c Q m z L xs D dA ad pc len a b n ls ls' st st' M M' g pc' i lsC H locs cells slots hX hd hk hs hs0 hn0 hg hJ hL hV hph hR kk
  · exact pm_s81 p l e R s mi args below meth c Q m z L xs D dA ad pc len a b n ls ls' st st' M M' g pc' i lsC H locs cells slots hX hd hk hs hs0 hn0 hg hJ hL hV hph hR kk
  · exact pm_s82 p l e R s mi args below meth c Q m z L xs D dA ad pc len a b n ls ls' st st' M M' g pc' i lsC H locs cells slots hX hd hk hs hs0 hn0 hg hJ hL hV hph hR kk
  · exact pm_s83 p l e R s mi args below meth c Q m z L xs D dA ad pc len a b n ls ls' st st' M M' g pc' i lsC H locs cells slots hX hd hk hs hs0 hn0 hg hJ hL hV hph hR kk
  · exact pm_s84 p l e R s mi args below meth c Q m z L xs D dA ad pc len a b n ls ls' st st' M M' g pc' i lsC H locs cells slots hX hd hk hs hs0 hn0 hg hJ hL hV hph hR kk
  · exact pm_s85 p l e R s mi args below meth c Q m z L xs D dA ad pc len a b n ls ls' st st' M M' g pc' i lsC H locs cells slots hX hd hk hs hs0 hn0 hg hJ hL hV hph hR kk
  · exact pm_s86 p l e R s mi args below meth c Q m z L xs D dA ad pc len a b n ls ls' st st' M M' g pc' i lsC H locs cells slots hX hd hk hs hs0 hn0 hg hJ hL hV hph hR kk
  · exact pm_s87 p l e R s mi args below meth c Q m z L xs D dA ad pc len a b n ls ls' st st' M M' g pc' i lsC H locs cells slots hX hd hk hs hs0 hn0 hg hJ hL hV hph hR kk
  · cases hn
theorem pm_ct_up {M : pm_Mem} {x b v : Nat} {n : Nat} {f : Nat → Nat → Int32} {g : Nat → Nat → Int64} (h : x < 30000) : pm_ct (n, f, pm_upR M.2.2.1 x b (some v), g) = pm_ct M := by
  unfold pm_ct
  show (pm_upR M.2.2.1 x b (some v) 30000 0).getD 0 = _
  rw [show pm_upR M.2.2.1 x b (some v) 30000 0 = M.2.2.1 30000 0 from if_neg (fun q => by omega)]
/-- cells are only made, exceptions only thrown: a plain instruction throws none -/
theorem pm_next_mono {op len a b : Nat} {n : Int32} {pc : Nat} {ls : pm_Loc} {st : List Value} {M : pm_Mem} {g : Prop} {pc' : Nat} {ls' : pm_Loc} {st' : List Value} {M' : pm_Mem} (hn : pm_next op len a b n pc ls st M = some (g, pc', ls', st', M')) (hg : g) (h560 : M.1 ≤ pm_n) : (M.1 ≤ M'.1 ∧ M'.1 ≤ pm_n) ∧ pm_ct M' = pm_ct M := by
  have hN : pm_n = 560 := rfl
  unfold pm_next at hn
  split at hn
  · cases hn; exact ⟨⟨Nat.le_refl _, h560⟩, rfl⟩
  · unfold pm_li at hn
    split at hn
    · cases hn; exact ⟨⟨Nat.le_refl _, h560⟩, rfl⟩
    · cases hn
  · unfold pm_lr at hn
    split at hn
    · cases hn; exact ⟨⟨Nat.le_refl _, h560⟩, rfl⟩
    · cases hn
  · unfold pm_ll at hn
    split at hn
    · cases hn; exact ⟨⟨Nat.le_refl _, h560⟩, rfl⟩
    · cases hn
  · unfold pm_k1 at hn
    split at hn
    · cases hn; exact ⟨⟨Nat.le_refl _, h560⟩, rfl⟩
    · cases hn
  · unfold pm_kr at hn
    split at hn
    · cases hn; exact ⟨⟨Nat.le_refl _, h560⟩, rfl⟩
    · cases hn
  · unfold pm_li at hn
    split at hn
    · cases hn; exact ⟨⟨Nat.le_refl _, h560⟩, rfl⟩
    · cases hn
  · unfold pm_k2 at hn
    split at hn
    · cases hn; exact ⟨⟨Nat.le_refl _, h560⟩, rfl⟩
    · cases hn
  · unfold pm_k2 at hn
    split at hn
    · cases hn; exact ⟨⟨Nat.le_refl _, h560⟩, rfl⟩
    · cases hn
  · unfold pm_k2 at hn
    split at hn
    · cases hn; exact ⟨⟨Nat.le_refl _, h560⟩, rfl⟩
    · cases hn
  · unfold pm_k2 at hn
    split at hn
    · cases hn; exact ⟨⟨Nat.le_refl _, h560⟩, rfl⟩
    · cases hn
  · unfold pm_k2 at hn
    split at hn
    · cases hn; exact ⟨⟨Nat.le_refl _, h560⟩, rfl⟩
    · cases hn
  · unfold pm_k2 at hn
    split at hn
    · cases hn; exact ⟨⟨Nat.le_refl _, h560⟩, rfl⟩
    · cases hn
  · cases hn; exact ⟨⟨Nat.le_refl _, h560⟩, rfl⟩
  · unfold pm_k2 at hn
    split at hn
    · cases hn; exact ⟨⟨Nat.le_refl _, h560⟩, rfl⟩
    · cases hn
  · unfold pm_k2 at hn
    split at hn
    · cases hn; exact ⟨⟨Nat.le_refl _, h560⟩, rfl⟩
    · cases hn
  · unfold pm_k1 at hn
    split at hn
    · cases hn; exact ⟨⟨Nat.le_refl _, h560⟩, rfl⟩
    · cases hn
  · unfold pm_k1 at hn
    split at hn
    · cases hn; exact ⟨⟨Nat.le_refl _, h560⟩, rfl⟩
    · cases hn
  · unfold pm_kl at hn
    split at hn
    · cases hn; exact ⟨⟨Nat.le_refl _, h560⟩, rfl⟩
    · cases hn
  · unfold pm_k1 at hn
    split at hn
    · cases hn; exact ⟨⟨Nat.le_refl _, h560⟩, rfl⟩
    · cases hn
  · unfold pm_kli at hn
    split at hn
    · cases hn; exact ⟨⟨Nat.le_refl _, h560⟩, rfl⟩
    · cases hn
  · unfold pm_kli at hn
    split at hn
    · cases hn; exact ⟨⟨Nat.le_refl _, h560⟩, rfl⟩
    · cases hn
  · unfold pm_kll at hn
    split at hn
    · cases hn; exact ⟨⟨Nat.le_refl _, h560⟩, rfl⟩
    · cases hn
  · unfold pm_kll at hn
    split at hn
    · cases hn; exact ⟨⟨Nat.le_refl _, h560⟩, rfl⟩
    · cases hn
  · unfold pm_kll at hn
    split at hn
    · cases hn; exact ⟨⟨Nat.le_refl _, h560⟩, rfl⟩
    · cases hn
  · unfold pm_kli at hn
    split at hn
    · cases hn; exact ⟨⟨Nat.le_refl _, h560⟩, rfl⟩
    · cases hn
  · cases hn; exact ⟨⟨Nat.le_refl _, h560⟩, rfl⟩
  · unfold pm_k1 at hn
    split at hn
    · cases hn; exact ⟨⟨Nat.le_refl _, h560⟩, rfl⟩
    · cases hn
  · unfold pm_k1 at hn
    split at hn
    · cases hn; exact ⟨⟨Nat.le_refl _, h560⟩, rfl⟩
    · cases hn
  · unfold pm_kr at hn
    split at hn
    · cases hn; exact ⟨⟨Nat.le_refl _, h560⟩, rfl⟩
    · cases hn
  · unfold pm_kri at hn
    split at hn
    · cases hn; exact ⟨⟨Nat.le_refl _, h560⟩, rfl⟩
    · cases hn
  · unfold pm_k1 at hn
    split at hn
    · cases hn; exact ⟨⟨Nat.le_refl _, h560⟩, rfl⟩
    · cases hn
  · unfold pm_k2 at hn
    split at hn
    · cases hn; exact ⟨⟨Nat.le_refl _, h560⟩, rfl⟩
    · cases hn
  · cases hn; exact ⟨⟨Nat.le_refl _, h560⟩, rfl⟩
  · unfold pm_k1 at hn
    split at hn
    · cases hn; exact ⟨⟨Nat.le_refl _, h560⟩, rfl⟩
    · cases hn
  · unfold pm_kr at hn
    split at hn
    · cases hn; exact ⟨⟨Nat.le_refl _, h560⟩, rfl⟩
    · cases hn
  · unfold pm_kr at hn
    split at hn
    · cases hn; exact ⟨⟨Nat.le_refl _, h560⟩, rfl⟩
    · cases hn
  · unfold pm_kri at hn
    split at hn
    · cases hn; exact ⟨⟨Nat.le_refl _, h560⟩, rfl⟩
    · cases hn
  · unfold pm_krr at hn
    split at hn
    · cases hn; exact ⟨⟨Nat.le_refl _, h560⟩, pm_ct_up (by have := hg.1.1; omega)⟩
    · cases hn
  · unfold pm_kri at hn
    split at hn
    · cases hn; exact ⟨⟨Nat.le_refl _, h560⟩, rfl⟩
    · cases hn
  · unfold pm_krii at hn
    split at hn
    · cases hn; exact ⟨⟨Nat.le_refl _, h560⟩, rfl⟩
    · cases hn
  · unfold pm_kr at hn
    split at hn
    · cases hn; exact ⟨⟨Nat.le_refl _, h560⟩, rfl⟩
    · cases hn
  · unfold pm_kri at hn
    split at hn
    · cases hn; exact ⟨⟨Nat.le_refl _, h560⟩, rfl⟩
    · cases hn
  · unfold pm_kril at hn
    split at hn
    · cases hn; exact ⟨⟨Nat.le_refl _, h560⟩, rfl⟩
    · cases hn
  · unfold pm_kri at hn
    split at hn
    · cases hn; exact ⟨⟨Nat.le_refl _, h560⟩, rfl⟩
    · cases hn
  · unfold pm_kcp at hn
    split at hn
    · cases hn; exact ⟨⟨Nat.le_refl _, h560⟩, rfl⟩
    · cases hn
  · unfold pm_krir at hn
    split at hn
    · cases hn; exact ⟨⟨Nat.le_refl _, h560⟩, pm_ct_up (by have := hg.1.1; omega)⟩
    · cases hn
  · cases hn
    refine ⟨⟨Nat.le_succ _, hg.1.2⟩, ?_⟩
    show ((if 30000 = M.1 then none else M.2.2.1 30000 0) : Option Nat).getD 0 = _
    rw [if_neg (by omega)]
    rfl
  · unfold pm_k1 at hn
    split at hn
    · cases hn
      refine ⟨⟨Nat.le_succ _, hg.1.2.2⟩, ?_⟩
      show ((if 30000 = M.1 then none else M.2.2.1 30000 0) : Option Nat).getD 0 = _
      rw [if_neg (by omega)]
      rfl
    · cases hn
  · unfold pm_k2 at hn
    split at hn
    · rename_i k h t
      cases hn
      have h9 := hg.1.2.2.2.2
      refine ⟨⟨by show M.1 ≤ M.1 + 1 + _; omega, by show M.1 + 1 + _ ≤ _; omega⟩, ?_⟩
      show ((if 30000 = M.1 then (if 0 < h.toNatClampNeg then some (M.1 + 1 + 0) else none) else if M.1 ≤ 30000 ∧ 30000 < M.1 + 1 + h.toNatClampNeg then none else M.2.2.1 30000 0) : Option Nat).getD 0 = _
      rw [if_neg (by omega), if_neg (by omega)]
      rfl
    · cases hn
  · unfold pm_kr at hn
    split at hn
    · cases hn; exact ⟨⟨Nat.le_refl _, h560⟩, rfl⟩
    · cases hn
  · cases hn; exact ⟨⟨Nat.le_refl _, h560⟩, rfl⟩
  · unfold pm_kri at hn
    split at hn
    · cases hn; exact ⟨⟨Nat.le_refl _, h560⟩, rfl⟩
    · cases hn
  · unfold pm_kr at hn
    split at hn
    · cases hn; exact ⟨⟨Nat.le_refl _, h560⟩, rfl⟩
    · cases hn
  · unfold pm_kri at hn
    split at hn
    · cases hn; exact ⟨⟨Nat.le_refl _, h560⟩, rfl⟩
    · cases hn
  · unfold pm_kr at hn
    split at hn
    · cases hn; exact ⟨⟨Nat.le_refl _, h560⟩, rfl⟩
    · cases hn
  · unfold pm_kr at hn
    split at hn
    · cases hn; exact ⟨⟨Nat.le_refl _, h560⟩, rfl⟩
    · cases hn
  · unfold pm_kr at hn
    split at hn
    · cases hn; exact ⟨⟨Nat.le_refl _, h560⟩, rfl⟩
    · cases hn
  · cases hn; exact ⟨⟨Nat.le_refl _, h560⟩, rfl⟩
  · cases hn
end
section
/-! THE SAME PLACE, as if the invocation began here -/
theorem pm_rebase {p : Program} {l : Launch} {e : Env} {R R' : Room} {s : State} {m : MethodId} {args : Array Value} {below : List Frame} {meth : Method} {c : Code} {T : State} {locs : List Loc} {cells slots : Nat} (X : Stand p l e R s m args below meth c T locs cells slots)
    (hf : R'.frames ≤ R.frames) (hl : R'.locals ≤ R.locals) (hc : cells + R'.cells ≤ R.cells) (hs : slots + R'.slots ≤ R.slots) : Stand p l e R' (T.setFrames (.invoking m args :: below)) m args below meth c T [] 0 0 := by
  obtain ⟨g₀, hr⟩ := X.frames_eq
  have hcur : T.cur < T.threads.size := State.cur_lt_of_frames hr
  have hfr : (T.setFrames (.invoking m args :: below)).frames = .invoking m args :: below := State.frames_setFrames _ hcur
  have hm' : (T.setFrames (.invoking m args :: below)).vm.method? m = some meth := X.method'
  have hcode : ∀ x, (T.setFrames (.invoking m args :: below)).code? x = s.code? x := fun x => by
    rw [State.code?_eq, State.code?_eq]
    show (T.vm.method? x).bind _ = _
    rw [X.warmed.alike.method?]
  refine ⟨X.admits, X.cas, X.clock, hfr, ?_, ?_, hm', X.code, X.here, X.tail, State.WarmedH.refl (T.setFrames (.invoking m args :: below)), (State.stackLimits_setFrames _ _ _).symm, (State.stackBytes_setFrames _ _).symm, ?_⟩
  · have h := X.room
    have hsz := X.heapSize
    have hus := X.used
    have hbk := X.book
    have e1 : (T.setFrames (.invoking m args :: below)).localsInUse = s.localsInUse := by
      rw [State.localsInUse_invoking hfr hm' X.code, State.localsInUse_invoking X.frames X.method X.code]
    have e2 : (T.setFrames (.invoking m args :: below)).frames.length = s.frames.length := by rw [hfr, X.frames]
    have e3 : e.platform.stackLimits (T.setFrames (.invoking m args :: below)).me = e.platform.stackLimits s.me := by rw [State.stackLimits_setFrames, X.limits]
    have e4 : (T.setFrames (.invoking m args :: below)).me.stackBytes = s.me.stackBytes := by rw [State.stackBytes_setFrames, X.bytes]
    have e5 : (T.setFrames (.invoking m args :: below)).heap = T.heap := rfl
    have e6 : (T.setFrames (.invoking m args :: below)).slotsUsed = T.slotsUsed := rfl
    have e7 : (T.setFrames (.invoking m args :: below)).slotsTrue = T.slotsTrue := rfl
    unfold State.hasRoom at h ⊢
    rw [e1, e2, e3, e4, e5, e6, e7]
    simp only [Bool.and_eq_true, decide_eq_true_eq] at h ⊢
    obtain ⟨⟨⟨⟨h1, h2, h3, h4, h5, h6⟩, h7⟩, h8⟩, h9⟩ := h
    exact ⟨⟨⟨⟨by omega, by omega, by omega, by omega, by omega, h6⟩, by omega⟩, by omega⟩, hbk⟩
  · have h := X.hears
    unfold State.hears at h ⊢
    have hmm : ∀ x, (T.setFrames (.invoking m args :: below)).vm.method? x = s.vm.method? x := fun x => X.warmed.alike.method? x
    split at h
    · rw [hcode]; exact h
    · rfl
    · rfl
    · rw [hmm]; exact h
  · have hfrs : ∃ th, (T.setFrames (.invoking m args :: below)).threads[(T.setFrames (.invoking m args :: below)).cur]? = some th := by
      obtain ⟨th, hth, -⟩ := State.frames_cons hfr
      exact ⟨th, hth⟩
    obtain ⟨th, hth⟩ := hfrs
    have h := (State.sameButNew.refl (T.setFrames (.invoking m args :: below)) hth).setFrames T.frames (State.cur_lt_of_frames hfr)
    rw [State.setFrames_setFrames] at h
    obtain ⟨t0, ht0, -⟩ := State.frames_cons hr
    rw [State.setFrames_self ht0] at h
    exact h
end
section
/-! A THROW: new, dup, ldc, invokespecial, athrow -/
def pm_nms : List String := ["java/lang/RuntimeException", "java/lang/Exception"]
def pm_oat (X : String) : List Cond := Bundle.throwableAtoms ++ Bundle.throwableSAtoms ++ Bundle.chainSAtoms X pm_nms ++
  [.instantiable X 6, .castable X X, .selects X Bundle.tFill0 Bundle.tFill0, .selects X Bundle.tFill Bundle.tFill,
   .lays X Bundle.tN "cause" "Ljava/lang/Throwable;", .lays X Bundle.tN "stackTrace" Bundle.steD, .lays X Bundle.tN "suppressedExceptions" Bundle.listD, .lays X Bundle.tN "detailMessage" "Ljava/lang/String;",
   .fieldLink Bundle.tN 198 Bundle.tN "backtrace" "Ljava/lang/Object;", .lays Bundle.tN Bundle.tN "backtrace" "Ljava/lang/Object;", .lays X Bundle.tN "backtrace" "Ljava/lang/Object;"]
theorem pm_oat_g : ∀ k, k < 4 → ∀ w ∈ pm_oat (pm_ex k), pm_gw w = true ∨ w = .laysStatic "java/lang/Throwable" "UNASSIGNED_STACK" "[Ljava/lang/StackTraceElement;" ∨ w = .laysStatic "java/lang/Throwable" "SUPPRESSED_SENTINEL" "Ljava/util/List;" := by decide +kernel
theorem pm_oat_0 : ∀ w ∈ pm_oat (pm_ex 0), w ∈ lw_tbl := by decide +kernel
theorem pm_oat_1 : ∀ w ∈ pm_oat (pm_ex 1), w ∈ lw_tbl := by decide +kernel
theorem pm_oat_2 : ∀ w ∈ pm_oat (pm_ex 2), w ∈ lw_tbl := by decide +kernel
theorem pm_oat_3 : ∀ w ∈ pm_oat (pm_ex 3), w ∈ lw_tbl := by decide +kernel
theorem pm_oat_in {k : Nat} (hk : k < 4) : ∀ w ∈ pm_oat (pm_ex k), w ∈ lw_tbl := by
  rcases (show k = 0 ∨ k = 1 ∨ k = 2 ∨ k = 3 by omega) with rfl | rfl | rfl | rfl
  · exact pm_oat_0
  · exact pm_oat_1
  · exact pm_oat_2
  · exact pm_oat_3
theorem pm_own_sub {own X : String} {ic : Nat} : ∀ w ∈ Bundle.ownAtoms own ic X pm_nms, w ∈ pm_oat X ∨ w = .methodLink own ic (Bundle.initS X) ∨ w = .isRef (.static Bundle.tN "UNASSIGNED_STACK" Bundle.steD) ∨ w = .isRef (.static Bundle.tN "SUPPRESSED_SENTINEL" Bundle.listD) := by
  intro w hw
  simp only [Bundle.ownAtoms, pm_oat, List.mem_append, List.mem_cons, List.not_mem_nil, or_false] at hw ⊢
  grind
/-- the words that the throw of an exception needs -/
theorem pm_own_w {z L k : Nat} {ad : Nat → Nat} {xs : Nat → Int32} {s : State} {args : Array Value} {own : String} {ic : Nat} (hF : pm_F z ad L xs s) (hk : k < 4) (hl : (Cond.methodLink own ic (Bundle.initS (pm_ex k))).before args s = true) : ∀ w ∈ Bundle.ownAtoms own ic (pm_ex k) pm_nms, w.before args s = true := by
  intro w hw
  have hLS := hF.2.2.2.2.2.2.1
  rcases pm_own_sub w hw with h | rfl | rfl | rfl
  · rcases pm_oat_g k hk w h with hg | rfl | rfl
    · exact hF.1 args w (List.mem_filter.mpr ⟨pm_oat_in hk w h, hg⟩)
    · exact hLS.1.lays args
    · exact hLS.2.lays args
  · exact hl
  · exact hLS.1.ref args
  · exact hLS.2.ref args
end
section
/-! A THROW, carried out -/
def pm_eil : List Nat := [349, 604, 580, 551]
def pm_etl : List Nat := [11, 21, 20, 18]
theorem pm_eil_ok : ∀ k, k < 4 → tables_1[pm_eil.getD k 0]? = some (.instantiable (pm_ex k) 6) ∧ tables_1[pm_etl.getD k 0]? = some (.initialized (pm_ex k)) := by decide +kernel
theorem pm_ex_fit : ∀ k, k < 4 → Bundle.fit (pm_ex k) = true := by decide +kernel
theorem pm_nms_fit : ∀ n ∈ pm_nms, Bundle.fit n = true := by decide +kernel
/-- cells that no location names are the same -/
theorem pm_old {s t : State} {cells slots : Nat} (h : s.sameButNew t [] cells slots) {a : Nat} {c : Cell} (hc : s.heap[a]? = some c) : t.heap[a]? = some c := by
  obtain ⟨c', h1, h2, h3, h4⟩ := h.2.2.2.2.2 a c hc
  have h5 : c'.slots = c.slots := Array.ext_getElem? (fun i => h4 i (by simp))
  rw [h1, h2, h5]
theorem pm_ws_tk {dA : Nat → ClassId} {ad : Nat → Nat} {M : pm_Mem} (h : M.1 ≤ pm_n) : pm_ws dA ad (pm_tk M) = pm_ws dA ad M := by
  unfold pm_ws
  show (List.range M.1).map _ = _
  refine List.map_congr_left (fun a ha => ?_)
  have ha := List.mem_range.mp ha
  have : pm_n = 560 := rfl
  have e : ∀ j, (pm_tk M).2.2.1 a j = M.2.2.1 a j := fun j => by
    unfold pm_tk pm_upR
    dsimp only
    rw [if_neg (by omega)]
  have e2 : (pm_tk M).2.2.1 a = M.2.2.1 a := funext e
  have e3 : pm_fv ad (pm_tk M) = fun c x k => if pm_isr c k = true then pm_cz ad (pm_rv ((pm_tk M).2.2.1 x k)) else .int (M.2.1 x k) := rfl
  have e4 : ∀ c, pm_fv ad (pm_tk M) c a = pm_fv ad M c a := fun c => by
    funext k
    unfold pm_fv
    rw [e2]; rfl
  have e5 : ∀ k, pm_ac ad (pm_tk M) a k = pm_ac ad M a k := fun k => by
    unfold pm_ac
    rw [e2]; rfl
  have e6 : pm_cell dA ad (pm_tk M) a = pm_cell dA ad M a := by
    unfold pm_cell
    split
    · rw [e4]
    · rw [e5]
  rw [e6]
theorem pm_at_some {D : va_G} {cl : List vw_C} {q : Nat × va_E} {H : Heap} (h : va_at D cl q H) : ∃ cq, H[q.1]? = some cq := by
  unfold va_at at h
  split at h
  · exact ⟨_, h⟩
  · obtain ⟨r, -, cell, h1, -⟩ := h
    exact ⟨cell, h1⟩
theorem pm_thrown {p : Program} {l : Launch} {e : Env} {R : Room} {s : State} {mi : MethodId} {args : Array Value} {below : List Frame} {meth : Method} {c : Code} {T : State} {locs : List Loc} {cells slots : Nat} {m z L : Nat} {xs : Nat → Int32} {D : va_G} {dA : Nat → ClassId} {ad : Nat → Nat} {M : pm_Mem} {pc len a : Nat} {lsC : Array Slot}
    (hX : pm_X p s mi args meth c m z L xs D dA ad) (hfl : l.flags = flags0) (hth : pm_dth (pm_ow m) len a pc (pm_b m) = true) (hex : c.exceptionTable.toList = []) (ha : a < 4)
    (X : Stand p l e R s mi args below meth c T locs cells slots) (hV : pm_V s z L xs D dA ad M T.heap locs) (hsz : lsC.size = c.maxLocals) (hR : 8 ≤ R.frames ∧ 300 ≤ R.locals ∧ cells + 1 ≤ R.cells ∧ slots + 6 ≤ R.slots) :
    ∃ t, Steps p.tables e below (T.setTop (F0 mi pc lsC [])) t ∧ ∃ (x : Addr) (cell : Cell), t.status = .running ∧ Ended t below (.threw x) ∧ s.WarmedH t.vm ∧ s.sameButNew ({ t with vm := s.vm } : State) locs (cells + 1) (slots + 6) ∧ pm_V s z L xs D dA ad (pm_tk M) t.heap locs ∧ t.heap[x]? = some cell ∧ cell.vm.isStatics = false ∧ s.vm.findClass (pm_ex a) = some cell.cls := by
  obtain ⟨⟨hx, hb, hml, hown, hlocks, hnm, hret⟩, hK, hF, had, hz⟩ := hX
  have Y := pm_rebase (R' := { frames := R.frames, cells := 1, slots := 6, locals := R.locals }) X (Nat.le_refl _) (Nat.le_refl _) hR.2.2.1 hR.2.2.2
  generalize hs' : T.setFrames (.invoking mi args :: below) = s' at Y
  have hvm : s'.vm = T.vm := by rw [← hs']; rfl
  have hhp : s'.heap = T.heap := by rw [← hs']; rfl
  have hal : s.WarmedH s'.vm := by rw [hvm]; exact X.warmed
  have hSU := hV.2.1
  have hF' : pm_F z ad L xs s' := hF.go hal hz (fun w h1 h2 => by rw [hhp]; exact hSU.2.1 w h1 h2)
  have hown' : s'.vm.findClass (pm_onm (pm_ow m)) = some mi.cls := by rw [hal.alike.findClass]; exact hown
  unfold pm_dth at hth
  split at hth
  rotate_left
  · cases hth
  rename_i j sx k hd1 hd2 hd3 hd4 hd5
  simp only [Bool.and_eq_true, decide_eq_true_eq, beq_iff_eq] at hth
  obtain ⟨⟨⟨hj, hk⟩, hms⟩, hlen⟩ := hth
  rw [Option.map_eq_some_iff] at hj hk
  obtain ⟨⟨ja, jj⟩, hj, rfl⟩ := hj
  obtain ⟨⟨ka, kj⟩, hk, hka⟩ := hk
  dsimp only at hka ha
  subst hka
  have hj := pm_jk_ok _ (pm_lk hj)
  have hk := pm_ek_ok _ (pm_lk hk)
  dsimp only at hj hk
  have hms : (pm_ow m, sx) ∈ pm_msg := by simpa using hms
  obtain ⟨tx, am, hmr⟩ := hF'.2.2.2.2.2.2.2.2 _ hms
  have key : W p l e { frames := R.frames, cells := 1, slots := 6, locals := R.locals } s' mi args below meth c T.heap [] 0 0 (fun t => ∃ (x : Addr) (cell : Cell), t.status = .running ∧ Ended t below (.threw x) ∧ s'.WarmedH t.vm ∧ s'.sameButNew ({ t with vm := s'.vm } : State) [] 1 6 ∧ t.heap[x]? = some cell ∧ cell.vm.isStatics = false ∧ s'.vm.findClass (pm_ex ka) = some cell.cls) (F0 mi pc lsC []) := by
    refine W.newc (C := pm_ex ka) (n := 6) hx hb hown' (hF'.1 _ _ (pm_Ts_of _ hj rfl)) (hF'.1 _ _ (pm_Ts_of _ (pm_eil_ok _ ha).1 rfl)) (hF'.1 _ _ (pm_Ts_of _ (pm_eil_ok _ ha).2 rfl)) rfl hd1 (Nat.le_refl _) (Nat.le_refl _) (fun cC kC h1 h2 h3 h4 => ?_)
    refine lv_dup hx hb hd2 rfl ?_
    refine va_ldcS hx hb hown' hmr hd3 ?_
    intro T2 hT2 X2
    have hnew : T2.heap[T.heap.size]? = some (freshCell cC kC) := by rw [hT2]; simp
    obtain ⟨U, hU1, hU2, hU3, hU4, hU5, ce, hU6, hU7⟩ := X2.ctorThrowS hx (Launch.traces_off hfl X.admits) (names := pm_nms) hown' (pm_ex_fit _ ha) pm_nms_fit
      (pm_own_w hF' ha (hF'.1 _ _ (pm_Ts_of _ hk rfl))) (by simp) h1 h2 hnew (by rw [hhp]; exact Nat.le_refl _) (msg := .ref am) rfl (g := F0 mi (pc + 6) lsC [.ref am, .ref T.heap.size, .ref T.heap.size]) rfl hsz rfl rfl (rest := []) rfl
      (by rw [hb]; exact hd4) (by rw [hb]; exact hd5) (by rw [hex]; simp) (by show 5 < R.frames; omega) (by show _ ≤ R.locals; simp [pm_nms, JFrame.monitorRoom, Value.category]; omega) hlocks
    exact ⟨U, hU1, T.heap.size, ce, hU2, hU3, hU4, hU5, hU6, by rw [hU7.vm]; rfl, hU7.cls⟩
  obtain ⟨t, ht, x, cell, h1, h2, h3, h4, h5, h6, h7⟩ := key T rfl Y
  obtain ⟨g₀, hr⟩ := X.frames_eq
  have hcur : T.cur < T.threads.size := State.cur_lt_of_frames hr
  have hold : ∀ (q : Nat) (cq : Cell), T.heap[q]? = some cq → t.heap[q]? = some cq := fun q cq hq => pm_old (t := { t with vm := s'.vm }) h4 (by rw [hhp]; exact hq)
  have hsame : s.sameButNew ({ t with vm := s.vm } : State) locs (cells + 1) (slots + 6) := by
    have g1 := X.same.setFrames (.invoking mi args :: below) (by
      obtain ⟨th, hth, -⟩ := State.frames_cons X.frames
      exact (Array.getElem?_eq_some_iff.mp hth).1)
    have g2 := h4.setVm s.vm
    have e1 : s'.setVm s.vm = ({ T with vm := s.vm } : State).setFrames (.invoking mi args :: below) := by rw [← hs']; rfl
    rw [e1] at g2
    have g3 := g1.trans g2
    rw [List.append_nil] at g3
    exact g3
  refine ⟨t, ht, x, cell, h1, h2, ?_, hsame, ⟨?_, ?_, hV.2.2.1, ?_⟩, h5, h6, ?_⟩
  · exact hal.trans h3
  · rw [pm_ws_tk hV.2.2.1]
    exact hV.1.kept (fun k q hk => by
      obtain ⟨cq, hcq⟩ := pm_at_some (hV.1 k q hk)
      rw [hcq]; exact hold _ _ hcq)
  · refine ⟨Nat.le_trans hSU.1 ?_, fun q h1 h2 => ?_, hSU.2.2⟩
    · have := h4.2.1
      rw [hhp] at this
      exact this
    · have := hSU.2.1 q h1 h2
      obtain ⟨cq, hcq⟩ : ∃ cq, T.heap[q]? = some cq := ⟨_, Array.getElem?_eq_getElem (Nat.lt_of_lt_of_le h1 hSU.1)⟩
      rw [← this, hcq]; exact hold _ _ hcq
  · exact hV.2.2.2
  · rw [hal.alike.findClass] at h7; exact h7
end
section
/-! AN EXCEPTION ARRIVES: caught, or passed on -/
def pm_hr (m : Nat) : List (Nat × Nat × Nat × Nat × Nat × Nat) := pm_hdl.filter (fun h => h.1 == m)
def pm_ast (c : ByteArray) (pc nx i : Nat) : Bool := match decode c pc with
  | .ok (.astore_n k, 1) => k.val == i && nx == pc + 1
  | .ok (.astore k, 2) => k == i && nx == pc + 2
  | _ => false
def pm_relb (m : Nat) (r : Nat × Nat × Nat × Nat) (h : Nat × Nat × Nat × Nat × Nat × Nat) : Bool :=
  r.1 == h.2.1 && r.2.1 == h.2.2.1 && !(r.2.2.2 == 0) && decide ((pm_jk.lookup (pm_ow m, r.2.2.2)).map (fun q => q.1) = some h.2.2.2.1) && decide (h.2.2.2.1 < 4) && pm_ast (pm_b m) r.2.2.1 h.2.2.2.2.1 h.2.2.2.2.2 && decide (h.2.2.2.2.2 < pm_ml m) && (h.2.2.2.2.2 == 0 || !(pm_lgs 0 (pm_cat m)).contains (h.2.2.2.2.2 - 1))
def pm_relr (m : Nat) : List (Nat × Nat × Nat × Nat) → List (Nat × Nat × Nat × Nat × Nat × Nat) → Bool
  | [], [] => true
  | r :: rs, h :: hs => pm_relb m r h && pm_relr m rs hs
  | _, _ => false
theorem pm_hr_ok : ∀ m, m < 133 → pm_relr m (pm_hh m) (pm_hr m) = true := by decide +kernel
theorem pm_hd_eq {m pc k : Nat} : pm_hd m pc k = ((pm_hr m).find? (fun h => decide (h.2.1 ≤ pc) && (decide (pc < h.2.2.1) && h.2.2.2.1 == k))).map (fun h => (h.2.2.2.2.1, h.2.2.2.2.2)) := by
  unfold pm_hd pm_hr
  rw [List.find?_filter]
  congr 1
  congr 1
  funext a
  rw [Bool.eq_iff_iff]
  simp only [Bool.and_eq_true, decide_eq_true_eq]
section PMC
variable {p : Program} {l : Launch} {e : Env} {R : Room} {s : State} {mi : MethodId} {args : Array Value} {below : List Frame} {meth : Method} {c : Code} {T : State} {locs : List Loc} {cells slots : Nat} {m pc k : Nat} {cX : ClassId}
def pm_cov (pc k : Nat) (h : Nat × Nat × Nat × Nat × Nat × Nat) : Bool := decide (h.2.1 ≤ pc) && (decide (pc < h.2.2.1) && h.2.2.2.1 == k)
/-- a row that is passed -/
theorem pm_rowpass (X : Stand p l e R s mi args below meth c T locs cells slots) (hW : pm_Wd s) (hNc : ∀ j k, j < 4 → k < 4 → j ≠ k → va_Nc (pm_ex j) (pm_ex k) s) (hown : s.vm.findClass (pm_onm (pm_ow m)) = some mi.cls) (hk : k < 4) (hcX : s.vm.findClass (pm_ex k) = some cX)
    {x : ExceptionTableEntry} {h : Nat × Nat × Nat × Nat × Nat × Nat} (hr : pm_relb m (x.startPc, x.endPc, x.handlerPc, x.catchType) h = true) (hc : pm_cov pc k h = false) : RowPassed e.platform s mi.cls pc cX x := by
  unfold pm_relb at hr
  simp only [Bool.and_eq_true, decide_eq_true_eq, beq_iff_eq, Bool.not_eq_true', beq_eq_false_iff_ne] at hr
  obtain ⟨⟨⟨⟨⟨⟨⟨h1, h2⟩, h3⟩, h4⟩, h5⟩, h6⟩, h7⟩, h8⟩ := hr
  by_cases hcv : covers x pc = true
  · right
    rw [Option.map_eq_some_iff] at h4
    obtain ⟨⟨ka, jj⟩, h4, hka⟩ := h4
    have hj := pm_jk_ok _ (pm_lk h4)
    dsimp only at hj hka
    have hlink := hW args _ (pm_Ts_of _ hj rfl)
    have hpl : e.platform.magicAccessors = ({} : Platform).magicAccessors := by rw [X.admits.platform]
    obtain ⟨c', hc', hcl⟩ := Cond.classLink_spec hown hlink e.platform hpl
    refine ⟨h3, c', hcl, ?_⟩
    have hne : k ≠ ka := by
      intro hh
      subst hh
      unfold pm_cov at hc
      simp only [covers, Bool.and_eq_true, decide_eq_true_eq] at hcv
      rw [← h1, ← h2, ← hka] at hc
      simp at hc
      have := hc (by omega)
      omega
    obtain ⟨c1, c2, g1, g2, g3⟩ := hNc k ka hk (by omega) hne
    cases g1.symm.trans hcX
    cases g2.symm.trans hc'
    exact g3
  · exact Or.inl (by simpa using hcv)
theorem pm_hunt (X : Stand p l e R s mi args below meth c T locs cells slots) (hW : pm_Wd s) (hNc : ∀ j k, j < 4 → k < 4 → j ≠ k → va_Nc (pm_ex j) (pm_ex k) s) (hown : s.vm.findClass (pm_onm (pm_ow m)) = some mi.cls) (hk : k < 4) (hcX : s.vm.findClass (pm_ex k) = some cX) :
    ∀ (xs : List ExceptionTableEntry) (hs : List (Nat × Nat × Nat × Nat × Nat × Nat)), pm_relr m (xs.map (fun h => (h.startPc, h.endPc, h.handlerPc, h.catchType))) hs = true →
      match hs.find? (pm_cov pc k) with
      | none => ∀ y ∈ xs, RowPassed e.platform s mi.cls pc cX y
      | some h => ∃ pre x rest, xs = pre ++ x :: rest ∧ (∀ y ∈ pre, RowPassed e.platform s mi.cls pc cX y) ∧ pm_relb m (x.startPc, x.endPc, x.handlerPc, x.catchType) h = true ∧ pm_cov pc k h = true := by
  intro xs
  induction xs with
  | nil =>
    intro hs hr
    cases hs with
    | nil => simp
    | cons => simp [pm_relr] at hr
  | cons x xs ih =>
    intro hs hr
    cases hs with
    | nil => simp [pm_relr] at hr
    | cons h hs =>
      simp only [List.map_cons, pm_relr, Bool.and_eq_true] at hr
      rw [List.find?_cons]
      cases hc : pm_cov pc k h with
      | true => exact ⟨[], x, xs, rfl, by simp, hr.1, hc⟩
      | false =>
        dsimp only
        have h1 := pm_rowpass (pc := pc) X hW hNc hown hk hcX hr.1 hc
        have h2 := ih hs hr.2
        cases hf : hs.find? (pm_cov pc k) with
        | none =>
          rw [hf] at h2
          intro y hy
          rcases List.mem_cons.mp hy with rfl | hy
          · exact h1
          · exact h2 y hy
        | some g =>
          rw [hf] at h2
          obtain ⟨pre, x', rest, q1, q2, q3⟩ := h2
          refine ⟨x :: pre, x', rest, by rw [q1]; rfl, fun y hy => ?_, q3⟩
          rcases List.mem_cons.mp hy with rfl | hy
          · exact h1
          · exact q2 y hy
end PMC
theorem pm_arrives {p : Program} {l : Launch} {e : Env} {R : Room} {s : State} {mi : MethodId} {args : Array Value} {below : List Frame} {meth : Method} {c : Code} {T : State} {locs : List Loc} {cells slots : Nat} {m z L : Nat} {xs : Nat → Int32} {D : va_G} {dA : Nat → ClassId} {ad : Nat → Nat} {pc k : Nat} {lsC : Array Slot} {st : List Value} {x : Addr} {cell : Cell} {ls : pm_Loc}
    (hm : m < 133) (hX : pm_X p s mi args meth c m z L xs D dA ad) (hex : c.exceptionTable.toList.map (fun h => (h.startPc, h.endPc, h.handlerPc, h.catchType)) = pm_hh m) (hk : k < 4)
    (X : Stand p l e R s mi args below meth c T locs cells slots) (hcell : T.heap[x]? = some cell) (hobj : cell.vm.isStatics = false) (hcX : s.vm.findClass (pm_ex k) = some cell.cls) (hJ : pm_J m ls) (hL : pm_LV ad lsC ls) :
    match pm_hd m pc k with
    | none => ∃ U, Steps p.tables e below ((T.setTop (F0 mi pc lsC st)).pushFrame (.throwing x)) U ∧ U.status = .running ∧ Ended U below (.threw x) ∧ s.WarmedH U.vm ∧ s.sameButNew ({ U with vm := s.vm } : State) locs cells slots ∧ U.heap = T.heap
    | some h => pm_J m (ls.set h.2 none) ∧ ∀ Q, (∀ lsC', pm_LV ad lsC' (ls.set h.2 none) → W p l e R s mi args below meth c T.heap locs cells slots Q (F0 mi h.1 lsC' [])) → ∃ t, Steps p.tables e below ((T.setTop (F0 mi pc lsC st)).pushFrame (.throwing x)) t ∧ Q t := by
  obtain ⟨⟨hx, hb, hml, hown, hlocks, hnm, hret⟩, hK, hF, had, hz⟩ := hX
  have hrl := pm_hr_ok m hm
  rw [← hex] at hrl
  have hh := pm_hunt (pc := pc) X hF.1 hF.2.2.2.2.2.2.2.1 hown hk hcX _ _ hrl
  have hcc : s.WarmedH s.vm := State.WarmedH.refl s
  have hk0 : ∃ kk, s.vm.classes[cell.cls]? = some kk := by
    obtain ⟨c1, kX, g1, g2, -⟩ := Cond.instantiable_spec (hF.1 args _ (pm_Ts_of _ (pm_eil_ok _ hk).1 rfl))
    cases g1.symm.trans hcX
    exact ⟨kX, g2⟩
  rw [pm_hd_eq]
  have hfe : (fun h : Nat × Nat × Nat × Nat × Nat × Nat => decide (h.2.1 ≤ pc) && (decide (pc < h.2.2.1) && h.2.2.2.1 == k)) = pm_cov pc k := rfl
  rw [hfe]
  cases hf : (pm_hr m).find? (pm_cov pc k) with
  | none =>
    rw [hf] at hh
    show ∃ U, _
    obtain ⟨vm', hW', X', hst⟩ := X.outThrough hlocks x (g := F0 mi pc lsC st) rfl rfl rfl hcell hobj hk0 hh
    refine ⟨(T.setVm vm').setFrames (.throwing x :: below), ?_, X'.here.running, ?_, (X'.ends _).1, (X'.ends _).2, rfl⟩
    · rw [X.pushThrowing_eq]
      exact hst
    · obtain ⟨g₀, hfr⟩ := X'.frames_eq
      exact State.frames_setFrames _ (State.cur_lt_of_frames hfr)
  | some h =>
    rw [hf] at hh
    obtain ⟨pre, y, rest, hsplit, hpass, hrb, hcv⟩ := hh
    show pm_J m (ls.set h.2.2.2.2.2 none) ∧ _
    have hJ' : pm_J m (ls.set h.2.2.2.2.2 none) := hJ.set (fun w hw => by cases hw)
    refine ⟨hJ', fun Q kk => ?_⟩
    unfold pm_relb at hrb
    simp only [Bool.and_eq_true, decide_eq_true_eq, beq_iff_eq, Bool.not_eq_true', beq_eq_false_iff_ne] at hrb
    obtain ⟨⟨⟨⟨⟨⟨⟨h1, h2⟩, h3⟩, h4⟩, h5⟩, h6⟩, h7⟩, h8⟩ := hrb
    unfold pm_cov at hcv
    simp only [Bool.and_eq_true, decide_eq_true_eq, beq_iff_eq] at hcv
    rw [Option.map_eq_some_iff] at h4
    obtain ⟨⟨ka, jj⟩, h4, hka⟩ := h4
    have hj := pm_jk_ok _ (pm_lk h4)
    dsimp only at hj hka
    rw [hka, hcv.2.2] at hj
    have hlink := hF.1 args _ (pm_Ts_of _ hj rfl)
    have hcast : s.vm.assignable cell.cls cell.cls = true := by
      have hw : (Cond.castable (pm_ex k) (pm_ex k)).before args s = true := hF.1 args _ (List.mem_filter.mpr ⟨pm_oat_in hk _ (by simp [pm_oat]), rfl⟩)
      obtain ⟨c1, c2, g1, g2, g3⟩ := Cond.castable_spec hw
      cases g1.symm.trans hcX
      cases g2.symm.trans hcX
      exact g3
    have hend := (X.catches_of_link hown h3 hlink hcX hcast).1
    have hcvx : covers y pc = true := by
      simp only [covers, Bool.and_eq_true, decide_eq_true_eq]
      omega
    obtain ⟨vm', X', hst⟩ := X.caughtThrough x (g := F0 mi pc lsC st) rfl hcell hobj hk0 pre y rest hsplit hpass hcvx hend
    have hs : ∀ j, j + 1 = h.2.2.2.2.2 → j ∉ pm_lgs 0 (pm_cat m) := by
      intro j hj9 hmem
      rcases Bool.or_eq_true _ _ ▸ h8 with h8 | h8
      · have := eq_of_beq h8
        omega
      · have e9 : h.2.2.2.2.2 - 1 = j := by omega
        rw [e9] at h8
        simp [hmem] at h8
    have key : W p l e R s mi args below meth c T.heap locs cells slots Q (F0 mi y.handlerPc lsC [.ref x]) := by
      unfold pm_ast at h6
      split at h6
      · rename_i kf hd
        simp only [Bool.and_eq_true, beq_iff_eq] at h6
        obtain ⟨g1, g2⟩ := h6
        refine lv_astore_n hx hb hd g1 hL.has (by rw [hJ.1]; exact h7) rfl (fun lsC' h' => ?_)
        rw [← g2]
        exact kk lsC' (pm_LV.set hJ hs (fun w hw => by cases hw) h')
      · rename_i kf hd
        simp only [Bool.and_eq_true, beq_iff_eq] at h6
        obtain ⟨g1, g2⟩ := h6
        subst g1
        refine lv_astore hx hb hd hL.has (by rw [hJ.1]; exact h7) rfl (fun lsC' h' => ?_)
        rw [← g2]
        exact kk lsC' (pm_LV.set hJ hs (fun w hw => by cases hw) h')
      · cases h6
    obtain ⟨t, ht, hQ⟩ := key (T.setVm vm') rfl X'
    refine ⟨t, ?_, hQ⟩
    rw [X.pushThrowing_eq]
    exact hst t ht
end
section
/-! SOUNDNESS: what the pure machine comes to, the JVM comes to -/
theorem pm_ends : ∀ m, m < 133 → (pm_cdl.getD m []).all (fun e => (!(e.2.1 == 64) || decide (pm_rt m = some (pm_ty e.2.2.2.1))) && (!(e.2.1 == 63) || decide (pm_rt m = none)) && (!(e.2.1 == 67) || (decide (e.2.2.2.1 < 4) && decide (pm_hh m = [])))) = true := by decide +kernel
theorem pm_lk_mem {l : List (Nat × pm_I)} {pc : Nat} {i : pm_I} (h : l.lookup pc = some i) : (pc, i) ∈ l := pm_lk h
theorem pm_end {m pc op len a b : Nat} {n : Int32} (h : pm_cd m pc = some (op, len, a, b, n)) : (op = 64 → pm_rt m = some (pm_ty a)) ∧ (op = 63 → pm_rt m = none) ∧ (op = 67 → a < 4 ∧ pm_hh m = []) := by
  have h1 := List.all_eq_true.mp (pm_ends m (pm_cd_lt h)) _ (pm_lk h)
  simp only [Bool.and_eq_true, Bool.or_eq_true, Bool.not_eq_true', beq_eq_false_iff_ne, decide_eq_true_eq] at h1
  refine ⟨fun q => ?_, fun q => ?_, fun q => ?_⟩
  · exact h1.1.1.resolve_left (fun w => w q)
  · exact h1.1.2.resolve_left (fun w => w q)
  · exact h1.2.resolve_left (fun w => w q)
def pm_mn (M : pm_Mem) (r : pm_Res) : Prop := (M.1 ≤ r.2.1 ∧ r.2.1 ≤ pm_n ∧ pm_ct M ≤ pm_ct r.2) ∧ ∀ k, r.1 = .inr k → k < 4
theorem pm_ct_tk {M : pm_Mem} : pm_ct (pm_tk M) = pm_ct M + 1 := by
  show (pm_upR M.2.2.1 30000 0 (some (pm_ct M + 1)) 30000 0).getD 0 = _
  simp [pm_upR]
theorem pm_N_mono {C : Nat → List Value → pm_Mem → pm_Res → Prop} {m : Nat} (hC : ∀ k as M q, C k as M q → M.1 ≤ pm_n → pm_mn M q) : ∀ n pc ls st M r, pm_N C m n pc ls st M r → M.1 ≤ pm_n → pm_mn M r := by
  intro n
  induction n with
  | zero => intro pc ls st M r h; exact h.elim
  | succ n ih =>
    intro pc ls st M r h hM
    simp only [pm_N, pm_stp] at h
    split at h
    · exact h.elim
    · rename_i op len a b nn hcd
      split at h
      · obtain ⟨-, q, hq, -, h5⟩ := h
        have hm := hC _ _ _ _ hq hM
        obtain ⟨v | k, M1⟩ := q
        · have h6 := ih _ _ _ _ _ h5 hm.1.2.1
          exact ⟨⟨Nat.le_trans hm.1.1 h6.1.1, h6.1.2.1, Nat.le_trans hm.1.2.2 h6.1.2.2⟩, h6.2⟩
        · unfold pm_aft at h5
          dsimp only at h5
          split at h5
          · subst h5; exact hm
          · have h6 := ih _ _ _ _ _ h5 hm.1.2.1
            exact ⟨⟨Nat.le_trans hm.1.1 h6.1.1, h6.1.2.1, Nat.le_trans hm.1.2.2 h6.1.2.2⟩, h6.2⟩
      · split at h
        · obtain ⟨-, rfl⟩ := h
          exact ⟨⟨Nat.le_refl _, hM, Nat.le_refl _⟩, fun k hk => by cases hk⟩
        · split at h
          · obtain ⟨v, -, -, rfl⟩ := h
            exact ⟨⟨Nat.le_refl _, hM, Nat.le_refl _⟩, fun k hk => by cases hk⟩
          · split at h
            · rename_i h67
              obtain ⟨-, rfl⟩ := h
              refine ⟨⟨Nat.le_refl _, hM, by show _ ≤ pm_ct (pm_tk M); rw [pm_ct_tk]; omega⟩, fun k hk => ?_⟩
              cases hk
              exact ((pm_end hcd).2.2 h67).1
            · split at h
              · exact h.elim
              · rename_i g s hn
                obtain ⟨hg, h⟩ := h
                obtain ⟨pc', ls', st', M'⟩ := s
                have h7 := pm_next_mono hn hg hM
                have h6 := ih _ _ _ _ _ h h7.1.2
                refine ⟨⟨Nat.le_trans h7.1.1 h6.1.1, h6.1.2.1, ?_⟩, h6.2⟩
                rw [← h7.2]
                exact h6.1.2.2
theorem pm_C_mono : ∀ d m as M r, pm_C d m as M r → M.1 ≤ pm_n → pm_mn M r := by
  intro d
  induction d with
  | zero => intro m as M r h; exact h.elim
  | succ d ih =>
    intro m as M r h hM
    obtain ⟨k, h⟩ := h
    exact pm_N_mono ih k _ _ _ _ _ h hM
theorem pm_sl_mono {a b : Nat} (h : a ≤ b) : pm_sl a ≤ pm_sl b := by
  induction h with
  | refl => exact Nat.le_refl _
  | step _ ih => exact Nat.le_trans ih (Nat.le_add_right _ _)
/-! the locals at a method's entry -/
theorem pm_get_cons0 {x : Option Value} {t : pm_Loc} : pm_get (x :: t) 0 = x := by
  unfold pm_get
  cases x <;> rfl
theorem pm_get_consS {x : Option Value} {t : pm_Loc} {i : Nat} : pm_get (x :: t) (i + 1) = pm_get t i := rfl
theorem pm_get_rep {n i : Nat} : pm_get (List.replicate n none) i = none := by
  unfold pm_get
  rw [List.getElem?_replicate]
  split <;> simp_all
theorem pm_get_lay {ad : Nat → Nat} : ∀ (as : List Value) (n i o : Nat) (v : Value), pm_get (pm_lay as ++ List.replicate n none) i = some v → (i + o, pm_cz ad v) ∈ lv_args o (as.map (pm_cz ad)) ∧ (v.category = 2 → i + o ∈ pm_lgs o (as.map (fun v => v.category))) := by
  intro as
  induction as with
  | nil =>
    intro n i o v h
    simp only [pm_lay, List.nil_append, pm_get_rep] at h
    cases h
  | cons w t ih =>
    intro n i o v h
    by_cases hw : w.category = 2
    · simp only [pm_lay, hw, if_true, List.cons_append] at h
      simp only [List.map_cons, lv_args, pm_cz_cat, hw, if_true, pm_lgs]
      match i with
      | 0 =>
        rw [pm_get_cons0] at h
        cases h
        simp
      | 1 =>
        rw [pm_get_consS, pm_get_cons0] at h
        cases h
      | i + 2 =>
        rw [pm_get_consS, pm_get_consS] at h
        have := ih n i (o + 2) v h
        rw [show i + (o + 2) = i + 2 + o by omega] at this
        exact ⟨List.mem_cons_of_mem _ this.1, fun q => List.mem_cons_of_mem _ (this.2 q)⟩
    · simp only [pm_lay, hw, if_false, List.cons_append] at h
      simp only [List.map_cons, lv_args, pm_cz_cat, hw, if_false, pm_lgs]
      match i with
      | 0 =>
        rw [pm_get_cons0] at h
        cases h
        refine ⟨by simp, fun q => absurd q hw⟩
      | i + 1 =>
        rw [pm_get_consS] at h
        have := ih n i (o + 1) v h
        rw [show i + (o + 1) = i + 1 + o by omega] at this
        exact ⟨List.mem_cons_of_mem _ this.1, fun q => this.2 q⟩
theorem pm_lay_len {ad : Nat → Nat} : ∀ (as : List Value), (lg_sl (as.map (pm_cz ad))).length = (pm_lay as).length := by
  intro as
  induction as with
  | nil => rfl
  | cons w t ih =>
    have e : lg_sl ((w :: t).map (pm_cz ad)) = (if (pm_cz ad w).category = 2 then [.val (pm_cz ad w), .second] else [.val (pm_cz ad w)]) ++ lg_sl (t.map (pm_cz ad)) := rfl
    rw [e, List.length_append, ih, pm_cz_cat]
    simp only [pm_lay]
    split <;> simp <;> omega
def pm_sz : List Nat → Nat
  | [] => 0
  | k :: t => (if k = 2 then 2 else 1) + pm_sz t
theorem pm_lay_sz : ∀ (as : List Value), (pm_lay as).length = pm_sz (as.map (fun v => v.category)) := by
  intro as
  induction as with
  | nil => rfl
  | cons w t ih =>
    simp only [pm_lay, List.map_cons, pm_sz]
    split <;> simp [ih] <;> omega
theorem pm_sz_ok : ∀ m, m < 133 → pm_sz (pm_cat m) ≤ pm_ml m := by decide +kernel
theorem pm_entry {m : Nat} {as : List Value} {ad : Nat → Nat} {mi : MethodId} (hm : m < 133) (hsg : pm_sg m as = true) : ∃ lsC, entryFrame mi (as.map (pm_cz ad)).toArray (pm_ml m) = F0 mi 0 lsC [] ∧ pm_J m (pm_ini (pm_ml m) as) ∧ pm_LV ad lsC (pm_ini (pm_ml m) as) := by
  have hc : as.map (fun v => v.category) = pm_cat m := by simpa [pm_sg] using hsg
  have hle := pm_sz_ok m hm
  rw [← hc, ← pm_lay_sz] at hle
  have hlen : (pm_ini (pm_ml m) as).length = pm_ml m := by
    unfold pm_ini
    rw [List.length_append, List.length_replicate]
    omega
  have he := lv_entry (as.map (pm_cz ad)) (n := pm_ml m) (by rw [pm_lay_len]; exact hle)
  refine ⟨_, lg_entry_eq mi (as.map (pm_cz ad)) (pm_ml m), ⟨hlen, fun i v h1 h2 => ?_⟩, ⟨by rw [hlen]; exact he.1, he.2.1, fun i v h1 => ?_⟩⟩
  · have := (pm_get_lay (ad := ad) as _ i 0 v h1).2 h2
    rw [hc] at this
    exact this
  · exact he.2.2 _ (pm_get_lay (ad := ad) as _ i 0 v h1).1
end
section
/-! THE WALK -/
section PMW
variable {p : Program} {l : Launch} {e : Env} {R : Room} {s : State} {mi : MethodId} {args : Array Value} {below : List Frame} {meth : Method} {c : Code} {d m z L : Nat} {xs : Nat → Int32} {D : va_G} {dA : Nat → ClassId} {ad : Nat → Nat} {M0 : pm_Mem} {r : pm_Res}
theorem pm_leave {T : State} {locs : List Loc} {cells slots : Nat} {v : Option Int32} {pc : Nat} {lsC : Array Slot} (hx : p.tables.exec = Jvm.exec) (hb : c.code = pm_b m) (hlocks : meth.locks = false) (hret : meth.sig.returnType = pm_rt m)
    (hv : match v with | none => pm_rt m = none ∧ decode (pm_b m) pc = .ok (.return_, 1) | some w => ∃ ty, pm_rt m = some ty ∧ fits ty (.int w) = true ∧ decode (pm_b m) pc = .ok (.ireturn, 1))
    (X : Stand p l e R s mi args below meth c T locs cells slots) : ∃ t, Steps p.tables e below (T.setTop (F0 mi pc lsC (v.map Value.int).toList)) t ∧ t.status = .running ∧ Ended t below (.returned (v.map Value.int)) ∧ s.WarmedH t.vm ∧ s.sameButNew ({ t with vm := s.vm } : State) locs cells slots ∧ t.heap = T.heap := by
  cases v with
  | none =>
    obtain ⟨h1, hd⟩ := hv
    rw [h1] at hret
    obtain ⟨fs, hrt, hrun, hended, hW, hframe⟩ := X.leave (v := none) (fun _ => rfl)
    have hmeth' : T.vm.method? mi = some meth := X.method'
    refine ⟨T.setFrames fs, ?_, hrun, hended, hW, hframe, rfl⟩
    show Steps p.tables e below (T.setTop (F0 mi pc lsC [])) _
    jvm_step X.here [X.here.top, hx, hb, hd, hmeth', hret]
    first
      | rw [hrt]
        exact Steps.refl _
      | (have hrt' := hrt; simp_all [Steps.refl])
  | some w =>
    obtain ⟨ty, h1, hf, hd⟩ := hv
    rw [h1] at hret
    have hn := narrow_of_fits hf
    obtain ⟨fs, hrt, hrun, hended, hW, hframe⟩ := X.leave (v := some (.int w)) (fun h => by rw [hret] at h; cases h)
    have hmeth' : T.vm.method? mi = some meth := X.method'
    refine ⟨T.setFrames fs, ?_, hrun, hended, hW, hframe, rfl⟩
    show Steps p.tables e below (T.setTop (F0 mi pc lsC [.int w])) _
    jvm_step X.here [X.here.top, hx, hb, hd, hmeth', hret, hn]
    first
      | rw [hrt]
        exact Steps.refl _
      | (have hrt' := hrt; simp_all [Steps.refl])
end PMW
end
section
theorem pm_kc_eq {M0 : pm_Mem} {r : pm_Res} {cells : Nat} (h1 : M0.1 ≤ r.2.1) (h2 : pm_ct M0 ≤ pm_ct r.2) (h3 : cells + M0.1 + pm_ct M0 = r.2.1 + pm_ct r.2) : pm_kc M0 r = cells := by
  unfold pm_kc
  omega
theorem pm_ks_eq {M0 : pm_Mem} {r : pm_Res} {slots : Nat} (h1 : M0.1 ≤ r.2.1) (h2 : pm_ct M0 ≤ pm_ct r.2) (h3 : slots + pm_sl M0.1 + 6 * pm_ct M0 = pm_sl r.2.1 + 6 * pm_ct r.2) : pm_ks M0 r = slots := by
  unfold pm_ks
  have := pm_sl_mono h1
  omega
theorem pm_dk60 {own len a b pc : Nat} {n : Int32} {i : Instr} (h : pm_dk own 60 len a b n pc i = true) : len = 3 ∧ a < 133 ∧ a ≠ 121 := by
  simp only [pm_dk] at h
  split at h
  · simp only [Bool.and_eq_true, decide_eq_true_eq, beq_iff_eq] at h
    exact ⟨h.1.1.2, h.1.2, h.2⟩
  · simp only [Bool.and_eq_true, decide_eq_true_eq, beq_iff_eq] at h
    exact ⟨h.1.1.2, h.1.2, h.2⟩
  · simp only [Bool.and_eq_true, decide_eq_true_eq, beq_iff_eq] at h
    exact ⟨h.1.1.2, h.1.2, h.2⟩
  · cases h
theorem pm_walk {p : Program} {l : Launch} {e : Env} {R : Room} {s : State} {mi : MethodId} {args : Array Value} {below : List Frame} {meth : Method} {c : Code} {d m z L : Nat} {xs : Nat → Int32} {D : va_G} {dA : Nat → ClassId} {ad : Nat → Nat} {M0 : pm_Mem} {r : pm_Res}
    (hC : ∀ k as M q, k < 133 → k ≠ 121 → pm_sg k as = true → M.1 ≤ pm_n → pm_C d k as M q → pm_K d k as M q) (hfl : l.flags = flags0) (hX : pm_X p s mi args meth c m z L xs D dA ad) (hex : c.exceptionTable.toList.map (fun h => (h.startPc, h.endPc, h.handlerPc, h.catchType)) = pm_hh m)
    (hR : d + 9 ≤ R.frames ∧ 40 * (d + 1) + 300 ≤ R.locals ∧ pm_kc M0 r ≤ R.cells ∧ pm_ks M0 r ≤ R.slots) (hph : M0.1 < pm_n → pm_ct M0 = 0 → s.heap.size = z + M0.1) :
    ∀ n pc ls st M, pm_N (pm_C d) m n pc ls st M r → ∀ lsC H locs cells slots, pm_J m ls → pm_LV ad lsC ls → pm_V s z L xs D dA ad M H locs → (M0.1 ≤ M.1 ∧ pm_ct M0 ≤ pm_ct M ∧ cells + M0.1 + pm_ct M0 = M.1 + pm_ct M ∧ slots + pm_sl M0.1 + 6 * pm_ct M0 = pm_sl M.1 + 6 * pm_ct M) →
      W p l e R s mi args below meth c H locs cells slots (pm_Q below s z L xs D dA ad M0 r) (F0 mi pc lsC (st.map (pm_cz ad))) := by
  have hX0 := hX
  obtain ⟨⟨hx, hb, hml, hown, hlocks, hnm, hret⟩, hK, hF, had, hz⟩ := hX
  intro n
  induction n with
  | zero => intro pc ls st M h; exact h.elim
  | succ n ih =>
    intro pc ls st M h lsC H locs cells slots hJ hL hV hM
    obtain ⟨hM1, hM2, hM3, hM4⟩ := hM
    have hMn : M.1 ≤ pm_n := hV.2.2.1
    have hmn := pm_N_mono (fun k as M q hq => pm_C_mono d k as M q hq) _ _ _ _ _ _ h hMn
    have hkr : pm_sl M0.1 ≤ pm_sl M.1 ∧ pm_sl M.1 ≤ pm_sl r.2.1 := ⟨pm_sl_mono hM1, pm_sl_mono hmn.1.1⟩
    have hsize : lsC.size = c.maxLocals := by rw [hL.1, hJ.1, hml]
    have hctz : M.1 < pm_n → pm_ct M = 0 → s.heap.size + cells = z + M.1 := fun q1 q2 => by
      have := hph (by omega) (by omega)
      omega
    simp only [pm_N, pm_stp] at h
    split at h
    · exact h.elim
    · rename_i op len a b nn hcd
      have hm := pm_cd_lt hcd
      have hend := pm_end hcd
      have hrow := pm_row hcd
      unfold pm_ok1 at hrow
      dsimp only at hrow
      split at h
      · -- a call
        rename_i h60
        subst h60
        rw [if_neg (by decide)] at hrow
        split at hrow
        rotate_left
        · cases hrow
        rename_i i len' hd
        simp only [Bool.and_eq_true, beq_iff_eq] at hrow
        obtain ⟨⟨⟨⟨rfl, hk⟩, -⟩, -⟩, -⟩ := hrow
        obtain ⟨hrc, q, hq, ⟨hb1, hb2, hsg⟩, h5⟩ := h
        obtain ⟨hl3, ha, h121⟩ := pm_dk60 hk
        subst hl3
        have hKq := hC _ _ _ _ ha h121 hsg hMn hq
        have hmq := pm_C_mono d _ _ _ _ hq hMn
        have hrest : pm_mn q.2 r := by
          obtain ⟨v | k, M1⟩ := q
          · exact pm_N_mono (fun k as M q hq => pm_C_mono d k as M q hq) _ _ _ _ _ _ h5 hmq.1.2.1
          · unfold pm_aft at h5
            dsimp only at h5
            split at h5
            · subst h5; exact ⟨⟨Nat.le_refl _, hmq.1.2.1, Nat.le_refl _⟩, hmq.2⟩
            · exact pm_N_mono (fun k as M q hq => pm_C_mono d k as M q hq) _ _ _ _ _ _ h5 hmq.1.2.1
        have hst : st = (st.take b).reverse.reverse ++ st.drop b := by rw [List.reverse_reverse, List.take_append_drop]
        intro T hT X
        subst hT
        have hse := pm_sl_mono hmq.1.1
        have hse2 := pm_sl_mono hrest.1.1
        have hse3 := hmq.1
        have hse4 := hrest.1
        have hRc := hR.2.2.1
        have hRs := hR.2.2.2
        obtain ⟨-, vm₁, mk, hmk, X1, hpre⟩ := pm_prefix (rest := st.drop b) (lsC := lsC) hX0 hd hk hsg hrc X hV
        have hkq : cells + pm_kc M q ≤ R.cells := by
          unfold pm_kc at hRc ⊢
          omega
        have hsq : slots + pm_ks M q ≤ R.slots := by
          unfold pm_ks at hRs ⊢
          omega
        obtain ⟨t, T', Lc, hst1, X', hV', hres⟩ := pm_invoked (g := F0 mi pc lsC ((st.drop b).map (pm_cz ad))) hKq ha h121 hX0 hfl X1 hV (fun q1 q2 => pm_szeq had hz hV q1 (hctz q1 q2) X.heapSize) rfl hsize (by rw [hb]; exact hd) (by
          show 2 * 0 + _ ≤ 8
          have : ∀ (l : List Value), (l.map (fun v => v.category)).sum ≤ 2 * l.length := by
            intro l
            induction l with
            | nil => simp
            | cons w t ih =>
              have hw : w.category ≤ 2 := by cases w <;> simp [Value.category]
              simp only [List.map_cons, List.sum_cons, List.length_cons]
              omega
          have := this ((st.drop b).map (pm_cz ad))
          rw [List.length_map, List.length_drop] at this
          show 2 * 0 + (((st.drop b).map (pm_cz ad)).map (fun v => v.category)).sum ≤ 8
          omega) hmk ⟨hR.1, hR.2.1, hkq, hsq⟩
        have hgo : Steps p.tables e below (T.setTop (F0 mi pc lsC (st.map (pm_cz ad)))) t := by
          rw [hst]
          refine hpre t (fun acts => ?_)
          exact hst1 acts
        have hM' : M0.1 ≤ q.2.1 ∧ pm_ct M0 ≤ pm_ct q.2 ∧ (cells + pm_kc M q) + M0.1 + pm_ct M0 = q.2.1 + pm_ct q.2 ∧ (slots + pm_ks M q) + pm_sl M0.1 + 6 * pm_ct M0 = pm_sl q.2.1 + 6 * pm_ct q.2 := by
          refine ⟨by omega, by omega, ?_, ?_⟩
          · unfold pm_kc; omega
          · unfold pm_ks; omega
        obtain ⟨v | k, M1⟩ := q
        · have hres : t = _ := hres
          obtain ⟨t2, ht2, hQ⟩ := ih _ _ _ _ h5 lsC T'.heap _ _ _ hJ hL hV' hM' T' rfl X'
          refine ⟨t2, hgo.trans ?_, hQ⟩
          rw [hres]
          have e8 : (v.toList ++ st.drop b).map (pm_cz ad) = (v.map (pm_cz ad)).toList ++ (st.drop b).map (pm_cz ad) := by cases v <;> simp
          rw [e8] at ht2
          exact ht2
        · obtain ⟨x, cell, ht, hc1, hc2, hc3⟩ := hres
          have har := pm_arrives (pc := pc) (st := (st.drop b).map (pm_cz ad)) hm hX0 hex (hmq.2 k rfl) X' hc1 hc2 hc3 hJ hL
          unfold pm_aft at h5
          dsimp only at h5
          cases hh : pm_hd m pc k with
          | none =>
            rw [hh] at har h5
            dsimp only at har h5
            subst h5
            obtain ⟨U, hU, hU1, hU2, hU3, hU4, hU5⟩ := har
            refine ⟨U, hgo.trans (by rw [ht]; exact hU), .threw x, locs ++ Lc, hU1, hU2, hU3, ?_, ?_, ?_⟩
            · rw [pm_kc_eq (M0 := M0) hM'.1 hM'.2.1 hM'.2.2.1, pm_ks_eq (M0 := M0) hM'.1 hM'.2.1 hM'.2.2.2]
              exact hU4
            · rw [hU5]; exact hV'
            · exact ⟨x, cell, rfl, by rw [hU5]; exact hc1, hc2, hc3⟩
          | some hq2 =>
            rw [hh] at har h5
            dsimp only at har h5
            obtain ⟨hJ', hgo2⟩ := har
            obtain ⟨t2, ht2, hQ⟩ := hgo2 (pm_Q below s z L xs D dA ad M0 r) (fun lsC' hL' => ih _ _ _ _ h5 lsC' T'.heap _ _ _ hJ' hL' hV' hM')
            exact ⟨t2, hgo.trans (by rw [ht]; exact ht2), hQ⟩
      · rename_i h60
        split at h
        · -- return
          rename_i h63
          subst h63
          rw [if_neg (by decide)] at hrow
          split at hrow
          rotate_left
          · cases hrow
          rename_i i len' hd
          simp only [Bool.and_eq_true, beq_iff_eq] at hrow
          obtain ⟨⟨⟨⟨rfl, hk⟩, -⟩, -⟩, -⟩ := hrow
          simp only [pm_dk, Bool.and_eq_true, decide_eq_true_eq, beq_iff_eq] at hk
          obtain ⟨rfl, rfl⟩ := hk
          obtain ⟨rfl, rfl⟩ := h
          intro T hT X
          subst hT
          obtain ⟨t, h1, h2, h3, h4, h5, h6⟩ := pm_leave (v := none) (pc := pc) (lsC := lsC) hx hb hlocks hret ⟨hend.2.1 rfl, hd⟩ X
          refine ⟨t, h1, _, locs, h2, h3, h4, ?_, by rw [h6]; exact hV, rfl⟩
          rw [pm_kc_eq (M0 := M0) hM1 hM2 hM3, pm_ks_eq (M0 := M0) hM1 hM2 hM4]
          exact h5
        · rename_i h63
          split at h
          · rename_i h64
            subst h64
            rw [if_neg (by decide)] at hrow
            split at hrow
            rotate_left
            · cases hrow
            rename_i i len' hd
            simp only [Bool.and_eq_true, beq_iff_eq] at hrow
            obtain ⟨⟨⟨⟨rfl, hk⟩, -⟩, -⟩, -⟩ := hrow
            simp only [pm_dk, Bool.and_eq_true, decide_eq_true_eq, beq_iff_eq] at hk
            obtain ⟨rfl, rfl⟩ := hk
            obtain ⟨w, rfl, hfit, rfl⟩ := h
            intro T hT X
            subst hT
            obtain ⟨t, h1, h2, h3, h4, h5, h6⟩ := pm_leave (v := some w) (pc := pc) (lsC := lsC) hx hb hlocks hret ⟨_, hend.1 rfl, hfit, hd⟩ X
            refine ⟨t, h1, _, locs, h2, h3, h4, ?_, by rw [h6]; exact hV, rfl⟩
            rw [pm_kc_eq (M0 := M0) hM1 hM2 hM3, pm_ks_eq (M0 := M0) hM1 hM2 hM4]
            exact h5
          · rename_i h64
            split at h
            · -- a throw
              rename_i h67
              rw [if_pos h67] at hrow
              obtain ⟨rfl, rfl⟩ := h
              obtain ⟨ha4, hhh⟩ := hend.2.2 h67
              have hex0 : c.exceptionTable.toList = [] := by
                rw [hhh] at hex
                exact List.map_eq_nil_iff.mp hex
              intro T hT X
              subst hT
              have hct : pm_ct (pm_tk M) = pm_ct M + 1 := pm_ct_tk
              have hn1 : (pm_tk M).1 = M.1 := rfl
              have hk1 : pm_kc M0 (.inr a, pm_tk M) = cells + 1 := pm_kc_eq (by rw [hn1]; exact hM1) (by show _ ≤ pm_ct (pm_tk M); omega) (by show _ = (pm_tk M).1 + pm_ct (pm_tk M); omega)
              have hk2 : pm_ks M0 (.inr a, pm_tk M) = slots + 6 := pm_ks_eq (by rw [hn1]; exact hM1) (by show _ ≤ pm_ct (pm_tk M); omega) (by show _ = pm_sl (pm_tk M).1 + 6 * pm_ct (pm_tk M); rw [hn1]; omega)
              rw [hk1, hk2] at hR
              obtain ⟨t, h1, x, cell, h2, h3, h4, h5, h6, h7, h8, h9⟩ := pm_thrown hX0 hfl hrow hex0 ha4 X hV hsize ⟨by omega, by omega, hR.2.2.1, hR.2.2.2⟩
              refine ⟨t, h1, .threw x, locs, h2, h3, h4, ?_, h6, ⟨x, cell, rfl, h7, h8, h9⟩⟩
              rw [hk1, hk2]
              exact h5
            · -- a plain one
              rename_i h67
              rw [if_neg h67] at hrow
              split at hrow
              rotate_left
              · cases hrow
              rename_i i len' hd
              simp only [Bool.and_eq_true, beq_iff_eq] at hrow
              obtain ⟨⟨⟨⟨rfl, hk⟩, hs1⟩, -⟩, hs3⟩ := hrow
              split at h
              · exact h.elim
              · rename_i g s1 hn
                obtain ⟨hg, h⟩ := h
                obtain ⟨pc', ls', st', M'⟩ := s1
                have h7 := pm_next_mono hn hg hMn
                have h6 := pm_N_mono (fun k as M q hq => pm_C_mono d k as M q hq) _ _ _ _ _ _ h h7.1.2
                have hse := pm_sl_mono h7.1.1
                have hse2 := pm_sl_mono h6.1.1
                have hse3 := h7.1
                have hse4 := h6.1
                have hse5 := h7.2
                have hRc := hR.2.2.1
                have hRs := hR.2.2.2
                refine pm_snd op p l e R s mi args below meth c _ m z L xs D dA ad pc len' a b nn ls ls' st st' M M' g pc' i lsC H locs cells slots hX0 hd hk ?_ ?_ hn hg hJ hL hV hctz ?_ ?_
                · intro h8 j hj hmem
                  have h9 : (op == 5 || op == 6 || op == 8) = true := by
                    rcases h8 with rfl | rfl | rfl <;> rfl
                  rw [h9] at hs1
                  simp only [Bool.not_true, Bool.false_or, Bool.or_eq_true, beq_iff_eq, Bool.not_eq_true'] at hs1
                  rcases hs1 with e1 | e1
                  · omega
                  · rw [show a - 1 = j by omega] at e1
                    simp [hmem] at e1
                · intro h8
                  subst h8
                  simpa using hs3
                · refine ⟨?_, ?_, by omega, by omega⟩
                  · dsimp only at hse3 hse4 hse5; unfold pm_kc at hRc; omega
                  · dsimp only at hse hse2 hse3 hse4 hse5; unfold pm_ks at hRs; omega
                · intro lsC' H' locs' cells' slots' hJ' hL' hV' e1 e2
                  dsimp only at h
                  exact ih _ _ _ _ h lsC' H' locs' cells' slots' hJ' hL' hV' ⟨by omega, by omega, by omega, by omega⟩
/-- THE SOUNDNESS of the pure machine -/
theorem pm_sound : ∀ d k as M q, k < 133 → k ≠ 121 → pm_sg k as = true → M.1 ≤ pm_n → pm_C d k as M q → pm_K d k as M q := by
  intro d
  induction d with
  | zero => intro k as M q _ _ _ _ h; exact h.elim
  | succ d ih =>
    intro k as M q hk h121 hsg hM h
    have hmn := pm_C_mono _ _ _ _ _ h hM
    refine ⟨⟨hmn.1.1, hmn.1.2.2⟩, ?_⟩
    intro p l e R s mi args below meth c z L xs D dA ad hfl hX hex hargs hV hph hR
    subst hargs
    obtain ⟨n, h⟩ := h
    obtain ⟨lsC, he, hJ, hL⟩ := pm_entry (ad := ad) (mi := mi) hk hsg
    rw [he]
    exact pm_walk ih hfl hX hex ⟨by omega, by omega, hR.2.2.1, hR.2.2.2⟩ hph n 0 _ [] M h lsC s.heap [] 0 0 hJ hL hV ⟨Nat.le_refl _, Nat.le_refl _, by omega, by omega⟩
end
section
/-! WHAT HOLDS AT THE LAW'S START -/
def pm_nw : List Cond := flatC (Jvm.Cond.and given_1 narrow_1)
theorem pm_Wd_of {args : Array Value} {s : State} (h : ∀ w ∈ lw_tbl, w.before args s = true) : pm_Wd s := by
  intro a w hw
  have hb := h w (List.mem_filter.mp hw).1
  have hg := (List.mem_filter.mp hw).2
  have hW := State.WarmedH.refl s
  unfold pm_gw at hg
  rw [Bool.or_eq_true] at hg
  rcases hg with hg | hg
  · exact word_at hW (good_of_word hg) hb
  · split at hg
    · exact va_Nw.use rfl (va_Nw.warmF hW (va_Nw.of rfl hb))
    · exact va_Nw.use rfl (va_Nw.warmM hW (va_Nw.of rfl hb))
    · rw [Bool.and_eq_true] at hg
      exact va_tabs hg.1 (rfl : (s.setVm s.vm).vm = s.vm) (Cond.before_shiftedFace (State.Shifted.of_warmed hW) w hg.2 hb)
def pm_sen (x : Nat) : Nat := if x = 10000 then 93 else if x = 10010 then 121 else 107
def pm_stm (x : Nat) : Term := .string "CardWorkshop$Reader" (pm_sen x)
def pm_vtm (x : Nat) : Term := .field (pm_stm x) "java/lang/String" "value" "[B"
def pm_sts : List Nat := [10000, 10010, 10020]
theorem pm_sts_w : ∀ x ∈ pm_sts, (Cond.stringRef "CardWorkshop$Reader" (pm_sen x) (pm_txt x)) ∈ lw_tbl := by decide +kernel
theorem pm_sts_1 : ∀ x ∈ pm_sts, (Cond.exactly (pm_stm x) "java/lang/String") ∈ pm_nw := by decide +kernel
theorem pm_sts_2 : ∀ x ∈ pm_sts, (Cond.eq (.field (pm_stm x) "java/lang/String" "coder" "B") (.int 0)) ∈ pm_nw := by decide +kernel
theorem pm_sts_3 : ∀ x ∈ pm_sts, (Cond.arrayOf (pm_vtm x) .byte) ∈ pm_nw := by decide +kernel
theorem pm_sts_4 : ∀ x ∈ pm_sts, (Cond.eq (.length (pm_vtm x)) (.int (Int32.ofNat (pm_tabn (x + 1))))) ∈ pm_nw := by decide +kernel
theorem pm_sts_5 : ∀ x ∈ pm_sts, ∀ j, j < pm_tabn (x + 1) → (Cond.eq (.elem (pm_vtm x) (.int (Int32.ofNat j))) (.int (pm_tab (x + 1) j))) ∈ pm_nw := by decide +kernel
theorem pm_sts_6 : ∀ x ∈ pm_sts, pm_tabn (x + 1) < 2 ^ 31 := by decide +kernel
theorem pm_sts_7 : ∀ x ∈ pm_sts, ∀ q ∈ pm_sk, q.2.1 = x → q.1 = (2, pm_sen x) := by decide +kernel
theorem pm_FSof {args : Array Value} {s : State} {x : Nat} (hx : x ∈ pm_sts) (hts : ∀ w ∈ lw_tbl, w.before args s = true) (hnw : ∀ w ∈ pm_nw, w.before args s = true) : ∃ a t : Nat, ∀ ad : Nat → Nat, ad x = a → ad (x + 1) = t → pm_FS s.heap.size ad x s := by
  have hA : ∀ a : Nat, a < s.heap.size → ¬ s.heap.size ≤ a := fun a h => by omega
  obtain ⟨a, c, cA, kA, q1, q2, q3, q4, q5, q6, -⟩ := Cond.exactly_spec (args := args) (first := s) (o := none) (s := s) (idx := []) (hnw _ (pm_sts_1 x hx))
  obtain ⟨t, ht, hT⟩ := va_Tof (f := fun j => .int (pm_tab (x + 1) j)) (A := fun q => s.heap.size ≤ q) (pm_sts_6 x hx) (hnw _ (pm_sts_3 x hx)) (va_eqt (hnw _ (pm_sts_4 x hx))) (fun j hj => va_eqt (hnw _ (pm_sts_5 x hx j hj))) hA
  refine ⟨a, t, fun ad h1 h2 => ?_⟩
  unfold pm_FS
  rw [h1, h2]
  refine ⟨fun q hq hqx => ?_, ⟨cA, q3, q5, by rw [q6]; exact q2, hA a (Array.getElem?_eq_some_iff.mp q3).1⟩, vk_OFof q1 ht hA, vk_OFof q1 (va_eqt (hnw _ (pm_sts_2 x hx))) hA, hT⟩
  have e := pm_sts_7 x hx q hq hqx
  rw [e]
  exact vk_R.of (hts _ (pm_sts_w x hx)) q1
def pm_sar (x : Nat) : String := if x = 10030 then "OPERATOR_LEVELS" else "OPERATOR_CODES"
def pm_atm (x : Nat) : Term := .static "CardWorkshop$Reader" (pm_sar x) "[I"
def pm_sas : List Nat := [10030, 10040]
theorem pm_sas_w : ∀ x ∈ pm_sas, (Cond.laysStatic "CardWorkshop$Reader" (pm_sar x) "[I") ∈ lw_tbl ∧ (Cond.initialized "CardWorkshop$Reader") ∈ lw_tbl := by decide +kernel
theorem pm_sas_3 : ∀ x ∈ pm_sas, (Cond.arrayOf (pm_atm x) .int) ∈ pm_nw := by decide +kernel
theorem pm_sas_4 : ∀ x ∈ pm_sas, (Cond.eq (.length (pm_atm x)) (.int (Int32.ofNat (pm_tabn x)))) ∈ pm_nw := by decide +kernel
theorem pm_sas_5 : ∀ x ∈ pm_sas, ∀ j, j < pm_tabn x → (Cond.eq (.elem (pm_atm x) (.int (Int32.ofNat j))) (.int (pm_tab x j))) ∈ pm_nw := by decide +kernel
theorem pm_sas_6 : ∀ x ∈ pm_sas, pm_tabn x < 2 ^ 31 := by decide +kernel
theorem pm_FTof {args : Array Value} {s : State} {x : Nat} (hx : x ∈ pm_sas) (hts : ∀ w ∈ lw_tbl, w.before args s = true) (hnw : ∀ w ∈ pm_nw, w.before args s = true) : ∃ t : Nat, ∀ ad : Nat → Nat, ad x = t → pm_FT s.heap.size ad x (pm_sar x) s := by
  have hA : ∀ a : Nat, a < s.heap.size → ¬ s.heap.size ≤ a := fun a h => by omega
  obtain ⟨t, ht, hT⟩ := va_Tof (f := fun j => .int (pm_tab x j)) (A := fun q => s.heap.size ≤ q) (pm_sas_6 x hx) (hnw _ (pm_sas_3 x hx)) (va_eqt (hnw _ (pm_sas_4 x hx))) (fun j hj => va_eqt (hnw _ (pm_sas_5 x hx j hj))) hA
  refine ⟨t, fun ad h1 => ?_⟩
  unfold pm_FT
  rw [h1]
  exact ⟨va_Zref (hts _ (pm_sas_w x hx).1) (hts _ (pm_sas_w x hx).2) ht hA, hT⟩
theorem pm_LSof {args : Array Value} {s : State} {n d : String} (hl : (Cond.laysStatic "java/lang/Throwable" n d).before args s = true) (hr : (Cond.isRef (.static "java/lang/Throwable" n d)).before args s = true) : pm_LS s.heap.size n d s := by
  obtain ⟨c, k, i, f, a, cell, h1, h2, h3, h4, h5, h6, h7, h8, h9⟩ := Cond.laysStatic_spec hl
  obtain ⟨v, hv, hvr⟩ := Cond.isRef_spec hr
  have h10 : cell.slots[f.slot]? = some cell.slots[f.slot] := Array.getElem?_eq_getElem h8
  have hv2 : (Term.static "java/lang/Throwable" n d).eval args s none [] s = some cell.slots[f.slot] := Term.static_eval h2 h3 h4 h5 h6 h10
  cases hv.symm.trans hv2
  refine ⟨c, k, i, f, a, cell, _, h1, h2, h3, h4, h5, h6, h7, h8, h9, h10, ?_, (Array.getElem?_eq_some_iff.mp h5).1⟩
  cases hc : cell.slots[f.slot] <;> rw [hc] at hvr <;> first | exact Or.inl rfl | exact Or.inr ⟨_, rfl⟩ | cases hvr
def pm_mtx : List ((Nat × Nat) × String) := [((2, 127), "a character is missing"), ((2, 125), "a digit is missing or too great"), ((2, 123), "no zone where one is due"), ((2, 119), "no unit where one is due"), ((2, 71), "there is more behind the game"), ((5, 82), "the code would be too long"), ((5, 96), "no such instruction"), ((5, 107), "there is no game"), ((5, 112), "n is below 0"), ((5, 150), "no such move"), ((5, 152), "too many moves were made"), ((5, 171), "no such counter"), ((5, 185), "nothing was dealt"), ((5, 187), "the budget is not 1 .. 2000"), ((3, 50), "too many positions, or one too deep")]
def pm_mt (q : Nat × Nat) : String := (pm_mtx.lookup q).getD ""
theorem pm_msg_w : ∀ q ∈ pm_msg, (Cond.stringRef (pm_onm q.1) q.2 (pm_mt q)) ∈ lw_tbl ∧ (Cond.exactly (.string (pm_onm q.1) q.2) "java/lang/String") ∈ pm_nw := by decide +kernel
theorem pm_nc_w : ∀ j, j < 4 → ∀ k, k < 4 → j ≠ k → (Cond.not (.castable (pm_ex j) (pm_ex k))) ∈ pm_nw := by decide +kernel
theorem pm_oth_w : (Cond.laysStatic "java/lang/String" "COMPACT_STRINGS" "Z") ∈ lw_tbl ∧ (Cond.initialized "java/lang/String") ∈ lw_tbl ∧ (Cond.eq (.static "java/lang/String" "COMPACT_STRINGS" "Z") (.int 1)) ∈ pm_nw ∧ (Cond.arrayOver (.object "CardWorkshop$Table")) ∈ lw_tbl ∧ (Cond.arrayOver (.array .int)) ∈ lw_tbl ∧
  (Cond.laysStatic "java/lang/Throwable" "UNASSIGNED_STACK" "[Ljava/lang/StackTraceElement;") ∈ lw_tbl ∧ (Cond.laysStatic "java/lang/Throwable" "SUPPRESSED_SENTINEL" "Ljava/util/List;") ∈ lw_tbl ∧ (Cond.isRef (.static "java/lang/Throwable" "UNASSIGNED_STACK" "[Ljava/lang/StackTraceElement;")) ∈ pm_nw ∧ (Cond.isRef (.static "java/lang/Throwable" "SUPPRESSED_SENTINEL" "Ljava/util/List;")) ∈ pm_nw := by decide +kernel
theorem pm_ac_w : (Cond.arrayClass .int) ∈ lw_tbl ∧ (Cond.arrayClass .char) ∈ lw_tbl ∧ (Cond.arrayClass .boolean) ∈ lw_tbl ∧ (Cond.arrayClass .long) ∈ lw_tbl := by decide +kernel
theorem pm_startF {s : State} {b L : Nat} {xs : Nat → Int32} (hts : ∀ w ∈ lw_tbl, w.before #[Value.ref b] s = true) (hX : va_X b L xs s s.heap) (hb : b < s.heap.size) (hgv : (Jvm.Cond.and given_1 narrow_1).before #[Value.ref b] s = true) :
    ∃ ad : Nat → Nat, pm_ad s.heap.size ad ∧ ad 20000 = b ∧ pm_F s.heap.size ad L xs s := by
  have hnw : ∀ w ∈ pm_nw, w.before #[Value.ref b] s = true := flat_of_before _ hgv
  have hA : ∀ a : Nat, a < s.heap.size → ¬ s.heap.size ≤ a := fun a h => by omega
  obtain ⟨a0, t0, h0⟩ := pm_FSof (x := 10000) (by decide) hts hnw
  obtain ⟨a1, t1, h1⟩ := pm_FSof (x := 10010) (by decide) hts hnw
  obtain ⟨a2, t2, h2⟩ := pm_FSof (x := 10020) (by decide) hts hnw
  obtain ⟨t3, h3⟩ := pm_FTof (x := 10030) (by decide) hts hnw
  obtain ⟨t4, h4⟩ := pm_FTof (x := 10040) (by decide) hts hnw
  refine ⟨fun x => if x < 560 then s.heap.size + x else if x = 10000 then a0 else if x = 10001 then t0 else if x = 10010 then a1 else if x = 10011 then t1 else if x = 10020 then a2 else if x = 10021 then t2 else if x = 10030 then t3 else if x = 10040 then t4 else b, fun a ha => if_pos ha, rfl, ?_⟩
  obtain ⟨w1, w2, w3, w4, w5, w6, w7, w8, w9⟩ := pm_oth_w
  refine ⟨pm_Wd_of hts, ⟨h0 _ rfl rfl, h1 _ rfl rfl, h2 _ rfl rfl⟩, ⟨h3 _ rfl, h4 _ rfl⟩, va_Zof (hts _ w1) (hts _ w2) (va_eqt (hnw _ w3)) hA, ⟨hX, hb⟩, ⟨va_AO.of (hts _ w4), hts _ w5⟩, ⟨pm_LSof (hts _ w6) (hnw _ w8), pm_LSof (hts _ w7) (hnw _ w9)⟩, fun j k hj hk hjk => va_Nc.of (hnw _ (pm_nc_w j hj k hk hjk)), fun q hq => ?_⟩
  obtain ⟨g1, g2⟩ := pm_msg_w q hq
  obtain ⟨a, c, cA, kA, q1, -⟩ := Cond.exactly_spec (args := #[Value.ref b]) (first := s) (o := none) (s := s) (idx := []) (hnw _ g2)
  exact ⟨_, a, vk_R.of (hts _ g1) q1⟩
theorem pm_startK {args : Array Value} {s : State} (hts : ∀ w ∈ lw_tbl, w.before args s = true) : ∃ (D : va_G) (dA : Nat → ClassId), va_K D pm_vw (pm_tys dA) s := by
  have hk : ∀ c : Nat, ∃ q : ClassId × (Nat → Nat), c < 7 → u_Kn s (pm_cnm c) (pm_T c) (pm_nf c) q.1 q.2 := by
    intro c
    by_cases hc : c < 7
    · obtain ⟨cC, iS, h⟩ := u_known (n := pm_nf c) hts (pm_in0 hc) (hts _ (lw_of _ (pm_inl_ok c hc).1))
      exact ⟨(cC, iS), fun _ => h⟩
    · exact ⟨(0, fun _ => 0), fun h => absurd h hc⟩
  obtain ⟨g, hg⟩ := Classical.axiomOfChoice hk
  have hprim : ∀ ty : FieldType, (Cond.arrayClass ty) ∈ lw_tbl → ∃ cA, ArrOfT s cA ty ∧ s.vm.findClass ("[" ++ ty.toString) = some cA := by
    intro ty hty
    obtain ⟨cA, kA, comp, h1, h2, h3⟩ := Cond.arrayClass_spec (hts _ hty)
    exact ⟨cA, fun n z => ⟨fun k h => (by cases h), kA, h2, comp, h3⟩, h1⟩
  obtain ⟨c0, i0, j0⟩ := hprim _ pm_ac_w.1
  obtain ⟨c1, i1, j1⟩ := hprim _ pm_ac_w.2.1
  obtain ⟨c2, i2, j2⟩ := hprim _ pm_ac_w.2.2.1
  obtain ⟨c3, i3, j3⟩ := hprim _ pm_ac_w.2.2.2
  obtain ⟨comp4, c4, k4, r1, r2, r3, r4, r5⟩ := Cond.arrayOver_spec (hts _ pm_oth_w.2.2.2.1)
  obtain ⟨comp5, c5, k5, v1, v2, v3, v4⟩ := Cond.arrayOver_specA (hts _ pm_oth_w.2.2.2.2.1)
  refine ⟨(fun c => (g c).1, fun c => (g c).2), fun k => [c0, c1, c2, c3, c4, c5].getD k 0, ⟨fun c q hq => ?_, fun k q hq => ?_⟩⟩
  · have hc : c < 7 := (List.getElem?_eq_some_iff.mp hq).1
    rw [pm_vw_at hc] at hq
    cases hq
    exact hg c hc
  · have hk6 : k < 6 := (List.getElem?_eq_some_iff.mp hq).1
    rcases (show k = 0 ∨ k = 1 ∨ k = 2 ∨ k = 3 ∨ k = 4 ∨ k = 5 by omega) with rfl | rfl | rfl | rfl | rfl | rfl
    · cases hq; exact ⟨i0, j0⟩
    · cases hq; exact ⟨i1, j1⟩
    · cases hq; exact ⟨i2, j2⟩
    · cases hq; exact ⟨i3, j3⟩
    · cases hq; exact ⟨fun n z => ⟨fun k h => (by cases h), k4, r3, comp4, r4⟩, ⟨k4, comp4, r3, r4, r1, r5⟩⟩
    · cases hq; exact ⟨fun n z => ⟨fun k h => (by cases h), k5, v2, comp5, v3⟩, v4⟩
end
section
/-! THE LAW, out of a run of the pure machine -/
def pm_M0 (L : Nat) (xs : Nat → Int32) : pm_Mem := (0, fun x j => if x = 20000 then xs j else if x = 20001 then nI L else 0, fun _ _ => none, fun _ _ => 0)
theorem pm_sl560 : pm_sl 560 ≤ 1000000 := by decide +kernel
theorem pm_law121 : pm_b 121 = code ∧ pm_ml 121 = 7 ∧ pm_rt 121 = ret ∧ pm_y 121 = x ∧ pm_onm (pm_ow 121) = "CardWorkshopLaw" ∧ pm_hh 121 = [] := by
  refine ⟨rfl, by decide +kernel, by decide +kernel, by decide +kernel, by decide +kernel, by decide +kernel⟩
theorem pm_same_drop {s t : State} {locs : List Loc} {c n c' n' : Nat} (h : s.sameButNew t locs c n) (hl : ∀ q ∈ locs, s.heap.size ≤ q.base) (hc : c ≤ c') (hn : n ≤ n') : s.sameButNew t [] c' n' := by
  obtain ⟨h1, h2, h3, h4, h5, h6⟩ := h
  refine ⟨h1, h2, by omega, h4, by omega, fun a cl ha => ?_⟩
  obtain ⟨c1, g1, g2, g3, g4⟩ := h6 a cl ha
  refine ⟨c1, g1, g2, g3, fun i _ => g4 i (fun hm => ?_)⟩
  have := hl _ hm
  have h7 := (Array.getElem?_eq_some_iff.mp ha).1
  simp only at this
  omega
theorem pm_startW {p : Program} {e : Env} {s : State} {m : MethodId} {below : List Frame} {meth : Method} {c : Code} {l : Launch} {b L : Nat} {xs : Nat → Int32} (hL : L ≤ 2048) (hfl : l.flags = flags0) (hn : s.methodNamed? x = some m) (hcw : (Jvm.Cond.code x code maxLocals ret).before #[Value.ref b] s = true)
    (hx : p.tables.exec = Jvm.exec) (hb : c.code = code) (hr : meth.sig.returnType = ret) (hml : c.maxLocals = 7) (hown : s.vm.findClass "CardWorkshopLaw" = some m.cls) (hts : ∀ w ∈ lw_tbl, w.before #[Value.ref b] s = true) (hX : va_X b L xs s s.heap) (hbl : b < s.heap.size) (hlocks : meth.locks = false) (hgv : (Jvm.Cond.and given_1 narrow_1).before #[Value.ref b] s = true)
    {d : Nat} {M' : pm_Mem} (hd : d ≤ 2000) (hp : pm_C (d + 1) 121 [.ref 20000] (pm_M0 L xs) (.inl (some (.int 1)), M')) (hct : pm_ct M' ≤ 10000) :
    W p l e room_1 s m #[Value.ref b] below meth c s.heap [] 0 0 (fun t => ∃ o, t.status = .running ∧ Ended t below o ∧ o = .returned (some (.int 1)) ∧ s.WarmedH t.vm ∧ s.sameButNew ({ t with vm := s.vm } : State) [] 601024 7293034) (entryFrame m ([Value.ref b] : List Value).toArray 7) := by
  intro T hT X

  have hex : c.exceptionTable.toList.map (fun h => (h.startPc, h.endPc, h.handlerPc, h.catchType)) = pm_hh 121 := by
    obtain ⟨meth', c', h1, h2, -, -, -, -, h7, -⟩ := Cond.code_spec hn hcw
    have e1 := h1.symm.trans X.method
    cases e1
    have e2 := h2.symm.trans X.code
    cases e2
    have e : c.exceptionTable = #[] := by simpa using h7
    rw [e, pm_law121.2.2.2.2.2]
    rfl
  have hnm : meth.name = (pm_y 121).name := by
    rw [pm_law121.2.2.2.1]
    exact (name_of_methodNamed hn X.method).1
  obtain ⟨ad, had, hadb, hF⟩ := pm_startF hts hX hbl hgv
  obtain ⟨D, dA, hK⟩ := pm_startK hts
  have hPX : pm_X p s m #[Value.ref b] meth c 121 s.heap.size L xs D dA ad := ⟨⟨hx, hb.trans pm_law121.1.symm, hml.trans pm_law121.2.1.symm, by rw [pm_law121.2.2.2.2.1]; exact hown, hlocks, hnm, hr.trans pm_law121.2.2.1.symm⟩, hK, hF, had, Nat.le_refl _⟩
  have hmn := pm_C_mono _ _ _ _ _ hp (Nat.zero_le _)
  have h560 : M'.1 ≤ 560 := hmn.1.2.1
  have hsl := Nat.le_trans (pm_sl_mono h560) pm_sl560
  obtain ⟨n, hp⟩ := hp
  obtain ⟨lsC, he, hJ, hLV⟩ := pm_entry (m := 121) (as := [.ref 20000]) (ad := ad) (mi := m) (by decide) (by decide +kernel)
  have hct0 : pm_ct (pm_M0 L xs) = 0 := rfl
  have hm0 : (pm_M0 L xs).1 = 0 := rfl
  have hsl0 : pm_sl (pm_M0 L xs).1 = 0 := rfl
  have hV : pm_V s s.heap.size L xs D dA ad (pm_M0 L xs) s.heap [] := by
    refine ⟨fun k q hk => ?_, va_S.rf, Nat.zero_le _, fun j hj => rfl, rfl, hL⟩
    cases hk
  have hw := pm_walk (p := p) (l := l) (e := e) (R := room_1) (below := below) (d := d) (M0 := pm_M0 L xs) (pm_sound d) hfl hPX hex ⟨by show d + 9 ≤ 2048; omega, by show _ ≤ 84000; omega, by show pm_kc _ _ ≤ 601024; unfold pm_kc; show M'.1 - 0 + (pm_ct M' - 0) ≤ _; omega, by show pm_ks _ _ ≤ 7293034; unfold pm_ks; show pm_sl M'.1 - 0 + 6 * (pm_ct M' - 0) ≤ _; omega⟩ (fun _ _ => rfl) n 0 _ [] (pm_M0 L xs) hp lsC s.heap [] 0 0 hJ hLV hV ⟨Nat.le_refl _, Nat.le_refl _, rfl, rfl⟩
  have e1 : entryFrame m ([Value.ref b] : List Value).toArray 7 = F0 m 0 lsC [] := by
    rw [← hadb, ← he, pm_law121.2.1]
    rfl
  rw [e1]
  obtain ⟨t, ht, o, Lc, h1, h2, h3, h4, h5, h6⟩ := hw T hT X
  refine ⟨t, ht, o, h1, h2, h6, h3, pm_same_drop h4 (fun q hq => h5.2.1.2.2 q hq) ?_ ?_⟩
  · unfold pm_kc; show M'.1 - 0 + (pm_ct M' - 0) ≤ _; omega
  · unfold pm_ks; show pm_sl M'.1 - 0 + 6 * (pm_ct M' - 0) ≤ _; omega
end
