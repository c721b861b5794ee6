section
-- ===== PART A: goes FIRST, ahead of the names: the tables' words, and 'selects' of the private methods out of them =====
/-- a private method of a class that the tables say can be made, by its rows of tables_1 -/
def lw_okq (q : MethodName × Nat) : Prop := (q.1.cls ≠ "java/lang/invoke/MethodHandle" ∧ q.1.cls ≠ "java/lang/invoke/VarHandle") ∧ Cond.instantiable q.1.cls q.2 ∈ tables_1 ∧ Cond.privateMethod q.1 ∈ tables_1 ∧ Cond.instanceMethod q.1 ∈ tables_1
theorem lw_p0 : lw_okq (⟨"ShaftLoom$Crossings", "stretch", "(II)V"⟩, 3) := ⟨⟨by decide +kernel, by decide +kernel⟩, List.mem_of_getElem? (i := 40) (by decide +kernel), List.mem_of_getElem? (i := 78) (by decide +kernel), List.mem_of_getElem? (i := 79) (by decide +kernel)⟩
theorem lw_p1 : lw_okq (⟨"java/lang/Throwable", "fillInStackTrace", "(I)Ljava/lang/Throwable;"⟩, 6) := ⟨⟨by decide +kernel, by decide +kernel⟩, List.mem_of_getElem? (i := 166) (by decide +kernel), List.mem_of_getElem? (i := 164) (by decide +kernel), List.mem_of_getElem? (i := 165) (by decide +kernel)⟩
theorem lw_p2 : lw_okq (⟨"ShaftLoom", "requireRoom", "(ZJ)V"⟩, 10) := ⟨⟨by decide +kernel, by decide +kernel⟩, List.mem_of_getElem? (i := 16) (by decide +kernel), List.mem_of_getElem? (i := 199) (by decide +kernel), List.mem_of_getElem? (i := 200) (by decide +kernel)⟩
theorem lw_p3 : lw_okq (⟨"ShaftLoom", "rowOf", "(Z)LShaftLoom$Row;"⟩, 10) := ⟨⟨by decide +kernel, by decide +kernel⟩, List.mem_of_getElem? (i := 16) (by decide +kernel), List.mem_of_getElem? (i := 219) (by decide +kernel), List.mem_of_getElem? (i := 220) (by decide +kernel)⟩
theorem lw_p4 : lw_okq (⟨"ShaftLoom$Row", "append", "(I)V"⟩, 2) := ⟨⟨by decide +kernel, by decide +kernel⟩, List.mem_of_getElem? (i := 24) (by decide +kernel), List.mem_of_getElem? (i := 224) (by decide +kernel), List.mem_of_getElem? (i := 225) (by decide +kernel)⟩
theorem lw_p5 : lw_okq (⟨"ShaftLoom$Row", "appendTurned", "(I)V"⟩, 2) := ⟨⟨by decide +kernel, by decide +kernel⟩, List.mem_of_getElem? (i := 24) (by decide +kernel), List.mem_of_getElem? (i := 237) (by decide +kernel), List.mem_of_getElem? (i := 238) (by decide +kernel)⟩
theorem lw_p6 : lw_okq (⟨"ShaftLoom$Row", "appendRepeated", "(II)V"⟩, 2) := ⟨⟨by decide +kernel, by decide +kernel⟩, List.mem_of_getElem? (i := 24) (by decide +kernel), List.mem_of_getElem? (i := 242) (by decide +kernel), List.mem_of_getElem? (i := 243) (by decide +kernel)⟩
theorem lw_p7 : lw_okq (⟨"ShaftLoom", "isTied", "(II)Z"⟩, 10) := ⟨⟨by decide +kernel, by decide +kernel⟩, List.mem_of_getElem? (i := 16) (by decide +kernel), List.mem_of_getElem? (i := 260) (by decide +kernel), List.mem_of_getElem? (i := 261) (by decide +kernel)⟩
theorem lw_p8 : lw_okq (⟨"ShaftLoom$Row", "kindOrNone", "(I)I"⟩, 2) := ⟨⟨by decide +kernel, by decide +kernel⟩, List.mem_of_getElem? (i := 24) (by decide +kernel), List.mem_of_getElem? (i := 274) (by decide +kernel), List.mem_of_getElem? (i := 275) (by decide +kernel)⟩
theorem lw_p9 : lw_okq (⟨"ShaftLoom", "tiedOrNone", "(II)I"⟩, 10) := ⟨⟨by decide +kernel, by decide +kernel⟩, List.mem_of_getElem? (i := 16) (by decide +kernel), List.mem_of_getElem? (i := 278) (by decide +kernel), List.mem_of_getElem? (i := 279) (by decide +kernel)⟩
theorem lw_p10 : lw_okq (⟨"ShaftLoom", "endsRaisedBy", "(I)I"⟩, 10) := ⟨⟨by decide +kernel, by decide +kernel⟩, List.mem_of_getElem? (i := 16) (by decide +kernel), List.mem_of_getElem? (i := 304) (by decide +kernel), List.mem_of_getElem? (i := 305) (by decide +kernel)⟩
theorem lw_p11 : lw_okq (⟨"ShaftLoom$Crossings", "throwPick", "(I)V"⟩, 3) := ⟨⟨by decide +kernel, by decide +kernel⟩, List.mem_of_getElem? (i := 40) (by decide +kernel), List.mem_of_getElem? (i := 308) (by decide +kernel), List.mem_of_getElem? (i := 309) (by decide +kernel)⟩
theorem lw_p12 : lw_okq (⟨"ShaftLoom$Crossings", "has", "(II)Z"⟩, 3) := ⟨⟨by decide +kernel, by decide +kernel⟩, List.mem_of_getElem? (i := 40) (by decide +kernel), List.mem_of_getElem? (i := 328) (by decide +kernel), List.mem_of_getElem? (i := 329) (by decide +kernel)⟩
theorem lw_p13 : lw_okq (⟨"ShaftLoom$Crossings", "isOver", "(II)Z"⟩, 3) := ⟨⟨by decide +kernel, by decide +kernel⟩, List.mem_of_getElem? (i := 40) (by decide +kernel), List.mem_of_getElem? (i := 348) (by decide +kernel), List.mem_of_getElem? (i := 349) (by decide +kernel)⟩
theorem lw_p14 : lw_okq (⟨"ShaftLoom", "isThread", "(I)Z"⟩, 10) := ⟨⟨by decide +kernel, by decide +kernel⟩, List.mem_of_getElem? (i := 16) (by decide +kernel), List.mem_of_getElem? (i := 366) (by decide +kernel), List.mem_of_getElem? (i := 367) (by decide +kernel)⟩
theorem lw_p15 : lw_okq (⟨"ShaftLoom$Crossings", "line", "(ZI)I"⟩, 3) := ⟨⟨by decide +kernel, by decide +kernel⟩, List.mem_of_getElem? (i := 40) (by decide +kernel), List.mem_of_getElem? (i := 374) (by decide +kernel), List.mem_of_getElem? (i := 375) (by decide +kernel)⟩
def lw_privs_1 : List (MethodName × Nat) := [(⟨"ShaftLoom$Crossings", "stretch", "(II)V"⟩, 3), (⟨"java/lang/Throwable", "fillInStackTrace", "(I)Ljava/lang/Throwable;"⟩, 6), (⟨"ShaftLoom", "requireRoom", "(ZJ)V"⟩, 10), (⟨"ShaftLoom", "rowOf", "(Z)LShaftLoom$Row;"⟩, 10), (⟨"ShaftLoom$Row", "append", "(I)V"⟩, 2), (⟨"ShaftLoom$Row", "appendTurned", "(I)V"⟩, 2), (⟨"ShaftLoom$Row", "appendRepeated", "(II)V"⟩, 2), (⟨"ShaftLoom", "isTied", "(II)Z"⟩, 10), (⟨"ShaftLoom$Row", "kindOrNone", "(I)I"⟩, 2), (⟨"ShaftLoom", "tiedOrNone", "(II)I"⟩, 10), (⟨"ShaftLoom", "endsRaisedBy", "(I)I"⟩, 10), (⟨"ShaftLoom$Crossings", "throwPick", "(I)V"⟩, 3), (⟨"ShaftLoom$Crossings", "has", "(II)Z"⟩, 3), (⟨"ShaftLoom$Crossings", "isOver", "(II)Z"⟩, 3), (⟨"ShaftLoom", "isThread", "(I)Z"⟩, 10), (⟨"ShaftLoom$Crossings", "line", "(ZI)I"⟩, 3)]
theorem lw_r1 : ∀ q ∈ lw_privs_1, lw_okq q := List.forall_mem_cons.mpr ⟨lw_p0, List.forall_mem_cons.mpr ⟨lw_p1, List.forall_mem_cons.mpr ⟨lw_p2, List.forall_mem_cons.mpr ⟨lw_p3, List.forall_mem_cons.mpr ⟨lw_p4, List.forall_mem_cons.mpr ⟨lw_p5, List.forall_mem_cons.mpr ⟨lw_p6, List.forall_mem_cons.mpr ⟨lw_p7, List.forall_mem_cons.mpr ⟨lw_p8, List.forall_mem_cons.mpr ⟨lw_p9, List.forall_mem_cons.mpr ⟨lw_p10, List.forall_mem_cons.mpr ⟨lw_p11, List.forall_mem_cons.mpr ⟨lw_p12, List.forall_mem_cons.mpr ⟨lw_p13, List.forall_mem_cons.mpr ⟨lw_p14, List.forall_mem_cons.mpr ⟨lw_p15, fun _ h => absurd h List.not_mem_nil⟩⟩⟩⟩⟩⟩⟩⟩⟩⟩⟩⟩⟩⟩⟩⟩
theorem lw_p16 : lw_okq (⟨"ShaftLoom$Crossings", "picksUnder", "(I)I"⟩, 3) := ⟨⟨by decide +kernel, by decide +kernel⟩, List.mem_of_getElem? (i := 40) (by decide +kernel), List.mem_of_getElem? (i := 378) (by decide +kernel), List.mem_of_getElem? (i := 379) (by decide +kernel)⟩
theorem lw_p17 : lw_okq (⟨"ShaftLoom", "requireCloth", "()V"⟩, 10) := ⟨⟨by decide +kernel, by decide +kernel⟩, List.mem_of_getElem? (i := 16) (by decide +kernel), List.mem_of_getElem? (i := 397) (by decide +kernel), List.mem_of_getElem? (i := 398) (by decide +kernel)⟩
theorem lw_p18 : lw_okq (⟨"ShaftLoom$Pile", "sort", "(LShaftLoom$Crossings;)I"⟩, 3) := ⟨⟨by decide +kernel, by decide +kernel⟩, List.mem_of_getElem? (i := 60) (by decide +kernel), List.mem_of_getElem? (i := 402) (by decide +kernel), List.mem_of_getElem? (i := 403) (by decide +kernel)⟩
theorem lw_p19 : lw_okq (⟨"ShaftLoom$Pile", "layDirectly", "(LShaftLoom$Crossings;)V"⟩, 3) := ⟨⟨by decide +kernel, by decide +kernel⟩, List.mem_of_getElem? (i := 60) (by decide +kernel), List.mem_of_getElem? (i := 406) (by decide +kernel), List.mem_of_getElem? (i := 407) (by decide +kernel)⟩
theorem lw_p20 : lw_okq (⟨"ShaftLoom$Pile", "followOthers", "()V"⟩, 3) := ⟨⟨by decide +kernel, by decide +kernel⟩, List.mem_of_getElem? (i := 60) (by decide +kernel), List.mem_of_getElem? (i := 411) (by decide +kernel), List.mem_of_getElem? (i := 412) (by decide +kernel)⟩
theorem lw_p21 : lw_okq (⟨"ShaftLoom$Pile", "numberFromBottom", "()I"⟩, 3) := ⟨⟨by decide +kernel, by decide +kernel⟩, List.mem_of_getElem? (i := 60) (by decide +kernel), List.mem_of_getElem? (i := 418) (by decide +kernel), List.mem_of_getElem? (i := 419) (by decide +kernel)⟩
theorem lw_p22 : lw_okq (⟨"ShaftLoom$Pile", "lowestFree", "(J)I"⟩, 3) := ⟨⟨by decide +kernel, by decide +kernel⟩, List.mem_of_getElem? (i := 60) (by decide +kernel), List.mem_of_getElem? (i := 422) (by decide +kernel), List.mem_of_getElem? (i := 423) (by decide +kernel)⟩
theorem lw_p23 : lw_okq (⟨"ShaftLoom$Pile", "isFree", "(IJ)Z"⟩, 3) := ⟨⟨by decide +kernel, by decide +kernel⟩, List.mem_of_getElem? (i := 60) (by decide +kernel), List.mem_of_getElem? (i := 426) (by decide +kernel), List.mem_of_getElem? (i := 427) (by decide +kernel)⟩
theorem lw_p24 : lw_okq (⟨"ShaftLoom$Crossings", "leastShift", "(Z)I"⟩, 3) := ⟨⟨by decide +kernel, by decide +kernel⟩, List.mem_of_getElem? (i := 40) (by decide +kernel), List.mem_of_getElem? (i := 445) (by decide +kernel), List.mem_of_getElem? (i := 446) (by decide +kernel)⟩
theorem lw_p25 : lw_okq (⟨"ShaftLoom$Crossings", "count", "(Z)I"⟩, 3) := ⟨⟨by decide +kernel, by decide +kernel⟩, List.mem_of_getElem? (i := 40) (by decide +kernel), List.mem_of_getElem? (i := 449) (by decide +kernel), List.mem_of_getElem? (i := 450) (by decide +kernel)⟩
theorem lw_p26 : lw_okq (⟨"ShaftLoom$Crossings", "repeatsAfter", "(ZI)Z"⟩, 3) := ⟨⟨by decide +kernel, by decide +kernel⟩, List.mem_of_getElem? (i := 40) (by decide +kernel), List.mem_of_getElem? (i := 453) (by decide +kernel), List.mem_of_getElem? (i := 454) (by decide +kernel)⟩
theorem lw_p27 : lw_okq (⟨"ShaftLoom$Crossings", "put", "(IIZ)V"⟩, 3) := ⟨⟨by decide +kernel, by decide +kernel⟩, List.mem_of_getElem? (i := 40) (by decide +kernel), List.mem_of_getElem? (i := 473) (by decide +kernel), List.mem_of_getElem? (i := 474) (by decide +kernel)⟩
theorem lw_p28 : lw_okq (⟨"ShaftLoom$Row", "numberLines", "(LShaftLoom$Crossings;Z)I"⟩, 2) := ⟨⟨by decide +kernel, by decide +kernel⟩, List.mem_of_getElem? (i := 24) (by decide +kernel), List.mem_of_getElem? (i := 484) (by decide +kernel), List.mem_of_getElem? (i := 485) (by decide +kernel)⟩
theorem lw_p29 : lw_okq (⟨"ShaftLoom$Crossings", "firstLike", "(ZI)I"⟩, 3) := ⟨⟨by decide +kernel, by decide +kernel⟩, List.mem_of_getElem? (i := 40) (by decide +kernel), List.mem_of_getElem? (i := 489) (by decide +kernel), List.mem_of_getElem? (i := 490) (by decide +kernel)⟩
theorem lw_p30 : lw_okq (⟨"ShaftLoom", "adoptPaintedDraft", "()V"⟩, 10) := ⟨⟨by decide +kernel, by decide +kernel⟩, List.mem_of_getElem? (i := 16) (by decide +kernel), List.mem_of_getElem? (i := 494) (by decide +kernel), List.mem_of_getElem? (i := 495) (by decide +kernel)⟩
theorem lw_p31 : lw_okq (⟨"ShaftLoom$Row", "copyFrom", "(LShaftLoom$Row;)V"⟩, 2) := ⟨⟨by decide +kernel, by decide +kernel⟩, List.mem_of_getElem? (i := 24) (by decide +kernel), List.mem_of_getElem? (i := 498) (by decide +kernel), List.mem_of_getElem? (i := 499) (by decide +kernel)⟩
def lw_privs_2 : List (MethodName × Nat) := [(⟨"ShaftLoom$Crossings", "picksUnder", "(I)I"⟩, 3), (⟨"ShaftLoom", "requireCloth", "()V"⟩, 10), (⟨"ShaftLoom$Pile", "sort", "(LShaftLoom$Crossings;)I"⟩, 3), (⟨"ShaftLoom$Pile", "layDirectly", "(LShaftLoom$Crossings;)V"⟩, 3), (⟨"ShaftLoom$Pile", "followOthers", "()V"⟩, 3), (⟨"ShaftLoom$Pile", "numberFromBottom", "()I"⟩, 3), (⟨"ShaftLoom$Pile", "lowestFree", "(J)I"⟩, 3), (⟨"ShaftLoom$Pile", "isFree", "(IJ)Z"⟩, 3), (⟨"ShaftLoom$Crossings", "leastShift", "(Z)I"⟩, 3), (⟨"ShaftLoom$Crossings", "count", "(Z)I"⟩, 3), (⟨"ShaftLoom$Crossings", "repeatsAfter", "(ZI)Z"⟩, 3), (⟨"ShaftLoom$Crossings", "put", "(IIZ)V"⟩, 3), (⟨"ShaftLoom$Row", "numberLines", "(LShaftLoom$Crossings;Z)I"⟩, 2), (⟨"ShaftLoom$Crossings", "firstLike", "(ZI)I"⟩, 3), (⟨"ShaftLoom", "adoptPaintedDraft", "()V"⟩, 10), (⟨"ShaftLoom$Row", "copyFrom", "(LShaftLoom$Row;)V"⟩, 2)]
theorem lw_r2 : ∀ q ∈ lw_privs_2, lw_okq q := List.forall_mem_cons.mpr ⟨lw_p16, List.forall_mem_cons.mpr ⟨lw_p17, List.forall_mem_cons.mpr ⟨lw_p18, List.forall_mem_cons.mpr ⟨lw_p19, List.forall_mem_cons.mpr ⟨lw_p20, List.forall_mem_cons.mpr ⟨lw_p21, List.forall_mem_cons.mpr ⟨lw_p22, List.forall_mem_cons.mpr ⟨lw_p23, List.forall_mem_cons.mpr ⟨lw_p24, List.forall_mem_cons.mpr ⟨lw_p25, List.forall_mem_cons.mpr ⟨lw_p26, List.forall_mem_cons.mpr ⟨lw_p27, List.forall_mem_cons.mpr ⟨lw_p28, List.forall_mem_cons.mpr ⟨lw_p29, List.forall_mem_cons.mpr ⟨lw_p30, List.forall_mem_cons.mpr ⟨lw_p31, fun _ h => absurd h List.not_mem_nil⟩⟩⟩⟩⟩⟩⟩⟩⟩⟩⟩⟩⟩⟩⟩⟩
theorem lw_p32 : lw_okq (⟨"ShaftLoomModel", "mayAppend", "(ZJ)Z"⟩, 15) := ⟨⟨by decide +kernel, by decide +kernel⟩, List.mem_of_getElem? (i := 506) (by decide +kernel), List.mem_of_getElem? (i := 570) (by decide +kernel), List.mem_of_getElem? (i := 571) (by decide +kernel)⟩
theorem lw_p33 : lw_okq (⟨"ShaftLoomModel", "count", "(Z)I"⟩, 15) := ⟨⟨by decide +kernel, by decide +kernel⟩, List.mem_of_getElem? (i := 506) (by decide +kernel), List.mem_of_getElem? (i := 574) (by decide +kernel), List.mem_of_getElem? (i := 575) (by decide +kernel)⟩
theorem lw_p34 : lw_okq (⟨"ShaftLoomModel", "append", "(ZI)V"⟩, 15) := ⟨⟨by decide +kernel, by decide +kernel⟩, List.mem_of_getElem? (i := 506) (by decide +kernel), List.mem_of_getElem? (i := 579) (by decide +kernel), List.mem_of_getElem? (i := 580) (by decide +kernel)⟩
theorem lw_p35 : lw_okq (⟨"ShaftLoomModel", "isCrossing", "(II)Z"⟩, 15) := ⟨⟨by decide +kernel, by decide +kernel⟩, List.mem_of_getElem? (i := 506) (by decide +kernel), List.mem_of_getElem? (i := 615) (by decide +kernel), List.mem_of_getElem? (i := 616) (by decide +kernel)⟩
theorem lw_p36 : lw_okq (⟨"ShaftLoomModel", "threadOf", "(I)I"⟩, 15) := ⟨⟨by decide +kernel, by decide +kernel⟩, List.mem_of_getElem? (i := 506) (by decide +kernel), List.mem_of_getElem? (i := 627) (by decide +kernel), List.mem_of_getElem? (i := 628) (by decide +kernel)⟩
theorem lw_p37 : lw_okq (⟨"ShaftLoomModel", "isSeen", "(IIZ)Z"⟩, 15) := ⟨⟨by decide +kernel, by decide +kernel⟩, List.mem_of_getElem? (i := 506) (by decide +kernel), List.mem_of_getElem? (i := 631) (by decide +kernel), List.mem_of_getElem? (i := 632) (by decide +kernel)⟩
theorem lw_p38 : lw_okq (⟨"ShaftLoomModel", "number", "()V"⟩, 15) := ⟨⟨by decide +kernel, by decide +kernel⟩, List.mem_of_getElem? (i := 506) (by decide +kernel), List.mem_of_getElem? (i := 639) (by decide +kernel), List.mem_of_getElem? (i := 640) (by decide +kernel)⟩
theorem lw_p39 : lw_okq (⟨"ShaftLoomModel", "spread", "()V"⟩, 15) := ⟨⟨by decide +kernel, by decide +kernel⟩, List.mem_of_getElem? (i := 506) (by decide +kernel), List.mem_of_getElem? (i := 643) (by decide +kernel), List.mem_of_getElem? (i := 644) (by decide +kernel)⟩
theorem lw_p40 : lw_okq (⟨"ShaftLoomModel", "isFree", "(II)Z"⟩, 15) := ⟨⟨by decide +kernel, by decide +kernel⟩, List.mem_of_getElem? (i := 506) (by decide +kernel), List.mem_of_getElem? (i := 647) (by decide +kernel), List.mem_of_getElem? (i := 648) (by decide +kernel)⟩
theorem lw_p41 : lw_okq (⟨"ShaftLoomModel", "together", "(II)Z"⟩, 15) := ⟨⟨by decide +kernel, by decide +kernel⟩, List.mem_of_getElem? (i := 506) (by decide +kernel), List.mem_of_getElem? (i := 651) (by decide +kernel), List.mem_of_getElem? (i := 652) (by decide +kernel)⟩
theorem lw_p42 : lw_okq (⟨"ShaftLoomModel", "samePicks", "(II)Z"⟩, 15) := ⟨⟨by decide +kernel, by decide +kernel⟩, List.mem_of_getElem? (i := 506) (by decide +kernel), List.mem_of_getElem? (i := 663) (by decide +kernel), List.mem_of_getElem? (i := 664) (by decide +kernel)⟩
theorem lw_p43 : lw_okq (⟨"ShaftLoomModel", "sameEnds", "(II)Z"⟩, 15) := ⟨⟨by decide +kernel, by decide +kernel⟩, List.mem_of_getElem? (i := 506) (by decide +kernel), List.mem_of_getElem? (i := 667) (by decide +kernel), List.mem_of_getElem? (i := 668) (by decide +kernel)⟩
theorem lw_p44 : lw_okq (⟨"ShaftLoomModel", "sort", "(Z)I"⟩, 15) := ⟨⟨by decide +kernel, by decide +kernel⟩, List.mem_of_getElem? (i := 506) (by decide +kernel), List.mem_of_getElem? (i := 683) (by decide +kernel), List.mem_of_getElem? (i := 684) (by decide +kernel)⟩
theorem lw_p45 : lw_okq (⟨"ShaftLoomModel", "samePainted", "(ZII)Z"⟩, 15) := ⟨⟨by decide +kernel, by decide +kernel⟩, List.mem_of_getElem? (i := 506) (by decide +kernel), List.mem_of_getElem? (i := 687) (by decide +kernel), List.mem_of_getElem? (i := 688) (by decide +kernel)⟩
def lw_privs_3 : List (MethodName × Nat) := [(⟨"ShaftLoomModel", "mayAppend", "(ZJ)Z"⟩, 15), (⟨"ShaftLoomModel", "count", "(Z)I"⟩, 15), (⟨"ShaftLoomModel", "append", "(ZI)V"⟩, 15), (⟨"ShaftLoomModel", "isCrossing", "(II)Z"⟩, 15), (⟨"ShaftLoomModel", "threadOf", "(I)I"⟩, 15), (⟨"ShaftLoomModel", "isSeen", "(IIZ)Z"⟩, 15), (⟨"ShaftLoomModel", "number", "()V"⟩, 15), (⟨"ShaftLoomModel", "spread", "()V"⟩, 15), (⟨"ShaftLoomModel", "isFree", "(II)Z"⟩, 15), (⟨"ShaftLoomModel", "together", "(II)Z"⟩, 15), (⟨"ShaftLoomModel", "samePicks", "(II)Z"⟩, 15), (⟨"ShaftLoomModel", "sameEnds", "(II)Z"⟩, 15), (⟨"ShaftLoomModel", "sort", "(Z)I"⟩, 15), (⟨"ShaftLoomModel", "samePainted", "(ZII)Z"⟩, 15)]
theorem lw_r3 : ∀ q ∈ lw_privs_3, lw_okq q := List.forall_mem_cons.mpr ⟨lw_p32, List.forall_mem_cons.mpr ⟨lw_p33, List.forall_mem_cons.mpr ⟨lw_p34, List.forall_mem_cons.mpr ⟨lw_p35, List.forall_mem_cons.mpr ⟨lw_p36, List.forall_mem_cons.mpr ⟨lw_p37, List.forall_mem_cons.mpr ⟨lw_p38, List.forall_mem_cons.mpr ⟨lw_p39, List.forall_mem_cons.mpr ⟨lw_p40, List.forall_mem_cons.mpr ⟨lw_p41, List.forall_mem_cons.mpr ⟨lw_p42, List.forall_mem_cons.mpr ⟨lw_p43, List.forall_mem_cons.mpr ⟨lw_p44, List.forall_mem_cons.mpr ⟨lw_p45, fun _ h => absurd h List.not_mem_nil⟩⟩⟩⟩⟩⟩⟩⟩⟩⟩⟩⟩⟩⟩
def lw_privs : List (MethodName × Nat) := lw_privs_1 ++ (lw_privs_2 ++ (lw_privs_3))
def lw_tbl : List Cond := k2_sels lw_privs ++ tables_1
theorem lw_privs_ok : ∀ q ∈ lw_privs, lw_okq q := by
  show ∀ q ∈ lw_privs_1 ++ (lw_privs_2 ++ (lw_privs_3)), lw_okq q
  exact List.forall_mem_append.mpr ⟨lw_r1, List.forall_mem_append.mpr ⟨lw_r2, lw_r3⟩⟩
-- ===== end of PART A; then your names; then what follows =====
end
section
/-! ===== BEGIN exceptions that leave a method, and their catching by the caller (launches without stack traces) ===== -/
section VXA
/-! The laws vx_back, vx_callV, vx_callS, vx_callSW, vx_throw0, vx_throwS follow proofs of the library, with one case more: JvmDerived/Free/Laws.lean (Back.of_free), Shelf42/LK1.lean (callV, callS), Shelf/KitTraced.lean (throwNew0V, throwNewS). -/
/-- where a method has thrown q: the class by its name, the cell, what was written, the world -/
def vx_T (XC : String → State → State → Prop) (st : State) (q : Addr) (t : State) (mc ms : Nat) (free : Addr → Prop) : Prop :=
  ∃ (E : String) (ce : Cell) (L : List Loc), XC E st t ∧ t.heap[q]? = some ce ∧ ce.vm = .none ∧ st.vm.findClass E = some ce.cls ∧ st.WarmedH t.vm ∧ st.sameButNew ({ t with vm := st.vm } : State) L mc ms ∧ ∀ z ∈ L, free z.base
def vx_Q (Qc : Array Value → State → Outcome → State → Prop) (XC : String → State → State → Prop) (mc ms : Nat) (free : Addr → Prop) : Array Value → State → Outcome → State → Prop := fun a st o t =>
  (Qc a st o t ∧ ∃ L, FrameEnd st o t L mc ms ∧ ∀ q ∈ L, free q.base) ∨ ∃ q, o = .threw q ∧ vx_T XC st q t mc ms free
/-- a callee that returns or throws -/
def vx_Met (l : Launch) (y : MethodName) (ws : List Cond) (rm : Room) (Pc : Array Value → State → Prop) (Qc : Array Value → State → Outcome → State → Prop) (XC : String → State → State → Prop) (mc ms : Nat) (free : Addr → Prop) : Prop :=
  MetFree l y (headSpec ws rm) Pc (fun _ _ _ _ _ => True) (vx_Q Qc XC mc ms free)
def vx_Post (XC : String → State → State → Prop) (mc ms : Nat) (free : Addr → Prop) : Pt → Array Value → Addr → Pt → Prop := fun A a q B =>
  ∃ (g : JFrame) (mk : MethodId) (t : State) (L : List Loc) (E : String) (ce : Cell), B.U.heap = t.heap ∧ B.U.vm = t.vm ∧ XC E (A.U.calling g mk a) t ∧ t.heap[q]? = some ce ∧ ce.vm = .none ∧ A.U.vm.findClass E = some ce.cls ∧ B.locs = A.locs ++ L ∧ (∀ z ∈ L, free z.base) ∧ B.cells = A.cells + mc ∧ B.slots = A.slots + ms
def vx_Back (l : Launch) (R : Room) (p : Program) (e : Env) (below : List Frame) (s : State) (sargs : Array Value) (y : MethodName) (len W9 : Nat)
    (Pre : Pt → Array Value → Prop) (Post : Pt → Array Value → Option Value → Pt → Prop) (PostX : Pt → Array Value → Addr → Pt → Prop) : Prop :=
  ∀ (m : MethodId) (meth : Method) (c : Code) (A : Pt) (g : JFrame) (ig : Instr) (mk : MethodId) (a : Array Value),
    Stand p l e R s m sargs below meth c A.U A.locs A.cells A.slots → g.method = m → g.locals.size = c.maxLocals → decode c.code g.pc = .ok (ig, len) →
    2 * g.monitorRoom + (g.stack.map fun v => v.category).sum ≤ W9 → A.U.methodNamed? y = some mk → Pre A a →
    (∃ (v : Option Value) (B : Pt), Stand p l e R s m sargs below meth c B.U B.locs B.cells B.slots ∧ Post A a v B ∧
      Steps p.tables e below (doInvoke e (A.U.setTop g) [] mk a).1 (B.U.setTop { g with pc := g.pc + len, stack := v.toList ++ g.stack })) ∨
    (∃ (q : Addr) (B : Pt), Stand p l e R s m sargs below meth c B.U B.locs B.cells B.slots ∧ PostX A a q B ∧
      Steps p.tables e below (doInvoke e (A.U.setTop g) [] mk a).1 ((B.U.setTop g).pushFrame (.throwing q)))
section Payer
variable {l : Launch} {R : Room} {p : Program} {e : Env} {below : List Frame} {s : State} {sargs : Array Value} {y : MethodName} {len W9 : Nat}
theorem vx_back {ws : List Cond} {rm : Room} {Pc : Array Value → State → Prop} {Qc : Array Value → State → Outcome → State → Prop} {XC : String → State → State → Prop} {mc ms : Nat} {free : Addr → Prop} {bytes : ByteArray} {maxL : Nat} {ret : Option FieldType}
    (hM : vx_Met l y ws rm Pc Qc XC mc ms free) (hblind : FrameBlind Pc) (hrc : rm.cells = mc) (hrs : rm.slots = ms)
    (hframes : rm.frames + 1 ≤ R.frames) (hlocals : W9 + (maxL + 11) + rm.locals ≤ R.locals)
    (hws : ∀ w ∈ ws, ∀ a' U, s.WarmedH U.vm → w.before a' U = true) (hcode : Cond.code y bytes maxL ret ∈ ws) (hinit : ∀ a' U, s.WarmedH U.vm → (Cond.initialized y.cls).before a' U = true) :
    vx_Back l R p e below s sargs y len W9 (PreOf R mc ms Pc) (PostOf Qc mc ms free) (vx_Post XC mc ms free) := by
  intro m meth c A g ig mk a X hg hsize hdg hW hn hp
  have h1 : (headSpec ws rm).pre.before a A.U = true := atoms_intro fun w hw => hws w hw _ _ X.warmed
  have h2 : (Cond.code y bytes maxL ret).before a A.U = true := hws _ hcode _ _ X.warmed
  have h3 : (Cond.initialized y.cls).before a A.U = true := hinit _ _ X.warmed
  have h4 : A.cells + (headSpec ws rm).room.cells ≤ R.cells := by rw [show (headSpec ws rm).room.cells = mc from hrc]; exact hp.1
  have h5 : A.slots + (headSpec ws rm).room.slots ≤ R.slots := by rw [show (headSpec ws rm).room.slots = ms from hrs]; exact hp.2.1
  have hPc : Pc a (A.U.calling g mk a) := hblind _ _ _ _ hp.2.2
  obtain ⟨U, Ls, c0, s0⟩ := A
  dsimp only [Pt.U, Pt.locs, Pt.cells, Pt.slots] at h1 h2 h3 h4 h5 X hn hPc ⊢
  obtain ⟨methY, cY, hmY, hcY, -, hlY, -, -, -, -⟩ := Cond.code_spec hn h2
  obtain ⟨kY, hkY, -⟩ := className_of_methodNamed hn
  have hinitY : kY.init = .initialized := Cond.initialized_spec (findClass_of_methodNamed hn) hkY h3
  have h : At U g.method c below := by rw [hg]; exact X.here
  have hlocals9 : W9 + (maxL + 11) + (headSpec ws rm).room.locals ≤ R.locals := hlocals
  have happ : (headSpec ws rm).appliesLoose y e.platform (U.calling g mk a) = true :=
    Spec.appliesLoose_calling (g := g) h hdg hn hkY hinitY
      (X.room_calling (g := g) (R' := (headSpec ws rm).room) hsize hmY hcY hframes (by rw [hlY]; omega) h4 h5) h1
  obtain ⟨mid, hmid⟩ := h.above
  have hfr : (U.setTop g).frames = (.java g :: mid) ++ below := by rw [State.frames_setTop' g h.top, hmid]; rfl
  obtain ⟨o, s₂, hsteps, -, hend, hq⟩ := Steps.callFree hM p X.admits X.cas X.clock (acts := []) hfr happ hPc trivial
  have hq' : vx_Q Qc XC mc ms free a (U.calling g mk a) o s₂ := hq
  rw [State.frames_setTop' g h.top] at hend
  obtain ⟨g₀, hg0⟩ := Option.isSome_iff_exists.mp h.top
  obtain ⟨r, hr⟩ := State.topJava?_eq_some.mp hg0
  have hr' : (({ U with heap := s₂.heap, slotsUsed := s₂.slotsUsed } : State).setVm s₂.vm).frames = .java g₀ :: r := hr
  rcases hq' with ⟨hqc, L, hfe, hL⟩ | ⟨q, rfl, E, ce, L, hx, hce, hcv, hcl, hW₂, hsm, hL⟩
  · obtain ⟨⟨v, rfl⟩, hW₂, e2, q2, q3, q4, q5, q6⟩ := id hfe
    have e3 : s₂ = ({ (U.calling g mk a).setFrames s₂.frames with heap := s₂.heap, slotsUsed := s₂.slotsUsed } : State).setVm s₂.vm := by
      have : s₂ = ({ s₂ with vm := (U.calling g mk a).vm } : State).setVm s₂.vm := rfl
      rw [e2] at this
      exact this
    obtain ⟨c₂, i₂, len₂, hc₂, hd₂, hf₂⟩ := hend
    have hW' : U.WarmedH s₂.vm := hW₂
    have hcc : c₂ = c := by
      have h1 : s₂.code? g.method = U.code? g.method := by
        rw [State.code?_eq, State.code?_eq, hW'.alike.method?]
      exact Option.some.inj (hc₂.symm.trans (h1.trans h.code))
    subst hcc
    have hlen : len₂ = len := by rw [hdg] at hd₂; cases hd₂; rfl
    subst hlen
    have hs₂ : s₂ = (({ U with heap := s₂.heap, slotsUsed := s₂.slotsUsed } : State).setVm s₂.vm).setTop { g with pc := g.pc + len₂, stack := v.toList ++ g.stack } := by
      refine e3.trans ?_
      rw [hf₂, State.calling_eq h.top, State.setFrames_setFrames, State.setTop_of_frames _ hr', hr]
      rfl
    have hsame : U.sameButNew ({ U with heap := s₂.heap, slotsUsed := s₂.slotsUsed } : State) L mc ms := by
      refine ⟨?_, q2, q3, q4, q5, q6⟩
      obtain ⟨t, ht, -⟩ := State.frames_cons hr
      show ({ U with heap := s₂.heap, slotsUsed := s₂.slotsUsed } : State) = { U.setFrames U.frames with heap := s₂.heap, slotsUsed := s₂.slotsUsed }
      rw [State.setFrames_self ht]
    subst hg
    refine Or.inl ⟨v, ⟨(({ U with heap := s₂.heap, slotsUsed := s₂.slotsUsed } : State).setVm s₂.vm), Ls ++ L, c0 + mc, s0 + ms⟩,
      ⟨X.admits, X.cas, X.clock, X.frames, X.room, X.hears, X.method, X.code, (X.here.setHeapUsed s₂.heap s₂.slotsUsed).setVm hW'.alike, X.tail, State.WarmedH.trans X.warmed hW', X.limits, X.bytes, X.same.trans (hsame.setVm s.vm)⟩,
      ⟨g, mk, s₂, L, rfl, rfl, hqc, rfl, hL, rfl, rfl⟩, ?_⟩
    show Steps p.tables e below _ ((({ U with heap := s₂.heap, slotsUsed := s₂.slotsUsed } : State).setVm s₂.vm).setTop { g with pc := g.pc + len₂, stack := v.toList ++ g.stack })
    rw [← hs₂]
    exact hsteps
  · obtain ⟨e2, q2, q3, q4, q5, q6⟩ := id hsm
    have e3 : s₂ = ({ (U.calling g mk a).setFrames s₂.frames with heap := s₂.heap, slotsUsed := s₂.slotsUsed } : State).setVm s₂.vm := by
      have : s₂ = ({ s₂ with vm := (U.calling g mk a).vm } : State).setVm s₂.vm := rfl
      rw [e2] at this
      exact this
    have hf₂ : s₂.frames = .throwing q :: .java g :: U.frames.tail := hend
    have hW' : U.WarmedH s₂.vm := hW₂
    have hs₂ : s₂ = ((({ U with heap := s₂.heap, slotsUsed := s₂.slotsUsed } : State).setVm s₂.vm).setTop g).pushFrame (.throwing q) := by
      refine e3.trans ?_
      rw [hf₂, State.calling_eq h.top, State.setFrames_setFrames, State.pushFrame, State.frames_setTop _ hr', State.setTop_of_frames _ hr', State.setFrames_setFrames, hr]
      rfl
    have hsame : U.sameButNew ({ U with heap := s₂.heap, slotsUsed := s₂.slotsUsed } : State) L mc ms := by
      refine ⟨?_, q2, q3, q4, q5, q6⟩
      obtain ⟨t, ht, -⟩ := State.frames_cons hr
      show ({ U with heap := s₂.heap, slotsUsed := s₂.slotsUsed } : State) = { U.setFrames U.frames with heap := s₂.heap, slotsUsed := s₂.slotsUsed }
      rw [State.setFrames_self ht]
    subst hg
    refine Or.inr ⟨q, ⟨(({ U with heap := s₂.heap, slotsUsed := s₂.slotsUsed } : State).setVm s₂.vm), Ls ++ L, c0 + mc, s0 + ms⟩,
      ⟨X.admits, X.cas, X.clock, X.frames, X.room, X.hears, X.method, X.code, (X.here.setHeapUsed s₂.heap s₂.slotsUsed).setVm hW'.alike, X.tail, State.WarmedH.trans X.warmed hW', X.limits, X.bytes, X.same.trans (hsame.setVm s.vm)⟩,
      ⟨g, mk, s₂, L, E, ce, rfl, rfl, hx, hce, hcv, hcl, rfl, hL, rfl, rfl⟩, ?_⟩
    show Steps p.tables e below _ (((({ U with heap := s₂.heap, slotsUsed := s₂.slotsUsed } : State).setVm s₂.vm).setTop g).pushFrame (.throwing q))
    rw [← hs₂]
    exact hsteps
end Payer
section Calls
variable {p : Program} {l : Launch} {e : Env} {R : Room} {s : State} {m : MethodId} {args : Array Value} {below : List Frame} {meth : Method} {c : Code} {T : State} {locs : List Loc} {cells slots : Nat}
theorem vx_callV (X : Stand p l e R s m args below meth c T locs cells slots) (hexec : p.tables.exec = Jvm.exec) {own C : String} {index : Nat} {y : MethodName} {bytes : ByteArray} {maxL : Nat} {ret : Option FieldType}
    (hown : s.vm.findClass own = some m.cls) (hlink : (Cond.methodLink own index y).before args s = true) (hinst : (Cond.instanceMethod y).before args s = true) (hsel : (Cond.selects C y y).before args s = true)
    (hcode : (Cond.code y bytes maxL ret).before args s = true) (hy : y.cls ≠ "java/lang/invoke/MethodHandle" ∧ y.cls ≠ "java/lang/invoke/VarHandle")
    {W9 : Nat} {Pre : Pt → Array Value → Prop} {Post : Pt → Array Value → Option Value → Pt → Prop} {PostX : Pt → Array Value → Addr → Pt → Prop} (hK : vx_Back l R p e below s args y 3 W9 Pre Post PostX)
    {b : Addr} {cellB : Cell} (hcell : T.heap[b]? = some cellB) (hobj : cellB.vm.isStatics = false) (hcls : s.vm.findClass C = some cellB.cls)
    {g : JFrame} (hg : g.method = m) (hsize : g.locals.size = c.maxLocals) {argsL rest : List Value} (hlen : ∀ sig, parseMethodDescriptor y.desc = some sig → argsL.length = sig.parameters.length)
    (hstack : g.stack = argsL.reverse ++ .ref b :: rest) (hW : 2 * g.monitorRoom + (rest.map fun v => v.category).sum ≤ W9) (hdg : decode c.code g.pc = .ok (.invokevirtual index, 3))
    (hpre : ∀ vm₁, s.WarmedH vm₁ → Pre ⟨T.setVm vm₁, locs, cells, slots⟩ (Value.ref b :: argsL).toArray) :
    (∃ (v : Option Value) (vm₁ : Vm) (B : Pt), s.WarmedH vm₁ ∧ Stand p l e R s m args below meth c B.U B.locs B.cells B.slots ∧ Post ⟨T.setVm vm₁, locs, cells, slots⟩ (Value.ref b :: argsL).toArray v B ∧
      ∀ target, Steps p.tables e below (B.U.setTop { g with pc := g.pc + 3, stack := v.toList ++ rest }) target → Steps p.tables e below (T.setTop g) target) ∨
    (∃ (q : Addr) (vm₁ : Vm) (B : Pt), s.WarmedH vm₁ ∧ Stand p l e R s m args below meth c B.U B.locs B.cells B.slots ∧ PostX ⟨T.setVm vm₁, locs, cells, slots⟩ (Value.ref b :: argsL).toArray q B ∧
      Steps p.tables e below (T.setTop g) ((B.U.setTop { g with stack := rest }).pushFrame (.throwing q))) := by
  obtain ⟨mk, methM, hnamed, hmethM, hstM, habM⟩ := Cond.instanceMethod_spec hinst
  obtain ⟨methM', cM, hmethM', -, -, -, -, -, -, hsigM⟩ := Cond.code_spec hnamed hcode
  cases hmethM.symm.trans hmethM'
  obtain ⟨c2, r2, m2, q1, q2, q3, q4, kP, hkP, hkPi⟩ := Cond.selects_spec hsel
  cases hcls.symm.trans q1
  cases (State.methodFound?_of_named hnamed hy).symm.trans q2
  cases hnamed.symm.trans q3
  have hselP : selectMethod e.platform s.vm cellB.cls mk = .method mk := by rw [Launch.admits_selectMethod X.admits]; exact q4
  obtain ⟨vm₁, X₁, hstep₁⟩ := X.invokevirtual hexec hown hlink hnamed hmethM hstM hkP hkPi hy (a := b) (cell := cellB) hcell
    (fun z h => by rw [h] at hobj; cases hobj) hselP hmethM habM hkP hkPi (g := g) hg (argsL := argsL) (rest := rest) (hlen _ hsigM) hstack hdg
  rcases hK m meth c ⟨T.setVm vm₁, locs, cells, slots⟩ { g with stack := rest } (.invokevirtual index) mk (Value.ref b :: argsL).toArray X₁ hg hsize hdg hW (X₁.named hnamed) (hpre vm₁ X₁.warmed) with ⟨v, B, X', hpost, hsteps⟩ | ⟨q, B, X', hpost, hsteps⟩
  · exact Or.inl ⟨v, vm₁, B, X₁.warmed, X', hpost, fun target h => hstep₁ _ fun acts => by rw [doInvoke_state]; exact hsteps.trans h⟩
  · exact Or.inr ⟨q, vm₁, B, X₁.warmed, X', hpost, hstep₁ _ fun acts => by rw [doInvoke_state]; exact hsteps⟩
theorem vx_callS (X : Stand p l e R s m args below meth c T locs cells slots) (hexec : p.tables.exec = Jvm.exec) {own : String} {index : Nat} {y : MethodName} {bytes : ByteArray} {maxL : Nat} {ret : Option FieldType}
    (hown : s.vm.findClass own = some m.cls) (hlink : (Cond.methodLink own index y).before args s = true) (hstat : (Cond.static y).before args s = true) (hinit : (Cond.initialized y.cls).before args s = true)
    (hcode : (Cond.code y bytes maxL ret).before args s = true) (hy : y.cls ≠ "java/lang/invoke/MethodHandle" ∧ y.cls ≠ "java/lang/invoke/VarHandle")
    {W9 : Nat} {Pre : Pt → Array Value → Prop} {Post : Pt → Array Value → Option Value → Pt → Prop} {PostX : Pt → Array Value → Addr → Pt → Prop} (hK : vx_Back l R p e below s args y 3 W9 Pre Post PostX)
    {g : JFrame} (hg : g.method = m) (hsize : g.locals.size = c.maxLocals) {argsL rest : List Value} (hlen : ∀ sig, parseMethodDescriptor y.desc = some sig → argsL.length = sig.parameters.length)
    (hstack : g.stack = argsL.reverse ++ rest) (hW : 2 * g.monitorRoom + (rest.map fun v => v.category).sum ≤ W9) (hdg : decode c.code g.pc = .ok (.invokestatic index, 3))
    (hpre : ∀ vm₁, s.WarmedH vm₁ → Pre ⟨T.setVm vm₁, locs, cells, slots⟩ argsL.toArray) :
    (∃ (v : Option Value) (vm₁ : Vm) (B : Pt), s.WarmedH vm₁ ∧ Stand p l e R s m args below meth c B.U B.locs B.cells B.slots ∧ Post ⟨T.setVm vm₁, locs, cells, slots⟩ argsL.toArray v B ∧
      ∀ target, Steps p.tables e below (B.U.setTop { g with pc := g.pc + 3, stack := v.toList ++ rest }) target → Steps p.tables e below (T.setTop g) target) ∨
    (∃ (q : Addr) (vm₁ : Vm) (B : Pt), s.WarmedH vm₁ ∧ Stand p l e R s m args below meth c B.U B.locs B.cells B.slots ∧ PostX ⟨T.setVm vm₁, locs, cells, slots⟩ argsL.toArray q B ∧
      Steps p.tables e below (T.setTop g) ((B.U.setTop { g with stack := rest }).pushFrame (.throwing q))) := by
  obtain ⟨mk, hnamed⟩ := Cond.code_named hcode
  obtain ⟨methM, cM, hmethM, -, -, -, -, -, -, hsigM⟩ := Cond.code_spec hnamed hcode
  have hstatic : methM.isStatic = true := Cond.static_spec hnamed hmethM hstat
  obtain ⟨kP, hkP, -⟩ := className_of_methodNamed hnamed
  have hinitP : kP.init = .initialized := Cond.initialized_spec (findClass_of_methodNamed hnamed) hkP hinit
  obtain ⟨vm₁, X₁, hstep₁⟩ := X.invokestatic hexec hown hlink hnamed hmethM hstatic hkP hinitP hy (g := g) hg (argsL := argsL) (rest := rest) (hlen _ hsigM) hstack hdg
  rcases hK m meth c ⟨T.setVm vm₁, locs, cells, slots⟩ { g with stack := rest } (.invokestatic index) mk argsL.toArray X₁ hg hsize hdg hW (X₁.named hnamed) (hpre vm₁ X₁.warmed) with ⟨v, B, X', hpost, hsteps⟩ | ⟨q, B, X', hpost, hsteps⟩
  · exact Or.inl ⟨v, vm₁, B, X₁.warmed, X', hpost, fun target h => hstep₁ _ fun acts => by rw [doInvoke_state]; exact hsteps.trans h⟩
  · exact Or.inr ⟨q, vm₁, B, X₁.warmed, X', hpost, hstep₁ _ fun acts => by rw [doInvoke_state]; exact hsteps⟩
end Calls
theorem vx_cls {s : State} {T : State} {vm₁ : Vm} {E : String} {k : ClassId} (hW : s.WarmedH vm₁) (h : (T.setVm vm₁).vm.findClass E = some k) : s.vm.findClass E = some k := by
  have h1 : vm₁.findClass E = some k := h
  rw [hW.alike.findClass] at h1
  exact h1
/-- the method's frame g, with q thrown over it -/
def vx_W (p : Program) (l : Launch) (e : Env) (R : Room) (s : State) (m : MethodId) (args : Array Value) (below : List Frame) (meth : Method) (c : Code) (H : Heap) (locs : List Loc) (cells slots : Nat) (Q : State → Prop) (g : JFrame) (q : Addr) : Prop :=
  ∀ T : State, T.heap = H → Stand p l e R s m args below meth c T locs cells slots → ∃ t, Steps p.tables e below ((T.setTop g).pushFrame (.throwing q)) t ∧ Q t
def vx_Run (p : Program) (l : Launch) (e : Env) (R : Room) (s : State) (m : MethodId) (args : Array Value) (below : List Frame) (meth : Method) (c : Code) (H : Heap) (locs : List Loc) (cells slots mc ms : Nat) (g : JFrame) (rest : List Value) (Qa : State → Outcome → State → Prop) (XC : String → State → State → Prop) (free : Addr → Prop) : Prop :=
  ∀ T : State, T.heap = H → Stand p l e R s m args below meth c T locs cells slots →
    (∃ (v : Option Value) (st₀ t T' : State) (L : List Loc), st₀.heap = H ∧ Stand p l e R s m args below meth c T' (locs ++ L) (cells + mc) (slots + ms) ∧ (∀ q ∈ L, free q.base) ∧ T'.heap = t.heap ∧ T'.vm = t.vm ∧ Qa st₀ (.returned v) t ∧
      Goes p e below T g T' { g with pc := g.pc + 3, stack := v.toList ++ rest }) ∨
    (∃ (q : Addr) (st₀ t T' : State) (L : List Loc) (E : String) (ce : Cell), st₀.heap = H ∧ Stand p l e R s m args below meth c T' (locs ++ L) (cells + mc) (slots + ms) ∧ (∀ z ∈ L, free z.base) ∧ T'.heap = t.heap ∧ T'.vm = t.vm ∧ XC E st₀ t ∧ t.heap[q]? = some ce ∧ ce.vm = .none ∧ s.vm.findClass E = some ce.cls ∧
      Steps p.tables e below (T.setTop g) ((T'.setTop { g with stack := rest }).pushFrame (.throwing q)))
def vx_X {S : Type} (px : S → Prop) (B : String → S → State → Prop) (A : Nat → Prop) : String → State → State → Prop := fun E st t => ∃ u : S, px u ∧ B E u t ∧ va_F A st t
section Runs
variable {p : Program} {l : Launch} {e : Env} {R : Room} {s : State} {m : MethodId} {args : Array Value} {below : List Frame} {meth : Method} {c : Code} {H : Heap} {locs : List Loc} {cells slots : Nat}
variable {y : MethodName} {bytes cc : ByteArray} {maxL nL mc ms n index : Nat} {ret : Option FieldType} {ws : List Cond} {rm : Room} {Pc : Array Value → State → Prop} {Qc : Array Value → State → Outcome → State → Prop} {XC : String → State → State → Prop} {free : Addr → Prop} {Ts : List Cond} {own C : String} {b : Addr} {As rest : List Value} {g : JFrame}
theorem vx_callBack (cb : CallB R s args own index y bytes maxL ret ws rm mc ms n) (hM : vx_Met l y ws rm Pc Qc XC mc ms free) (hbl : FrameBlind Pc) : vx_Back l R p e below s args y 3 8 (PreOf R mc ms Pc) (PostOf Qc mc ms free) (vx_Post XC mc ms free) := by
  obtain ⟨hrc, hrs, hfr, hlo, hws, hcw, -, hini, -⟩ := cb
  exact vx_back (bytes := bytes) (maxL := maxL) (ret := ret) hM hbl hrc hrs hfr hlo hws hcw (fun a' U hW => word_at hW (Or.inl (by first | rfl | simp [Cond.onTables, Cond.keeps, Cond.steady])) hini)
theorem vx_runV (S : CallFix p m c cc nL s args Ts own) (hM : vx_Met l y ws rm Pc Qc XC mc ms free) (cw : CallW R s args own C index y bytes maxL ret ws rm mc ms n) (hp : PreV s H C b Pc As)
    (hg : g.method = m) (hn : As.length = n) (hsize : g.locals.size = nL) (hstack : g.stack = As.reverse ++ .ref b :: rest) (hW : 2 * g.monitorRoom + (rest.map fun v => v.category).sum ≤ 8) (hdg : decode cc g.pc = .ok (.invokevirtual index, 3)) (hf : cells + mc ≤ R.cells ∧ slots + ms ≤ R.slots) :
    vx_Run p l e R s m args below meth c H locs cells slots mc ms g rest (Qc (Value.ref b :: As).toArray) XC free := by
  have hK : vx_Back l R p e below s args y 3 8 (PreOf R mc ms Pc) (PostOf Qc mc ms free) (vx_Post XC mc ms free) := vx_callBack cw.1 hM hp.1
  obtain ⟨⟨-, -, -, -, -, -, hcode, -, hy, hlen, hl⟩, hin, hse⟩ := cw
  obtain ⟨hx, hb, hml, ho, -⟩ := S
  obtain ⟨-, ⟨cellB, hcB, hoB, hclB⟩, hPc⟩ := hp
  intro T hT X
  rcases vx_callV X hx (C := C) (bytes := bytes) (maxL := maxL) (ret := ret) ho hl hin hse hcode hy hK (by rw [hT]; exact hcB) hoB hclB hg (hsize.trans hml.symm) (argsL := As) (rest := rest) (fun sig h => hn.trans (hlen sig h)) hstack hW (by rw [hb]; exact hdg)
    (fun vm₁ hW₁ => ⟨hf.1, hf.2, hPc (T.setVm vm₁) hT hW₁⟩) with ⟨v, vm₁, ⟨U', l2, c2, s2⟩, hW₁, X', ⟨g', mk, t, L, e1, e2, hq, h1, hL, h2, h3⟩, st⟩ | ⟨q, vm₁, ⟨U', l2, c2, s2⟩, hW₁, X', ⟨g', mk, t, L, E, ce, e1, e2, hq, hce, hcv, hcl, h1, hL, h2, h3⟩, st⟩
  · dsimp only [Pt.U, Pt.locs, Pt.cells, Pt.slots] at X' e1 e2 h1 h2 h3 st
    subst h1; subst h2; subst h3
    exact Or.inl ⟨v, (T.setVm vm₁).calling g' mk (Value.ref b :: As).toArray, t, U', L, hT, X', hL, e1, e2, hq, st⟩
  · dsimp only [Pt.U, Pt.locs, Pt.cells, Pt.slots] at X' e1 e2 h1 h2 h3 st hcl
    subst h1; subst h2; subst h3
    exact Or.inr ⟨q, (T.setVm vm₁).calling g' mk (Value.ref b :: As).toArray, t, U', L, E, ce, hT, X', hL, e1, e2, hq, hce, hcv, vx_cls hW₁ hcl, st⟩
theorem vx_runS (S : CallFix p m c cc nL s args Ts own) (hM : vx_Met l y ws rm Pc Qc XC mc ms free) (cw : CallB R s args own index y bytes maxL ret ws rm mc ms n ∧ (Cond.static y).before args s = true) (hp : PreS s H Pc As)
    (hg : g.method = m) (hn : As.length = n) (hsize : g.locals.size = nL) (hstack : g.stack = As.reverse ++ rest) (hW : 2 * g.monitorRoom + (rest.map fun v => v.category).sum ≤ 8) (hdg : decode cc g.pc = .ok (.invokestatic index, 3)) (hf : cells + mc ≤ R.cells ∧ slots + ms ≤ R.slots) :
    vx_Run p l e R s m args below meth c H locs cells slots mc ms g rest (Qc As.toArray) XC free := by
  have hK : vx_Back l R p e below s args y 3 8 (PreOf R mc ms Pc) (PostOf Qc mc ms free) (vx_Post XC mc ms free) := vx_callBack cw.1 hM hp.1
  obtain ⟨⟨-, -, -, -, -, -, hcode, hini, hy, hlen, hl⟩, hstt⟩ := cw
  obtain ⟨hx, hb, hml, ho, -⟩ := S
  intro T hT X
  rcases vx_callS X hx (bytes := bytes) (maxL := maxL) (ret := ret) ho hl hstt hini hcode hy hK hg (hsize.trans hml.symm) (argsL := As) (rest := rest) (fun sig h => hn.trans (hlen sig h)) hstack hW (by rw [hb]; exact hdg)
    (fun vm₁ hW₁ => ⟨hf.1, hf.2, hp.2 (T.setVm vm₁) hT hW₁⟩) with ⟨v, vm₁, ⟨U', l2, c2, s2⟩, hW₁, X', ⟨g', mk, t, L, e1, e2, hq, h1, hL, h2, h3⟩, st⟩ | ⟨q, vm₁, ⟨U', l2, c2, s2⟩, hW₁, X', ⟨g', mk, t, L, E, ce, e1, e2, hq, hce, hcv, hcl, h1, hL, h2, h3⟩, st⟩
  · dsimp only [Pt.U, Pt.locs, Pt.cells, Pt.slots] at X' e1 e2 h1 h2 h3 st
    subst h1; subst h2; subst h3
    exact Or.inl ⟨v, (T.setVm vm₁).calling g' mk As.toArray, t, U', L, hT, X', hL, e1, e2, hq, st⟩
  · dsimp only [Pt.U, Pt.locs, Pt.cells, Pt.slots] at X' e1 e2 h1 h2 h3 st hcl
    subst h1; subst h2; subst h3
    exact Or.inr ⟨q, (T.setVm vm₁).calling g' mk As.toArray, t, U', L, E, ce, hT, X', hL, e1, e2, hq, hce, hcv, vx_cls hW₁ hcl, st⟩
end Runs
section Rows
variable {p : Program} {l : Launch} {e : Env} {R : Room} {s : State} {m : MethodId} {args : Array Value} {below : List Frame} {meth : Method} {c : Code} {H : Heap} {locs : List Loc} {cells slots : Nat} {Q : State → Prop}
variable {mc ms : Nat} {free : Addr → Prop} {A0 A1 : Nat → Prop} {H0 : Heap} {a : Array Value} {pc : Nat} {ls : Array Slot} {st0 rest : List Value}
theorem vx_keep {st₀ t T' : State} {L : List Loc} (h0 : st₀.heap = H) (e1 : T'.heap = t.heap) (hS : va_S A0 H0 H locs) (hA : ∀ q, q < H.size → A1 q → A0 q) (hf : ∀ q, free q → A0 q) (hL : ∀ q ∈ L, free q.base) (hF : va_F A1 st₀ t) :
    H.size ≤ T'.heap.size ∧ (∀ q : Nat, q < H.size → ¬ A1 q → T'.heap[q]? = H[q]?) ∧ va_S A0 H0 T'.heap (locs ++ L) := by
  obtain ⟨hz, hk⟩ := hF
  rw [h0] at hz hk
  exact ⟨by rw [e1]; exact hz, fun q h1 h2 => by rw [e1]; exact hk q h1 h2,
    ⟨Nat.le_trans hS.1 (by rw [e1]; exact hz), fun q h1 h2 => by rw [e1, hk q (Nat.lt_of_lt_of_le h1 hS.1) (fun z => h2 (hA q (Nat.lt_of_lt_of_le h1 hS.1) z))]; exact hS.2.1 q h1 h2, fun q hq => by
      rcases List.mem_append.mp hq with h | h
      · exact hS.2.2 q h
      · exact hf _ (hL q h)⟩⟩
theorem vx_calli {S SX : Type} {post : Int32 → S → Prop} {px : SX → Prop} {B : S → State → Prop} {BX : String → SX → State → Prop} {AX : Nat → Prop} (hr : vx_Run p l e R s m args below meth c H locs cells slots mc ms (F0 m pc ls st0) rest (va_Qi post B A1 a) (vx_X px BX AX) free) (hS : va_S A0 H0 H locs) (hA : ∀ q, q < H.size → A1 q → A0 q) (hf : ∀ q, free q → A0 q) (hAX : ∀ q, q < H.size → AX q → A0 q)
    (kx : ∀ (E : String) (ce : Cell) (q9 : Addr) (u : SX) (t : State) (H1 : Heap) (locs1 : List Loc), t.heap = H1 → s.vm.Alike t.vm → px u → BX E u t → H.size ≤ H1.size → (∀ q : Nat, q < H.size → ¬ AX q → H1[q]? = H[q]?) → va_S A0 H0 H1 locs1 → H1[q9]? = some ce → ce.vm = .none → s.vm.findClass E = some ce.cls → vx_W p l e R s m args below meth c H1 locs1 (cells + mc) (slots + ms) Q (F0 m pc ls rest) q9)
    (kk : ∀ (r : Int32) (u : S) (t : State) (H1 : Heap) (locs1 : List Loc), t.heap = H1 → s.vm.Alike t.vm → post r u → B u t → H.size ≤ H1.size → (∀ q : Nat, q < H.size → ¬ A1 q → H1[q]? = H[q]?) → va_S A0 H0 H1 locs1 → W p l e R s m args below meth c H1 locs1 (cells + mc) (slots + ms) Q (F0 m (pc + 3) ls (.int r :: rest))) : W p l e R s m args below meth c H locs cells slots Q (F0 m pc ls st0) := by
  intro T hT X
  rcases hr T hT X with ⟨v, st₀, t, T', L, h0, X', hL, e1, e2, ⟨⟨r, u, hv, hp, hb⟩, hF⟩, st⟩ | ⟨q, st₀, t, T', L, E, ce, h0, X', hL, e1, e2, ⟨u, hp, hb, hF⟩, hce, hcv, hcl, st⟩
  · cases hv
    obtain ⟨k1, k2, k3⟩ := vx_keep h0 e1 hS hA hf hL hF
    obtain ⟨t2, a1, b1⟩ := kk r u t T'.heap (locs ++ L) e1.symm (by rw [← e2]; exact X'.warmed.alike) hp hb k1 k2 k3 T' rfl X'
    exact ⟨t2, st t2 a1, b1⟩
  · obtain ⟨k1, k2, k3⟩ := vx_keep h0 e1 hS hAX hf hL hF
    obtain ⟨t2, a1, b1⟩ := kx E ce q u t T'.heap (locs ++ L) e1.symm (by rw [← e2]; exact X'.warmed.alike) hp hb k1 k2 k3 (by rw [e1]; exact hce) hcv hcl T' rfl X'
    exact ⟨t2, st.trans a1, b1⟩
theorem vx_calll {S SX : Type} {post : Int64 → S → Prop} {px : SX → Prop} {B : S → State → Prop} {BX : String → SX → State → Prop} {AX : Nat → Prop} (hr : vx_Run p l e R s m args below meth c H locs cells slots mc ms (F0 m pc ls st0) rest (va_Ql post B A1 a) (vx_X px BX AX) free) (hS : va_S A0 H0 H locs) (hA : ∀ q, q < H.size → A1 q → A0 q) (hf : ∀ q, free q → A0 q) (hAX : ∀ q, q < H.size → AX q → A0 q)
    (kx : ∀ (E : String) (ce : Cell) (q9 : Addr) (u : SX) (t : State) (H1 : Heap) (locs1 : List Loc), t.heap = H1 → s.vm.Alike t.vm → px u → BX E u t → H.size ≤ H1.size → (∀ q : Nat, q < H.size → ¬ AX q → H1[q]? = H[q]?) → va_S A0 H0 H1 locs1 → H1[q9]? = some ce → ce.vm = .none → s.vm.findClass E = some ce.cls → vx_W p l e R s m args below meth c H1 locs1 (cells + mc) (slots + ms) Q (F0 m pc ls rest) q9)
    (kk : ∀ (r : Int64) (u : S) (t : State) (H1 : Heap) (locs1 : List Loc), t.heap = H1 → s.vm.Alike t.vm → post r u → B u t → H.size ≤ H1.size → (∀ q : Nat, q < H.size → ¬ A1 q → H1[q]? = H[q]?) → va_S A0 H0 H1 locs1 → W p l e R s m args below meth c H1 locs1 (cells + mc) (slots + ms) Q (F0 m (pc + 3) ls (.long r :: rest))) : W p l e R s m args below meth c H locs cells slots Q (F0 m pc ls st0) := by
  intro T hT X
  rcases hr T hT X with ⟨v, st₀, t, T', L, h0, X', hL, e1, e2, ⟨⟨r, u, hv, hp, hb⟩, hF⟩, st⟩ | ⟨q, st₀, t, T', L, E, ce, h0, X', hL, e1, e2, ⟨u, hp, hb, hF⟩, hce, hcv, hcl, st⟩
  · cases hv
    obtain ⟨k1, k2, k3⟩ := vx_keep h0 e1 hS hA hf hL hF
    obtain ⟨t2, a1, b1⟩ := kk r u t T'.heap (locs ++ L) e1.symm (by rw [← e2]; exact X'.warmed.alike) hp hb k1 k2 k3 T' rfl X'
    exact ⟨t2, st t2 a1, b1⟩
  · obtain ⟨k1, k2, k3⟩ := vx_keep h0 e1 hS hAX hf hL hF
    obtain ⟨t2, a1, b1⟩ := kx E ce q u t T'.heap (locs ++ L) e1.symm (by rw [← e2]; exact X'.warmed.alike) hp hb k1 k2 k3 (by rw [e1]; exact hce) hcv hcl T' rfl X'
    exact ⟨t2, st.trans a1, b1⟩
theorem vx_callf {S SX : Type} {post : UInt32 → S → Prop} {px : SX → Prop} {B : S → State → Prop} {BX : String → SX → State → Prop} {AX : Nat → Prop} (hr : vx_Run p l e R s m args below meth c H locs cells slots mc ms (F0 m pc ls st0) rest (va_Qf post B A1 a) (vx_X px BX AX) free) (hS : va_S A0 H0 H locs) (hA : ∀ q, q < H.size → A1 q → A0 q) (hf : ∀ q, free q → A0 q) (hAX : ∀ q, q < H.size → AX q → A0 q)
    (kx : ∀ (E : String) (ce : Cell) (q9 : Addr) (u : SX) (t : State) (H1 : Heap) (locs1 : List Loc), t.heap = H1 → s.vm.Alike t.vm → px u → BX E u t → H.size ≤ H1.size → (∀ q : Nat, q < H.size → ¬ AX q → H1[q]? = H[q]?) → va_S A0 H0 H1 locs1 → H1[q9]? = some ce → ce.vm = .none → s.vm.findClass E = some ce.cls → vx_W p l e R s m args below meth c H1 locs1 (cells + mc) (slots + ms) Q (F0 m pc ls rest) q9)
    (kk : ∀ (r : UInt32) (u : S) (t : State) (H1 : Heap) (locs1 : List Loc), t.heap = H1 → s.vm.Alike t.vm → post r u → B u t → H.size ≤ H1.size → (∀ q : Nat, q < H.size → ¬ A1 q → H1[q]? = H[q]?) → va_S A0 H0 H1 locs1 → W p l e R s m args below meth c H1 locs1 (cells + mc) (slots + ms) Q (F0 m (pc + 3) ls (.float r :: rest))) : W p l e R s m args below meth c H locs cells slots Q (F0 m pc ls st0) := by
  intro T hT X
  rcases hr T hT X with ⟨v, st₀, t, T', L, h0, X', hL, e1, e2, ⟨⟨r, u, hv, hp, hb⟩, hF⟩, st⟩ | ⟨q, st₀, t, T', L, E, ce, h0, X', hL, e1, e2, ⟨u, hp, hb, hF⟩, hce, hcv, hcl, st⟩
  · cases hv
    obtain ⟨k1, k2, k3⟩ := vx_keep h0 e1 hS hA hf hL hF
    obtain ⟨t2, a1, b1⟩ := kk r u t T'.heap (locs ++ L) e1.symm (by rw [← e2]; exact X'.warmed.alike) hp hb k1 k2 k3 T' rfl X'
    exact ⟨t2, st t2 a1, b1⟩
  · obtain ⟨k1, k2, k3⟩ := vx_keep h0 e1 hS hAX hf hL hF
    obtain ⟨t2, a1, b1⟩ := kx E ce q u t T'.heap (locs ++ L) e1.symm (by rw [← e2]; exact X'.warmed.alike) hp hb k1 k2 k3 (by rw [e1]; exact hce) hcv hcl T' rfl X'
    exact ⟨t2, st.trans a1, b1⟩
theorem vx_calld {S SX : Type} {post : UInt64 → S → Prop} {px : SX → Prop} {B : S → State → Prop} {BX : String → SX → State → Prop} {AX : Nat → Prop} (hr : vx_Run p l e R s m args below meth c H locs cells slots mc ms (F0 m pc ls st0) rest (va_Qd post B A1 a) (vx_X px BX AX) free) (hS : va_S A0 H0 H locs) (hA : ∀ q, q < H.size → A1 q → A0 q) (hf : ∀ q, free q → A0 q) (hAX : ∀ q, q < H.size → AX q → A0 q)
    (kx : ∀ (E : String) (ce : Cell) (q9 : Addr) (u : SX) (t : State) (H1 : Heap) (locs1 : List Loc), t.heap = H1 → s.vm.Alike t.vm → px u → BX E u t → H.size ≤ H1.size → (∀ q : Nat, q < H.size → ¬ AX q → H1[q]? = H[q]?) → va_S A0 H0 H1 locs1 → H1[q9]? = some ce → ce.vm = .none → s.vm.findClass E = some ce.cls → vx_W p l e R s m args below meth c H1 locs1 (cells + mc) (slots + ms) Q (F0 m pc ls rest) q9)
    (kk : ∀ (r : UInt64) (u : S) (t : State) (H1 : Heap) (locs1 : List Loc), t.heap = H1 → s.vm.Alike t.vm → post r u → B u t → H.size ≤ H1.size → (∀ q : Nat, q < H.size → ¬ A1 q → H1[q]? = H[q]?) → va_S A0 H0 H1 locs1 → W p l e R s m args below meth c H1 locs1 (cells + mc) (slots + ms) Q (F0 m (pc + 3) ls (.double r :: rest))) : W p l e R s m args below meth c H locs cells slots Q (F0 m pc ls st0) := by
  intro T hT X
  rcases hr T hT X with ⟨v, st₀, t, T', L, h0, X', hL, e1, e2, ⟨⟨r, u, hv, hp, hb⟩, hF⟩, st⟩ | ⟨q, st₀, t, T', L, E, ce, h0, X', hL, e1, e2, ⟨u, hp, hb, hF⟩, hce, hcv, hcl, st⟩
  · cases hv
    obtain ⟨k1, k2, k3⟩ := vx_keep h0 e1 hS hA hf hL hF
    obtain ⟨t2, a1, b1⟩ := kk r u t T'.heap (locs ++ L) e1.symm (by rw [← e2]; exact X'.warmed.alike) hp hb k1 k2 k3 T' rfl X'
    exact ⟨t2, st t2 a1, b1⟩
  · obtain ⟨k1, k2, k3⟩ := vx_keep h0 e1 hS hAX hf hL hF
    obtain ⟨t2, a1, b1⟩ := kx E ce q u t T'.heap (locs ++ L) e1.symm (by rw [← e2]; exact X'.warmed.alike) hp hb k1 k2 k3 (by rw [e1]; exact hce) hcv hcl T' rfl X'
    exact ⟨t2, st.trans a1, b1⟩
theorem vx_callv {S SX : Type} {post : S → Prop} {px : SX → Prop} {B : S → State → Prop} {BX : String → SX → State → Prop} {AX : Nat → Prop} (hr : vx_Run p l e R s m args below meth c H locs cells slots mc ms (F0 m pc ls st0) rest (va_Qv post B A1 a) (vx_X px BX AX) free) (hS : va_S A0 H0 H locs) (hA : ∀ q, q < H.size → A1 q → A0 q) (hf : ∀ q, free q → A0 q) (hAX : ∀ q, q < H.size → AX q → A0 q)
    (kx : ∀ (E : String) (ce : Cell) (q9 : Addr) (u : SX) (t : State) (H1 : Heap) (locs1 : List Loc), t.heap = H1 → s.vm.Alike t.vm → px u → BX E u t → H.size ≤ H1.size → (∀ q : Nat, q < H.size → ¬ AX q → H1[q]? = H[q]?) → va_S A0 H0 H1 locs1 → H1[q9]? = some ce → ce.vm = .none → s.vm.findClass E = some ce.cls → vx_W p l e R s m args below meth c H1 locs1 (cells + mc) (slots + ms) Q (F0 m pc ls rest) q9)
    (kk : ∀ (u : S) (t : State) (H1 : Heap) (locs1 : List Loc), t.heap = H1 → s.vm.Alike t.vm → post u → B u t → H.size ≤ H1.size → (∀ q : Nat, q < H.size → ¬ A1 q → H1[q]? = H[q]?) → va_S A0 H0 H1 locs1 → W p l e R s m args below meth c H1 locs1 (cells + mc) (slots + ms) Q (F0 m (pc + 3) ls (rest))) : W p l e R s m args below meth c H locs cells slots Q (F0 m pc ls st0) := by
  intro T hT X
  rcases hr T hT X with ⟨v, st₀, t, T', L, h0, X', hL, e1, e2, ⟨⟨u, hv, hp, hb⟩, hF⟩, st⟩ | ⟨q, st₀, t, T', L, E, ce, h0, X', hL, e1, e2, ⟨u, hp, hb, hF⟩, hce, hcv, hcl, st⟩
  · cases hv
    obtain ⟨k1, k2, k3⟩ := vx_keep h0 e1 hS hA hf hL hF
    obtain ⟨t2, a1, b1⟩ := kk u t T'.heap (locs ++ L) e1.symm (by rw [← e2]; exact X'.warmed.alike) hp hb k1 k2 k3 T' rfl X'
    exact ⟨t2, st t2 a1, b1⟩
  · obtain ⟨k1, k2, k3⟩ := vx_keep h0 e1 hS hAX hf hL hF
    obtain ⟨t2, a1, b1⟩ := kx E ce q u t T'.heap (locs ++ L) e1.symm (by rw [← e2]; exact X'.warmed.alike) hp hb k1 k2 k3 (by rw [e1]; exact hce) hcv hcl T' rfl X'
    exact ⟨t2, st.trans a1, b1⟩
end Rows
section Ends
variable {p : Program} {l : Launch} {e : Env} {R : Room} {s : State} {m : MethodId} {args : Array Value} {below : List Frame} {meth : Method} {c : Code} {H : Heap} {locs : List Loc} {cells slots : Nat} {Q : State → Prop}
variable {mc ms : Nat} {free : Addr → Prop} {A0 A1 : Nat → Prop} {H0 : Heap} {a : Array Value} {ls : Array Slot} {st0 rest : List Value}
variable {Qc : Array Value → State → Outcome → State → Prop} {XC : String → State → State → Prop}
/-- what a body that may throw owes at its end -/
def vx_MQ (below : List Frame) (Qc : Array Value → State → Outcome → State → Prop) (XC : String → State → State → Prop) (a : Array Value) (s : State) (mc ms : Nat) (free : Addr → Prop) : State → Prop := fun t =>
  ∃ o, t.status = .running ∧ Ended t below o ∧ vx_Q Qc XC mc ms free a s o t
theorem vx_ret {g : JFrame} {mc ms : Nat} (k : W p l e R s m args below meth c H locs cells slots (MQ below Qc args s mc ms free) g) : W p l e R s m args below meth c H locs cells slots (vx_MQ below Qc XC args s mc ms free) g := by
  intro T hT X
  obtain ⟨t, a1, o, b1, b2, b3, b4⟩ := k T hT X
  exact ⟨t, a1, o, b1, b2, Or.inl ⟨b3, b4⟩⟩
/-- not caught here: it goes on to the caller -/
theorem vx_widen {g : JFrame} {q : Addr} {k n : Nat} (h1 : cells ≤ k) (h2 : slots ≤ n) (kk : vx_W p l e R s m args below meth c H locs k n Q g q) : vx_W p l e R s m args below meth c H locs cells slots Q g q := fun T hT X => kk T hT (stand_widen X h1 h2)
theorem vx_out {pc : Nat} {E : String} {ce : Cell} {q : Addr} {mc ms : Nat} (hout : ∀ x ∈ c.exceptionTable.toList, covers x pc = false) (hlocks : meth.locks = false) (hcell : H[q]? = some ce) (hv : ce.vm = .none) (hcl : s.vm.findClass E = some ce.cls)
    (hx : ∀ t : State, t.heap = H → s.vm.Alike t.vm → XC E s t) (hf : ∀ z ∈ locs, free z.base) (hc : cells ≤ mc) (hs : slots ≤ ms) :
    vx_W p l e R s m args below meth c H locs cells slots (vx_MQ below Qc XC args s mc ms free) (F0 m pc ls rest) q := by
  intro T hT X
  obtain ⟨st1, hrun, hend, hW, hsm⟩ := X.leaveThrown q (g := F0 m pc ls rest) rfl rfl rfl hout hlocks
  have hcell9 : (T.setFrames (.throwing q :: below)).heap[q]? = some ce := by
    show T.heap[q]? = some ce
    rw [hT]; exact hcell
  exact ⟨_, st1, .threw q, hrun, hend, Or.inr ⟨q, rfl, E, ce, locs, hx _ hT hW.alike, hcell9, hv, hcl, hW, hsm.mono hc hs, hf⟩⟩
theorem vx_frame {U : State} {k n : Nat} (h : s.sameButNew ({ U with vm := s.vm } : State) locs k n) : s.heap.size ≤ U.heap.size ∧ ∀ q : Nat, q < s.heap.size → (∀ z ∈ locs, z.base ≠ q) → U.heap[q]? = s.heap[q]? := by
  obtain ⟨-, h2, -, -, -, h6⟩ := h
  refine ⟨h2, fun q hq hz => ?_⟩
  obtain ⟨c9, e1, e2, e3, e4⟩ := h6 q _ (Array.getElem?_eq_getElem hq)
  have hs : c9.slots = (s.heap[q]).slots := Array.ext_getElem? fun i => e4 i fun hm => hz _ hm rfl
  have h9 : c9 = s.heap[q] := by
    rw [hs] at e2
    exact e2
  have e5 : U.heap[q]? = some c9 := e1
  rw [e5, h9, Array.getElem?_eq_getElem hq]
/-- the words of a throw but the four that speak of the heap -/
def vx_no (w : Cond) : Bool := decide (w ≠ .isRef (.static Bundle.tN "UNASSIGNED_STACK" Bundle.steD)) && decide (w ≠ .isRef (.static Bundle.tN "SUPPRESSED_SENTINEL" Bundle.listD)) && decide (w ≠ .laysStatic Bundle.tN "UNASSIGNED_STACK" Bundle.steD) && decide (w ≠ .laysStatic Bundle.tN "SUPPRESSED_SENTINEL" Bundle.listD)
def vx_at0 (own : String) (ic : Nat) (X : String) (names : List String) : List Cond := (Bundle.ownAtoms0 own ic X names).filter vx_no
def vx_atS (own : String) (ic : Nat) (X : String) (names : List String) : List Cond := (Bundle.ownAtoms own ic X names).filter vx_no
/-- a word that the tables alone decide, or a good one -/
def vx_ot (w : Cond) : Bool := w.onTables || goodWord w
theorem vx_ot_at {args a' : Array Value} {s U : State} {w : Cond} (hW : s.WarmedH U.vm) (hvm : s.vm = U.vm) (hg : vx_ot w = true) (h : w.before args s = true) : w.before a' U = true := by
  simp only [vx_ot, Bool.or_eq_true] at hg
  rcases hg with hg | hg
  · exact va_tabs hg hvm h
  · exact word_at hW (good_of_word hg) h
/-- a list's words: the good ones out of the method's own list, the others by premises of their own -/
theorem vx_hat {args : Array Value} {s : State} {L B : List Cond} (h1 : ∀ w ∈ L.filter goodWord, w.before args s = true) (h2 : ∀ w ∈ L.filter (fun w => !goodWord w), w ∈ B) (h3 : ∀ w ∈ B, w.before args s = true) : ∀ w ∈ L, w.before args s = true := by
  intro w hw
  by_cases g : goodWord w = true
  · exact h1 w (List.mem_filter.mpr ⟨hw, g⟩)
  · refine h3 w (h2 w (List.mem_filter.mpr ⟨hw, ?_⟩))
    show (!goodWord w) = true
    cases hgw : goodWord w
    · rfl
    · exact absurd hgw g
theorem vx_c {args : Array Value} {s : State} {w : Cond} {B : List Cond} (h : w.before args s = true) (t : ∀ w ∈ B, w.before args s = true) : ∀ w' ∈ w :: B, w'.before args s = true := fun w' h' => (List.mem_cons.mp h').elim (fun e => by rw [e]; exact h) (t w')
theorem vx_n {args : Array Value} {s : State} : ∀ w ∈ ([] : List Cond), w.before args s = true := fun _ h => nomatch h
theorem vx_own {args : Array Value} {s : State} {L : List Cond} (h1 : ∀ w ∈ L.filter vx_no, w.before args s = true)
    (hU : (Cond.isRef (.static Bundle.tN "UNASSIGNED_STACK" Bundle.steD)).before args s = true) (hN : (Cond.isRef (.static Bundle.tN "SUPPRESSED_SENTINEL" Bundle.listD)).before args s = true)
    (lU : (Cond.laysStatic Bundle.tN "UNASSIGNED_STACK" Bundle.steD).before args s = true) (lN : (Cond.laysStatic Bundle.tN "SUPPRESSED_SENTINEL" Bundle.listD).before args s = true) : ∀ w ∈ L, w.before args s = true := by
  intro w hw
  by_cases e1 : w = .isRef (.static Bundle.tN "UNASSIGNED_STACK" Bundle.steD)
  · rw [e1]; exact hU
  · by_cases e2 : w = .isRef (.static Bundle.tN "SUPPRESSED_SENTINEL" Bundle.listD)
    · rw [e2]; exact hN
    · by_cases e3 : w = .laysStatic Bundle.tN "UNASSIGNED_STACK" Bundle.steD
      · rw [e3]; exact lU
      · by_cases e4 : w = .laysStatic Bundle.tN "SUPPRESSED_SENTINEL" Bundle.listD
        · rw [e4]; exact lN
        · exact h1 w (List.mem_filter.mpr ⟨hw, by unfold vx_no; rw [decide_eq_true e1, decide_eq_true e2, decide_eq_true e3, decide_eq_true e4]; rfl⟩)
/-- where a static field lies, its class's statics cell in H -/
def vx_L (C n d : String) (A : Nat → Prop) (U : State) (H : Heap) : Prop := ∃ (c : ClassId) (k : Class) (i : Nat) (f : Field) (a : Nat) (cell : Cell), U.vm.findClass C = some c ∧ U.fieldFound? C n d = some (c, k, i, f) ∧ f.isStatic = true ∧ k.statics = some a ∧ H[a]? = some cell ∧ cell.vm.isStatics = true ∧ cell.cls = c ∧ f.slot < cell.slots.size ∧ k.staticTypes[f.slot]? = some f.type ∧ ¬ A a
theorem vx_L.moved {C n d : String} {A : Nat → Prop} {u U : State} {H : Heap} (hvm : u.vm.Alike U.vm) (h : vx_L C n d A u H) : vx_L C n d A U H := by
  obtain ⟨c, k, i, f, a, cell, h1, h2, h3, h4, h5, h6, h7, h8, h9, h10⟩ := h
  obtain ⟨k', hi', he⟩ := State.fieldFound?_setVm hvm h2
  exact ⟨c, k', i, f, a, cell, by rw [hvm.findClass]; exact h1, hi', h3, by rw [he]; exact h4, h5, h6, h7, h8, by rw [he]; exact h9, h10⟩
theorem vx_L.kept {C n d : String} {A : Nat → Prop} {U : State} {H H1 : Heap} (h : vx_L C n d A U H) (hq : ∀ a : Nat, a < H.size → ¬ A a → H1[a]? = H[a]?) : vx_L C n d A U H1 := by
  obtain ⟨c, k, i, f, a, cell, h1, h2, h3, h4, h5, h6, h7, h8, h9, h10⟩ := h
  exact ⟨c, k, i, f, a, cell, h1, h2, h3, h4, by rw [hq a (Array.getElem?_eq_some_iff.mp h5).1 h10]; exact h5, h6, h7, h8, h9, h10⟩
theorem vx_L.narrow {C n d : String} {A B : Nat → Prop} {U : State} {H : Heap} (h : vx_L C n d A U H) (hAB : ∀ q, B q → A q) : vx_L C n d B U H := by
  obtain ⟨c, k, i, f, a, cell, h1, h2, h3, h4, h5, h6, h7, h8, h9, h10⟩ := h
  exact ⟨c, k, i, f, a, cell, h1, h2, h3, h4, h5, h6, h7, h8, h9, fun z => h10 (hAB _ z)⟩
theorem vx_L.word {C n d : String} {A : Nat → Prop} {s : State} {args : Array Value} (h : vx_L C n d A s s.heap) : (Cond.laysStatic C n d).before args s = true := by
  obtain ⟨c, k, i, f, a, cell, h1, h2, h3, h4, h5, h6, h7, h8, h9, -⟩ := h
  show (Cond.laysStatic C n d).holds args s none s [] = true
  exact Cond.laysStatic_of h1 h2 h3 h4 h5 h6 h7 h8 h9
/-- .. and what it holds: null or some reference -/
def vx_Zq (C n d : String) (A : Nat → Prop) (U : State) (H : Heap) : Prop := va_Zq C n d A U H ∧ vx_L C n d A U H
theorem vx_Zq.moved {C n d : String} {A : Nat → Prop} {u U : State} {H : Heap} (hvm : u.vm.Alike U.vm) (h : vx_Zq C n d A u H) : vx_Zq C n d A U H := ⟨va_Zq.moved hvm h.1, vx_L.moved hvm h.2⟩
theorem vx_Zq.kept {C n d : String} {A : Nat → Prop} {U : State} {H H1 : Heap} (h : vx_Zq C n d A U H) (hq : ∀ a : Nat, a < H.size → ¬ A a → H1[a]? = H[a]?) : vx_Zq C n d A U H1 := ⟨va_Zq.kept h.1 hq, vx_L.kept h.2 hq⟩
theorem vx_Zq.narrow {C n d : String} {A B : Nat → Prop} {U : State} {H : Heap} (h : vx_Zq C n d A U H) (hAB : ∀ q, B q → A q) : vx_Zq C n d B U H := ⟨va_Zq.narrow h.1 hAB, vx_L.narrow h.2 hAB⟩
theorem vx_Zqof {args : Array Value} {s : State} {C n d : String} {A : Nat → Prop} (hl : (Cond.laysStatic C n d).before args s = true) (hini : (Cond.initialized C).before args s = true) (h : (Cond.isRef (.static C n d)).before args s = true) (hA : ∀ a : Nat, a < s.heap.size → ¬ A a) : vx_Zq C n d A s s.heap := by
  refine ⟨va_Zqof hl hini h hA, ?_⟩
  obtain ⟨c, k, i, f, a, cell, h1, h2, h3, h4, h5, h6, h7, h8, h9⟩ := Cond.laysStatic_spec hl
  exact ⟨c, k, i, f, a, cell, h1, h2, h3, h4, h5, h6, h7, h8, h9, hA a (Array.getElem?_eq_some_iff.mp h5).1⟩
theorem vx_isRef {C n d : String} {v : Value} {A : Nat → Prop} {s : State} {args : Array Value} (h : va_Z C n d v A s s.heap) (hv : v.isRef = true) : (Cond.isRef (.static C n d)).before args s = true := by
  obtain ⟨cf, kf, fi, f, a, cell, h1, h2, h3, h4, h5, h6, h7, -⟩ := h
  have he : (Term.static C n d).eval args s none [] s = some v := by
    simp [Term.eval, State.fieldNamed?, h1, h2, h4, h5, h6, h7]
  simp only [Cond.before, Cond.holds, Cond.value, he]
  cases v <;> simp_all [Value.isRef]
theorem vx_isRefq {C n d : String} {A : Nat → Prop} {s : State} {args : Array Value} (h : va_Zq C n d A s s.heap) : (Cond.isRef (.static C n d)).before args s = true := by
  rcases h with h | ⟨t, h⟩
  · exact vx_isRef h rfl
  · exact vx_isRef h rfl
/-- the same frame, seen from here: as if the method were called anew in this heap -/
theorem vx_rebase {T : State} (X : Stand p l e R s m args below meth c T locs cells slots) {R' : Room} (hf : R'.frames ≤ R.frames) (hl : R'.locals ≤ R.locals) (hc : cells + R'.cells ≤ R.cells) (hs : slots + R'.slots ≤ R.slots) :
    Stand p l e R' ((T.setVm s.vm).setFrames (.invoking m args :: below)) m args below meth c T [] 0 0 := by
  have htop : (T.setVm s.vm).topJava?.isSome := X.here.top
  have hF : ((T.setVm s.vm).setFrames (.invoking m args :: below)).frames = .invoking m args :: below := State.frames_setFrames _ (State.cur_lt_of_top htop)
  obtain ⟨g₀, hg0⟩ := Option.isSome_iff_exists.mp htop
  obtain ⟨r, hr⟩ := State.topJava?_eq_some.mp hg0
  have hl9 : e.platform.stackLimits (T.setVm s.vm).me = e.platform.stackLimits s.me := X.limits
  have hb9 : (T.setVm s.vm).me.stackBytes = s.me.stackBytes := X.bytes
  refine ⟨X.admits, X.cas, X.clock, hF, ?_, X.hears, X.method, X.code, X.here, X.tail, X.warmed, ?_, ?_, ?_⟩
  · have h := X.room
    have hU : ((T.setVm s.vm).setFrames (.invoking m args :: below)).localsInUse = s.localsInUse := by
      rw [State.localsInUse_invoking hF (meth := meth) (c := c) X.method X.code, State.localsInUse_invoking X.frames X.method X.code]
    simp only [State.hasRoom, Bool.and_eq_true, decide_eq_true_eq] at h ⊢
    obtain ⟨⟨⟨⟨h1, h2, h3, h4, h5, h6⟩, h7⟩, h8⟩, h9⟩ := h
    rw [X.frames, List.length_cons] at h2 h3
    have q1 := X.heapSize
    have q2 := X.used
    simp only [hF, hU, List.length_cons, State.stackLimits_setFrames, State.stackBytes_setFrames, hl9, hb9]
    refine ⟨⟨⟨⟨by omega, by omega, by omega, by omega, by omega, h6⟩, ?_⟩, ?_⟩, X.book⟩
    · show T.heap.size + R'.cells ≤ e.platform.maxCells
      omega
    · show T.slotsUsed + R'.slots ≤ e.platform.maxSlots
      omega
  · rw [State.stackLimits_setFrames]; rfl
  · rw [State.stackBytes_setFrames]; rfl
  · refine ⟨?_, Nat.le_refl _, Nat.le_refl _, ?_, ?_, fun a c9 h9 => ⟨c9, h9, rfl, rfl, fun _ _ => rfl⟩⟩
    · obtain ⟨t, ht, -⟩ := State.frames_cons hr
      show T.setVm s.vm = { ((T.setVm s.vm).setFrames (.invoking m args :: below)).setFrames (T.setVm s.vm).frames with heap := T.heap, slotsUsed := T.slotsUsed }
      rw [State.setFrames_setFrames, State.setFrames_self ht]
      rfl
    · show T.slotsUsed = T.slotsUsed + ((T.heap.toList.drop T.heap.size).map (·.slots.size)).sum
      rw [List.drop_eq_nil_of_le (Nat.le_of_eq Array.length_toList)]
      rfl
    · show ((T.heap.toList.drop T.heap.size).map (·.slots.size)).sum ≤ 0
      rw [List.drop_eq_nil_of_le (Nat.le_of_eq Array.length_toList)]
      exact Nat.le_refl _
/-- 'throw new E()': new; dup; invokespecial; athrow -/
theorem vx_throw0 {cc : ByteArray} {pc : Nat} (hexec : p.tables.exec = Jvm.exec) (hb : c.code = cc) (hl : l.stackTraces = false) {own cls : String} {names : List String} {ik ic mc ms : Nat} {A : Nat → Prop}
    (hown : s.vm.findClass own = some m.cls) (hcls : Bundle.fit cls = true) (hnames : ∀ n ∈ names, Bundle.fit n = true)
    (hk : (Cond.classLink own ik cls).before args s = true) (hini : (Cond.initialized cls).before args s = true) (hat : ∀ w ∈ vx_at0 own ic cls names, w.before args s = true)
    (hgood : ∀ w ∈ Cond.classLink own ik cls :: Cond.initialized cls :: vx_at0 own ic cls names, vx_ot w = true)
    (hU : vx_Zq Bundle.tN "UNASSIGNED_STACK" Bundle.steD A s s.heap) (hN : vx_Zq Bundle.tN "SUPPRESSED_SENTINEL" Bundle.listD A s s.heap) (hS : va_S A s.heap H locs) (hsize : ls.size = c.maxLocals)
    (d0 : decode cc pc = .ok (.new ik, 3)) (d3 : decode cc (pc + 3) = .ok (.dup, 1)) (d4 : decode cc (pc + 4) = .ok (.invokespecial ic, 3)) (d7 : decode cc (pc + 7) = .ok (.athrow, 1))
    (hout : ∀ x ∈ c.exceptionTable.toList, covers x (pc + 7) = false)
    (hRframes : names.length + 3 < R.frames) (hRlocals : (rest.map fun v => v.category).sum + (13 * (names.length + 1) + 42) ≤ R.locals) (hRcells : cells + 1 ≤ R.cells) (hRslots : slots + 6 ≤ R.slots) (hlocks : meth.locks = false)
    (hx : ∀ t : State, s.vm.Alike t.vm → H.size ≤ t.heap.size → (∀ q : Nat, q < H.size → t.heap[q]? = H[q]?) → XC cls s t)
    (hf : ∀ z ∈ locs, free z.base) (hc : cells + 1 ≤ mc) (hs : slots + 6 ≤ ms) :
    W p l e R s m args below meth c H locs cells slots (vx_MQ below Qc XC args s mc ms free) (F0 m pc ls rest) := by
  intro T hT X
  have htr : e.platform.stackTraces = false := (show e.platform.stackTraces = l.stackTraces by rw [X.admits.platform]).trans hl
  have Y := vx_rebase X (R' := { frames := R.frames, locals := R.locals, cells := 1, slots := 6 }) (Nat.le_refl _) (Nat.le_refl _) hRcells hRslots
  obtain ⟨s', hA⟩ : ∃ z, z = (T.setVm s.vm).setFrames (.invoking m args :: below) := ⟨_, rfl⟩
  rw [← hA] at Y
  have hvm : s'.vm = s.vm := by rw [hA]; rfl
  have hhp : s'.heap = H := by rw [hA]; exact hT
  have hW0 : s.WarmedH s'.vm := by rw [hvm]; exact State.WarmedH.refl s
  have hat' : ∀ w ∈ vx_at0 own ic cls names, w.before args s' = true := fun w hw => vx_ot_at hW0 hvm.symm (hgood w (List.mem_cons_of_mem _ (List.mem_cons_of_mem _ hw))) (hat w hw)
  have hk' : (Cond.classLink own ik cls).before args s' = true := vx_ot_at hW0 hvm.symm (hgood _ List.mem_cons_self) hk
  have hini' : (Cond.initialized cls).before args s' = true := vx_ot_at hW0 hvm.symm (hgood _ (List.mem_cons_of_mem _ List.mem_cons_self)) hini
  have hU' : vx_Zq Bundle.tN "UNASSIGNED_STACK" Bundle.steD A s' s'.heap := by rw [hhp]; exact vx_Zq.moved hW0.alike (hU.kept hS.2.1)
  have hN' : vx_Zq Bundle.tN "SUPPRESSED_SENTINEL" Bundle.listD A s' s'.heap := by rw [hhp]; exact vx_Zq.moved hW0.alike (hN.kept hS.2.1)
  have h : ∀ w ∈ Bundle.ownAtoms0 own ic cls names, w.before args s' = true := vx_own hat' (vx_isRefq hU'.1) (vx_isRefq hN'.1) hU'.2.word hN'.2.word
  have hown' : s'.vm.findClass own = some m.cls := by rw [hvm]; exact hown
  have hins : (Cond.instantiable cls 6).before args s' = true := h _ (by simp [Bundle.ownAtoms0])
  obtain ⟨vm₁, cX, kX, hfX, hkX, -, -, X₁, st1⟩ := Y.newCold hexec (own := own) (C := cls) (index := ik) (n := 6) hown' hk' hins hini'
    (g := F0 m pc ls rest) rfl (by rw [hb]; exact d0) (Nat.le_refl _) (Nat.le_refl _)
  generalize hT1 : (T.setVm vm₁).pushCell { cls := cX, slots := kX.instanceTypes.map defaultValue, vm := .none } = T1 at X₁ st1
  have hcat : (Value.ref T.heap.size).category = 1 := rfl
  have hcellA : T1.heap[T.heap.size]? = some (freshCell cX kX) := by rw [← hT1]; exact State.heap_pushCell_size _ _
  have d3' : decode c.code (pc + 3) = .ok (.dup, 1) := by rw [hb]; exact d3
  obtain ⟨U, hsteps, hrun, hend, hW, hsame, ce, hce, hO⟩ := X₁.ctorThrow0 hexec htr (own := own) (cls := cls) (names := names) (ic := ic) hown' hcls hnames h (fun x hx => nomatch hx) hfX hkX hcellA (by rw [hhp, hT]; exact Nat.le_refl _)
    (g := { method := m, pc := pc + 4, locals := ls, stack := .ref T.heap.size :: .ref T.heap.size :: rest, locked := none }) rfl hsize rfl rfl (rest := rest) rfl
    (by rw [hb]; exact d4) (by rw [hb]; exact d7) hout hRframes (by simp only [List.map_cons, List.sum_cons, hcat]; omega) hlocks
  obtain ⟨f1, f2⟩ := vx_frame hsame
  rw [hhp] at f1 f2
  have hWs : s.WarmedH U.vm := State.WarmedH.trans hW0 hW
  have hcl : s.vm.findClass cls = some ce.cls := by
    have h9 := hO.cls
    rw [hvm] at h9
    exact h9
  have hall : s.sameButNew ({ U with vm := s.vm } : State) locs mc ms := by
    subst hA
    obtain ⟨e1, e2⟩ := hsame
    rw [State.setFrames_setFrames] at e1
    have h2 : (T.setVm s.vm).sameButNew ({ U with vm := s.vm } : State) [] (0 + 1) (0 + 6) := ⟨e1, e2⟩
    have h3 := X.same.trans h2
    rw [List.append_nil] at h3
    exact h3.mono hc hs
  refine ⟨U, ?_, .threw T.heap.size, hrun, hend, Or.inr ⟨T.heap.size, rfl, cls, ce, locs, hx U hWs.alike f1 (fun q hq => f2 q hq (fun z hz => nomatch hz)), hce, hO.vm, hcl, hWs, hall, hf⟩⟩
  refine st1 _ ?_
  show Steps p.tables e below (T1.setTop { method := m, pc := pc + 3, locals := ls, stack := .ref T.heap.size :: rest, locked := none }) _
  jvm_step X₁.here [X₁.here.top, hexec, d3', Value.category]
  exact hsteps
/-- 'throw new E("text")': new; dup; ldc; invokespecial; athrow -/
theorem vx_throwS {cc : ByteArray} {pc : Nat} (hexec : p.tables.exec = Jvm.exec) (hb : c.code = cc) (hl : l.stackTraces = false) {own cls text : String} {names : List String} {ik is ic mc ms sa : Nat} {A : Nat → Prop}
    (hown : s.vm.findClass own = some m.cls) (hcls : Bundle.fit cls = true) (hnames : ∀ n ∈ names, Bundle.fit n = true)
    (hk : (Cond.classLink own ik cls).before args s = true) (hini : (Cond.initialized cls).before args s = true) (hstr : vk_R own is text sa s) (hat : ∀ w ∈ vx_atS own ic cls names, w.before args s = true)
    (hgood : ∀ w ∈ Cond.classLink own ik cls :: Cond.initialized cls :: vx_atS own ic cls names, vx_ot w = true)
    (hU : vx_Zq Bundle.tN "UNASSIGNED_STACK" Bundle.steD A s s.heap) (hN : vx_Zq Bundle.tN "SUPPRESSED_SENTINEL" Bundle.listD A s s.heap) (hS : va_S A s.heap H locs) (hsize : ls.size = c.maxLocals)
    (d0 : decode cc pc = .ok (.new ik, 3)) (d3 : decode cc (pc + 3) = .ok (.dup, 1)) (d4 : decode cc (pc + 4) = .ok (.ldc is, 2)) (d6 : decode cc (pc + 6) = .ok (.invokespecial ic, 3)) (d9 : decode cc (pc + 9) = .ok (.athrow, 1))
    (hout : ∀ x ∈ c.exceptionTable.toList, covers x (pc + 9) = false)
    (hRframes : names.length + 3 < R.frames) (hRlocals : (rest.map fun v => v.category).sum + (13 * (names.length + 1) + 43) ≤ R.locals) (hRcells : cells + 1 ≤ R.cells) (hRslots : slots + 6 ≤ R.slots) (hlocks : meth.locks = false)
    (hx : ∀ t : State, s.vm.Alike t.vm → H.size ≤ t.heap.size → (∀ q : Nat, q < H.size → t.heap[q]? = H[q]?) → XC cls s t)
    (hf : ∀ z ∈ locs, free z.base) (hc : cells + 1 ≤ mc) (hs : slots + 6 ≤ ms) :
    W p l e R s m args below meth c H locs cells slots (vx_MQ below Qc XC args s mc ms free) (F0 m pc ls rest) := by
  intro T hT X
  have htr : e.platform.stackTraces = false := (show e.platform.stackTraces = l.stackTraces by rw [X.admits.platform]).trans hl
  have Y := vx_rebase X (R' := { frames := R.frames, locals := R.locals, cells := 1, slots := 6 }) (Nat.le_refl _) (Nat.le_refl _) hRcells hRslots
  obtain ⟨s', hA⟩ : ∃ z, z = (T.setVm s.vm).setFrames (.invoking m args :: below) := ⟨_, rfl⟩
  rw [← hA] at Y
  have hvm : s'.vm = s.vm := by rw [hA]; rfl
  have hhp : s'.heap = H := by rw [hA]; exact hT
  have hW0 : s.WarmedH s'.vm := by rw [hvm]; exact State.WarmedH.refl s
  have hat' : ∀ w ∈ vx_atS own ic cls names, w.before args s' = true := fun w hw => vx_ot_at hW0 hvm.symm (hgood w (List.mem_cons_of_mem _ (List.mem_cons_of_mem _ hw))) (hat w hw)
  have hk' : (Cond.classLink own ik cls).before args s' = true := vx_ot_at hW0 hvm.symm (hgood _ List.mem_cons_self) hk
  have hini' : (Cond.initialized cls).before args s' = true := vx_ot_at hW0 hvm.symm (hgood _ (List.mem_cons_of_mem _ List.mem_cons_self)) hini
  have hU' : vx_Zq Bundle.tN "UNASSIGNED_STACK" Bundle.steD A s' s'.heap := by rw [hhp]; exact vx_Zq.moved hW0.alike (hU.kept hS.2.1)
  have hN' : vx_Zq Bundle.tN "SUPPRESSED_SENTINEL" Bundle.listD A s' s'.heap := by rw [hhp]; exact vx_Zq.moved hW0.alike (hN.kept hS.2.1)
  have h : ∀ w ∈ Bundle.ownAtoms own ic cls names, w.before args s' = true := vx_own hat' (vx_isRefq hU'.1) (vx_isRefq hN'.1) hU'.2.word hN'.2.word
  have hown' : s'.vm.findClass own = some m.cls := by rw [hvm]; exact hown
  have hins : (Cond.instantiable cls 6).before args s' = true := h _ (by simp [Bundle.ownAtoms])
  obtain ⟨vm₁, cX, kX, hfX, hkX, -, -, X₁, st1⟩ := Y.newCold hexec (own := own) (C := cls) (index := ik) (n := 6) hown' hk' hins hini'
    (g := F0 m pc ls rest) rfl (by rw [hb]; exact d0) (Nat.le_refl _) (Nat.le_refl _)
  generalize hT1 : (T.setVm vm₁).pushCell { cls := cX, slots := kX.instanceTypes.map defaultValue, vm := .none } = T1 at X₁ st1
  have hcat : (Value.ref T.heap.size).category = 1 := rfl
  have hcellA : T1.heap[T.heap.size]? = some (freshCell cX kX) := by rw [← hT1]; exact State.heap_pushCell_size _ _
  have d3' : decode c.code (pc + 3) = .ok (.dup, 1) := by rw [hb]; exact d3
  have d4' : decode c.code (pc + 4) = .ok (.ldc is, 2) := by rw [hb]; exact d4
  have hstr' : vk_R own is text sa s' := vk_R.warm hW0 hstr
  obtain ⟨U, hsteps, hrun, hend, hW, hsame, ce, hce, hO⟩ := X₁.ctorThrowS hexec htr (own := own) (cls := cls) (names := names) (ic := ic) hown' hcls hnames h (fun x hx => nomatch hx) hfX hkX hcellA (by rw [hhp, hT]; exact Nat.le_refl _) (msg := .ref sa) rfl
    (g := { method := m, pc := pc + 6, locals := ls, stack := .ref sa :: .ref T.heap.size :: .ref T.heap.size :: rest, locked := none }) rfl hsize rfl rfl (rest := rest) rfl
    (by rw [hb]; exact d6) (by rw [hb]; exact d9) hout hRframes (by simp only [List.map_cons, List.sum_cons, hcat]; omega) hlocks
  obtain ⟨f1, f2⟩ := vx_frame hsame
  rw [hhp] at f1 f2
  have hWs : s.WarmedH U.vm := State.WarmedH.trans hW0 hW
  have hcl : s.vm.findClass cls = some ce.cls := by
    have h9 := hO.cls
    rw [hvm] at h9
    exact h9
  have hall : s.sameButNew ({ U with vm := s.vm } : State) locs mc ms := by
    subst hA
    obtain ⟨e1, e2⟩ := hsame
    rw [State.setFrames_setFrames] at e1
    have h2 : (T.setVm s.vm).sameButNew ({ U with vm := s.vm } : State) [] (0 + 1) (0 + 6) := ⟨e1, e2⟩
    have h3 := X.same.trans h2
    rw [List.append_nil] at h3
    exact h3.mono hc hs
  refine ⟨U, ?_, .threw T.heap.size, hrun, hend, Or.inr ⟨T.heap.size, rfl, cls, ce, locs, hx U hWs.alike f1 (fun q hq => f2 q hq (fun z hz => nomatch hz)), hce, hO.vm, hcl, hWs, hall, hf⟩⟩
  refine st1 _ ?_
  show Steps p.tables e below (T1.setTop { method := m, pc := pc + 3, locals := ls, stack := .ref T.heap.size :: rest, locked := none }) _
  jvm_step X₁.here [X₁.here.top, hexec, d3', Value.category]
  exact X₁.ldcString hexec (own := own) (text := text) (index := is) (a := sa) hown' hstr'.1 hstr'.2
    (g := { method := m, pc := pc + 4, locals := ls, stack := .ref T.heap.size :: .ref T.heap.size :: rest, locked := none }) rfl d4' _ hsteps
/-- 'throw new E("text")', the text by a wide index -/
theorem vx_throwSW {cc : ByteArray} {pc : Nat} (hexec : p.tables.exec = Jvm.exec) (hb : c.code = cc) (hl : l.stackTraces = false) {own cls text : String} {names : List String} {ik is ic mc ms sa : Nat} {A : Nat → Prop}
    (hown : s.vm.findClass own = some m.cls) (hcls : Bundle.fit cls = true) (hnames : ∀ n ∈ names, Bundle.fit n = true)
    (hk : (Cond.classLink own ik cls).before args s = true) (hini : (Cond.initialized cls).before args s = true) (hstr : vk_R own is text sa s) (hat : ∀ w ∈ vx_atS own ic cls names, w.before args s = true)
    (hgood : ∀ w ∈ Cond.classLink own ik cls :: Cond.initialized cls :: vx_atS own ic cls names, vx_ot w = true)
    (hU : vx_Zq Bundle.tN "UNASSIGNED_STACK" Bundle.steD A s s.heap) (hN : vx_Zq Bundle.tN "SUPPRESSED_SENTINEL" Bundle.listD A s s.heap) (hS : va_S A s.heap H locs) (hsize : ls.size = c.maxLocals)
    (d0 : decode cc pc = .ok (.new ik, 3)) (d3 : decode cc (pc + 3) = .ok (.dup, 1)) (d4 : decode cc (pc + 4) = .ok (.ldc_w is, 3)) (d7 : decode cc (pc + 7) = .ok (.invokespecial ic, 3)) (d10 : decode cc (pc + 10) = .ok (.athrow, 1))
    (hout : ∀ x ∈ c.exceptionTable.toList, covers x (pc + 10) = false)
    (hRframes : names.length + 3 < R.frames) (hRlocals : (rest.map fun v => v.category).sum + (13 * (names.length + 1) + 43) ≤ R.locals) (hRcells : cells + 1 ≤ R.cells) (hRslots : slots + 6 ≤ R.slots) (hlocks : meth.locks = false)
    (hx : ∀ t : State, s.vm.Alike t.vm → H.size ≤ t.heap.size → (∀ q : Nat, q < H.size → t.heap[q]? = H[q]?) → XC cls s t)
    (hf : ∀ z ∈ locs, free z.base) (hc : cells + 1 ≤ mc) (hs : slots + 6 ≤ ms) :
    W p l e R s m args below meth c H locs cells slots (vx_MQ below Qc XC args s mc ms free) (F0 m pc ls rest) := by
  intro T hT X
  have htr : e.platform.stackTraces = false := (show e.platform.stackTraces = l.stackTraces by rw [X.admits.platform]).trans hl
  have Y := vx_rebase X (R' := { frames := R.frames, locals := R.locals, cells := 1, slots := 6 }) (Nat.le_refl _) (Nat.le_refl _) hRcells hRslots
  obtain ⟨s', hA⟩ : ∃ z, z = (T.setVm s.vm).setFrames (.invoking m args :: below) := ⟨_, rfl⟩
  rw [← hA] at Y
  have hvm : s'.vm = s.vm := by rw [hA]; rfl
  have hhp : s'.heap = H := by rw [hA]; exact hT
  have hW0 : s.WarmedH s'.vm := by rw [hvm]; exact State.WarmedH.refl s
  have hat' : ∀ w ∈ vx_atS own ic cls names, w.before args s' = true := fun w hw => vx_ot_at hW0 hvm.symm (hgood w (List.mem_cons_of_mem _ (List.mem_cons_of_mem _ hw))) (hat w hw)
  have hk' : (Cond.classLink own ik cls).before args s' = true := vx_ot_at hW0 hvm.symm (hgood _ List.mem_cons_self) hk
  have hini' : (Cond.initialized cls).before args s' = true := vx_ot_at hW0 hvm.symm (hgood _ (List.mem_cons_of_mem _ List.mem_cons_self)) hini
  have hU' : vx_Zq Bundle.tN "UNASSIGNED_STACK" Bundle.steD A s' s'.heap := by rw [hhp]; exact vx_Zq.moved hW0.alike (hU.kept hS.2.1)
  have hN' : vx_Zq Bundle.tN "SUPPRESSED_SENTINEL" Bundle.listD A s' s'.heap := by rw [hhp]; exact vx_Zq.moved hW0.alike (hN.kept hS.2.1)
  have h : ∀ w ∈ Bundle.ownAtoms own ic cls names, w.before args s' = true := vx_own hat' (vx_isRefq hU'.1) (vx_isRefq hN'.1) hU'.2.word hN'.2.word
  have hown' : s'.vm.findClass own = some m.cls := by rw [hvm]; exact hown
  have hins : (Cond.instantiable cls 6).before args s' = true := h _ (by simp [Bundle.ownAtoms])
  obtain ⟨vm₁, cX, kX, hfX, hkX, -, -, X₁, st1⟩ := Y.newCold hexec (own := own) (C := cls) (index := ik) (n := 6) hown' hk' hins hini'
    (g := F0 m pc ls rest) rfl (by rw [hb]; exact d0) (Nat.le_refl _) (Nat.le_refl _)
  generalize hT1 : (T.setVm vm₁).pushCell { cls := cX, slots := kX.instanceTypes.map defaultValue, vm := .none } = T1 at X₁ st1
  have hcat : (Value.ref T.heap.size).category = 1 := rfl
  have hcellA : T1.heap[T.heap.size]? = some (freshCell cX kX) := by rw [← hT1]; exact State.heap_pushCell_size _ _
  have d3' : decode c.code (pc + 3) = .ok (.dup, 1) := by rw [hb]; exact d3
  have d4' : decode c.code (pc + 4) = .ok (.ldc_w is, 3) := by rw [hb]; exact d4
  have hstr' : vk_R own is text sa s' := vk_R.warm hW0 hstr
  obtain ⟨U, hsteps, hrun, hend, hW, hsame, ce, hce, hO⟩ := X₁.ctorThrowS hexec htr (own := own) (cls := cls) (names := names) (ic := ic) hown' hcls hnames h (fun x hx => nomatch hx) hfX hkX hcellA (by rw [hhp, hT]; exact Nat.le_refl _) (msg := .ref sa) rfl
    (g := { method := m, pc := pc + 7, locals := ls, stack := .ref sa :: .ref T.heap.size :: .ref T.heap.size :: rest, locked := none }) rfl hsize rfl rfl (rest := rest) rfl
    (by rw [hb]; exact d7) (by rw [hb]; exact d10) hout hRframes (by simp only [List.map_cons, List.sum_cons, hcat]; omega) hlocks
  obtain ⟨f1, f2⟩ := vx_frame hsame
  rw [hhp] at f1 f2
  have hWs : s.WarmedH U.vm := State.WarmedH.trans hW0 hW
  have hcl : s.vm.findClass cls = some ce.cls := by
    have h9 := hO.cls
    rw [hvm] at h9
    exact h9
  have hall : s.sameButNew ({ U with vm := s.vm } : State) locs mc ms := by
    subst hA
    obtain ⟨e1, e2⟩ := hsame
    rw [State.setFrames_setFrames] at e1
    have h2 : (T.setVm s.vm).sameButNew ({ U with vm := s.vm } : State) [] (0 + 1) (0 + 6) := ⟨e1, e2⟩
    have h3 := X.same.trans h2
    rw [List.append_nil] at h3
    exact h3.mono hc hs
  refine ⟨U, ?_, .threw T.heap.size, hrun, hend, Or.inr ⟨T.heap.size, rfl, cls, ce, locs, hx U hWs.alike f1 (fun q hq => f2 q hq (fun z hz => nomatch hz)), hce, hO.vm, hcl, hWs, hall, hf⟩⟩
  refine st1 _ ?_
  show Steps p.tables e below (T1.setTop { method := m, pc := pc + 3, locals := ls, stack := .ref T.heap.size :: rest, locked := none }) _
  jvm_step X₁.here [X₁.here.top, hexec, d3', Value.category]
  exact X₁.ldcStringW hexec (own := own) (text := text) (index := is) (a := sa) hown' hstr'.1 hstr'.2
    (g := { method := m, pc := pc + 4, locals := ls, stack := .ref T.heap.size :: .ref T.heap.size :: rest, locked := none }) rfl d4' _ hsteps
end Ends
section Bodies
variable {l : Launch}
theorem vx_ofW {y : MethodName} {ws ws' : List Cond} {rm : Room} {Pc : Array Value → State → Prop} {Qc : Array Value → State → Outcome → State → Prop} {XC : String → State → State → Prop} {mc ms : Nat} {free : Addr → Prop} {cc : ByteArray} {maxL : Nat} {ret : Option FieldType}
    (hy : plainName y.cls = true) (hw : ws = Cond.code y cc maxL ret :: ws')
    (body : ∀ p e s m args below meth c s₁, BodyLoose p l y (headSpec ws rm) cc maxL ret e s m args below meth c s₁ → c.maxLocals = maxL → (∀ x ∈ c.exceptionTable.toList, False) → Pc args s →
      W p l e (headSpec ws rm).room s m args below meth c s.heap [] 0 0 (vx_MQ below Qc XC args s mc ms free) (entryFrame m args maxL)) : vx_Met l y ws rm Pc Qc XC mc ms free := by
  refine MetFree.of_bodyS (code := cc) (maxLocals := maxL) (ret := ret) hy ?_ ?_
  · intro args s m h hn
    obtain ⟨meth, c, h1, h2, h3, h4, h5, h6, -, -⟩ := Cond.code_spec hn (atoms_spec (ws := ws) h _ (by rw [hw]; exact List.mem_cons_self))
    exact ⟨meth, c, h1, h2, h3, h4, h5, h6⟩
  · intro p e s m args below meth c s₁ B hml hP _
    have hh0 : s₁.heap = s.heap := by rw [B.state]; rfl
    have ht : ∀ x ∈ c.exceptionTable.toList, False := by
      obtain ⟨meth9, c9, h1, h2, -, -, -, -, h7, -⟩ := Cond.code_spec B.named (atoms_spec (ws := ws) B.pre _ (by rw [hw]; exact List.mem_cons_self))
      cases Option.some.inj (h1.symm.trans B.method)
      cases Option.some.inj (h2.symm.trans (Stand.of_body B).code)
      intro x hx
      rw [Array.isEmpty_iff.mp h7] at hx
      cases hx
    obtain ⟨t, a1, o, b1, b2, b3⟩ := body p e s m args below meth c s₁ B hml ht hP s₁ hh0 (Stand.of_body B)
    exact ⟨t, o, a1, b1, b2, b3⟩
/-- the table of a body with handlers -/
theorem vx_table {p : Program} {x y : MethodName} {S : Spec} {cc bytes : ByteArray} {maxL maxL' : Nat} {ret ret' : Option FieldType} {e : Env} {s s₁ : State} {m : MethodId} {args : Array Value} {below : List Frame} {meth : Method} {c : Code} {hh : List (Nat × Nat × Nat × Nat)}
    (B : BodyLoose p l y S cc maxL ret e s m args below meth c s₁) (h : (Cond.codeWith y bytes maxL' ret' hh).before args s = true) : c.exceptionTable.toList = tableOf hh := by
  obtain ⟨m9, meth9, c9, hn9, h1, h2, -, -, h6, -⟩ := Cond.codeWith_spec h
  cases Option.some.inj (hn9.symm.trans B.named)
  cases Option.some.inj (h1.symm.trans B.method)
  cases Option.some.inj (h2.symm.trans (Stand.of_body B).code)
  rw [← h6, table_eq]
end Bodies
end VXA
/-! ===== END ===== -/
end
section
/-! An interpreter over an abstract world: cells at places 0, 1, ..; a reference is a place. Its steps are shown true of the machine once and for all (parts 03 to 07); methods are then read as functions. -/
abbrev zW : Type := List va_E
abbrev zL : Type := List (Option Value)
/-- where a method stands: pc, what is known of its slots, stack, world, cells made, slots made -/
abbrev zSt : Type := Nat × zL × List Value × zW × Nat × Nat
/-- how it ends: a value (or none) or a thrown thing of a kind; the world; cells made, slots made -/
abbrev zO : Type := (Option Value ⊕ Nat) × zW × Nat × Nat
/-- a method: slots, owner, values it takes (its object too), what it returns, its kind (0 without an object, 1 with one, 2 it makes one), frames and words that it may need -/
abbrev zD : Type := Nat × Nat × Nat × Option FieldType × Nat × Nat × Nat
/-- the program as tables:
 instructions (with a jump's aim), fields, methods, own library members, makings, throwings, handlers, methods' data, kinds of objects, long constants, int constants -/
abbrev zEnv : Type := (Nat → Nat → Option (Instr × Nat)) × (Nat → Nat → Option (Nat × Nat)) × (Nat → Nat → Option Nat) × (Nat → Nat → Option Nat) × (Nat → Nat → Option Nat) × (Nat → Nat → Option Nat) × (Nat → List (Nat × Nat × Nat × Nat × Nat)) × (Nat → zD) × (Nat → List Value × List FieldType × List Bool) × (Nat → Nat → Option Int64) × (Nat → Nat → Option Int32)
abbrev zEnv.T (E : zEnv) : Nat → Nat → Option (Instr × Nat) := E.1
abbrev zEnv.F (E : zEnv) : Nat → Nat → Option (Nat × Nat) := E.2.1
abbrev zEnv.M (E : zEnv) : Nat → Nat → Option Nat := E.2.2.1
abbrev zEnv.N (E : zEnv) : Nat → Nat → Option Nat := E.2.2.2.1
abbrev zEnv.C (E : zEnv) : Nat → Nat → Option Nat := E.2.2.2.2.1
abbrev zEnv.X (E : zEnv) : Nat → Nat → Option Nat := E.2.2.2.2.2.1
abbrev zEnv.H (E : zEnv) : Nat → List (Nat × Nat × Nat × Nat × Nat) := E.2.2.2.2.2.2.1
abbrev zEnv.D (E : zEnv) : Nat → zD := E.2.2.2.2.2.2.2.1
abbrev zEnv.K (E : zEnv) : Nat → List Value × List FieldType × List Bool := E.2.2.2.2.2.2.2.2.1
abbrev zEnv.J (E : zEnv) : Nat → Nat → Option Int64 := E.2.2.2.2.2.2.2.2.2.1
abbrev zEnv.I (E : zEnv) : Nat → Nat → Option Int32 := E.2.2.2.2.2.2.2.2.2.2
abbrev zMax (d : zD) : Nat := d.1
abbrev zOwn (d : zD) : Nat := d.2.1
abbrev zAr (d : zD) : Nat := d.2.2.1
abbrev zRet (d : zD) : Option FieldType := d.2.2.2.1
abbrev zKd (d : zD) : Nat := d.2.2.2.2.1
abbrev zFr (d : zD) : Nat := d.2.2.2.2.2.1
abbrev zLo (d : zD) : Nat := d.2.2.2.2.2.2
-- instructions that look at no cell
abbrev zP3 : Type := Option (Nat × zL × List Value)
def zi1 (f : Int32 → Value) (pc : Nat) (ls : zL) : List Value → zP3
  | .int x :: st => some (pc + 1, ls, f x :: st)
  | _ => none
def zl1 (f : Int64 → Value) (pc : Nat) (ls : zL) : List Value → zP3
  | .long x :: st => some (pc + 1, ls, f x :: st)
  | _ => none
def zi2 (f : Int32 → Int32 → Int32) (pc : Nat) (ls : zL) : List Value → zP3
  | .int y :: .int x :: st => some (pc + 1, ls, .int (f x y) :: st)
  | _ => none
def zl2 (f : Int64 → Int64 → Value) (pc : Nat) (ls : zL) : List Value → zP3
  | .long y :: .long x :: st => some (pc + 1, ls, f x y :: st)
  | _ => none
def zls (f : Int64 → Int32 → Int64) (pc : Nat) (ls : zL) : List Value → zP3
  | .int y :: .long x :: st => some (pc + 1, ls, .long (f x y) :: st)
  | _ => none
def zb1 (c : Int32 → Bool) (tg pc : Nat) (ls : zL) : List Value → zP3
  | .int x :: st => some (if c x = true then tg else pc + 3, ls, st)
  | _ => none
def zb2 (c : Int32 → Int32 → Bool) (tg pc : Nat) (ls : zL) : List Value → zP3
  | .int y :: .int x :: st => some (if c x y = true then tg else pc + 3, ls, st)
  | _ => none
def zldI (i n pc : Nat) (ls : zL) (st : List Value) : zP3 := match ls[i]? with
  | some (some (.int x)) => some (pc + n, ls, .int x :: st)
  | _ => none
def zldL (i n pc : Nat) (ls : zL) (st : List Value) : zP3 := match ls[i]? with
  | some (some (.long x)) => some (pc + n, ls, .long x :: st)
  | _ => none
def zldA (i n pc : Nat) (ls : zL) (st : List Value) : zP3 := match ls[i]? with
  | some (some (.ref x)) => some (pc + n, ls, .ref x :: st)
  | some (some (.retAddr x)) => some (pc + n, ls, .retAddr x :: st)
  | _ => none
/-- a long whose second half is written over is lost -/
def zclr (i : Nat) (ls : zL) : zL := match i with
  | 0 => ls
  | j + 1 => match ls[j]? with
    | some (some v) => if v.category = 2 then ls.set j none else ls
    | _ => ls
def zput1 (i : Nat) (v : Value) (ls : zL) : zL := (zclr i ls).set i (some v)
def zput2 (i : Nat) (v : Value) (ls : zL) : zL := ((zclr i ls).set i (some v)).set (i + 1) none
def zstI (i n pc : Nat) (ls : zL) : List Value → zP3
  | .int x :: st => if i < ls.length then some (pc + n, zput1 i (.int x) ls, st) else none
  | _ => none
def zstA (i n pc : Nat) (ls : zL) : List Value → zP3
  | .ref x :: st => if i < ls.length then some (pc + n, zput1 i (.ref x) ls, st) else none
  | _ => none
def zstL (i n pc : Nat) (ls : zL) : List Value → zP3
  | .long x :: st => if i + 1 < ls.length then some (pc + n, zput2 i (.long x) ls, st) else none
  | _ => none
def zinc (i : Nat) (k : Int) (pc : Nat) (ls : zL) (st : List Value) : zP3 := match ls[i]? with
  | some (some (.int x)) => some (pc + 3, zput1 i (.int (x + Int32.ofInt k)) ls, st)
  | _ => none
def zdup (pc : Nat) (ls : zL) : List Value → zP3
  | v :: st => if v.category = 1 then some (pc + 1, ls, v :: v :: st) else none
  | _ => none
def zdup2 (pc : Nat) (ls : zL) : List Value → zP3
  | v :: u :: st => if v.category = 1 ∧ u.category = 1 then some (pc + 1, ls, v :: u :: v :: u :: st) else none
  | _ => none
def zdupx1 (pc : Nat) (ls : zL) : List Value → zP3
  | v :: u :: st => if v.category = 1 ∧ u.category = 1 then some (pc + 1, ls, v :: u :: v :: st) else none
  | _ => none
def zdupx2 (pc : Nat) (ls : zL) : List Value → zP3
  | v :: u :: t :: st => if v.category = 1 ∧ u.category = 1 ∧ t.category = 1 then some (pc + 1, ls, v :: u :: t :: v :: st) else none
  | _ => none
def zpop (pc : Nat) (ls : zL) : List Value → zP3
  | v :: st => if v.category = 1 then some (pc + 1, ls, st) else none
  | _ => none
def zpop2 (pc : Nat) (ls : zL) : List Value → zP3
  | v :: st => if v.category = 2 then some (pc + 1, ls, st) else none
  | _ => none
def zsw (dflt lo hi : Int) (offs : Array Int) (pc : Nat) (ls : zL) : List Value → zP3
  | .int x :: st => if x.toInt < lo ∨ hi < x.toInt then (if 0 ≤ (pc : Int) + dflt then some (((pc : Int) + dflt).toNat, ls, st) else none)
    else match offs[(x.toInt - lo).toNat]? with
      | some off => if 0 ≤ (pc : Int) + off then some (((pc : Int) + off).toNat, ls, st) else none
      | none => none
  | _ => none
def zdiv (f : Int32 → Int32 → Int32) (pc : Nat) (ls : zL) : List Value → zP3
  | .int y :: .int x :: st => if y = 0 then none else some (pc + 1, ls, .int (f x y) :: st)
  | _ => none
def zP (i : Instr) (tg pc : Nat) (ls : zL) (st : List Value) : zP3 := match i with
  | .iconst n => some (pc + 1, ls, .int (Int32.ofInt n) :: st)
  | .bipush n => some (pc + 2, ls, .int (Int8.ofInt n).toInt32 :: st)
  | .sipush n => some (pc + 3, ls, .int (Int16.ofInt n).toInt32 :: st)
  | .lconst n => some (pc + 1, ls, .long (Int64.ofNat (n : Nat)) :: st)
  | .iload_n k => zldI k 1 pc ls st
  | .iload k => zldI k 2 pc ls st
  | .lload_n k => zldL k 1 pc ls st
  | .lload k => zldL k 2 pc ls st
  | .aload_n k => zldA k 1 pc ls st
  | .aload k => zldA k 2 pc ls st
  | .istore_n k => zstI k 1 pc ls st
  | .istore k => zstI k 2 pc ls st
  | .lstore_n k => zstL k 1 pc ls st
  | .lstore k => zstL k 2 pc ls st
  | .astore_n k => zstA k 1 pc ls st
  | .astore k => zstA k 2 pc ls st
  | .iinc k n => zinc k n pc ls st
  | .iadd => zi2 (fun x y => x + y) pc ls st
  | .isub => zi2 (fun x y => x - y) pc ls st
  | .imul => zi2 (fun x y => x * y) pc ls st
  | .iand => zi2 (fun x y => x &&& y) pc ls st
  | .ior => zi2 (fun x y => x ||| y) pc ls st
  | .ixor => zi2 (fun x y => x ^^^ y) pc ls st
  | .ishl => zi2 (fun x y => x <<< (y &&& 31)) pc ls st
  | .ishr => zi2 (fun x y => x >>> (y &&& 31)) pc ls st
  | .idiv => zdiv (fun x y => x / y) pc ls st
  | .irem => zdiv (fun x y => x - x / y * y) pc ls st
  | .ladd => zl2 (fun x y => .long (x + y)) pc ls st
  | .lsub => zl2 (fun x y => .long (x - y)) pc ls st
  | .lmul => zl2 (fun x y => .long (x * y)) pc ls st
  | .land => zl2 (fun x y => .long (x &&& y)) pc ls st
  | .lor => zl2 (fun x y => .long (x ||| y)) pc ls st
  | .lxor => zl2 (fun x y => .long (x ^^^ y)) pc ls st
  | .lcmp => zl2 (fun x y => .int (lg_cmp x y)) pc ls st
  | .lshl => zls (fun x y => x <<< (y.toInt64 &&& 63)) pc ls st
  | .lshr => zls (fun x y => x >>> (y.toInt64 &&& 63)) pc ls st
  | .lushr => zls (fun x y => (x.toUInt64 >>> (y.toInt64.toUInt64 &&& Int64.toUInt64 63)).toInt64) pc ls st
  | .i2l => zi1 (fun x => .long x.toInt64) pc ls st
  | .l2i => zl1 (fun x => .int x.toInt32) pc ls st
  | .ifCond .eq _ => zb1 (fun x => decide (x = 0)) tg pc ls st
  | .ifCond .ne _ => zb1 (fun x => decide (¬ x = 0)) tg pc ls st
  | .ifCond .lt _ => zb1 (fun x => decide (x < 0)) tg pc ls st
  | .ifCond .ge _ => zb1 (fun x => decide (0 ≤ x)) tg pc ls st
  | .ifCond .gt _ => zb1 (fun x => decide (0 < x)) tg pc ls st
  | .ifCond .le _ => zb1 (fun x => decide (x ≤ 0)) tg pc ls st
  | .if_icmp .eq _ => zb2 (fun x y => decide (x = y)) tg pc ls st
  | .if_icmp .ne _ => zb2 (fun x y => decide (¬ x = y)) tg pc ls st
  | .if_icmp .lt _ => zb2 (fun x y => decide (x < y)) tg pc ls st
  | .if_icmp .ge _ => zb2 (fun x y => decide (y ≤ x)) tg pc ls st
  | .if_icmp .gt _ => zb2 (fun x y => decide (y < x)) tg pc ls st
  | .if_icmp .le _ => zb2 (fun x y => decide (x ≤ y)) tg pc ls st
  | .goto _ => some (tg, ls, st)
  | .dup => zdup pc ls st
  | .dup2 => zdup2 pc ls st
  | .dup_x1 => zdupx1 pc ls st
  | .dup_x2 => zdupx2 pc ls st
  | .pop => zpop pc ls st
  | .pop2 => zpop2 pc ls st
  | .tableswitch d lo hi offs => zsw d lo hi offs pc ls st
  | _ => none
/-- how many bytes an instruction of ours has; none: a switch, as many as it has -/
def zlen : Instr → Option Nat
  | .tableswitch .. => none
  | .bipush _ | .iload _ | .lload _ | .aload _ | .istore _ | .lstore _ | .astore _ | .ldc _ | .newarray _ => some 2
  | .sipush _ | .iinc .. | .ifCond .. | .if_icmp .. | .goto _ | .getfield _ | .putfield _ | .new _ | .ldc2_w _ | .invokevirtual _ | .invokespecial _ | .invokestatic _ => some 3
  | _ => some 1
/-- a jump's way -/
def zoff : Instr → Option Int
  | .ifCond _ o => some o
  | .if_icmp _ o => some o
  | .goto o => some o
  | _ => none
-- cells
def zref (n : Nat) : Value → Bool
  | .ref a => decide (a < n)
  | .retAddr _ => false
  | _ => true
/-- known slots and stack name cells that are there -/
def zscL (n : Nat) (ls : zL) : Bool := ls.all fun o => match o with
  | some v => zref n v
  | none => true
def zscS (n : Nat) (st : List Value) : Bool := st.all (zref n)
def zscW (n : Nat) (w : zW) : Bool := w.all fun e => match e with
  | .inl _ => true
  | .inr o => o.2.all (zref n)
def zfit : FieldType → Value → Bool
  | .int, .int _ => true
  | .long, .long _ => true
  | .boolean, .int x => x == 0 || x == 1
  | .object _, .ref _ => true
  | .array _, .ref _ => true
  | _, _ => false
def zfitR : Option FieldType → Option Value → Bool
  | none, none => true
  | some t, some v => zfit t v
  | _, _ => false
abbrev zQ : Type := Option zSt
/-- the script that the law reads, where it is the law -/
abbrev zSc : Type := Option (Nat × (Nat → Int32))
section zHeap
variable (E : zEnv) (own pc : Nat) (ls : zL) (w : zW) (ca sl : Nat)
def zget (n : Nat) : List Value → zQ
  | .ref a :: st => match E.F own n with
    | some (ci, k) => match w[a]? with
      | some (.inr (cj, fs)) => if cj = ci then (match fs[k]? with
        | some v => some (pc + 3, ls, v :: st, w, ca, sl)
        | none => none) else none
      | _ => none
    | none => none
  | _ => none
def zputf (mk : Bool) (n : Nat) : List Value → zQ
  | v :: .ref a :: st => match E.F own n with
    | some (ci, k) => match w[a]? with
      | some (.inr (cj, fs)) => if cj = ci ∧ k < fs.length ∧ zfit ((E.K ci).2.1.getD k .byte) v = true ∧ ((E.K ci).2.2.getD k true = true → mk = true ∧ own = ci) then some (pc + 3, ls, st, w.set a (.inr (cj, fs.set k v)), ca, sl) else none
      | _ => none
    | none => none
  | _ => none
/-- kinds of rows: 0 int, 1 long, 2 boolean -/
def zaldI (Sc : zSc) : List Value → zQ
  | .int i :: .ref a :: st => match w[a]? with
    | some (.inl (0, n, .inl f)) => if i < 0 ∨ n ≤ i.toNatClampNeg then none else some (pc + 1, ls, .int (f i.toNatClampNeg) :: st, w, ca, sl)
    | _ => none
  | .int i :: .retAddr _ :: st => match Sc with
    | some (n, f) => if i < 0 ∨ n ≤ i.toNatClampNeg then none else some (pc + 1, ls, .int (f i.toNatClampNeg) :: st, w, ca, sl)
    | none => none
  | _ => none
def zaldL : List Value → zQ
  | .int i :: .ref a :: st => match w[a]? with
    | some (.inl (1, n, .inr (.inl f))) => if i < 0 ∨ n ≤ i.toNatClampNeg then none else some (pc + 1, ls, .long (f i.toNatClampNeg) :: st, w, ca, sl)
    | _ => none
  | _ => none
def zaldZ : List Value → zQ
  | .int i :: .ref a :: st => match w[a]? with
    | some (.inl (2, n, .inl f)) => if i < 0 ∨ n ≤ i.toNatClampNeg then none else some (pc + 1, ls, .int (f i.toNatClampNeg) :: st, w, ca, sl)
    | _ => none
  | _ => none
def zastI : List Value → zQ
  | .int x :: .int i :: .ref a :: st => match w[a]? with
    | some (.inl (0, n, .inl f)) => if i < 0 ∨ n ≤ i.toNatClampNeg then none else some (pc + 1, ls, st, w.set a (.inl (0, n, .inl (upd f i.toNatClampNeg x))), ca, sl)
    | _ => none
  | _ => none
def zastL : List Value → zQ
  | .long x :: .int i :: .ref a :: st => match w[a]? with
    | some (.inl (1, n, .inr (.inl f))) => if i < 0 ∨ n ≤ i.toNatClampNeg then none else some (pc + 1, ls, st, w.set a (.inl (1, n, .inr (.inl (vp_updL f i.toNatClampNeg x)))), ca, sl)
    | _ => none
  | _ => none
def zastZ : List Value → zQ
  | .int x :: .int i :: .ref a :: st => match w[a]? with
    | some (.inl (2, n, .inl f)) => if i < 0 ∨ n ≤ i.toNatClampNeg then none else some (pc + 1, ls, st, w.set a (.inl (2, n, .inl (upd f i.toNatClampNeg (vp_nar .boolean x)))), ca, sl)
    | _ => none
  | _ => none
def zalen (Sc : zSc) : List Value → zQ
  | .ref a :: st => match w[a]? with
    | some (.inl (t, x)) => if t < 3 then some (pc + 1, ls, .int (Int32.ofNat x.1) :: st, w, ca, sl) else none
    | _ => none
  | .retAddr _ :: st => match Sc with
    | some (n, _) => some (pc + 1, ls, .int (Int32.ofNat n) :: st, w, ca, sl)
    | none => none
  | _ => none
def znew (n : Nat) (st : List Value) : zQ := match E.C own n with
  | some ci => if zscL w.length ls = true ∧ zscS w.length st = true ∧ zscW w.length w = true then some (pc + 3, ls, .ref w.length :: st, w ++ [.inr (ci, (E.K ci).1)], ca + 1, sl + (E.K ci).1.length) else none
  | none => none
def znewa (t : Nat) (z : Nat → vp_A) : List Value → zQ
  | .int n :: st => if n < 0 ∨ 100000 ≤ n.toNatClampNeg then none else if zscL w.length ls = true ∧ zscS w.length st = true ∧ zscW w.length w = true then some (pc + 2, ls, .ref w.length :: st, w ++ [.inl (t, z n.toNatClampNeg)], ca + 1, sl + n.toNatClampNeg) else none
  | _ => none
/-- members of the library that are taken whole: 0 Object's making, 1 max, 2 min, 3 abs, 4 arraycopy of ints -/
def znat0 : List Value → zQ
  | .ref _ :: st => some (pc + 3, ls, st, w, ca, sl)
  | _ => none
def znat1 : List Value → zQ
  | .int y :: .int x :: st => some (pc + 3, ls, .int (if x < y then y else x) :: st, w, ca, sl)
  | _ => none
def znat2 : List Value → zQ
  | .int y :: .int x :: st => some (pc + 3, ls, .int (if y < x then y else x) :: st, w, ca, sl)
  | _ => none
def znat3 : List Value → zQ
  | .int x :: st => some (pc + 3, ls, .int (if 0 ≤ x then x else 0 - x) :: st, w, ca, sl)
  | _ => none
def znat4 : List Value → zQ
  | .int n :: .int dp :: .ref b :: .int sp :: .ref a :: st => match w[a]?, w[b]? with
    | some (.inl (0, n0, .inl f)), some (.inl (0, n1, .inl g)) => if ¬ sp < 0 ∧ ¬ dp < 0 ∧ ¬ n < 0 ∧ sp.toNatClampNeg + n.toNatClampNeg ≤ n0 ∧ dp.toNatClampNeg + n.toNatClampNeg ≤ n1 then
        some (pc + 3, ls, st, w.set b (.inl (0, n1, .inl (va_cpy f g sp.toNatClampNeg dp.toNatClampNeg n.toNatClampNeg))), ca, sl) else none
    | _, _ => none
  | _ => none
def znat (k : Nat) (st : List Value) : zQ := match k with
  | 0 => znat0 pc ls w ca sl st
  | 1 => znat1 pc ls w ca sl st
  | 2 => znat2 pc ls w ca sl st
  | 3 => znat3 pc ls w ca sl st
  | 4 => znat4 pc ls w ca sl st
  | _ => none
end zHeap
/-- a method's slots as it is begun -/
def zargs : List Value → zL
  | [] => []
  | v :: vs => if v.category = 2 then some v :: none :: zargs vs else some v :: zargs vs
def zent (E : zEnv) (y : Nat) (as : List Value) (w : zW) : zSt := (0, zargs as ++ List.replicate (zMax (E.D y) - (zargs as).length) none, [], w, 0, 0)
/-- the object that a method is called at is of its owner's kind -/
def zrecv (E : zEnv) (y : Nat) (as : List Value) (w : zW) : Bool := if zKd (E.D y) ≠ 0 then (match as with
  | .ref a :: _ => (match w[a]? with
    | some (.inr o) => decide (o.1 = zOwn (E.D y))
    | _ => false)
  | _ => false) else true
/-- nothing is known of a slot any more -/
def zcut (i : Nat) (ls : zL) : zL := (zclr i ls).set i none
/-- one step: on; back with a value; a call (its method, its values, where the caller goes on); a throw -/
abbrev zN : Type := zSt ⊕ (Option Value ⊕ ((Nat × List Value × zSt) ⊕ Nat))
def zwt (st : List Value) : Nat := (st.map fun v => v.category).sum
def zcall (E : zEnv) (kd y n pc : Nat) (ls : zL) (st : List Value) (w : zW) (ca sl : Nat) : Option zN := match E.M (zOwn (E.D y)) n with
  | some y' => if zKd (E.D y') = kd ∧ zFr (E.D y') + 1 ≤ zFr (E.D y) ∧ zwt (st.drop (zAr (E.D y'))) + (zMax (E.D y') + 11) + zLo (E.D y') ≤ zLo (E.D y) ∧ zAr (E.D y') ≤ st.length ∧ (zargs (st.take (zAr (E.D y'))).reverse).length ≤ zMax (E.D y') ∧ zscL w.length ls = true ∧ zscS w.length st = true ∧ zrecv E y' (st.take (zAr (E.D y'))).reverse w = true
    then some (.inr (.inr (.inl (y', (st.take (zAr (E.D y'))).reverse, (pc + 3, ls, st.drop (zAr (E.D y')), w, ca, sl))))) else none
  | none => none
/-- room for a library member that is taken whole -/
def zroom (d : zD) (st : List Value) : Bool := decide (1 ≤ zFr d ∧ zwt st + 40 ≤ zLo d)
def zstep (E : zEnv) (Sc : zSc) (y : Nat) (q : zSt) : Option zN := match q with
  | (pc, ls, st, w, ca, sl) => match E.X y pc with
    | some x => if 6 ≤ zFr (E.D y) ∧ zwt st + 82 ≤ zLo (E.D y) then some (.inr (.inr (.inr x))) else none
    | none => match E.T y pc with
      | none => none
      | some (i, tg) => match zP i tg pc ls st with
        | some (pc', ls', st') => some (.inl (pc', ls', st', w, ca, sl))
        | none => match i with
          | .getfield n => (zget E (zOwn (E.D y)) pc ls w ca sl n st).map .inl
          | .putfield n => (zputf E (zOwn (E.D y)) pc ls w ca sl (decide (zKd (E.D y) = 2)) n st).map .inl
          | .iaload => (zaldI pc ls w ca sl Sc st).map .inl
          | .laload => (zaldL pc ls w ca sl st).map .inl
          | .baload => (zaldZ pc ls w ca sl st).map .inl
          | .iastore => (zastI pc ls w ca sl st).map .inl
          | .lastore => (zastL pc ls w ca sl st).map .inl
          | .bastore => (zastZ pc ls w ca sl st).map .inl
          | .arraylength => (zalen pc ls w ca sl Sc st).map .inl
          | .new n => (znew E (zOwn (E.D y)) pc ls w ca sl n st).map .inl
          | .newarray t => (match t with
            | .int => znewa pc ls w ca sl 0 (fun n => (n, .inl fun _ => 0)) st
            | .long => znewa pc ls w ca sl 1 (fun n => (n, .inr (.inl fun _ => 0))) st
            | .boolean => znewa pc ls w ca sl 2 (fun n => (n, .inl fun _ => 0)) st
            | _ => none).map .inl
          | .ldc2_w n => (E.J (zOwn (E.D y)) n).map fun v => .inl (pc + 3, ls, .long v :: st, w, ca, sl)
          | .ldc n => (E.I (zOwn (E.D y)) n).map fun v => .inl (pc + 2, ls, .int v :: st, w, ca, sl)
          | .ireturn => (match st with
            | [.int v] => if zfitR (zRet (E.D y)) (some (.int v)) = true then some (.inr (.inl (some (.int v)))) else none
            | _ => none)
          | .lreturn => (match st with
            | [.long v] => if zfitR (zRet (E.D y)) (some (.long v)) = true then some (.inr (.inl (some (.long v)))) else none
            | _ => none)
          | .areturn => (match st with
            | [.ref v] => if zfitR (zRet (E.D y)) (some (.ref v)) = true then some (.inr (.inl (some (.ref v)))) else none
            | _ => none)
          | .return_ => (match st with
            | [] => if zfitR (zRet (E.D y)) none = true then some (.inr (.inl none)) else none
            | _ => none)
          | .invokestatic n => (match E.N (zOwn (E.D y)) n with
            | some k => if zroom (E.D y) st = true ∧ k ≠ 0 then (znat pc ls w ca sl k st).map .inl else none
            | none => zcall E 0 y n pc ls st w ca sl)
          | .invokespecial n => (match E.N (zOwn (E.D y)) n with
            | some k => if zroom (E.D y) st = true ∧ k = 0 then (znat pc ls w ca sl k st).map .inl else none
            | none => zcall E 2 y n pc ls st w ca sl)
          | .invokevirtual n => zcall E 1 y n pc ls st w ca sl
          | _ => none
/-- where a thrown thing of kind x is caught: the pc behind the handler's own store, the slot that it stores into -/
def zfind (hs : List (Nat × Nat × Nat × Nat × Nat)) (pc x : Nat) : Option (Nat × Nat) := match hs with
  | [] => none
  | (a, b, k, h, i) :: hs => if a ≤ pc ∧ pc < b ∧ k = x then some (h, i) else zfind hs pc x
def zcov (hs : List (Nat × Nat × Nat × Nat × Nat)) (pc : Nat) : Bool := hs.any fun e => decide (e.1 ≤ pc ∧ pc < e.2.1)
def zrun (E : zEnv) : Nat → zSc → Nat → zSt → Option zO
  | 0, _, _, _ => none
  | f + 1, Sc, y, q => match zstep E Sc y q with
    | none => none
    | some (.inl q') => zrun E f Sc y q'
    | some (.inr (.inl v)) => some (.inl v, q.2.2.2)
    | some (.inr (.inr (.inr x))) => some (.inr x, q.2.2.2.1, q.2.2.2.2.1 + 1, q.2.2.2.2.2 + 6)
    | some (.inr (.inr (.inl (y', as, q')))) => match zrun E f none y' (zent E y' as q'.2.2.2.1) with
      | none => none
      | some (.inl v, w', mc, ms) => zrun E f Sc y (q'.1, q'.2.1, v.toList ++ q'.2.2.1, w', q'.2.2.2.2.1 + mc, q'.2.2.2.2.2 + ms)
      | some (.inr x, w', mc, ms) => match zfind (E.H y) q.1 x with
        | some (h, i) => zrun E f Sc y (h, zcut i q'.2.1, [], w', q'.2.2.2.2.1 + mc, q'.2.2.2.2.2 + ms)
        | none => if zcov (E.H y) q.1 = true then none else some (.inr x, w', q'.2.2.2.2.1 + mc, q'.2.2.2.2.2 + ms)
end
section
/-! What the abstract things are on the machine: ad gives a place's address, b is the script's. -/
def xV (ad : Nat → Nat) (b : Nat) : Value → Value
  | .ref k => .ref (ad k)
  | .retAddr _ => .ref b
  | v => v
def xE (ad : Nat → Nat) (b : Nat) (ct : Nat → ClassId) : va_E → va_E
  | .inl (t, a) => .inl (ct t, a)
  | .inr (ci, fs) => .inr (ci, fs.map (xV ad b))
def xW (ad : Nat → Nat) (b : Nat) (ct : Nat → ClassId) (w : zW) : va_W := w.mapIdx fun k e => (ad k, xE ad b ct e)
theorem xW_at {ad : Nat → Nat} {b : Nat} {ct : Nat → ClassId} {w : zW} {k : Nat} {e : va_E} (h : w[k]? = some e) : (xW ad b ct w)[k]? = some (ad k, xE ad b ct e) := by
  unfold xW
  rw [List.getElem?_mapIdx, h]
  rfl
theorem xW_back {ad : Nat → Nat} {b : Nat} {ct : Nat → ClassId} {w : zW} {k : Nat} {q : Nat × va_E} (h : (xW ad b ct w)[k]? = some q) : ∃ e, w[k]? = some e ∧ q = (ad k, xE ad b ct e) := by
  unfold xW at h
  rw [List.getElem?_mapIdx] at h
  cases hw : w[k]? with
  | none => rw [hw] at h; cases h
  | some e => rw [hw] at h; exact ⟨e, rfl, (Option.some.inj h).symm⟩
theorem xW_len {ad : Nat → Nat} {b : Nat} {ct : Nat → ClassId} {w : zW} : (xW ad b ct w).length = w.length := by simp [xW]
theorem xW_set {ad : Nat → Nat} {b : Nat} {ct : Nat → ClassId} {w : zW} {k : Nat} {e : va_E} : (xW ad b ct w).set k (ad k, xE ad b ct e) = xW ad b ct (w.set k e) := by
  apply List.ext_getElem?
  intro i
  by_cases hi : i = k
  · subst hi
    by_cases hl : i < w.length
    · rw [List.getElem?_set_self (by rw [xW_len]; exact hl), xW_at (List.getElem?_set_self hl)]
    · rw [List.getElem?_eq_none (by rw [List.length_set, xW_len]; omega), List.getElem?_eq_none (by rw [xW_len, List.length_set]; omega)]
  · rw [List.getElem?_set_ne (Ne.symm hi)]
    unfold xW
    rw [List.getElem?_mapIdx, List.getElem?_mapIdx, List.getElem?_set_ne (Ne.symm hi)]
theorem xV_same {ad ad' : Nat → Nat} {b n : Nat} (hs : ∀ k, k < n → ad' k = ad k) {v : Value} (h : zref n v = true) : xV ad' b v = xV ad b v := by
  cases v with
  | ref k => simp only [zref, decide_eq_true_eq] at h; simp only [xV, hs k h]
  | _ => first | rfl | cases h
theorem xS_same {ad ad' : Nat → Nat} {b n : Nat} (hs : ∀ k, k < n → ad' k = ad k) {st : List Value} (h : zscS n st = true) : st.map (xV ad' b) = st.map (xV ad b) := by
  apply List.map_congr_left
  intro v hv
  exact xV_same hs (List.all_eq_true.mp h v hv)
theorem xE_same {ad ad' : Nat → Nat} {b n : Nat} {ct : Nat → ClassId} (hs : ∀ k, k < n → ad' k = ad k) {w : zW} (h : zscW n w = true) {k : Nat} {e : va_E} (hk : w[k]? = some e) : xE ad' b ct e = xE ad b ct e := by
  have h1 := List.all_eq_true.mp h e (List.mem_of_getElem? hk)
  cases e with
  | inl a => rfl
  | inr o =>
    show Sum.inr (o.1, o.2.map (xV ad' b)) = Sum.inr (o.1, o.2.map (xV ad b))
    rw [xS_same hs (show zscS n o.2 = true from h1)]
theorem xW_push {ad : Nat → Nat} {b q : Nat} {ct : Nat → ClassId} {w : zW} {e : va_E} (h : zscW w.length w = true) :
    xW ad b ct w ++ [(q, xE (va_up ad w.length q) b ct e)] = xW (va_up ad w.length q) b ct (w ++ [e]) := by
  have hs : ∀ k, k < w.length → va_up ad w.length q k = ad k := fun k hk => va_up_ne _ _ (Nat.ne_of_lt hk)
  apply List.ext_getElem?
  intro i
  by_cases hl : i < w.length
  · rw [List.getElem?_append_left (by rw [xW_len]; exact hl)]
    have h1 : w[i]? = some w[i] := List.getElem?_eq_getElem hl
    rw [xW_at h1, xW_at (show (w ++ [e])[i]? = some w[i] by rw [List.getElem?_append_left hl]; exact h1), xE_same hs h h1, hs i hl]
  · by_cases hi : i = w.length
    · subst hi
      rw [List.getElem?_append_right (by rw [xW_len]; exact Nat.le_refl _), xW_len, Nat.sub_self, xW_at (show (w ++ [e])[w.length]? = some e by simp)]
      simp [va_up_self]
    · rw [List.getElem?_eq_none (by simp [xW_len]; omega), List.getElem?_eq_none (by simp [xW_len]; omega)]
/-- the slots that are known hold what they should -/
def xL (ad : Nat → Nat) (b nL : Nat) (ls0 : Array Slot) (ls : zL) : Prop := ls.length = nL ∧ ls0.size = nL ∧ lv_wf ls0 ∧ ∀ (i : Nat) (v : Value), ls[i]? = some (some v) → ls0[i]? = some (.val (xV ad b v))
theorem xL_same {ad ad' : Nat → Nat} {b n nL : Nat} {ls0 : Array Slot} {ls : zL} (hs : ∀ k, k < n → ad' k = ad k) (h : zscL n ls = true) (hl : xL ad b nL ls0 ls) : xL ad' b nL ls0 ls := by
  refine ⟨hl.1, hl.2.1, hl.2.2.1, fun i v hv => ?_⟩
  have h1 := List.all_eq_true.mp h (some v) (List.mem_of_getElem? hv)
  rw [xV_same hs h1]
  exact hl.2.2.2 i v hv
/-- the known slots as the kit's list has them -/
def xlist (ad : Nat → Nat) (b : Nat) (ls : zL) : List (Nat × Value) := (List.range ls.length).filterMap fun i => match ls[i]? with
  | some (some v) => some (i, xV ad b v)
  | _ => none
theorem xlist_in {ad : Nat → Nat} {b i : Nat} {ls : zL} {v : Value} (h : ls[i]? = some (some v)) : (i, xV ad b v) ∈ xlist ad b ls := by
  refine List.mem_filterMap.mpr ⟨i, List.mem_range.mpr (List.getElem?_eq_some_iff.mp h).1, ?_⟩
  rw [h]
theorem xlist_has {ad : Nat → Nat} {b nL : Nat} {ls0 : Array Slot} {ls : zL} (h : xL ad b nL ls0 ls) : lv_has ls0 nL (xlist ad b ls) := by
  refine ⟨h.2.1, h.2.2.1, fun q hq => ?_⟩
  obtain ⟨i, -, hi⟩ := List.mem_filterMap.mp hq
  cases hl : ls[i]? with
  | none => rw [hl] at hi; cases hi
  | some o =>
    cases o with
    | none => rw [hl] at hi; cases hi
    | some v =>
      rw [hl] at hi
      cases hi
      exact h.2.2.2 i v hl
theorem zclr_len {i : Nat} {ls : zL} : (zclr i ls).length = ls.length := by
  unfold zclr
  split
  · rfl
  · split
    · split
      · exact List.length_set
      · rfl
    · rfl
theorem zclr_at {i j : Nat} {ls : zL} {v : Value} (h : (zclr i ls)[j]? = some (some v)) : ls[j]? = some (some v) ∧ ¬ (j + 1 = i ∧ v.category = 2) := by
  unfold zclr at h
  split at h
  · exact ⟨h, fun q => by omega⟩
  · rename_i k
    split at h
    · rename_i u hu
      split at h
      · by_cases hjk : j = k
        · subst hjk
          rw [List.getElem?_set_self (List.getElem?_eq_some_iff.mp hu).1] at h
          cases h
        · rw [List.getElem?_set_ne (Ne.symm hjk)] at h
          exact ⟨h, fun q => hjk (by omega)⟩
      · rename_i hc
        refine ⟨h, fun q => hc ?_⟩
        have e1 : j = k := by omega
        subst e1
        rw [hu] at h
        cases h
        exact q.2
    · rename_i hno
      refine ⟨h, fun q => ?_⟩
      have e1 : j = k := by omega
      subst e1
      exact hno v h
theorem xL_put1 {ad : Nat → Nat} {b nL i : Nat} {ls0 ls0' : Array Slot} {ls : zL} {v : Value} (hl : xL ad b nL ls0 ls) (hi : i < ls.length)
    (h : lv_has ls0' nL ((i, xV ad b v) :: (xlist ad b ls).filter (fun q => !(q.1 == i) && !(q.1 + 1 == i && q.2.category == 2)))) : xL ad b nL ls0' (zput1 i v ls) := by
  refine ⟨by rw [zput1, List.length_set, zclr_len]; exact hl.1, h.1, h.2.1, fun j u hu => ?_⟩
  unfold zput1 at hu
  by_cases hj : j = i
  · subst hj
    rw [List.getElem?_set_self (by rw [zclr_len]; exact hi)] at hu
    cases hu
    exact h.2.2 _ List.mem_cons_self
  · rw [List.getElem?_set_ne (Ne.symm hj)] at hu
    obtain ⟨h1, h2⟩ := zclr_at hu
    refine h.2.2 (j, xV ad b u) (List.mem_cons_of_mem _ (List.mem_filter.mpr ⟨xlist_in h1, ?_⟩))
    simp only [Bool.and_eq_true, Bool.not_eq_true', beq_eq_false_iff_ne, ne_eq, Bool.and_eq_false_iff]
    refine ⟨hj, ?_⟩
    by_cases h3 : j + 1 = i
    · refine Or.inr (fun h4 => h2 ⟨h3, ?_⟩)
      cases u <;> first | exact h4 | rfl
    · exact Or.inl h3
theorem xV_cat (ad : Nat → Nat) (b : Nat) (v : Value) : (xV ad b v).category = v.category := by cases v <;> rfl
theorem xL_put2 {ad : Nat → Nat} {b nL i : Nat} {ls0 ls0' : Array Slot} {ls : zL} {v : Value} (hl : xL ad b nL ls0 ls) (hi : i + 1 < ls.length)
    (h : lv_has ls0' nL ((i, xV ad b v) :: (xlist ad b ls).filter (fun q => !(q.1 == i) && (!(q.1 == i + 1) && !(q.1 + 1 == i && q.2.category == 2))))) : xL ad b nL ls0' (zput2 i v ls) := by
  refine ⟨by rw [zput2, List.length_set, List.length_set, zclr_len]; exact hl.1, h.1, h.2.1, fun j u hu => ?_⟩
  unfold zput2 at hu
  by_cases hj1 : j = i + 1
  · subst hj1
    rw [List.getElem?_set_self (by rw [List.length_set, zclr_len]; exact hi)] at hu
    cases hu
  rw [List.getElem?_set_ne (Ne.symm hj1)] at hu
  by_cases hj : j = i
  · subst hj
    rw [List.getElem?_set_self (by rw [zclr_len]; omega)] at hu
    cases hu
    exact h.2.2 _ List.mem_cons_self
  · rw [List.getElem?_set_ne (Ne.symm hj)] at hu
    obtain ⟨h1, h2⟩ := zclr_at hu
    refine h.2.2 (j, xV ad b u) (List.mem_cons_of_mem _ (List.mem_filter.mpr ⟨xlist_in h1, ?_⟩))
    simp only [Bool.and_eq_true, Bool.not_eq_true', beq_eq_false_iff_ne, ne_eq, Bool.and_eq_false_iff]
    refine ⟨hj, hj1, ?_⟩
    by_cases h3 : j + 1 = i
    · exact Or.inr (fun h4 => h2 ⟨h3, by rw [xV_cat] at h4; exact h4⟩)
    · exact Or.inl h3
theorem xL_cut {ad : Nat → Nat} {b nL i : Nat} {ls0 ls0' : Array Slot} {ls : zL} {v : Value} (hl : xL ad b nL ls0 ls)
    (h : lv_has ls0' nL ((i, v) :: (xlist ad b ls).filter (fun q => !(q.1 == i) && !(q.1 + 1 == i && q.2.category == 2)))) : xL ad b nL ls0' (zcut i ls) := by
  refine ⟨by rw [zcut, List.length_set, zclr_len]; exact hl.1, h.1, h.2.1, fun j u hu => ?_⟩
  unfold zcut at hu
  by_cases hj : j = i
  · subst hj
    by_cases hi : j < (zclr j ls).length
    · rw [List.getElem?_set_self hi] at hu
      cases hu
    · rw [List.getElem?_eq_none (by rw [List.length_set]; omega)] at hu
      cases hu
  · rw [List.getElem?_set_ne (Ne.symm hj)] at hu
    obtain ⟨h1, h2⟩ := zclr_at hu
    refine h.2.2 (j, xV ad b u) (List.mem_cons_of_mem _ (List.mem_filter.mpr ⟨xlist_in h1, ?_⟩))
    simp only [Bool.and_eq_true, Bool.not_eq_true', beq_eq_false_iff_ne, ne_eq, Bool.and_eq_false_iff]
    refine ⟨hj, ?_⟩
    by_cases h3 : j + 1 = i
    · exact Or.inr (fun h4 => h2 ⟨h3, by rw [xV_cat] at h4; exact h4⟩)
    · exact Or.inl h3
theorem zargs_in (ad : Nat → Nat) (b : Nat) : ∀ (as : List Value) (j i : Nat) (v : Value), (zargs as)[i]? = some (some v) → (j + i, xV ad b v) ∈ lv_args j (as.map (xV ad b))
  | [], j, i, v, h => by simp [zargs] at h
  | a :: as, j, i, v, h => by
    show _ ∈ (j, xV ad b a) :: lv_args (if (xV ad b a).category = 2 then j + 2 else j + 1) (as.map (xV ad b))
    rw [xV_cat]
    unfold zargs at h
    by_cases hc : a.category = 2
    · rw [if_pos hc] at h ⊢
      match i, h with
      | 0, h => cases h; exact List.mem_cons_self
      | 1, h => cases h
      | i + 2, h =>
        refine List.mem_cons_of_mem _ ?_
        have := zargs_in ad b as (j + 2) i v h
        rwa [show j + 2 + i = j + (i + 2) by omega] at this
    · rw [if_neg hc] at h ⊢
      match i, h with
      | 0, h => cases h; exact List.mem_cons_self
      | i + 1, h =>
        refine List.mem_cons_of_mem _ ?_
        have := zargs_in ad b as (j + 1) i v h
        rwa [show j + 1 + i = j + (i + 1) by omega] at this
theorem zargs_len (ad : Nat → Nat) (b : Nat) : ∀ (as : List Value), (lg_sl (as.map (xV ad b))).length = (zargs as).length
  | [] => rfl
  | a :: as => by
    have h := zargs_len ad b as
    unfold zargs
    by_cases hc : a.category = 2
    · rw [if_pos hc]
      cases a <;> simp_all [lg_sl, xV, Value.category]
    · rw [if_neg hc]
      cases a <;> simp_all [lg_sl, xV, Value.category]
theorem xL_entry {ad : Nat → Nat} {b nL : Nat} {as : List Value} (h : (zargs as).length ≤ nL) :
    xL ad b nL ((lg_sl (as.map (xV ad b)) ++ List.replicate (nL - (lg_sl (as.map (xV ad b))).length) Slot.unset).toArray) (zargs as ++ List.replicate (nL - (zargs as).length) none) := by
  have h1 := lv_entry (as.map (xV ad b)) (n := nL) (by rw [zargs_len]; exact h)
  refine ⟨by simp; omega, h1.1, h1.2.1, fun i v hv => ?_⟩
  by_cases hi : i < (zargs as).length
  · rw [List.getElem?_append_left hi] at hv
    have h2 := zargs_in ad b as 0 i v hv
    rw [Nat.zero_add] at h2
    exact h1.2.2 _ h2
  · rw [List.getElem?_append_right (by omega)] at hv
    rw [List.getElem?_replicate] at hv
    split at hv
    · cases hv
    · cases hv
end
section
/-! A thrown thing that the caller's own table catches: rows ahead are passed, the entry's name may be looked up now for the first time. -/
def zcS (e : Env) (s : State) (f : JFrame) (a : Addr) (es : List ExceptionTableEntry) (pc : Nat) (vm' : Vm) : Prop :=
  ∀ (Q : Handler → Pre) (X : CtlPost) (d : Bool) (acts : List Action), wp (findHandler.go f a es) Q X e d acts s ↔ Q (.found pc) d acts (s.setVm vm')
theorem zc_seen {e : Env} {s : State} {f : JFrame} {a : Addr} {x : ExceptionTableEntry} {c : ClassId} {cell : Cell} (hx : covers x f.pc = true) (h0 : x.catchType ≠ 0)
    (hl : s.vm.ClassLinks e.platform f.method.cls x.catchType c) (hcell : s.heap[a]? = some cell) (hobj : ∀ k, cell.vm ≠ .statics k)
    (hk : ∃ k, s.vm.classes[cell.cls]? = some k) (hc : ∃ k, s.vm.classes[c]? = some k) (t : List ExceptionTableEntry) {Q : Handler → Pre} {X : CtlPost} {d : Bool} {acts : List Action} :
    wp (findHandler.go f a (x :: t)) Q X e d acts s ↔ (if s.vm.assignable cell.cls c = true then Q (.found x.handlerPc) d acts (s.setVm (s.vm.noted f.method.cls x.catchType (.cls c)))
      else wp (findHandler.go f a t) Q X e d acts (s.setVm (s.vm.noted f.method.cls x.catchType (.cls c)))) := by
  simp only [covers] at hx
  obtain ⟨ha, ht⟩ := (resolveClass_links e.toSetting hl).op (op := VmOp.resolveClass f.method.cls x.catchType) rfl
  have hal : s.vm.Alike (s.vm.noted f.method.cls x.catchType (.cls c)) := (Vm.Alike.refl s.vm).noted _ _ _
  obtain ⟨k1, hk1⟩ := hk
  obtain ⟨k2, hk2⟩ := hc
  obtain ⟨k1', hk1', -⟩ := hal.2.2 _ _ hk1
  obtain ⟨k2', hk2', -⟩ := hal.2.2 _ _ hk2
  by_cases hf : s.vm.assignable cell.cls c = true
  · have hf' : (s.vm.noted f.method.cls x.catchType (.cls c)).assignable cell.cls c = true := by rw [hal.assignable]; exact hf
    rw [if_pos hf]
    simp [findHandler.go, hx, h0, ha, ht, hcell, hobj, hk1', hk2', hf', VmOp.dirties, VmOp.acts]
  · have hf' : (s.vm.noted f.method.cls x.catchType (.cls c)).assignable cell.cls c = false := by rw [hal.assignable]; simpa using hf
    rw [if_neg hf]
    simp [findHandler.go, hx, h0, ha, ht, hcell, hobj, hk1', hk2', hf', VmOp.dirties, VmOp.acts]
/-- an entry of the table, said of the start: it doesn't lie over pc; or it names what the thrown thing isn't (b = false), or is (b = true) -/
def zcE (pl : Platform) (s : State) (d : ClassId) (pc : Nat) (th : ClassId) (b : Bool) (x : ExceptionTableEntry) : Prop :=
  covers x pc = true ∧ x.catchType ≠ 0 ∧ ∃ c, s.vm.ClassLinks pl d x.catchType c ∧ s.vm.assignable th c = b
theorem zc_go {e : Env} {s : State} {f : JFrame} {a : Addr} {cell : Cell} (hobj : ∀ k, cell.vm ≠ .statics k) (hk0 : ∃ k, s.vm.classes[cell.cls]? = some k) (x : ExceptionTableEntry) (rest : List ExceptionTableEntry)
    (hend : zcE e.platform s f.method.cls f.pc cell.cls true x) : ∀ (pre : List ExceptionTableEntry) (S : State), s.WarmedH S.vm → S.heap[a]? = some cell →
      (∀ y ∈ pre, covers y f.pc = false ∨ zcE e.platform s f.method.cls f.pc cell.cls false y) → ∃ vm', s.WarmedH vm' ∧ zcS e S f a (pre ++ x :: rest) x.handlerPc vm' := by
  obtain ⟨k0, hk0⟩ := hk0
  have one : ∀ (y : ExceptionTableEntry) (b : Bool) (S : State), s.WarmedH S.vm → zcE e.platform s f.method.cls f.pc cell.cls b y → ∃ c, S.vm.ClassLinks e.platform f.method.cls y.catchType c ∧ s.WarmedH (S.vm.noted f.method.cls y.catchType (.cls c)) ∧ (∃ k, S.vm.classes[cell.cls]? = some k) ∧ (∃ k, S.vm.classes[c]? = some k) ∧ S.vm.assignable cell.cls c = b := by
    intro y b S hW hy
    obtain ⟨-, -, c, hl, hb⟩ := hy
    obtain ⟨dk, _, _, kt, hd, _, _, _, _, hkt, _, hopen⟩ := hl.here
    obtain ⟨k0', hk0', -⟩ := hW.alike.2.2 _ _ hk0
    obtain ⟨kt', hkt', -⟩ := hW.alike.2.2 _ _ hkt
    exact ⟨c, hW.classLinks hl, hW.noted hd hopen (State.rightAt_cls hl), ⟨k0', hk0'⟩, ⟨kt', hkt'⟩, by rw [hW.alike.assignable]; exact hb⟩
  intro pre
  induction pre with
  | nil =>
    intro S hW hcell _
    obtain ⟨c, hl, hW', hk, hc, hb⟩ := one x true S hW hend
    exact ⟨_, hW', fun Q X d acts => by rw [List.nil_append, zc_seen hend.1 hend.2.1 hl hcell hobj hk hc rest, if_pos hb]⟩
  | cons y ys ih =>
    intro S hW hcell hp
    rcases hp y List.mem_cons_self with h | h
    · obtain ⟨vm', h1, h2⟩ := ih S hW hcell (fun z hz => hp z (List.mem_cons_of_mem _ hz))
      exact ⟨vm', h1, fun Q X d acts => by rw [List.cons_append, W.findHandler_go_skip h]; exact h2 Q X d acts⟩
    · obtain ⟨c, hl, hW', hk, hc, hb⟩ := one y false S hW h
      obtain ⟨vm', h1, h2⟩ := ih (S.setVm (S.vm.noted f.method.cls y.catchType (.cls c))) hW' hcell (fun z hz => hp z (List.mem_cons_of_mem _ hz))
      exact ⟨vm', h1, fun Q X d acts => by
        rw [List.cons_append, zc_seen h.1 h.2.1 hl hcell hobj hk hc _, if_neg (by rw [hb]; decide)]
        exact h2 Q X d acts⟩
theorem zc_step {e : Env} {s : State} {a : Addr} {f : JFrame} {r : List Frame} {pc : Nat} {vm' : Vm} (hfind : ∀ (Q : Handler → Pre) (X : CtlPost) (d : Bool) (acts : List Action), wp (findHandler f a) Q X e d acts s ↔ Q (.found pc) d acts (s.setVm vm')) :
    (stepThrowing e s a (.java f :: r)).Is ((s.setVm vm').setFrames (.java { f with pc := pc, stack := [.ref a] } :: r)) [] := by
  simp only [stepThrowing, searchFrame, vmDo]
  generalize hr : Sem.go _ e false [] s = res
  obtain ⟨as, rfl, ha⟩ := Sem.eq_ok_of hr (a := Handler.found pc) (s' := s.setVm vm') (acts' := []) (by simp [hfind _ _ _ _])
  exact ⟨rfl, ha⟩
/-- from the thrown thing over the frame g to the handler -/
theorem zc_catch {p : Program} {l : Launch} {e : Env} {R : Room} {s : State} {m : MethodId} {args : Array Value} {below : List Frame} {meth : Method} {c : Code} {T : State} {locs : List Loc} {cells slots : Nat}
    (X : Stand p l e R s m args below meth c T locs cells slots) (a : Addr) {g : JFrame} (hg : g.method = m) {cell : Cell} (hcell : T.heap[a]? = some cell) (hobj : cell.vm = .none) (hk0 : ∃ k, s.vm.classes[cell.cls]? = some k)
    (pre : List ExceptionTableEntry) (x : ExceptionTableEntry) (rest : List ExceptionTableEntry) (hsplit : c.exceptionTable.toList = pre ++ x :: rest)
    (hp : ∀ y ∈ pre, covers y g.pc = false ∨ zcE e.platform s m.cls g.pc cell.cls false y) (hend : zcE e.platform s m.cls g.pc cell.cls true x) :
    ∃ vm', Stand p l e R s m args below meth c (T.setVm vm') locs cells slots ∧
      ∀ target, Steps p.tables e below ((T.setVm vm').setTop { g with pc := x.handlerPc, stack := [.ref a] }) target → Steps p.tables e below ((T.setTop g).pushFrame (.throwing a)) target := by
  subst hg
  obtain ⟨vm', hW', hf⟩ := zc_go (e := e) (s := s) (f := g) (a := a) (cell := cell) (fun k => by rw [hobj]; exact fun h => by cases h) hk0 x rest hend pre ((T.setTop g).pushFrame (.throwing a)) X.warmed hcell hp
  refine ⟨vm', X.noted hW', fun target hrest => ?_⟩
  have h := X.here
  obtain ⟨hgo, hw⟩ := h.throwing a
  refine Steps.head hgo hw ?_
  rw [stepThread_throwing (frames_entered h.top _), (zc_step (s := (T.setTop g).pushFrame (.throwing a)) (vm' := vm') (pc := x.handlerPc) (fun Q X9 d acts => by rw [W.findHandler_eq (s := (T.setTop g).pushFrame (.throwing a)) (f := g) X.method' X.code, hsplit]; exact hf Q X9 d acts)).1]
  obtain ⟨g₀, hg0⟩ := Option.isSome_iff_exists.mp h.top
  obtain ⟨r, hr⟩ := State.topJava?_eq_some.mp hg0
  have hr' : (T.setVm vm').frames = .java g₀ :: r := hr
  rw [State.setTop_of_frames _ hr'] at hrest
  have e1 : ∀ (u : State) (F G : List Frame), ((u.setFrames F).setVm vm').setFrames G = (u.setVm vm').setFrames G := fun u F G => by
    have h1 : (u.setFrames F).setVm vm' = (u.setVm vm').setFrames F := rfl
    rw [h1, State.setFrames_setFrames]
  rw [hr, List.tail_cons, State.pushFrame, e1, State.setTop_of_frames _ hr, e1]
  exact hrest
end
section
/-! Each instruction that looks at no cell does on the machine what zP says. -/
theorem zlen_of {i : Instr} {n k : Nat} (hn : zlen i = some n ∨ zlen i = none) (hk : zlen i = some k) : n = k := by
  rcases hn with h | h
  · rw [hk] at h; exact (Option.some.inj h).symm
  · rw [hk] at h; cases h
theorem zite {P : Nat → Prop} {c : Bool} {a b : Nat} (h : P (if c = true then a else b)) : (c = true → P a) ∧ (c = false → P b) := by
  cases c
  · exact ⟨fun q => (by cases q), fun _ => h⟩
  · exact ⟨fun _ => h, fun q => (by cases q)⟩
theorem zi1_of {f : Int32 → Value} {pc : Nat} {ls : zL} {st : List Value} {r : Nat × zL × List Value} (h : zi1 f pc ls st = some r) : ∃ x st0, st = .int x :: st0 ∧ r = (pc + 1, ls, f x :: st0) := by
  unfold zi1 at h; split at h
  · exact ⟨_, _, rfl, (Option.some.inj h).symm⟩
  · cases h
theorem zl1_of {f : Int64 → Value} {pc : Nat} {ls : zL} {st : List Value} {r : Nat × zL × List Value} (h : zl1 f pc ls st = some r) : ∃ x st0, st = .long x :: st0 ∧ r = (pc + 1, ls, f x :: st0) := by
  unfold zl1 at h; split at h
  · exact ⟨_, _, rfl, (Option.some.inj h).symm⟩
  · cases h
theorem zi2_of {f : Int32 → Int32 → Int32} {pc : Nat} {ls : zL} {st : List Value} {r : Nat × zL × List Value} (h : zi2 f pc ls st = some r) : ∃ x y st0, st = .int y :: .int x :: st0 ∧ r = (pc + 1, ls, .int (f x y) :: st0) := by
  unfold zi2 at h; split at h
  · exact ⟨_, _, _, rfl, (Option.some.inj h).symm⟩
  · cases h
theorem zdiv_of {f : Int32 → Int32 → Int32} {pc : Nat} {ls : zL} {st : List Value} {r : Nat × zL × List Value} (h : zdiv f pc ls st = some r) : ∃ x y st0, st = .int y :: .int x :: st0 ∧ ¬ y = 0 ∧ r = (pc + 1, ls, .int (f x y) :: st0) := by
  unfold zdiv at h; split at h
  · split at h
    · cases h
    · rename_i hz
      exact ⟨_, _, _, rfl, hz, (Option.some.inj h).symm⟩
  · cases h
theorem zl2_of {f : Int64 → Int64 → Value} {pc : Nat} {ls : zL} {st : List Value} {r : Nat × zL × List Value} (h : zl2 f pc ls st = some r) : ∃ x y st0, st = .long y :: .long x :: st0 ∧ r = (pc + 1, ls, f x y :: st0) := by
  unfold zl2 at h; split at h
  · exact ⟨_, _, _, rfl, (Option.some.inj h).symm⟩
  · cases h
theorem zls_of {f : Int64 → Int32 → Int64} {pc : Nat} {ls : zL} {st : List Value} {r : Nat × zL × List Value} (h : zls f pc ls st = some r) : ∃ x y st0, st = .int y :: .long x :: st0 ∧ r = (pc + 1, ls, .long (f x y) :: st0) := by
  unfold zls at h; split at h
  · exact ⟨_, _, _, rfl, (Option.some.inj h).symm⟩
  · cases h
theorem zb1_of {f : Int32 → Bool} {tg pc : Nat} {ls : zL} {st : List Value} {r : Nat × zL × List Value} (h : zb1 f tg pc ls st = some r) : ∃ x st0, st = .int x :: st0 ∧ r = (if f x = true then tg else pc + 3, ls, st0) := by
  unfold zb1 at h; split at h
  · exact ⟨_, _, rfl, (Option.some.inj h).symm⟩
  · cases h
theorem zb2_of {f : Int32 → Int32 → Bool} {tg pc : Nat} {ls : zL} {st : List Value} {r : Nat × zL × List Value} (h : zb2 f tg pc ls st = some r) : ∃ x y st0, st = .int y :: .int x :: st0 ∧ r = (if f x y = true then tg else pc + 3, ls, st0) := by
  unfold zb2 at h; split at h
  · exact ⟨_, _, _, rfl, (Option.some.inj h).symm⟩
  · cases h
theorem zldI_of {i n pc : Nat} {ls : zL} {st : List Value} {r : Nat × zL × List Value} (h : zldI i n pc ls st = some r) : ∃ x, ls[i]? = some (some (.int x)) ∧ r = (pc + n, ls, .int x :: st) := by
  unfold zldI at h; split at h
  · rename_i x hx
    exact ⟨x, hx, (Option.some.inj h).symm⟩
  · cases h
theorem zldL_of {i n pc : Nat} {ls : zL} {st : List Value} {r : Nat × zL × List Value} (h : zldL i n pc ls st = some r) : ∃ x, ls[i]? = some (some (.long x)) ∧ r = (pc + n, ls, .long x :: st) := by
  unfold zldL at h; split at h
  · rename_i x hx
    exact ⟨x, hx, (Option.some.inj h).symm⟩
  · cases h
theorem zldA_of (ad : Nat → Nat) (b : Nat) {i n pc : Nat} {ls : zL} {st : List Value} {r : Nat × zL × List Value} (h : zldA i n pc ls st = some r) : ∃ v x, ls[i]? = some (some v) ∧ xV ad b v = .ref x ∧ r = (pc + n, ls, v :: st) := by
  unfold zldA at h; split at h
  · rename_i x hx
    exact ⟨_, _, hx, rfl, (Option.some.inj h).symm⟩
  · rename_i x hx
    exact ⟨_, _, hx, rfl, (Option.some.inj h).symm⟩
  · cases h
theorem zstI_of {i n pc : Nat} {ls : zL} {st : List Value} {r : Nat × zL × List Value} (h : zstI i n pc ls st = some r) : ∃ x st0, st = .int x :: st0 ∧ i < ls.length ∧ r = (pc + n, zput1 i (.int x) ls, st0) := by
  unfold zstI at h; split at h
  · split at h
    · rename_i hi
      exact ⟨_, _, rfl, hi, (Option.some.inj h).symm⟩
    · cases h
  · cases h
theorem zstA_of {i n pc : Nat} {ls : zL} {st : List Value} {r : Nat × zL × List Value} (h : zstA i n pc ls st = some r) : ∃ x st0, st = .ref x :: st0 ∧ i < ls.length ∧ r = (pc + n, zput1 i (.ref x) ls, st0) := by
  unfold zstA at h; split at h
  · split at h
    · rename_i hi
      exact ⟨_, _, rfl, hi, (Option.some.inj h).symm⟩
    · cases h
  · cases h
theorem zstL_of {i n pc : Nat} {ls : zL} {st : List Value} {r : Nat × zL × List Value} (h : zstL i n pc ls st = some r) : ∃ x st0, st = .long x :: st0 ∧ i + 1 < ls.length ∧ r = (pc + n, zput2 i (.long x) ls, st0) := by
  unfold zstL at h; split at h
  · split at h
    · rename_i hi
      exact ⟨_, _, rfl, hi, (Option.some.inj h).symm⟩
    · cases h
  · cases h
theorem zinc_of {i : Nat} {n : Int} {pc : Nat} {ls : zL} {st : List Value} {r : Nat × zL × List Value} (h : zinc i n pc ls st = some r) : ∃ x, ls[i]? = some (some (.int x)) ∧ r = (pc + 3, zput1 i (.int (x + Int32.ofInt n)) ls, st) := by
  unfold zinc at h; split at h
  · rename_i x hx
    exact ⟨x, hx, (Option.some.inj h).symm⟩
  · cases h
theorem zdup_of {pc : Nat} {ls : zL} {st : List Value} {r : Nat × zL × List Value} (h : zdup pc ls st = some r) : ∃ v st0, st = v :: st0 ∧ v.category = 1 ∧ r = (pc + 1, ls, v :: v :: st0) := by
  unfold zdup at h; split at h
  · split at h
    · rename_i hc
      exact ⟨_, _, rfl, hc, (Option.some.inj h).symm⟩
    · cases h
  · cases h
theorem zpop_of {pc : Nat} {ls : zL} {st : List Value} {r : Nat × zL × List Value} (h : zpop pc ls st = some r) : ∃ v st0, st = v :: st0 ∧ v.category = 1 ∧ r = (pc + 1, ls, st0) := by
  unfold zpop at h; split at h
  · split at h
    · rename_i hc
      exact ⟨_, _, rfl, hc, (Option.some.inj h).symm⟩
    · cases h
  · cases h
theorem zpop2_of {pc : Nat} {ls : zL} {st : List Value} {r : Nat × zL × List Value} (h : zpop2 pc ls st = some r) : ∃ v st0, st = v :: st0 ∧ v.category = 2 ∧ r = (pc + 1, ls, st0) := by
  unfold zpop2 at h; split at h
  · split at h
    · rename_i hc
      exact ⟨_, _, rfl, hc, (Option.some.inj h).symm⟩
    · cases h
  · cases h
theorem zdup2_of {pc : Nat} {ls : zL} {st : List Value} {r : Nat × zL × List Value} (h : zdup2 pc ls st = some r) : ∃ v u st0, st = v :: u :: st0 ∧ (v.category = 1 ∧ u.category = 1) ∧ r = (pc + 1, ls, v :: u :: v :: u :: st0) := by
  unfold zdup2 at h; split at h
  · split at h
    · rename_i hc
      exact ⟨_, _, _, rfl, hc, (Option.some.inj h).symm⟩
    · cases h
  · cases h
theorem zdupx1_of {pc : Nat} {ls : zL} {st : List Value} {r : Nat × zL × List Value} (h : zdupx1 pc ls st = some r) : ∃ v u st0, st = v :: u :: st0 ∧ (v.category = 1 ∧ u.category = 1) ∧ r = (pc + 1, ls, v :: u :: v :: st0) := by
  unfold zdupx1 at h; split at h
  · split at h
    · rename_i hc
      exact ⟨_, _, _, rfl, hc, (Option.some.inj h).symm⟩
    · cases h
  · cases h
theorem zdupx2_of {pc : Nat} {ls : zL} {st : List Value} {r : Nat × zL × List Value} (h : zdupx2 pc ls st = some r) : ∃ v u t st0, st = v :: u :: t :: st0 ∧ (v.category = 1 ∧ u.category = 1 ∧ t.category = 1) ∧ r = (pc + 1, ls, v :: u :: t :: v :: st0) := by
  unfold zdupx2 at h; split at h
  · split at h
    · rename_i hc
      exact ⟨_, _, _, _, rfl, hc, (Option.some.inj h).symm⟩
    · cases h
  · cases h
set_option maxHeartbeats 4000000 in
theorem zP_sound {p : Program} {l : Launch} {e : Env} {R : Room} {s : State} {m : MethodId} {args : Array Value} {below : List Frame} {meth : Method} {c : Code} {H : Heap} {locs : List Loc} {cells slots : Nat} {Q : State → Prop} {cc : ByteArray} (hx : p.tables.exec = Jvm.exec) (hb : c.code = cc) {i : Instr} {tg pc n : Nat} {ls : zL} {st : List Value} {pc' : Nat} {ls' : zL} {st' : List Value} {ad : Nat → Nat} {b nL : Nat} {ls0 : Array Slot}
    (hd : decode cc pc = .ok (i, n)) (hn : zlen i = some n ∨ zlen i = none) (hj : ∀ o, zoff i = some o → (pc : Int) + o = (tg : Int)) (hl : xL ad b nL ls0 ls) (h : zP i tg pc ls st = some (pc', ls', st'))
    (k : ∀ ls1, xL ad b nL ls1 ls' → W p l e R s m args below meth c H locs cells slots Q (F0 m pc' ls1 (st'.map (xV ad b)))) : W p l e R s m args below meth c H locs cells slots Q (F0 m pc ls0 (st.map (xV ad b))) := by
  cases i with
  | iconst n0 =>
    obtain rfl := zlen_of hn rfl
    cases h
    exact lv_iconst hx hb hd rfl (k ls0 hl)
  | bipush n0 =>
    obtain rfl := zlen_of hn rfl
    cases h
    exact lv_bipush hx hb hd rfl (k ls0 hl)
  | sipush n0 =>
    obtain rfl := zlen_of hn rfl
    cases h
    exact lv_sipush hx hb hd rfl (k ls0 hl)
  | lconst n0 =>
    obtain rfl := zlen_of hn rfl
    cases h
    exact lv_lconst hx hb hd rfl (k ls0 hl)
  | iload_n j =>
    obtain rfl := zlen_of hn rfl
    obtain ⟨x, hi, e9⟩ := zldI_of h
    cases e9
    exact lv_iload_n hx hb hd rfl (hl.2.2.2 _ _ hi) (k ls0 hl)
  | iload j =>
    obtain rfl := zlen_of hn rfl
    obtain ⟨x, hi, e9⟩ := zldI_of h
    cases e9
    exact lv_iload hx hb hd (hl.2.2.2 _ _ hi) (k ls0 hl)
  | lload_n j =>
    obtain rfl := zlen_of hn rfl
    obtain ⟨x, hi, e9⟩ := zldL_of h
    cases e9
    exact lv_lload_n hx hb hd rfl (hl.2.2.2 _ _ hi) (k ls0 hl)
  | lload j =>
    obtain rfl := zlen_of hn rfl
    obtain ⟨x, hi, e9⟩ := zldL_of h
    cases e9
    exact lv_lload hx hb hd (hl.2.2.2 _ _ hi) (k ls0 hl)
  | aload_n j =>
    obtain rfl := zlen_of hn rfl
    obtain ⟨v, x, hi, hv, e9⟩ := zldA_of ad b h
    cases e9
    have h1 := hl.2.2.2 _ _ hi
    have h2 := k ls0 hl
    rw [List.map_cons, hv] at h2
    rw [hv] at h1
    exact lv_aload_n hx hb hd rfl h1 h2
  | aload j =>
    obtain rfl := zlen_of hn rfl
    obtain ⟨v, x, hi, hv, e9⟩ := zldA_of ad b h
    cases e9
    have h1 := hl.2.2.2 _ _ hi
    have h2 := k ls0 hl
    rw [List.map_cons, hv] at h2
    rw [hv] at h1
    exact lv_aload hx hb hd h1 h2
  | istore_n j =>
    obtain rfl := zlen_of hn rfl
    obtain ⟨x, st0, rfl, hi, e9⟩ := zstI_of h
    cases e9
    exact lv_istore_n hx hb hd rfl (xlist_has hl) (by rw [← hl.1]; exact hi) rfl (fun ls1 h1 => k ls1 (xL_put1 hl hi h1))
  | istore j =>
    obtain rfl := zlen_of hn rfl
    obtain ⟨x, st0, rfl, hi, e9⟩ := zstI_of h
    cases e9
    exact lv_istore hx hb hd (xlist_has hl) (by rw [← hl.1]; exact hi) rfl (fun ls1 h1 => k ls1 (xL_put1 hl hi h1))
  | astore_n j =>
    obtain rfl := zlen_of hn rfl
    obtain ⟨x, st0, rfl, hi, e9⟩ := zstA_of h
    cases e9
    exact lv_astore_n hx hb hd rfl (xlist_has hl) (by rw [← hl.1]; exact hi) rfl (fun ls1 h1 => k ls1 (xL_put1 hl hi h1))
  | astore j =>
    obtain rfl := zlen_of hn rfl
    obtain ⟨x, st0, rfl, hi, e9⟩ := zstA_of h
    cases e9
    exact lv_astore hx hb hd (xlist_has hl) (by rw [← hl.1]; exact hi) rfl (fun ls1 h1 => k ls1 (xL_put1 hl hi h1))
  | lstore_n j =>
    obtain rfl := zlen_of hn rfl
    obtain ⟨x, st0, rfl, hi, e9⟩ := zstL_of h
    cases e9
    exact lv_lstore_n hx hb hd rfl (xlist_has hl) (by rw [← hl.1]; exact hi) rfl (fun ls1 h1 => k ls1 (xL_put2 hl hi h1))
  | lstore j =>
    obtain rfl := zlen_of hn rfl
    obtain ⟨x, st0, rfl, hi, e9⟩ := zstL_of h
    cases e9
    exact lv_lstore hx hb hd (xlist_has hl) (by rw [← hl.1]; exact hi) rfl (fun ls1 h1 => k ls1 (xL_put2 hl hi h1))
  | iinc j n0 =>
    obtain rfl := zlen_of hn rfl
    obtain ⟨x, hi, e9⟩ := zinc_of h
    cases e9
    have hlt := (List.getElem?_eq_some_iff.mp hi).1
    obtain ⟨q, hq⟩ := List.getElem?_of_mem (xlist_in (ad := ad) (b := b) hi)
    exact lv_iinc hx hb hd (xlist_has hl) hq rfl (by rw [← hl.1]; exact hlt) rfl (fun ls1 h1 => k ls1 (xL_put1 hl hlt h1))
  | iadd =>
    obtain rfl := zlen_of hn rfl
    obtain ⟨x, y, st0, rfl, e9⟩ := zi2_of h
    cases e9
    exact lv_iadd hx hb hd (k ls0 hl)
  | isub =>
    obtain rfl := zlen_of hn rfl
    obtain ⟨x, y, st0, rfl, e9⟩ := zi2_of h
    cases e9
    exact lv_isub hx hb hd (k ls0 hl)
  | imul =>
    obtain rfl := zlen_of hn rfl
    obtain ⟨x, y, st0, rfl, e9⟩ := zi2_of h
    cases e9
    exact lv_imul hx hb hd (k ls0 hl)
  | iand =>
    obtain rfl := zlen_of hn rfl
    obtain ⟨x, y, st0, rfl, e9⟩ := zi2_of h
    cases e9
    exact lv_iand hx hb hd (k ls0 hl)
  | ior =>
    obtain rfl := zlen_of hn rfl
    obtain ⟨x, y, st0, rfl, e9⟩ := zi2_of h
    cases e9
    exact lv_ior hx hb hd (k ls0 hl)
  | ixor =>
    obtain rfl := zlen_of hn rfl
    obtain ⟨x, y, st0, rfl, e9⟩ := zi2_of h
    cases e9
    exact lv_ixor hx hb hd (k ls0 hl)
  | ishl =>
    obtain rfl := zlen_of hn rfl
    obtain ⟨x, y, st0, rfl, e9⟩ := zi2_of h
    cases e9
    exact lv_ishl hx hb hd (k ls0 hl)
  | ishr =>
    obtain rfl := zlen_of hn rfl
    obtain ⟨x, y, st0, rfl, e9⟩ := zi2_of h
    cases e9
    exact lv_ishr hx hb hd (k ls0 hl)
  | idiv =>
    obtain rfl := zlen_of hn rfl
    obtain ⟨x, y, st0, rfl, hz, e9⟩ := zdiv_of h
    cases e9
    exact lv_idiv hx hb hd hz (k ls0 hl)
  | irem =>
    obtain rfl := zlen_of hn rfl
    obtain ⟨x, y, st0, rfl, hz, e9⟩ := zdiv_of h
    cases e9
    exact lv_irem hx hb hd hz (k ls0 hl)
  | ladd =>
    obtain rfl := zlen_of hn rfl
    obtain ⟨x, y, st0, rfl, e9⟩ := zl2_of h
    cases e9
    exact lv_ladd hx hb hd (k ls0 hl)
  | lsub =>
    obtain rfl := zlen_of hn rfl
    obtain ⟨x, y, st0, rfl, e9⟩ := zl2_of h
    cases e9
    exact lv_lsub hx hb hd (k ls0 hl)
  | lmul =>
    obtain rfl := zlen_of hn rfl
    obtain ⟨x, y, st0, rfl, e9⟩ := zl2_of h
    cases e9
    exact lv_lmul hx hb hd (k ls0 hl)
  | land =>
    obtain rfl := zlen_of hn rfl
    obtain ⟨x, y, st0, rfl, e9⟩ := zl2_of h
    cases e9
    exact lv_land hx hb hd (k ls0 hl)
  | lor =>
    obtain rfl := zlen_of hn rfl
    obtain ⟨x, y, st0, rfl, e9⟩ := zl2_of h
    cases e9
    exact lv_lor hx hb hd (k ls0 hl)
  | lxor =>
    obtain rfl := zlen_of hn rfl
    obtain ⟨x, y, st0, rfl, e9⟩ := zl2_of h
    cases e9
    exact lv_lxor hx hb hd (k ls0 hl)
  | lcmp =>
    obtain rfl := zlen_of hn rfl
    obtain ⟨x, y, st0, rfl, e9⟩ := zl2_of h
    cases e9
    exact W.lcmp hx hb hd (k ls0 hl)
  | lshl =>
    obtain rfl := zlen_of hn rfl
    obtain ⟨x, y, st0, rfl, e9⟩ := zls_of h
    cases e9
    exact lv_lshl hx hb hd rfl (k ls0 hl)
  | lshr =>
    obtain rfl := zlen_of hn rfl
    obtain ⟨x, y, st0, rfl, e9⟩ := zls_of h
    cases e9
    exact lv_lshr hx hb hd rfl (k ls0 hl)
  | lushr =>
    obtain rfl := zlen_of hn rfl
    obtain ⟨x, y, st0, rfl, e9⟩ := zls_of h
    cases e9
    exact lv_lushr hx hb hd rfl (k ls0 hl)
  | i2l =>
    obtain rfl := zlen_of hn rfl
    obtain ⟨x, st0, rfl, e9⟩ := zi1_of h
    cases e9
    exact lv_i2l hx hb hd rfl (k ls0 hl)
  | l2i =>
    obtain rfl := zlen_of hn rfl
    obtain ⟨x, st0, rfl, e9⟩ := zl1_of h
    cases e9
    exact lv_l2i hx hb hd rfl (k ls0 hl)
  | ifCond cnd off =>
    obtain rfl := zlen_of hn rfl
    cases cnd with
    | eq =>
      obtain ⟨x, st0, rfl, e9⟩ := zb1_of h
      cases e9
      have hk := zite (P := fun z => W p l e R s m args below meth c H locs cells slots Q (F0 m z ls0 _)) (k ls0 hl)
      exact lv_if_eq (tgt := tg) hx hb hd (hj _ rfl) (fun hc => hk.1 (decide_eq_true hc)) (fun hc => hk.2 (decide_eq_false hc))
    | ne =>
      obtain ⟨x, st0, rfl, e9⟩ := zb1_of h
      cases e9
      have hk := zite (P := fun z => W p l e R s m args below meth c H locs cells slots Q (F0 m z ls0 _)) (k ls0 hl)
      exact lv_if_ne (tgt := tg) hx hb hd (hj _ rfl) (fun hc => hk.1 (decide_eq_true hc)) (fun hc => hk.2 (decide_eq_false (fun q => q hc)))
    | lt =>
      obtain ⟨x, st0, rfl, e9⟩ := zb1_of h
      cases e9
      have hk := zite (P := fun z => W p l e R s m args below meth c H locs cells slots Q (F0 m z ls0 _)) (k ls0 hl)
      exact lv_if_lt (tgt := tg) hx hb hd (hj _ rfl) (fun hc => hk.1 (decide_eq_true hc)) (fun hc => hk.2 (decide_eq_false hc))
    | ge =>
      obtain ⟨x, st0, rfl, e9⟩ := zb1_of h
      cases e9
      have hk := zite (P := fun z => W p l e R s m args below meth c H locs cells slots Q (F0 m z ls0 _)) (k ls0 hl)
      exact lv_if_ge (tgt := tg) hx hb hd (hj _ rfl) (fun hc => hk.1 (decide_eq_true hc)) (fun hc => hk.2 (decide_eq_false hc))
    | gt =>
      obtain ⟨x, st0, rfl, e9⟩ := zb1_of h
      cases e9
      have hk := zite (P := fun z => W p l e R s m args below meth c H locs cells slots Q (F0 m z ls0 _)) (k ls0 hl)
      exact lv_if_gt (tgt := tg) hx hb hd (hj _ rfl) (fun hc => hk.1 (decide_eq_true hc)) (fun hc => hk.2 (decide_eq_false hc))
    | le =>
      obtain ⟨x, st0, rfl, e9⟩ := zb1_of h
      cases e9
      have hk := zite (P := fun z => W p l e R s m args below meth c H locs cells slots Q (F0 m z ls0 _)) (k ls0 hl)
      exact lv_if_le (tgt := tg) hx hb hd (hj _ rfl) (fun hc => hk.1 (decide_eq_true hc)) (fun hc => hk.2 (decide_eq_false hc))
  | if_icmp cnd off =>
    obtain rfl := zlen_of hn rfl
    cases cnd with
    | eq =>
      obtain ⟨x, y, st0, rfl, e9⟩ := zb2_of h
      cases e9
      have hk := zite (P := fun z => W p l e R s m args below meth c H locs cells slots Q (F0 m z ls0 _)) (k ls0 hl)
      exact lv_icmp_eq (tgt := tg) hx hb hd (hj _ rfl) (fun hc => hk.1 (decide_eq_true hc)) (fun hc => hk.2 (decide_eq_false hc))
    | ne =>
      obtain ⟨x, y, st0, rfl, e9⟩ := zb2_of h
      cases e9
      have hk := zite (P := fun z => W p l e R s m args below meth c H locs cells slots Q (F0 m z ls0 _)) (k ls0 hl)
      exact lv_icmp_ne (tgt := tg) hx hb hd (hj _ rfl) (fun hc => hk.1 (decide_eq_true hc)) (fun hc => hk.2 (decide_eq_false (fun q => q hc)))
    | lt =>
      obtain ⟨x, y, st0, rfl, e9⟩ := zb2_of h
      cases e9
      have hk := zite (P := fun z => W p l e R s m args below meth c H locs cells slots Q (F0 m z ls0 _)) (k ls0 hl)
      exact lv_icmp_lt (tgt := tg) hx hb hd (hj _ rfl) (fun hc => hk.1 (decide_eq_true hc)) (fun hc => hk.2 (decide_eq_false hc))
    | ge =>
      obtain ⟨x, y, st0, rfl, e9⟩ := zb2_of h
      cases e9
      have hk := zite (P := fun z => W p l e R s m args below meth c H locs cells slots Q (F0 m z ls0 _)) (k ls0 hl)
      exact lv_icmp_ge (tgt := tg) hx hb hd (hj _ rfl) (fun hc => hk.1 (decide_eq_true hc)) (fun hc => hk.2 (decide_eq_false hc))
    | gt =>
      obtain ⟨x, y, st0, rfl, e9⟩ := zb2_of h
      cases e9
      have hk := zite (P := fun z => W p l e R s m args below meth c H locs cells slots Q (F0 m z ls0 _)) (k ls0 hl)
      exact lv_icmp_gt (tgt := tg) hx hb hd (hj _ rfl) (fun hc => hk.1 (decide_eq_true hc)) (fun hc => hk.2 (decide_eq_false hc))
    | le =>
      obtain ⟨x, y, st0, rfl, e9⟩ := zb2_of h
      cases e9
      have hk := zite (P := fun z => W p l e R s m args below meth c H locs cells slots Q (F0 m z ls0 _)) (k ls0 hl)
      exact lv_icmp_le (tgt := tg) hx hb hd (hj _ rfl) (fun hc => hk.1 (decide_eq_true hc)) (fun hc => hk.2 (decide_eq_false hc))
  | goto off =>
    obtain rfl := zlen_of hn rfl
    cases h
    exact lv_goto (tgt := tg) hx hb hd (hj _ rfl) (k ls0 hl)
  | dup =>
    obtain rfl := zlen_of hn rfl
    obtain ⟨v, st0, rfl, hc, e9⟩ := zdup_of h
    cases e9
    exact lv_dup hx hb hd (by rw [xV_cat]; exact hc) (k ls0 hl)
  | pop =>
    obtain rfl := zlen_of hn rfl
    obtain ⟨v, st0, rfl, hc, e9⟩ := zpop_of h
    cases e9
    exact lv_pop hx hb hd (va := xV ad b v) (by rw [xV_cat]; exact hc) (k ls0 hl)
  | pop2 =>
    obtain rfl := zlen_of hn rfl
    obtain ⟨v, st0, rfl, hc, e9⟩ := zpop2_of h
    cases e9
    exact lv_pop2_2 hx hb hd (va := xV ad b v) (by rw [xV_cat]; exact hc) (k ls0 hl)
  | dup2 =>
    obtain rfl := zlen_of hn rfl
    obtain ⟨v, u, st0, rfl, hc, e9⟩ := zdup2_of h
    cases e9
    exact lv_dup2_11 hx hb hd (by rw [xV_cat]; exact hc.1) (by rw [xV_cat]; exact hc.2) (k ls0 hl)
  | dup_x1 =>
    obtain rfl := zlen_of hn rfl
    obtain ⟨v, u, st0, rfl, hc, e9⟩ := zdupx1_of h
    cases e9
    exact lv_dup_x1 hx hb hd (by rw [xV_cat]; exact hc.1) (by rw [xV_cat]; exact hc.2) (k ls0 hl)
  | dup_x2 =>
    obtain rfl := zlen_of hn rfl
    obtain ⟨v, u, t, st0, rfl, hc, e9⟩ := zdupx2_of h
    cases e9
    exact lv_dup_x2 hx hb hd (by rw [xV_cat]; exact hc.1) (by rw [xV_cat]; exact hc.2.1) (by rw [xV_cat]; exact hc.2.2) (k ls0 hl)
  | tableswitch d lo hi offs =>
    change zsw d lo hi offs pc ls st = _ at h
    unfold zsw at h
    split at h
    · rename_i x st0
      split at h
      · rename_i hr
        split at h
        · rename_i hz
          cases h
          exact lv_tableOut hx hb hd hr (by rw [Int.toNat_of_nonneg hz]) (k ls0 hl)
        · cases h
      · rename_i hr
        split at h
        · rename_i off ho
          split at h
          · rename_i hz
            cases h
            exact lv_tableIn hx hb hd (fun q => hr (Or.inl q)) (fun q => hr (Or.inr q)) ho (by rw [Int.toNat_of_nonneg hz]) (k ls0 hl)
          · cases h
        · cases h
    · cases h
  | _ => cases h
end
section
/-! What the tables must say of the words, and the instructions that look at cells. -/
def zgood : Cond → Bool
  | .fieldLinkNest .. => true
  | .methodLinkNest .. => true
  | .castable .. => true
  | .declares _ => true
  | w => goodWord w
theorem zword {w : Cond} {a a' : Array Value} {s U : State} (hg : zgood w = true) (hW : s.WarmedH U.vm) (h : w.before a s = true) : w.before a' U = true := by
  cases w with
  | fieldLinkNest o i r n d h9 => exact va_Nw.use rfl (va_Nw.warmF hW (va_Nw.of rfl h))
  | methodLinkNest o i x h9 => exact va_Nw.use rfl (va_Nw.warmM hW (va_Nw.of rfl h))
  | declares x => exact va_Nw.use rfl (va_Nw.warmD hW (va_Nw.of rfl h))
  | castable C T =>
    obtain ⟨c, t, h1, h2, h3⟩ := Cond.castable_spec h
    simp [Cond.before, Cond.holds, Cond.value, hW.alike.findClass, hW.alike.assignable, h1, h2, h3]
  | _ => exact word_at hW (good_of_word hg) h
/-- the words that every method may use, at any state that comes later -/
def zG (GW : List Cond) (U : State) : Prop := ∀ w ∈ GW, ∀ a : Array Value, w.before a U = true
theorem zG.warm {GW : List Cond} (hg : ∀ w ∈ GW, zgood w = true) {s U : State} (hW : s.WarmedH U.vm) (h : zG GW s) : zG GW U := fun w hw a => zword (hg w hw) hW (h w hw #[])
def zty (ct : Nat → ClassId) : List (ClassId × FieldType) := [(ct 0, .int), (ct 1, .long), (ct 2, .boolean)]
def okT (E : zEnv) (Cd : Nat → ByteArray) : Prop := ∀ y pc i tg, E.T y pc = some (i, tg) → ∃ n, decode (Cd y) pc = .ok (i, n) ∧ (zlen i = some n ∨ zlen i = none) ∧ ∀ o, zoff i = some o → (pc : Int) + o = (tg : Int)
def okF (E : zEnv) (Ow : Nat → String) (cl : List vw_C) (GW : List Cond) : Prop := ∀ own n ci k, E.F own n = some (ci, k) → ∃ C T N, cl[ci]? = some (C, T, N) ∧ k < N ∧
  (Cond.fieldLink (Ow own) n (T k).1 (T k).2.1 (T k).2.2.1 ∈ GW ∨ (own ≠ ci ∧ ∃ h, Cond.fieldLinkNest (Ow own) n (T k).1 (T k).2.1 (T k).2.2.1 h ∈ GW))
def okC (E : zEnv) (Ow : Nat → String) (cl : List vw_C) (GW : List Cond) : Prop := ∀ ci C T N, cl[ci]? = some (C, T, N) → (∀ w ∈ u_ws C T N, w ∈ GW) ∧ C = Ow ci ∧ (∀ k, k < N → (T k).1 = C) ∧
  (∃ ty : Nat → FieldType, (∀ k, k < N → parseFieldDescriptor (T k).2.2.1 = some (ty k)) ∧ (∀ k, k < N → (E.K ci).2.1.getD k .byte = ty k) ∧ ∀ j, j < N → defaultValue (ty j) = vp_V (E.K ci).1 j) ∧
  (∀ a, a < N → ∀ b, b < N → a ≠ b → (T a).2.1 ≠ (T b).2.1) ∧ (E.K ci).1.length = N ∧ (∀ k, k < N → (E.K ci).2.2.getD k true = (T k).2.2.2) ∧ (∀ v ∈ (E.K ci).1, zref 0 v = true) ∧ Cond.instantiable C N ∈ GW ∧ Cond.initialized C ∈ GW
def okNew (E : zEnv) (Ow : Nat → String) (cl : List vw_C) (GW : List Cond) : Prop := ∀ own n ci, E.C own n = some ci → ∃ C T N, cl[ci]? = some (C, T, N) ∧ Cond.classLink (Ow own) n C ∈ GW
def okK (E : zEnv) (Ow : Nat → String) (GW : List Cond) : Prop := (∀ own n v, E.J own n = some v → Cond.constantLong (Ow own) n v ∈ GW) ∧ (∀ own n v, E.I own n = some v → Cond.constant (Ow own) n v ∈ GW) ∧
  Cond.arrayClass .int ∈ GW ∧ Cond.arrayClass .long ∈ GW ∧ Cond.arrayClass .boolean ∈ GW
def zNatW (o : String) (n k : Nat) : List Cond := match k with
  | 0 => [.methodLink o n objectInit, .instanceMethod objectInit, .code objectInit ⟨#[0xb1]⟩ 1 none]
  | 1 => [.methodLink o n Lib.Math.max.name, .static Lib.Math.max.name, .initialized "java/lang/Math", .code Lib.Math.max.name Lib.Math.max.code 2 (some .int)]
  | 2 => [.methodLink o n Lib.Math.min.name, .static Lib.Math.min.name, .initialized "java/lang/Math", .code Lib.Math.min.name Lib.Math.min.code 2 (some .int)]
  | 3 => [.methodLink o n Lib.Math.abs.name, .static Lib.Math.abs.name, .initialized "java/lang/Math", .code Lib.Math.abs.name Lib.Math.abs.code 1 (some .int)]
  | 4 => [.methodLink o n arraycopyName, .native arraycopyName, .static arraycopyName, .initialized "java/lang/System"]
  | _ => []
def okN (E : zEnv) (Ow : Nat → String) (GW : List Cond) : Prop := ∀ own n k, E.N own n = some k → ∀ w ∈ zNatW (Ow own) n k, w ∈ GW
def zSs (Sc : zSc) (b : Nat) (A : Nat → Prop) (s : State) : Prop := match Sc with
  | none => True
  | some (L, xs) => va_X b L xs s s.heap ∧ b < s.heap.size ∧ ¬ A b
def zRel (D : va_G) (cl : List vw_C) (ct : Nat → ClassId) (A : Nat → Prop) (H0 : Heap) (nL : Nat) (ad : Nat → Nat) (b : Nat) (ls0 : Array Slot) (H : Heap) (locs : List Loc) (ls : zL) (w : zW) : Prop :=
  xL ad b nL ls0 ls ∧ va_P D cl (xW ad b ct w) H ∧ va_D A (xW ad b ct w) ∧ va_S A H0 H locs
theorem zref0 {ad : Nat → Nat} {b : Nat} {v : Value} (h : zref 0 v = true) : xV ad b v = v := by
  cases v with
  | ref k => simp [zref] at h
  | retAddr k => simp [zref] at h
  | _ => rfl
theorem zfit_ok {ad : Nat → Nat} {b : Nat} {ty : FieldType} {v : Value} (h : zfit ty v = true) : narrow ty (xV ad b v) = xV ad b v ∧ fits ty (xV ad b v) = true := by
  cases ty <;> cases v <;> simp only [zfit, Bool.false_eq_true] at h <;> first
    | exact ⟨rfl, rfl⟩
    | (simp only [Bool.or_eq_true, beq_iff_eq] at h
       rcases h with h | h
       · subst h; exact ⟨(show narrow .boolean (.int 0) = .int 0 by decide), (show fits .boolean (.int 0) = true by decide)⟩
       · subst h; exact ⟨(show narrow .boolean (.int 1) = .int 1 by decide), (show fits .boolean (.int 1) = true by decide)⟩)
section zHs
variable {p : Program} {l : Launch} {e : Env} {R : Room} {s : State} {m : MethodId} {args : Array Value} {below : List Frame} {meth : Method} {c : Code} {H : Heap} {locs : List Loc} {Q : State → Prop}
variable {E : zEnv} {Cd : Nat → ByteArray} {Ow : Nat → String} {cl : List vw_C} {GW : List Cond} {D : va_G} {ct : Nat → ClassId} {A : Nat → Prop} {cc : ByteArray}
variable {own pc n : Nat} {ls : zL} {st : List Value} {w : zW} {ca sl nL b : Nat} {ad : Nat → Nat} {ls0 : Array Slot} {q' : zSt}
/-- what goes on behind a step -/
abbrev zGo (p : Program) (l : Launch) (e : Env) (R : Room) (s : State) (m : MethodId) (args : Array Value) (below : List Frame) (meth : Method) (c : Code) (Q : State → Prop) (D : va_G) (cl : List vw_C) (ct : Nat → ClassId) (A : Nat → Prop) (nL : Nat) (ad : Nat → Nat) (b : Nat) (w : zW) (q' : zSt) : Prop :=
  ∀ (ad' : Nat → Nat) (ls1 : Array Slot) (H1 : Heap) (locs1 : List Loc), (∀ j, j < w.length → ad' j = ad j) → zRel D cl ct A s.heap nL ad' b ls1 H1 locs1 q'.2.1 q'.2.2.2.1 →
    W p l e R s m args below meth c H1 locs1 q'.2.2.2.2.1 q'.2.2.2.2.2 Q (F0 m q'.1 ls1 (q'.2.2.1.map (xV ad' b)))
theorem zget_of (h : zget E own pc ls w ca sl n st = some q') : ∃ a st0 ci k fs v, st = .ref a :: st0 ∧ E.F own n = some (ci, k) ∧ w[a]? = some (.inr (ci, fs)) ∧ fs[k]? = some v ∧ q' = (pc + 3, ls, v :: st0, w, ca, sl) := by
  unfold zget at h
  split at h
  · split at h
    · rename_i ci k hF
      split at h
      · rename_i cj fs hw
        split at h
        · rename_i hc
          subst hc
          split at h
          · rename_i v hv
            exact ⟨_, _, _, _, _, _, rfl, hF, hw, hv, (Option.some.inj h).symm⟩
          · cases h
        · cases h
      · cases h
    · cases h
  · cases h
theorem zget_sound (hx : p.tables.exec = Jvm.exec) (hb : c.code = cc) (hown : s.vm.findClass (Ow own) = some m.cls) (hG : zG GW s) (hK : va_K D cl (zty ct) s) (okf : okF E Ow cl GW) (okc : okC E Ow cl GW)
    (hd : decode cc pc = .ok (.getfield n, 3)) (hr : zRel D cl ct A s.heap nL ad b ls0 H locs ls w) (h : zget E own pc ls w ca sl n st = some q') (k : zGo p l e R s m args below meth c Q D cl ct A nL ad b w q') :
    W p l e R s m args below meth c H locs ca sl Q (F0 m pc ls0 (st.map (xV ad b))) := by
  obtain ⟨a, st0, ci, j, fs, v, rfl, hF, hw, hv, rfl⟩ := zget_of h
  obtain ⟨C, T, N, hc, hj, hlk⟩ := okf _ _ _ _ hF
  obtain ⟨hws, -⟩ := okc _ _ _ _ hc
  have hk := k ad ls0 H locs (fun _ _ => rfl) hr
  have hv' : (fs.map (xV ad b))[j]? = some (xV ad b v) := by rw [List.getElem?_map, hv]; rfl
  rcases hlk with hlk | ⟨hne, ho, hlk⟩
  · exact va_get (D := D) (ci := ci) (v := xV ad b v) (C := C) (T := T) (N := N) hx hb (fun w9 h9 => hG w9 (hws w9 h9) args) (fun w9 h9 => h9) hown hK hr.2.1 a (xW_at hw) hc j hj (hG _ hlk args) (fun _ h9 => h9) hv' hd hk
  · exact va_getN (D := D) (ci := ci) (v := xV ad b v) (C := C) (T := T) (N := N) hx hb (fun w9 h9 => hG w9 (hws w9 h9) args) (fun w9 h9 => h9) hown hK hr.2.1 a (xW_at hw) hc j hj (hG _ hlk args) (fun _ h9 => h9) hv' hd hk
theorem zputf_of {mk : Bool} (h : zputf E own pc ls w ca sl mk n st = some q') : ∃ v a st0 ci k fs, st = v :: .ref a :: st0 ∧ E.F own n = some (ci, k) ∧ w[a]? = some (.inr (ci, fs)) ∧ k < fs.length ∧ zfit ((E.K ci).2.1.getD k .byte) v = true ∧
    ((E.K ci).2.2.getD k true = true → mk = true ∧ own = ci) ∧ q' = (pc + 3, ls, st0, w.set a (.inr (ci, fs.set k v)), ca, sl) := by
  unfold zputf at h
  split at h
  · split at h
    · rename_i ci k hF
      split at h
      · rename_i cj fs hw
        split at h
        · rename_i hc
          obtain ⟨rfl, h1, h2, h3⟩ := hc
          exact ⟨_, _, _, _, _, _, rfl, hF, hw, h1, h2, h3, (Option.some.inj h).symm⟩
        · cases h
      · cases h
    · cases h
  · cases h
theorem xE_set {ci k : Nat} {fs : List Value} {v : Value} : xE ad b ct (.inr (ci, fs.set k v)) = .inr (ci, (fs.map (xV ad b)).set k (xV ad b v)) := by
  show Sum.inr (ci, (fs.set k v).map (xV ad b)) = _
  rw [List.map_set]
theorem zputf_sound {mk : Bool} (hx : p.tables.exec = Jvm.exec) (hb : c.code = cc) (hown : s.vm.findClass (Ow own) = some m.cls) (hmk : mk = true → meth.name = "<init>") (hG : zG GW s) (hK : va_K D cl (zty ct) s) (okf : okF E Ow cl GW) (okc : okC E Ow cl GW)
    (hd : decode cc pc = .ok (.putfield n, 3)) (hr : zRel D cl ct A s.heap nL ad b ls0 H locs ls w) (h : zputf E own pc ls w ca sl mk n st = some q') (k : zGo p l e R s m args below meth c Q D cl ct A nL ad b w q') :
    W p l e R s m args below meth c H locs ca sl Q (F0 m pc ls0 (st.map (xV ad b))) := by
  obtain ⟨v, a, st0, ci, j, fs, rfl, hF, hw, hjl, hfit, hfin, rfl⟩ := zputf_of h
  obtain ⟨C, T, N, hc, hj, hlk⟩ := okf _ _ _ _ hF
  obtain ⟨hws, hCo, hT1, ⟨ty, hty, htyK, -⟩, hnm, -, hfl, -⟩ := okc _ _ _ _ hc
  obtain ⟨hl, hP, hD, hS⟩ := hr
  rw [htyK j hj] at hfit
  obtain ⟨f1, f2⟩ := zfit_ok (ad := ad) (b := b) hfit
  have hjl' : j < (fs.map (xV ad b)).length := by rw [List.length_map]; exact hjl
  have go : ∀ (H1 : Heap) (locs1 : List Loc), va_P D cl ((xW ad b ct w).set a (ad a, .inr (ci, (fs.map (xV ad b)).set j (xV ad b v)))) H1 → va_D A ((xW ad b ct w).set a (ad a, .inr (ci, (fs.map (xV ad b)).set j (xV ad b v)))) → va_S A s.heap H1 locs1 →
      W p l e R s m args below meth c H1 locs1 ca sl Q (F0 m (pc + 3) ls0 (st0.map (xV ad b))) := by
    intro H1 locs1 g1 g2 g3
    rw [← xE_set (ct := ct), xW_set] at g1 g2
    exact k ad ls0 H1 locs1 (fun _ _ => rfl) ⟨hl, g1, g2, g3⟩
  by_cases hf : (T j).2.2.2 = true
  · obtain ⟨hm1, hoc⟩ := hfin (by rw [hfl j hj]; exact hf)
    subst hoc
    have hdecl : (T j).1 = Ow own := by rw [hT1 j hj, hCo]
    rcases hlk with hlk | ⟨hne, ho, hlk⟩
    · exact va_putF (D := D) (ci := own) (v := xV ad b v) (ty := ty j) (C := C) (T := T) (N := N) hx hb (fun w9 h9 => hG w9 (hws w9 h9) args) (fun w9 h9 => h9) ty hty hnm hown hK hP hD hS a (xW_at hw) hc j hj (hG _ hlk args) (fun _ h9 => h9) hf (hmk hm1) hdecl (hty j hj) f1 f2 hjl' hd go
    · exact absurd rfl hne
  · have hf0 : (T j).2.2.2 = false := by simpa using hf
    rcases hlk with hlk | ⟨hne, ho, hlk⟩
    · exact va_put (D := D) (ci := ci) (v := xV ad b v) (ty := ty j) (C := C) (T := T) (N := N) hx hb (fun w9 h9 => hG w9 (hws w9 h9) args) (fun w9 h9 => h9) ty hty hnm hown hK hP hD hS a (xW_at hw) hc j hj (hG _ hlk args) (fun _ h9 => h9) hf0 (hty j hj) f1 f2 hjl' hd go
    · exact va_putN (D := D) (ci := ci) (v := xV ad b v) (ty := ty j) (C := C) (T := T) (N := N) hx hb (fun w9 h9 => hG w9 (hws w9 h9) args) (fun w9 h9 => h9) ty hty hnm hown hK hP hD hS a (xW_at hw) hc j hj (hG _ hlk args) (fun _ h9 => h9) hf0 (hty j hj) f1 f2 hjl' hd go
end zHs
end
section
/-! Rows, makings, members of the library. -/
section zHt
variable {p : Program} {l : Launch} {e : Env} {R : Room} {s : State} {m : MethodId} {args : Array Value} {below : List Frame} {meth : Method} {c : Code} {H : Heap} {locs : List Loc} {Q : State → Prop}
variable {E : zEnv} {Cd : Nat → ByteArray} {Ow : Nat → String} {cl : List vw_C} {GW : List Cond} {D : va_G} {ct : Nat → ClassId} {A : Nat → Prop} {cc : ByteArray}
variable {own pc n : Nat} {ls : zL} {st : List Value} {w : zW} {ca sl nL b : Nat} {ad : Nat → Nat} {ls0 : Array Slot} {q' : zSt} {Sc : zSc}
theorem zaldI_sound (hx : p.tables.exec = Jvm.exec) (hb : c.code = cc) (hK : va_K D cl (zty ct) s) (hSs : zSs Sc b A s)
    (hd : decode cc pc = .ok (.iaload, 1)) (hr : zRel D cl ct A s.heap nL ad b ls0 H locs ls w) (h : zaldI pc ls w ca sl Sc st = some q') (k : zGo p l e R s m args below meth c Q D cl ct A nL ad b w q') :
    W p l e R s m args below meth c H locs ca sl Q (F0 m pc ls0 (st.map (xV ad b))) := by
  unfold zaldI at h
  split at h
  · split at h
    · rename_i hw
      split at h
      · cases h
      · rename_i hin
        cases h
        exact va_iald hx hb hK hr.2.1 _ 0 (xW_at hw) rfl hin hd (k ad ls0 H locs (fun _ _ => rfl) hr)
    · cases h
  · split at h
    · split at h
      · cases h
      · rename_i hin
        cases h
        exact va_sld hx hb hSs.1 hSs.2.1 hSs.2.2 hr.2.2.2 hin hd (k ad ls0 H locs (fun _ _ => rfl) hr)
    · cases h
  · cases h
theorem zaldL_sound (hx : p.tables.exec = Jvm.exec) (hb : c.code = cc) (hK : va_K D cl (zty ct) s)
    (hd : decode cc pc = .ok (.laload, 1)) (hr : zRel D cl ct A s.heap nL ad b ls0 H locs ls w) (h : zaldL pc ls w ca sl st = some q') (k : zGo p l e R s m args below meth c Q D cl ct A nL ad b w q') :
    W p l e R s m args below meth c H locs ca sl Q (F0 m pc ls0 (st.map (xV ad b))) := by
  unfold zaldL at h
  split at h
  · split at h
    · rename_i hw
      split at h
      · cases h
      · rename_i hin
        cases h
        exact va_lald hx hb hK hr.2.1 _ 1 (xW_at hw) rfl hin hd (k ad ls0 H locs (fun _ _ => rfl) hr)
    · cases h
  · cases h
theorem zaldZ_sound (hx : p.tables.exec = Jvm.exec) (hb : c.code = cc) (hK : va_K D cl (zty ct) s)
    (hd : decode cc pc = .ok (.baload, 1)) (hr : zRel D cl ct A s.heap nL ad b ls0 H locs ls w) (h : zaldZ pc ls w ca sl st = some q') (k : zGo p l e R s m args below meth c Q D cl ct A nL ad b w q') :
    W p l e R s m args below meth c H locs ca sl Q (F0 m pc ls0 (st.map (xV ad b))) := by
  unfold zaldZ at h
  split at h
  · split at h
    · rename_i hw
      split at h
      · cases h
      · rename_i hin
        cases h
        exact va_zald hx hb hK hr.2.1 _ 2 (xW_at hw) rfl hin hd (k ad ls0 H locs (fun _ _ => rfl) hr)
    · cases h
  · cases h
theorem zset_go {a : Nat} {e9 : va_E} {st0 : List Value} {pc' : Nat} (hl : xL ad b nL ls0 ls) (k : zGo p l e R s m args below meth c Q D cl ct A nL ad b w (pc', ls, st0, w.set a e9, ca, sl)) :
    ∀ (H1 : Heap) (locs1 : List Loc), va_P D cl ((xW ad b ct w).set a (ad a, xE ad b ct e9)) H1 → va_D A ((xW ad b ct w).set a (ad a, xE ad b ct e9)) → va_S A s.heap H1 locs1 → W p l e R s m args below meth c H1 locs1 ca sl Q (F0 m pc' ls0 (st0.map (xV ad b))) := by
  intro H1 locs1 g1 g2 g3
  rw [xW_set] at g1 g2
  exact k ad ls0 H1 locs1 (fun _ _ => rfl) ⟨hl, g1, g2, g3⟩
theorem zastI_sound (hx : p.tables.exec = Jvm.exec) (hb : c.code = cc) (hK : va_K D cl (zty ct) s)
    (hd : decode cc pc = .ok (.iastore, 1)) (hr : zRel D cl ct A s.heap nL ad b ls0 H locs ls w) (h : zastI pc ls w ca sl st = some q') (k : zGo p l e R s m args below meth c Q D cl ct A nL ad b w q') :
    W p l e R s m args below meth c H locs ca sl Q (F0 m pc ls0 (st.map (xV ad b))) := by
  unfold zastI at h
  split at h
  · split at h
    · rename_i hw
      split at h
      · cases h
      · rename_i hin
        cases h
        exact va_iast hx hb hK hr.2.1 hr.2.2.1 hr.2.2.2 _ 0 (xW_at hw) rfl hin hd (zset_go hr.1 k)
    · cases h
  · cases h
theorem zastL_sound (hx : p.tables.exec = Jvm.exec) (hb : c.code = cc) (hK : va_K D cl (zty ct) s)
    (hd : decode cc pc = .ok (.lastore, 1)) (hr : zRel D cl ct A s.heap nL ad b ls0 H locs ls w) (h : zastL pc ls w ca sl st = some q') (k : zGo p l e R s m args below meth c Q D cl ct A nL ad b w q') :
    W p l e R s m args below meth c H locs ca sl Q (F0 m pc ls0 (st.map (xV ad b))) := by
  unfold zastL at h
  split at h
  · split at h
    · rename_i hw
      split at h
      · cases h
      · rename_i hin
        cases h
        exact va_last hx hb hK hr.2.1 hr.2.2.1 hr.2.2.2 _ 1 (xW_at hw) rfl hin hd (zset_go hr.1 k)
    · cases h
  · cases h
theorem zastZ_sound (hx : p.tables.exec = Jvm.exec) (hb : c.code = cc) (hK : va_K D cl (zty ct) s)
    (hd : decode cc pc = .ok (.bastore, 1)) (hr : zRel D cl ct A s.heap nL ad b ls0 H locs ls w) (h : zastZ pc ls w ca sl st = some q') (k : zGo p l e R s m args below meth c Q D cl ct A nL ad b w q') :
    W p l e R s m args below meth c H locs ca sl Q (F0 m pc ls0 (st.map (xV ad b))) := by
  unfold zastZ at h
  split at h
  · split at h
    · rename_i hw
      split at h
      · cases h
      · rename_i hin
        cases h
        exact va_zast hx hb hK hr.2.1 hr.2.2.1 hr.2.2.2 _ 2 (xW_at hw) rfl hin hd (zset_go hr.1 k)
    · cases h
  · cases h
theorem zalen_sound (hx : p.tables.exec = Jvm.exec) (hb : c.code = cc) (hK : va_K D cl (zty ct) s) (hSs : zSs Sc b A s)
    (hd : decode cc pc = .ok (.arraylength, 1)) (hr : zRel D cl ct A s.heap nL ad b ls0 H locs ls w) (h : zalen pc ls w ca sl Sc st = some q') (k : zGo p l e R s m args below meth c Q D cl ct A nL ad b w q') :
    W p l e R s m args below meth c H locs ca sl Q (F0 m pc ls0 (st.map (xV ad b))) := by
  unfold zalen at h
  split at h
  · split at h
    · rename_i t x hw
      split at h
      · rename_i ht
        cases h
        have hk := k ad ls0 H locs (fun _ _ => rfl) hr
        match t, ht, hw with
        | 0, _, hw => exact va_alen hx hb hK hr.2.1 _ 0 (xW_at hw) rfl rfl hd hk
        | 1, _, hw => exact va_alen hx hb hK hr.2.1 _ 1 (xW_at hw) rfl rfl hd hk
        | 2, _, hw => exact va_alen hx hb hK hr.2.1 _ 2 (xW_at hw) rfl rfl hd hk
      · cases h
    · cases h
  · split at h
    · cases h
      exact va_slen hx hb hSs.1 hSs.2.1 hSs.2.2 hr.2.2.2 hd (k ad ls0 H locs (fun _ _ => rfl) hr)
    · cases h
  · cases h
/-- behind a making -/
theorem zpush_go {q : Nat} {e9 : va_E} {st0 : List Value} {H1 : Heap} {locs1 : List Loc} {pc' ca' sl' : Nat} (h1 : zscL w.length ls = true) (h2 : zscS w.length st0 = true) (h3 : zscW w.length w = true) (hl : xL ad b nL ls0 ls)
    (k : zGo p l e R s m args below meth c Q D cl ct A nL ad b w (pc', ls, .ref w.length :: st0, w ++ [e9], ca', sl'))
    (g1 : va_P D cl (xW ad b ct w ++ [(q, xE (va_up ad w.length q) b ct e9)]) H1) (g2 : va_D A (xW ad b ct w ++ [(q, xE (va_up ad w.length q) b ct e9)])) (g3 : va_S A s.heap H1 locs1) :
    W p l e R s m args below meth c H1 locs1 ca' sl' Q (F0 m pc' ls0 (.ref q :: st0.map (xV ad b))) := by
  have hs : ∀ j, j < w.length → va_up ad w.length q j = ad j := fun j hj => va_up_ne _ _ (Nat.ne_of_lt hj)
  rw [xW_push h3] at g1 g2
  have hk := k (va_up ad w.length q) ls0 H1 locs1 hs ⟨xL_same hs h1 hl, g1, g2, g3⟩
  have e1 : ((.ref w.length :: st0 : List Value)).map (xV (va_up ad w.length q) b) = .ref q :: st0.map (xV ad b) := by
    rw [List.map_cons, xS_same hs h2]
    show Value.ref (va_up ad w.length q w.length) :: _ = _
    rw [va_up_self]
  rw [e1] at hk
  exact hk
theorem znew_sound (hx : p.tables.exec = Jvm.exec) (hb : c.code = cc) (hown : s.vm.findClass (Ow own) = some m.cls) (hG : zG GW s) (hK : va_K D cl (zty ct) s) (okn : okNew E Ow cl GW) (okc : okC E Ow cl GW) (hA : ∀ q, s.heap.size ≤ q → A q)
    (hd : decode cc pc = .ok (.new n, 3)) (hr : zRel D cl ct A s.heap nL ad b ls0 H locs ls w) (h : znew E own pc ls w ca sl n st = some q') (hc : q'.2.2.2.2.1 ≤ R.cells) (hs : q'.2.2.2.2.2 ≤ R.slots) (k : zGo p l e R s m args below meth c Q D cl ct A nL ad b w q') :
    W p l e R s m args below meth c H locs ca sl Q (F0 m pc ls0 (st.map (xV ad b))) := by
  unfold znew at h
  split at h
  · rename_i ci hC
    split at h
    · rename_i hsc
      cases h
      obtain ⟨C, T, N, hcl, hlk⟩ := okn _ _ _ hC
      obtain ⟨hws, -, -, ⟨ty, hty, -, hdef⟩, -, hlen, -, h0, hin, hini⟩ := okc _ _ _ _ hcl
      have e0 : ∀ q, xE (va_up ad w.length q) b ct (.inr (ci, (E.K ci).1)) = .inr (ci, (E.K ci).1) := by
        intro q
        show Sum.inr (ci, (E.K ci).1.map (xV _ b)) = _
        rw [show (E.K ci).1.map (xV (va_up ad w.length q) b) = (E.K ci).1 from by
          conv => rhs; rw [← List.map_id (E.K ci).1]
          exact List.map_congr_left (fun v hv => zref0 (h0 v hv))]
      rw [hlen] at hs k
      exact va_new (ci := ci) (fs := (E.K ci).1) (C := C) (T := T) (N := N) hx hb (fun w9 h9 => hG w9 (hws w9 h9) args) (fun w9 h9 => h9) ty hty hown (hG _ hlk args) (hG _ hin args) (hG _ hini args) hK hr.2.1 hr.2.2.1 hr.2.2.2 hA hcl hdef hc hs hd
        (fun q H1 g1 g2 g3 => zpush_go hsc.1 hsc.2.1 hsc.2.2 hr.1 k (by rw [e0]; exact g1) (by rw [e0]; exact g2) g3)
    · cases h
  · cases h
theorem znewa_of {t : Nat} {z : Nat → vp_A} (h : znewa pc ls w ca sl t z st = some q') : ∃ j st0, st = .int j :: st0 ∧ ¬ j < 0 ∧ j.toNatClampNeg < 100000 ∧ (zscL w.length ls = true ∧ zscS w.length st0 = true ∧ zscW w.length w = true) ∧
    q' = (pc + 2, ls, .ref w.length :: st0, w ++ [.inl (t, z j.toNatClampNeg)], ca + 1, sl + j.toNatClampNeg) := by
  unfold znewa at h
  split at h
  · split at h
    · cases h
    · rename_i hz
      split at h
      · rename_i hsc
        exact ⟨_, _, rfl, fun q => hz (Or.inl q), by omega, hsc, (Option.some.inj h).symm⟩
      · cases h
  · cases h
end zHt
end
section
/-! New rows; members of the library that are taken whole; constants. -/
section zHu
variable {p : Program} {l : Launch} {e : Env} {R : Room} {s : State} {m : MethodId} {args : Array Value} {below : List Frame} {meth : Method} {c : Code} {H : Heap} {locs : List Loc} {Q : State → Prop}
variable {E : zEnv} {Cd : Nat → ByteArray} {Ow : Nat → String} {cl : List vw_C} {GW : List Cond} {D : va_G} {ct : Nat → ClassId} {A : Nat → Prop} {cc : ByteArray}
variable {own pc n : Nat} {ls : zL} {st : List Value} {w : zW} {ca sl nL b : Nat} {ad : Nat → Nat} {ls0 : Array Slot} {q' : zSt} {Sc : zSc}
theorem zct_eq {cA : ClassId} {ty : FieldType} {j : Nat} (hK : va_K D cl (zty ct) s) (gK : va_K D cl (zty ct ++ [(cA, ty)]) s) (h1 : (zty ct)[j]? = some (ct j, ty)) (ho : ∀ C, ty ≠ .object C) : cA = ct j := by
  have q1 := (gK.2 3 (cA, ty) rfl).2
  have q2 := (hK.2 j (ct j, ty) h1).2
  cases ty with
  | object C => exact absurd rfl (ho C)
  | _ =>
    unfold va_RA at q1 q2
    exact Option.some.inj (q1.symm.trans q2)
theorem zwt_map {st : List Value} : ((st.map (xV ad b)).map fun v => v.category).sum = zwt st := by
  unfold zwt
  rw [List.map_map]
  congr 1
  exact List.map_congr_left (fun v _ => xV_cat ad b v)
theorem zwt_cons {v : Value} {st : List Value} : zwt (v :: st) = v.category + zwt st := by simp [zwt]
/-- Object's own making -/
theorem znat0_sound (hx : p.tables.exec = Jvm.exec) (hb : c.code = cc) (hml : c.maxLocals = nL) (hown : s.vm.findClass (Ow own) = some m.cls) (hG : zG GW s) (hw : ∀ x ∈ zNatW (Ow own) n 0, x ∈ GW) (hf : 1 ≤ R.frames) (hlo : zwt st + 40 ≤ R.locals)
    (hd : decode cc pc = .ok (.invokespecial n, 3)) (hr : zRel D cl ct A s.heap nL ad b ls0 H locs ls w) (h : znat pc ls w ca sl 0 st = some q') (k : zGo p l e R s m args below meth c Q D cl ct A nL ad b w q') :
    W p l e R s m args below meth c H locs ca sl Q (F0 m pc ls0 (st.map (xV ad b))) := by
  change znat0 pc ls w ca sl st = some q' at h
  unfold znat0 at h
  split at h
  · rename_i a st0
    cases h
    have hk := k ad ls0 H locs (fun _ _ => rfl) hr
    refine W.objInit hx hb hown (hG _ (hw _ (by simp [zNatW])) args) (hG _ (hw _ (by simp [zNatW])) args) (hG _ (hw _ (by simp [zNatW])) args) rfl (hr.1.2.1.trans hml.symm) rfl hd hf ?_ ?_
    · show 2 * 0 + ((st0.map (xV ad b)).map fun v => v.category).sum + 12 ≤ R.locals
      rw [zwt_map]
      rw [zwt_cons] at hlo
      omega
    · exact hk
  · cases h
theorem znat1_sound (hx : p.tables.exec = Jvm.exec) (hb : c.code = cc) (hml : c.maxLocals = nL) (hown : s.vm.findClass (Ow own) = some m.cls) (hG : zG GW s) {kk : Nat} (hw : ∀ x ∈ zNatW (Ow own) n kk, x ∈ GW) (hk0 : kk ≠ 0) (hf : 1 ≤ R.frames) (hlo : zwt st + 40 ≤ R.locals) (hK : va_K D cl (zty ct) s)
    (hd : decode cc pc = .ok (.invokestatic n, 3)) (hr : zRel D cl ct A s.heap nL ad b ls0 H locs ls w) (h : znat pc ls w ca sl kk st = some q') (hc : q'.2.2.2.2.1 ≤ R.cells) (hs : q'.2.2.2.2.2 ≤ R.slots) (k : zGo p l e R s m args below meth c Q D cl ct A nL ad b w q') :
    W p l e R s m args below meth c H locs ca sl Q (F0 m pc ls0 (st.map (xV ad b))) := by
  have hml' : c.maxLocals = ls0.size := hml.trans hr.1.2.1.symm
  match kk, hk0, hw, h with
  | 1, _, hw, h =>
    change znat1 pc ls w ca sl st = some q' at h
    unfold znat1 at h
    split at h
    · rename_i y x st0
      cases h
      have hk := k ad ls0 H locs (fun _ _ => rfl) hr
      rw [zwt_cons, zwt_cons] at hlo
      exact va_mmax hx hb hml' hown (hG _ (hw _ (by simp [zNatW])) args) (hG _ (hw _ (by simp [zNatW])) args) (hG _ (hw _ (by simp [zNatW])) args) (hG _ (hw _ (by simp [zNatW])) args) hf (by rw [zwt_map]; omega) hc hs hd hk
    · cases h
  | 2, _, hw, h =>
    change znat2 pc ls w ca sl st = some q' at h
    unfold znat2 at h
    split at h
    · rename_i y x st0
      cases h
      have hk := k ad ls0 H locs (fun _ _ => rfl) hr
      rw [zwt_cons, zwt_cons] at hlo
      exact va_mmin hx hb hml' hown (hG _ (hw _ (by simp [zNatW])) args) (hG _ (hw _ (by simp [zNatW])) args) (hG _ (hw _ (by simp [zNatW])) args) (hG _ (hw _ (by simp [zNatW])) args) hf (by rw [zwt_map]; omega) hc hs hd hk
    · cases h
  | 3, _, hw, h =>
    change znat3 pc ls w ca sl st = some q' at h
    unfold znat3 at h
    split at h
    · rename_i x st0
      cases h
      have hk := k ad ls0 H locs (fun _ _ => rfl) hr
      rw [zwt_cons] at hlo
      exact va_mabs hx hb hml' hown (hG _ (hw _ (by simp [zNatW])) args) (hG _ (hw _ (by simp [zNatW])) args) (hG _ (hw _ (by simp [zNatW])) args) (hG _ (hw _ (by simp [zNatW])) args) hf (by rw [zwt_map]; omega) hc hs hd hk
    · cases h
  | 4, _, hw, h =>
    change znat4 pc ls w ca sl st = some q' at h
    unfold znat4 at h
    split at h
    · split at h
      · rename_i h1 h2
        split at h
        · rename_i hz
          obtain ⟨z1, z2, z3, z4, z5⟩ := hz
          cases h
          rw [zwt_cons, zwt_cons, zwt_cons, zwt_cons, zwt_cons] at hlo
          exact va_copyi (ty := .int) hx hb hml' hown (hG _ (hw _ (by simp [zNatW])) args) (hG _ (hw _ (by simp [zNatW])) args) (hG _ (hw _ (by simp [zNatW])) args) (hG _ (hw _ (by simp [zNatW])) args) hK hr.2.1 hr.2.2.1 hr.2.2.2 _ _ 0 0 (xW_at h1) (xW_at h2) rfl rfl rfl z1 z2 z3 z4 z5 (fun _ _ => rfl) hf
            (by rw [zwt_map]; have : nativeFrameWords "java/lang/System" "arraycopy" 5 ≤ 20 := by decide
                omega) hd (zset_go hr.1 k)
        · cases h
      · cases h
    · cases h
  | k9 + 5, _, _, h => cases h
end zHu
end
section
/-! New rows. -/
section zHv
variable {p : Program} {l : Launch} {e : Env} {R : Room} {s : State} {m : MethodId} {args : Array Value} {below : List Frame} {meth : Method} {c : Code} {H : Heap} {locs : List Loc} {Q : State → Prop}
variable {E : zEnv} {Cd : Nat → ByteArray} {Ow : Nat → String} {cl : List vw_C} {GW : List Cond} {D : va_G} {ct : Nat → ClassId} {A : Nat → Prop} {cc : ByteArray}
variable {own pc n : Nat} {ls : zL} {st : List Value} {w : zW} {ca sl nL b : Nat} {ad : Nat → Nat} {ls0 : Array Slot} {q' : zSt} {Sc : zSc}
set_option maxHeartbeats 100000 in
theorem znewaI_sound (hx : p.tables.exec = Jvm.exec) (hb : c.code = cc) (hG : zG GW s) (hW : Cond.arrayClass .int ∈ GW) (hK : va_K D cl (zty ct) s) (hA : ∀ q, s.heap.size ≤ q → A q)
    (hd : decode cc pc = .ok (.newarray .int, 2)) (hr : zRel D cl ct A s.heap nL ad b ls0 H locs ls w) (h : znewa pc ls w ca sl 0 (fun n => (n, .inl fun _ => 0)) st = some q') (hc : q'.2.2.2.2.1 ≤ R.cells) (hs : q'.2.2.2.2.2 ≤ R.slots) (k : zGo p l e R s m args below meth c Q D cl ct A nL ad b w q') :
    W p l e R s m args below meth c H locs ca sl Q (F0 m pc ls0 (st.map (xV ad b))) := by
  obtain ⟨j, st0, rfl, hj0, hj1, hsc, rfl⟩ := znewa_of h
  have hby : j.toNatClampNeg * componentBytes FieldType.int ≤ 536870912 := by
    rw [show componentBytes FieldType.int = 4 from rfl]
    omega
  refine va_newa (atype := .int) (ty := .int) (a0 := (j.toNatClampNeg, .inl fun _ => 0)) hx hb (hG _ hW args) rfl hK hr.2.1 hr.2.2.1 hr.2.2.2 hA (fun cA => by rw [vp_cell_i]; rfl) hj0 rfl hby hc hs hd (fun q cA H1 gK g1 g2 g3 => ?_)
  obtain rfl : cA = ct 0 := zct_eq hK gK rfl (fun C h9 => by cases h9)
  exact zpush_go hsc.1 hsc.2.1 hsc.2.2 hr.1 k g1 g2 g3
set_option maxHeartbeats 100000 in
theorem znewaL_sound (hx : p.tables.exec = Jvm.exec) (hb : c.code = cc) (hG : zG GW s) (hW : Cond.arrayClass .long ∈ GW) (hK : va_K D cl (zty ct) s) (hA : ∀ q, s.heap.size ≤ q → A q)
    (hd : decode cc pc = .ok (.newarray .long, 2)) (hr : zRel D cl ct A s.heap nL ad b ls0 H locs ls w) (h : znewa pc ls w ca sl 1 (fun n => (n, .inr (.inl fun _ => 0))) st = some q') (hc : q'.2.2.2.2.1 ≤ R.cells) (hs : q'.2.2.2.2.2 ≤ R.slots) (k : zGo p l e R s m args below meth c Q D cl ct A nL ad b w q') :
    W p l e R s m args below meth c H locs ca sl Q (F0 m pc ls0 (st.map (xV ad b))) := by
  obtain ⟨j, st0, rfl, hj0, hj1, hsc, rfl⟩ := znewa_of h
  have hby : j.toNatClampNeg * componentBytes FieldType.long ≤ 536870912 := by
    rw [show componentBytes FieldType.long = 8 from rfl]
    omega
  refine va_newa (atype := .long) (ty := .long) (a0 := (j.toNatClampNeg, .inr (.inl fun _ => 0))) hx hb (hG _ hW args) rfl hK hr.2.1 hr.2.2.1 hr.2.2.2 hA (fun cA => by rw [vp_cell_l]; rfl) hj0 rfl hby hc hs hd (fun q cA H1 gK g1 g2 g3 => ?_)
  obtain rfl : cA = ct 1 := zct_eq hK gK rfl (fun C h9 => by cases h9)
  exact zpush_go hsc.1 hsc.2.1 hsc.2.2 hr.1 k g1 g2 g3
set_option maxHeartbeats 100000 in
theorem znewaZ_sound (hx : p.tables.exec = Jvm.exec) (hb : c.code = cc) (hG : zG GW s) (hW : Cond.arrayClass .boolean ∈ GW) (hK : va_K D cl (zty ct) s) (hA : ∀ q, s.heap.size ≤ q → A q)
    (hd : decode cc pc = .ok (.newarray .boolean, 2)) (hr : zRel D cl ct A s.heap nL ad b ls0 H locs ls w) (h : znewa pc ls w ca sl 2 (fun n => (n, .inl fun _ => 0)) st = some q') (hc : q'.2.2.2.2.1 ≤ R.cells) (hs : q'.2.2.2.2.2 ≤ R.slots) (k : zGo p l e R s m args below meth c Q D cl ct A nL ad b w q') :
    W p l e R s m args below meth c H locs ca sl Q (F0 m pc ls0 (st.map (xV ad b))) := by
  obtain ⟨j, st0, rfl, hj0, hj1, hsc, rfl⟩ := znewa_of h
  have hby : j.toNatClampNeg * componentBytes FieldType.boolean ≤ 536870912 := by
    rw [show componentBytes FieldType.boolean = 1 from rfl]
    omega
  refine va_newa (atype := .boolean) (ty := .boolean) (a0 := (j.toNatClampNeg, .inl fun _ => 0)) hx hb (hG _ hW args) rfl hK hr.2.1 hr.2.2.1 hr.2.2.2 hA (fun cA => by rw [vp_cell_i]; rfl) hj0 rfl hby hc hs hd (fun q cA H1 gK g1 g2 g3 => ?_)
  obtain rfl : cA = ct 2 := zct_eq hK gK rfl (fun C h9 => by cases h9)
  exact zpush_go hsc.1 hsc.2.1 hsc.2.2 hr.1 k g1 g2 g3
end zHv
end
section
/-! A step never loses a cell. -/
def zle (w : zW) (ca sl : Nat) (w' : zW) (ca' sl' : Nat) : Prop := w.length ≤ w'.length ∧ ca ≤ ca' ∧ sl ≤ sl'
theorem zle.rf {w : zW} {ca sl : Nat} : zle w ca sl w ca sl := ⟨Nat.le_refl _, Nat.le_refl _, Nat.le_refl _⟩
theorem zle.tr {w w' w'' : zW} {ca sl ca' sl' ca'' sl'' : Nat} (h : zle w ca sl w' ca' sl') (g : zle w' ca' sl' w'' ca'' sl'') : zle w ca sl w'' ca'' sl'' := ⟨Nat.le_trans h.1 g.1, Nat.le_trans h.2.1 g.2.1, Nat.le_trans h.2.2 g.2.2⟩
abbrev zleQ (w : zW) (ca sl : Nat) (q : zSt) : Prop := zle w ca sl q.2.2.2.1 q.2.2.2.2.1 q.2.2.2.2.2
theorem zle.set {w : zW} {ca sl a : Nat} {e : va_E} : zle w ca sl (w.set a e) ca sl := ⟨by rw [List.length_set]; exact Nat.le_refl _, Nat.le_refl _, Nat.le_refl _⟩
theorem zle.push {w : zW} {ca sl n : Nat} {e : va_E} : zle w ca sl (w ++ [e]) (ca + 1) (sl + n) := ⟨by simp, Nat.le_succ _, Nat.le_add_right _ _⟩
section zMo
variable {E : zEnv} {own pc n : Nat} {ls : zL} {st : List Value} {w : zW} {ca sl : Nat} {q' : zSt} {Sc : zSc}
theorem zget_le (h : zget E own pc ls w ca sl n st = some q') : zleQ w ca sl q' := by
  obtain ⟨_, _, _, _, _, _, _, _, _, _, rfl⟩ := zget_of h
  exact zle.rf
theorem zputf_le {mk : Bool} (h : zputf E own pc ls w ca sl mk n st = some q') : zleQ w ca sl q' := by
  obtain ⟨_, _, _, _, _, _, _, _, _, _, _, _, rfl⟩ := zputf_of h
  exact zle.set
theorem zaldI_le (h : zaldI pc ls w ca sl Sc st = some q') : zleQ w ca sl q' := by
  unfold zaldI at h
  repeat' (split at h)
  all_goals first | (cases h; exact zle.rf) | cases h
theorem zaldL_le (h : zaldL pc ls w ca sl st = some q') : zleQ w ca sl q' := by
  unfold zaldL at h
  repeat' (split at h)
  all_goals first | (cases h; exact zle.rf) | cases h
theorem zaldZ_le (h : zaldZ pc ls w ca sl st = some q') : zleQ w ca sl q' := by
  unfold zaldZ at h
  repeat' (split at h)
  all_goals first | (cases h; exact zle.rf) | cases h
theorem zastI_le (h : zastI pc ls w ca sl st = some q') : zleQ w ca sl q' := by
  unfold zastI at h
  repeat' (split at h)
  all_goals first | (cases h; exact zle.set) | cases h
theorem zastL_le (h : zastL pc ls w ca sl st = some q') : zleQ w ca sl q' := by
  unfold zastL at h
  repeat' (split at h)
  all_goals first | (cases h; exact zle.set) | cases h
theorem zastZ_le (h : zastZ pc ls w ca sl st = some q') : zleQ w ca sl q' := by
  unfold zastZ at h
  repeat' (split at h)
  all_goals first | (cases h; exact zle.set) | cases h
theorem zalen_le (h : zalen pc ls w ca sl Sc st = some q') : zleQ w ca sl q' := by
  unfold zalen at h
  repeat' (split at h)
  all_goals first | (cases h; exact zle.rf) | cases h
theorem znew_le (h : znew E own pc ls w ca sl n st = some q') : zleQ w ca sl q' := by
  unfold znew at h
  repeat' (split at h)
  all_goals first | (cases h; exact zle.push) | cases h
theorem znewa_le {t : Nat} {z : Nat → vp_A} (h : znewa pc ls w ca sl t z st = some q') : zleQ w ca sl q' := by
  obtain ⟨_, _, _, _, _, _, rfl⟩ := znewa_of h
  exact zle.push
theorem znat_le {k : Nat} (h : znat pc ls w ca sl k st = some q') : zleQ w ca sl q' := by
  match k, h with
  | 0, h =>
    change znat0 pc ls w ca sl st = some q' at h
    unfold znat0 at h
    repeat' (split at h)
    all_goals first | (cases h; exact zle.rf) | cases h
  | 1, h =>
    change znat1 pc ls w ca sl st = some q' at h
    unfold znat1 at h
    repeat' (split at h)
    all_goals first | (cases h; exact zle.rf) | cases h
  | 2, h =>
    change znat2 pc ls w ca sl st = some q' at h
    unfold znat2 at h
    repeat' (split at h)
    all_goals first | (cases h; exact zle.rf) | cases h
  | 3, h =>
    change znat3 pc ls w ca sl st = some q' at h
    unfold znat3 at h
    repeat' (split at h)
    all_goals first | (cases h; exact zle.rf) | cases h
  | 4, h =>
    change znat4 pc ls w ca sl st = some q' at h
    unfold znat4 at h
    repeat' (split at h)
    all_goals first | (cases h; exact zle.set) | cases h
  | k + 5, h => cases h
theorem zinl {o : Option zSt} {q' : zSt} (h : o.map (Sum.inl : zSt → zN) = some (.inl q')) : o = some q' := by
  cases o with
  | none => cases h
  | some a => cases h; rfl
theorem zconst {α : Type} {o : Option α} {f : α → zN} {r : zN} (h : o.map f = some r) : ∃ v, o = some v ∧ f v = r := by
  cases o with
  | none => cases h
  | some a => exact ⟨a, rfl, Option.some.inj h⟩
theorem zcall_not {kd y n : Nat} (h : zcall E kd y n pc ls st w ca sl = some (.inl q')) : False := by
  unfold zcall at h
  split at h
  · split at h
    · cases h
    · cases h
  · cases h
/-- a step that goes on, by its kinds -/
theorem zstep_le {y : Nat} (h : zstep E Sc y (pc, ls, st, w, ca, sl) = some (.inl q')) : zleQ w ca sl q' := by
  unfold zstep at h
  dsimp only at h
  split at h
  · split at h
    · cases h
    · cases h
  · split at h
    · cases h
    · split at h
      · cases h; exact zle.rf
      · split at h
        · exact zget_le (zinl h)
        · exact zputf_le (zinl h)
        · exact zaldI_le (zinl h)
        · exact zaldL_le (zinl h)
        · exact zaldZ_le (zinl h)
        · exact zastI_le (zinl h)
        · exact zastL_le (zinl h)
        · exact zastZ_le (zinl h)
        · exact zalen_le (zinl h)
        · exact znew_le (zinl h)
        · have h1 := zinl h
          split at h1
          · exact znewa_le h1
          · exact znewa_le h1
          · exact znewa_le h1
          · cases h1
        · obtain ⟨v, -, e9⟩ := zconst h
          cases e9; exact zle.rf
        · obtain ⟨v, -, e9⟩ := zconst h
          cases e9; exact zle.rf
        · repeat' (split at h)
          all_goals cases h
        · repeat' (split at h)
          all_goals cases h
        · repeat' (split at h)
          all_goals cases h
        · repeat' (split at h)
          all_goals cases h
        · split at h
          · split at h
            · exact znat_le (zinl h)
            · cases h
          · exact (zcall_not h).elim
        · split at h
          · split at h
            · exact znat_le (zinl h)
            · cases h
          · exact (zcall_not h).elim
        · exact (zcall_not h).elim
        · cases h
theorem zstep_call {y : Nat} {y' : Nat} {as : List Value} {q1 : zSt} (h : zstep E Sc y (pc, ls, st, w, ca, sl) = some (.inr (.inr (.inl (y', as, q1))))) :
    ∃ kd n, kd < 3 ∧ E.X y pc = none ∧ zcall E kd y n pc ls st w ca sl = some (.inr (.inr (.inl (y', as, q1)))) ∧ ∃ tg, E.T y pc = some ((if kd = 0 then Instr.invokestatic n else if kd = 1 then Instr.invokevirtual n else Instr.invokespecial n), tg) := by
  unfold zstep at h
  dsimp only at h
  split at h
  · split at h
    · cases h
    · cases h
  · rename_i hX
    split at h
    · cases h
    · rename_i i tg hT
      split at h
      · cases h
      · split at h
        all_goals first
          | (obtain ⟨v, -, e9⟩ := zconst h; cases e9; done)
          | (exact ⟨1, _, by decide, hX, h, tg, hT⟩)
          | (split at h
             · split at h
               · obtain ⟨v, -, e9⟩ := zconst h; cases e9
               · cases h
             · first
               | exact ⟨0, _, by decide, hX, h, tg, hT⟩
               | exact ⟨2, _, by decide, hX, h, tg, hT⟩)
          | ((repeat' (split at h)) <;> cases h)
theorem zstep_ret {y : Nat} {v : Option Value} (h : zstep E Sc y (pc, ls, st, w, ca, sl) = some (.inr (.inl v))) : E.X y pc = none ∧ zfitR (zRet (E.D y)) v = true ∧ st = v.toList ∧
    ∃ tg, (E.T y pc = some (.ireturn, tg) ∧ ∃ x, v = some (.int x)) ∨ (E.T y pc = some (.lreturn, tg) ∧ ∃ x, v = some (.long x)) ∨ (E.T y pc = some (.areturn, tg) ∧ ∃ x, v = some (.ref x)) ∨ (E.T y pc = some (.return_, tg) ∧ v = none) := by
  unfold zstep at h
  dsimp only at h
  split at h
  · split at h
    · cases h
    · cases h
  · rename_i hX
    split at h
    · cases h
    · rename_i i tg hT
      split at h
      · cases h
      · split at h
        all_goals first
          | (obtain ⟨v9, -, e9⟩ := zconst h; cases e9; done)
          | (unfold zcall at h; (repeat' (split at h)) <;> cases h; done)
          | (split at h
             · split at h
               · rename_i hf
                 cases h
                 first
                 | exact ⟨hX, hf, rfl, tg, Or.inl ⟨hT, _, rfl⟩⟩
                 | exact ⟨hX, hf, rfl, tg, Or.inr (Or.inl ⟨hT, _, rfl⟩)⟩
                 | exact ⟨hX, hf, rfl, tg, Or.inr (Or.inr (Or.inl ⟨hT, _, rfl⟩))⟩
                 | exact ⟨hX, hf, rfl, tg, Or.inr (Or.inr (Or.inr ⟨hT, rfl⟩))⟩
               · cases h
             · cases h)
          | (split at h
             · split at h
               · obtain ⟨v9, -, e9⟩ := zconst h; cases e9
               · cases h
             · unfold zcall at h; (repeat' (split at h)) <;> cases h)
          | cases h
theorem zstep_thr {y x : Nat} (h : zstep E Sc y (pc, ls, st, w, ca, sl) = some (.inr (.inr (.inr x)))) : E.X y pc = some x ∧ 6 ≤ zFr (E.D y) ∧ zwt st + 82 ≤ zLo (E.D y) := by
  unfold zstep at h
  dsimp only at h
  split at h
  · rename_i hX
    split at h
    · rename_i hg
      cases h
      exact ⟨hX, hg⟩
    · cases h
  · split at h
    · cases h
    · split at h
      · cases h
      · split at h
        all_goals first
          | (obtain ⟨v9, -, e9⟩ := zconst h; cases e9; done)
          | (unfold zcall at h; (repeat' (split at h)) <;> cases h; done)
          | (split at h
             · split at h
               · obtain ⟨v9, -, e9⟩ := zconst h; cases e9
               · cases h
             · unfold zcall at h; (repeat' (split at h)) <;> cases h)
          | ((repeat' (split at h)) <;> cases h)
theorem zcall_of {kd y n : Nat} {r : zN} (h : zcall E kd y n pc ls st w ca sl = some r) : ∃ y', E.M (zOwn (E.D y)) n = some y' ∧ (zKd (E.D y') = kd ∧ zFr (E.D y') + 1 ≤ zFr (E.D y) ∧ zwt (st.drop (zAr (E.D y'))) + (zMax (E.D y') + 11) + zLo (E.D y') ≤ zLo (E.D y) ∧ zAr (E.D y') ≤ st.length ∧ (zargs (st.take (zAr (E.D y'))).reverse).length ≤ zMax (E.D y') ∧ zscL w.length ls = true ∧ zscS w.length st = true ∧ zrecv E y' (st.take (zAr (E.D y'))).reverse w = true) ∧
    r = .inr (.inr (.inl (y', (st.take (zAr (E.D y'))).reverse, (pc + 3, ls, st.drop (zAr (E.D y')), w, ca, sl)))) := by
  unfold zcall at h
  split at h
  · rename_i y' hM
    split at h
    · rename_i hg
      exact ⟨y', hM, hg, (Option.some.inj h).symm⟩
    · cases h
  · cases h
end zMo
end
section
/-! A run never loses a cell; a step that goes on does so on the machine. -/
theorem zrun_mono {E : zEnv} : ∀ (f : Nat) (Sc : zSc) (y : Nat) (q : zSt) (o : zO), zrun E f Sc y q = some o → zle q.2.2.2.1 q.2.2.2.2.1 q.2.2.2.2.2 o.2.1 o.2.2.1 o.2.2.2 := by
  intro f
  induction f with
  | zero => intro Sc y q o h; cases h
  | succ f ih =>
    intro Sc y q o h
    obtain ⟨pc, ls, st, w, ca, sl⟩ := q
    unfold zrun at h
    cases hs : zstep E Sc y (pc, ls, st, w, ca, sl) with
    | none => rw [hs] at h; cases h
    | some r =>
      rw [hs] at h
      rcases r with q' | v | ⟨y', as, q1⟩ | x
      · exact (zstep_le hs).tr (ih _ _ _ _ h)
      · cases h; exact zle.rf
      · obtain ⟨kd, n, -, -, hc, -⟩ := zstep_call hs
        obtain ⟨y2, -, -, e9⟩ := zcall_of hc
        cases e9
        dsimp only at h
        cases hr : zrun E f none y' (zent E y' (st.take (zAr (E.D y'))).reverse w) with
        | none => rw [hr] at h; cases h
        | some o1 =>
          rw [hr] at h
          have h1 := ih _ _ _ _ hr
          obtain ⟨v | x, w', mc, ms⟩ := o1
          · have h2 := ih _ _ _ _ h
            exact zle.tr (⟨h1.1, Nat.le_add_right _ _, Nat.le_add_right _ _⟩ : zle w ca sl w' (ca + mc) (sl + ms)) h2
          · dsimp only at h
            cases hf : zfind (E.H y) pc x with
            | some hi =>
              obtain ⟨hp, i⟩ := hi
              rw [hf] at h
              have h2 := ih _ _ _ _ h
              exact zle.tr (⟨h1.1, Nat.le_add_right _ _, Nat.le_add_right _ _⟩ : zle w ca sl w' (ca + mc) (sl + ms)) h2
            | none =>
              rw [hf] at h
              dsimp only at h
              split at h
              · cases h
              · cases h
                exact ⟨h1.1, Nat.le_add_right _ _, Nat.le_add_right _ _⟩
      · cases h
        exact ⟨Nat.le_refl _, Nat.le_succ _, Nat.le_add_right _ _⟩
section zGs
variable {p : Program} {l : Launch} {e : Env} {R : Room} {s : State} {m : MethodId} {args : Array Value} {below : List Frame} {meth : Method} {c : Code} {H : Heap} {locs : List Loc} {Q : State → Prop}
variable {E : zEnv} {Cd : Nat → ByteArray} {Ow : Nat → String} {cl : List vw_C} {GW : List Cond} {D : va_G} {ct : Nat → ClassId} {A : Nat → Prop}
variable {y pc : Nat} {ls : zL} {st : List Value} {w : zW} {ca sl b : Nat} {ad : Nat → Nat} {ls0 : Array Slot} {q' : zSt} {Sc : zSc}
theorem zgo_sound (ok1 : okT E Cd) (ok2 : okF E Ow cl GW) (ok3 : okC E Ow cl GW) (ok4 : okNew E Ow cl GW) (ok5 : okK E Ow GW) (ok6 : okN E Ow GW)
    (hx : p.tables.exec = Jvm.exec) (hb : c.code = Cd y) (hml : c.maxLocals = zMax (E.D y)) (hown : s.vm.findClass (Ow (zOwn (E.D y))) = some m.cls) (hmk : zKd (E.D y) = 2 → meth.name = "<init>") (hG : zG GW s) (hK : va_K D cl (zty ct) s) (hSs : zSs Sc b A s) (hA : ∀ q, s.heap.size ≤ q → A q)
    (hfr : zFr (E.D y) ≤ R.frames) (hlo : zLo (E.D y) ≤ R.locals)
    (hr : zRel D cl ct A s.heap (zMax (E.D y)) ad b ls0 H locs ls w) (h : zstep E Sc y (pc, ls, st, w, ca, sl) = some (.inl q')) (hc : q'.2.2.2.2.1 ≤ R.cells) (hs : q'.2.2.2.2.2 ≤ R.slots) (k : zGo p l e R s m args below meth c Q D cl ct A (zMax (E.D y)) ad b w q') :
    W p l e R s m args below meth c H locs ca sl Q (F0 m pc ls0 (st.map (xV ad b))) := by
  unfold zstep at h
  dsimp only at h
  split at h
  · split at h
    · cases h
    · cases h
  · split at h
    · cases h
    · rename_i i tg hT
      obtain ⟨n, hd, hn, hj⟩ := ok1 _ _ _ _ hT
      split at h
      · rename_i pc' ls' st' hP
        cases h
        exact zP_sound hx hb hd hn hj hr.1 hP (fun ls1 hl1 => k ad ls1 H locs (fun _ _ => rfl) ⟨hl1, hr.2⟩)
      · split at h
        · obtain rfl := zlen_of hn rfl
          exact zget_sound hx hb hown hG hK ok2 ok3 hd hr (zinl h) k
        · obtain rfl := zlen_of hn rfl
          exact zputf_sound hx hb hown (fun q => hmk (by simpa using q)) hG hK ok2 ok3 hd hr (zinl h) k
        · obtain rfl := zlen_of hn rfl
          exact zaldI_sound hx hb hK hSs hd hr (zinl h) k
        · obtain rfl := zlen_of hn rfl
          exact zaldL_sound hx hb hK hd hr (zinl h) k
        · obtain rfl := zlen_of hn rfl
          exact zaldZ_sound hx hb hK hd hr (zinl h) k
        · obtain rfl := zlen_of hn rfl
          exact zastI_sound hx hb hK hd hr (zinl h) k
        · obtain rfl := zlen_of hn rfl
          exact zastL_sound hx hb hK hd hr (zinl h) k
        · obtain rfl := zlen_of hn rfl
          exact zastZ_sound hx hb hK hd hr (zinl h) k
        · obtain rfl := zlen_of hn rfl
          exact zalen_sound hx hb hK hSs hd hr (zinl h) k
        · obtain rfl := zlen_of hn rfl
          exact znew_sound hx hb hown hG hK ok4 ok3 hA hd hr (zinl h) hc hs k
        · obtain rfl := zlen_of hn rfl
          have h1 := zinl h
          split at h1
          · exact znewaI_sound hx hb hG ok5.2.2.1 hK hA hd hr h1 hc hs k
          · exact znewaL_sound hx hb hG ok5.2.2.2.1 hK hA hd hr h1 hc hs k
          · exact znewaZ_sound hx hb hG ok5.2.2.2.2 hK hA hd hr h1 hc hs k
          · cases h1
        · obtain rfl := zlen_of hn rfl
          obtain ⟨v, hv, e9⟩ := zconst h
          cases e9
          exact lv_ldc2 hx hb hown (hG _ (ok5.1 _ _ _ hv) args) hd (k ad ls0 H locs (fun _ _ => rfl) hr)
        · obtain rfl := zlen_of hn rfl
          obtain ⟨v, hv, e9⟩ := zconst h
          cases e9
          exact lv_ldc hx hb hown (hG _ (ok5.2.1 _ _ _ hv) args) hd (k ad ls0 H locs (fun _ _ => rfl) hr)
        · repeat' (split at h)
          all_goals cases h
        · repeat' (split at h)
          all_goals cases h
        · repeat' (split at h)
          all_goals cases h
        · repeat' (split at h)
          all_goals cases h
        · obtain rfl := zlen_of hn rfl
          split at h
          · rename_i kk hN
            split at h
            · rename_i hg
              have hg1 : 1 ≤ zFr (E.D y) ∧ zwt st + 40 ≤ zLo (E.D y) := by simpa [zroom] using hg.1
              exact znat1_sound hx hb hml hown hG (ok6 _ _ _ hN) hg.2 (Nat.le_trans hg1.1 hfr) (Nat.le_trans hg1.2 hlo) hK hd hr (zinl h) hc hs k
            · cases h
          · exact (zcall_not h).elim
        · obtain rfl := zlen_of hn rfl
          split at h
          · rename_i kk hN
            split at h
            · rename_i hg
              have hg1 : 1 ≤ zFr (E.D y) ∧ zwt st + 40 ≤ zLo (E.D y) := by simpa [zroom] using hg.1
              obtain ⟨-, rfl⟩ := hg
              exact znat0_sound hx hb hml hown hG (ok6 _ _ _ hN) (Nat.le_trans hg1.1 hfr) (Nat.le_trans hg1.2 hlo) hd hr (zinl h) k
            · cases h
          · exact (zcall_not h).elim
        · exact (zcall_not h).elim
        · cases h
end zGs
end
section
/-! Calls: what the tables must say of methods, throws and handlers; from a call to the callee's first frame. -/
def zcw (E : zEnv) (Nm : Nat → MethodName) (Cd : Nat → ByteArray) (Hh : Nat → List (Nat × Nat × Nat × Nat)) (y : Nat) : Cond := if Hh y = [] then .code (Nm y) (Cd y) (zMax (E.D y)) (zRet (E.D y)) else .codeWith (Nm y) (Cd y) (zMax (E.D y)) (zRet (E.D y)) (Hh y)
def zMok (E : zEnv) (Nm : Nat → MethodName) (Cd : Nat → ByteArray) (Ow : Nat → String) (Hh : Nat → List (Nat × Nat × Nat × Nat)) (GW : List Cond) (y : Nat) : Prop :=
  plainName (Nm y).cls = true ∧ ((Nm y).cls ≠ "java/lang/invoke/MethodHandle" ∧ (Nm y).cls ≠ "java/lang/invoke/VarHandle") ∧ (Nm y).cls = Ow (zOwn (E.D y)) ∧ zcw E Nm Cd Hh y ∈ GW ∧ Cond.initialized (Nm y).cls ∈ GW ∧
  (parseMethodDescriptor (Nm y).desc).map (fun d => d.parameters.length) = some (zAr (E.D y) - (if zKd (E.D y) = 0 then 0 else 1)) ∧
  (zKd (E.D y) = 0 → Cond.static (Nm y) ∈ GW) ∧ (zKd (E.D y) = 1 → Cond.instanceMethod (Nm y) ∈ GW ∧ Cond.selects (Ow (zOwn (E.D y))) (Nm y) (Nm y) ∈ GW) ∧
  (zKd (E.D y) = 2 → (Nm y).name = "<init>" ∧ Cond.instanceMethod (Nm y) ∈ GW ∧ Hh y = [] ∧ zRet (E.D y) = none)
def okM (E : zEnv) (Nm : Nat → MethodName) (Cd : Nat → ByteArray) (Ow : Nat → String) (Hh : Nat → List (Nat × Nat × Nat × Nat)) (GW : List Cond) : Prop := ∀ own n y, E.M own n = some y → (Cond.methodLink (Ow own) n (Nm y) ∈ GW ∨ ∃ h, Cond.methodLinkNest (Ow own) n (Nm y) h ∈ GW) ∧ zMok E Nm Cd Ow Hh GW y
theorem zcode {E : zEnv} {Nm : Nat → MethodName} {Cd : Nat → ByteArray} {Ow : Nat → String} {Hh : Nat → List (Nat × Nat × Nat × Nat)} {GW : List Cond} {y : Nat} {s : State} (hG : zG GW s) (mok : zMok E Nm Cd Ow Hh GW y) :
    ∃ mk meth c, s.methodNamed? (Nm y) = some mk ∧ s.vm.method? mk = some meth ∧ meth.code = some c ∧ c.code = Cd y ∧ c.maxLocals = zMax (E.D y) ∧ c.exceptionTable.toList.map (fun x => (x.startPc, x.endPc, x.handlerPc, x.catchType)) = Hh y ∧ meth.sig.returnType = zRet (E.D y) ∧ meth.locks = false ∧ parseMethodDescriptor (Nm y).desc = some meth.sig := by
  have h := hG _ mok.2.2.2.1 #[]
  unfold zcw at h
  split at h
  · rename_i hh
    obtain ⟨mk, hn⟩ := Cond.code_named h
    obtain ⟨meth, c, h1, h2, h3, h4, h5, h6, h7, h8⟩ := Cond.code_spec hn h
    refine ⟨mk, meth, c, hn, h1, h2, h3, h4, ?_, h5, h6, h8⟩
    rw [hh]
    have : c.exceptionTable = #[] := by simpa using h7
    rw [this]
    rfl
  · obtain ⟨mk, meth, c, hn, h1, h2, h3, h4, h5, h6, h7, h8⟩ := Cond.codeWith_spec h
    exact ⟨mk, meth, c, hn, h1, h2, h3, h4, h5, h6, h7, h8⟩
theorem zsteps_weaken {tb : Tables} {e : Env} {mid below : List Frame} {a b : State} (h : Steps tb e (mid ++ below) a b) : Steps tb e below a b := by
  obtain ⟨n, hn, w⟩ := h
  exact ⟨n, hn, fun k hk => (w k hk).weaken⟩
theorem zedge {p : Program} {l : Launch} {e : Env} {R : Room} {s : State} {m : MethodId} {args : Array Value} {below : List Frame} {meth : Method} {c : Code} {T : State} {locs : List Loc} {cells slots : Nat}
    (X : Stand p l e R s m args below meth c T locs cells slots) (hx : p.tables.exec = Jvm.exec) {E : zEnv} {Nm : Nat → MethodName} {Cd : Nat → ByteArray} {Ow : Nat → String} {Hh : Nat → List (Nat × Nat × Nat × Nat)} {GW : List Cond} {own : String} {y kd n : Nat}
    (hown : s.vm.findClass own = some m.cls) (hlink : Cond.methodLink own n (Nm y) ∈ GW ∨ ∃ h, Cond.methodLinkNest own n (Nm y) h ∈ GW) (hG : zG GW s) (mok : zMok E Nm Cd Ow Hh GW y) (hkd : zKd (E.D y) = kd) (hk3 : kd < 3)
    {g : JFrame} (hg : g.method = m) {as rest : List Value} (hstack : g.stack = as.reverse ++ rest) (hlen : as.length = zAr (E.D y))
    (hrecv : kd ≠ 0 → ∃ a as' cell, as = .ref a :: as' ∧ T.heap[a]? = some cell ∧ cell.vm.isStatics = false ∧ s.vm.findClass (Ow (zOwn (E.D y))) = some cell.cls)
    (hdg : decode c.code g.pc = .ok ((if kd = 0 then Instr.invokestatic n else if kd = 1 then Instr.invokevirtual n else Instr.invokespecial n), 3))
    {mk : MethodId} {methM : Method} (hnamed : s.methodNamed? (Nm y) = some mk) (hmethM : s.vm.method? mk = some methM) (hsig : parseMethodDescriptor (Nm y).desc = some methM.sig) :
    ∃ vm', Stand p l e R s m args below meth c (T.setVm vm') locs cells slots ∧
      ∀ target, (∀ acts, Steps p.tables e below (doInvoke e ((T.setVm vm').setTop { g with stack := rest }) acts mk as.toArray).1 target) → Steps p.tables e below (T.setTop g) target := by
  obtain ⟨hpn, hy, hcls, hcw, hin, hpar, k0, k1, k2⟩ := mok
  obtain ⟨kP, hkP, -⟩ := className_of_methodNamed hnamed
  have hinitP : kP.init = .initialized := Cond.initialized_spec (findClass_of_methodNamed hnamed) hkP (hG _ hin args)
  have hpar' : methM.sig.parameters.length = zAr (E.D y) - (if zKd (E.D y) = 0 then 0 else 1) := by
    rw [hsig] at hpar
    exact Option.some.inj hpar
  match kd, hk3, hkd, hrecv, hdg with
  | 0, _, hkd, _, hdg =>
    have hst : methM.isStatic = true := Cond.static_spec hnamed hmethM (hG _ (k0 hkd) args)
    rw [if_pos hkd, Nat.sub_zero] at hpar'
    rcases hlink with hl | ⟨ho, hl⟩
    · exact X.invokestatic hx hown (hG _ hl args) hnamed hmethM hst hkP hinitP hy (g := g) hg (argsL := as) (rest := rest) (hlen.trans hpar'.symm) hstack hdg
    · exact X.invokestaticNest hx hown (hG _ hl args) hnamed hmethM hst hkP hinitP hy (g := g) hg (argsL := as) (rest := rest) (hlen.trans hpar'.symm) hstack hdg
  | 1, _, hkd, hrecv, hdg =>
    obtain ⟨a, as', cell, rfl, hcell, hobj, hfc⟩ := hrecv (by decide)
    rw [if_neg (by rw [hkd]; decide)] at hpar'
    have hlen' : as'.length = methM.sig.parameters.length := by
      rw [hpar', ← hlen]; simp
    obtain ⟨hi1, hi2⟩ := k1 hkd
    obtain ⟨mk2, meth2, hn2, hm2, hstM, habM⟩ := Cond.instanceMethod_spec (hG _ hi1 args)
    cases hnamed.symm.trans hn2
    cases hmethM.symm.trans hm2
    obtain ⟨c2, r2, m2, q1, q2, q3, q4, kQ, hkQ, hkQi⟩ := Cond.selects_spec (hG _ hi2 args)
    cases hfc.symm.trans q1
    cases (State.methodFound?_of_named hnamed hy).symm.trans q2
    cases hnamed.symm.trans q3
    have hselP : selectMethod e.platform s.vm cell.cls mk = .method mk := by rw [Launch.admits_selectMethod X.admits]; exact q4
    have hstk : g.stack = as'.reverse ++ .ref a :: rest := by rw [hstack, List.reverse_cons, List.append_assoc]; rfl
    rcases hlink with hl | ⟨ho, hl⟩
    · exact X.invokevirtual hx hown (hG _ hl args) hnamed hmethM hstM hkQ hkQi hy (a := a) (cell := cell) hcell (fun z h => by rw [h] at hobj; cases hobj) hselP hmethM habM hkQ hkQi (g := g) hg (argsL := as') (rest := rest) hlen' hstk hdg
    · exact X.invokevirtualNest hx hown (hG _ hl args) hnamed hmethM hstM hkQ hkQi hy (a := a) (cell := cell) hcell (fun z h => by rw [h] at hobj; cases hobj) hselP hmethM habM hkQ hkQi (g := g) hg (argsL := as') (rest := rest) hlen' hstk hdg
  | 2, _, hkd, hrecv, hdg =>
    obtain ⟨a, as', cell, rfl, hcell, hobj, hfc⟩ := hrecv (by decide)
    rw [if_neg (by rw [hkd]; decide)] at hpar'
    have hlen' : ∀ sig, parseMethodDescriptor (Nm y).desc = some sig → as'.length = sig.parameters.length := by
      intro sig h9
      rw [hsig] at h9
      cases h9
      rw [hpar', ← hlen]; simp
    obtain ⟨hi1, hi2, hh, hre⟩ := k2 hkd
    have hcode : (Cond.code (Nm y) (Cd y) (zMax (E.D y)) none).before args s = true := by
      have h9 := hG _ hcw args
      unfold zcw at h9
      rw [if_pos hh, hre] at h9
      exact h9
    have hpl : e.platform.magicAccessors = ({} : Platform).magicAccessors := by rw [X.admits.platform]
    have hstk : g.stack = as'.reverse ++ .ref a :: rest := by rw [hstack, List.reverse_cons, List.append_assoc]; rfl
    subst hg
    rcases hlink with hl | ⟨ho, hl⟩
    · obtain ⟨mk2, meth2, cM, kP2, vm₁, hn2, -, -, -, -, -, -, -, hW₁, st₁⟩ := Steps.initColdArgs (e := e) X.here hx X.warmed hpl hown hi1 hy (hG _ hl args) (hG _ hi2 args) hcode (f := g) rfl hlen' hstk hdg
      cases hnamed.symm.trans hn2
      exact ⟨vm₁, X.noted hW₁, st₁⟩
    · obtain ⟨mk2, meth2, cM, kP2, vm₁, hn2, -, -, -, -, -, -, -, hW₁, st₁⟩ := Steps.initColdArgsNest (e := e) X.here hx X.warmed hpl hown hi1 hy (hG _ hl args) (hG _ hi2 args) hcode (f := g) rfl hlen' hstk hdg
      cases hnamed.symm.trans hn2
      exact ⟨vm₁, X.noted hW₁, st₁⟩
end
section
/-! THE INTERPRETER IS TRUE OF THE MACHINE: what a run says, the machine does. -/
def zStat (Xn : Nat → String) (SL : List (String × Nat × String)) (A : Nat → Prop) (s : State) (H : Heap) : Prop :=
  vx_Zq Bundle.tN "UNASSIGNED_STACK" Bundle.steD A s H ∧ vx_Zq Bundle.tN "SUPPRESSED_SENTINEL" Bundle.listD A s H ∧ (∀ r ∈ SL, ∃ a, vk_R r.1 r.2.1 r.2.2 a s) ∧ ∀ x x', x < 3 → x' < 3 → x ≠ x' → va_Nc (Xn x) (Xn x') s
theorem zStat.move {Xn : Nat → String} {SL : List (String × Nat × String)} {A B : Nat → Prop} {s U : State} {H : Heap} {locs : List Loc} (h : zStat Xn SL A s s.heap) (hS : va_S A s.heap H locs) (hW : s.WarmedH U.vm) (hAB : ∀ q, B q → A q) : zStat Xn SL B U H :=
  ⟨vx_Zq.narrow (vx_Zq.moved hW.alike (vx_Zq.kept h.1 hS.2.1)) hAB, vx_Zq.narrow (vx_Zq.moved hW.alike (vx_Zq.kept h.2.1 hS.2.1)) hAB, fun r hr => by obtain ⟨a, ha⟩ := h.2.2.1 r hr; exact ⟨a, vk_R.warm hW ha⟩, fun x x' h1 h2 h3 => va_Nc.moved hW.alike (h.2.2.2 x x' h1 h2 h3)⟩
def zNames : List String := ["java/lang/RuntimeException", "java/lang/Exception"]
def okX (E : zEnv) (Cd : Nat → ByteArray) (Ow : Nat → String) (Xn : Nat → String) (Hh : Nat → List (Nat × Nat × Nat × Nat)) (GW : List Cond) (SL : List (String × Nat × String)) : Prop := ∀ y pc x, E.X y pc = some x → Hh y = [] ∧ Bundle.fit (Xn x) = true ∧ ∃ ik is ic tx,
  decode (Cd y) pc = .ok (.new ik, 3) ∧ decode (Cd y) (pc + 3) = .ok (.dup, 1) ∧ decode (Cd y) (pc + 4) = .ok (.ldc is, 2) ∧ decode (Cd y) (pc + 6) = .ok (.invokespecial ic, 3) ∧ decode (Cd y) (pc + 9) = .ok (.athrow, 1) ∧
  Cond.classLink (Ow (zOwn (E.D y))) ik (Xn x) ∈ GW ∧ Cond.initialized (Xn x) ∈ GW ∧ (∀ w ∈ vx_atS (Ow (zOwn (E.D y))) ic (Xn x) zNames, w ∈ GW) ∧
  (∀ w ∈ Cond.classLink (Ow (zOwn (E.D y))) ik (Xn x) :: Cond.initialized (Xn x) :: vx_atS (Ow (zOwn (E.D y))) ic (Xn x) zNames, vx_ot w = true) ∧ (Ow (zOwn (E.D y)), is, tx) ∈ SL
def okH (E : zEnv) (Cd : Nat → ByteArray) (Ow : Nat → String) (Xn : Nat → String) (Hh : Nat → List (Nat × Nat × Nat × Nat)) (GW : List Cond) : Prop := (∀ x, x < 3 → Cond.castable (Xn x) (Xn x) ∈ GW) ∧ ∀ y, (Hh y).length = (E.H y).length ∧
  ∀ (j a b x h i : Nat), (E.H y)[j]? = some (a, b, x, h, i) → ∃ hp cp : Nat, (Hh y)[j]? = some (a, b, hp, cp) ∧ cp ≠ 0 ∧ x < 3 ∧ Cond.classLink (Ow (zOwn (E.D y))) cp (Xn x) ∈ GW ∧ i < zMax (E.D y) ∧
    ((∃ i' : Fin 4, (i' : Nat) = i ∧ decode (Cd y) hp = .ok (.astore_n i', 1) ∧ h = hp + 1) ∨ (decode (Cd y) hp = .ok (.astore i, 2) ∧ h = hp + 2))
theorem zfind_of : ∀ (hs : List (Nat × Nat × Nat × Nat × Nat)) (pc x h i : Nat), zfind hs pc x = some (h, i) → ∃ j a b : Nat, hs[j]? = some (a, b, x, h, i) ∧ a ≤ pc ∧ pc < b ∧ ∀ j' : Nat, j' < j → ∀ e : Nat × Nat × Nat × Nat × Nat, hs[j']? = some e → ¬ (e.1 ≤ pc ∧ pc < e.2.1 ∧ e.2.2.1 = x)
  | [], pc, x, h, i, hf => by cases hf
  | (a, b, k, h0, i0) :: hs, pc, x, h, i, hf => by
    unfold zfind at hf
    split at hf
    · rename_i hg
      obtain ⟨g1, g2, rfl⟩ := hg
      cases hf
      exact ⟨0, a, b, rfl, g1, g2, fun j' hj => absurd hj (Nat.not_lt_zero _)⟩
    · rename_i hg
      obtain ⟨j, a', b', h1, h2, h3, h4⟩ := zfind_of hs pc x h i hf
      refine ⟨j + 1, a', b', h1, h2, h3, fun j' hj e he => ?_⟩
      match j', hj, he with
      | 0, _, he => cases he; exact hg
      | j' + 1, hj, he => exact h4 j' (by omega) e he
def zCx (E : zEnv) (Cd : Nat → ByteArray) (Ow : Nat → String) (Xn : Nat → String) (Hh : Nat → List (Nat × Nat × Nat × Nat)) (cl : List vw_C) (GW : List Cond) (SL : List (String × Nat × String)) (D : va_G) (ct : Nat → ClassId) (Sc : zSc) (y : Nat) (p : Program) (s : State) (m : MethodId) (meth : Method) (c : Code) (A : Nat → Prop) (b : Nat) : Prop :=
  p.tables.exec = Jvm.exec ∧ c.code = Cd y ∧ c.maxLocals = zMax (E.D y) ∧ s.vm.findClass (Ow (zOwn (E.D y))) = some m.cls ∧ meth.sig.returnType = zRet (E.D y) ∧ meth.locks = false ∧ zG GW s ∧ va_K D cl (zty ct) s ∧ (zKd (E.D y) = 2 → meth.name = "<init>") ∧
  c.exceptionTable.toList.map (fun x => (x.startPc, x.endPc, x.handlerPc, x.catchType)) = Hh y ∧ zSs Sc b A s ∧ (∀ q, s.heap.size ≤ q → A q) ∧ zStat Xn SL A s s.heap
def zQc (D : va_G) (cl : List vw_C) (ct : Nat → ClassId) (A : Nat → Prop) (b : Nat) (ad0 : Nat → Nat) (n0 : Nat) (o : zO) : Array Value → State → Outcome → State → Prop := fun _ st oc t => match o.1 with
  | .inl v => ∃ ad' : Nat → Nat, (∀ k, k < n0 → ad' k = ad0 k) ∧ oc = .returned (v.map (xV ad' b)) ∧ va_P D cl (xW ad' b ct o.2.1) t.heap ∧ va_D A (xW ad' b ct o.2.1) ∧ va_F A st t
  | .inr _ => False
def zXc (Xn : Nat → String) (D : va_G) (cl : List vw_C) (ct : Nat → ClassId) (A : Nat → Prop) (b : Nat) (ad0 : Nat → Nat) (n0 : Nat) (o : zO) : String → State → State → Prop := fun En st t => match o.1 with
  | .inl _ => False
  | .inr x => En = Xn x ∧ ∃ ad' : Nat → Nat, (∀ k, k < n0 → ad' k = ad0 k) ∧ va_P D cl (xW ad' b ct o.2.1) t.heap ∧ va_D A (xW ad' b ct o.2.1) ∧ va_F A st t
section zSn
variable {E : zEnv} {Nm : Nat → MethodName} {Cd : Nat → ByteArray} {Ow : Nat → String} {Xn : Nat → String} {Hh : Nat → List (Nat × Nat × Nat × Nat)} {cl : List vw_C} {GW : List Cond} {SL : List (String × Nat × String)} {D : va_G} {ct : Nat → ClassId}
variable {p : Program} {l : Launch} {e : Env} {R : Room} {s : State} {m : MethodId} {args : Array Value} {below : List Frame} {meth : Method} {c : Code} {A : Nat → Prop} {b : Nat} {ad0 : Nat → Nat} {n0 : Nat}
variable {Sc : zSc} {y pc : Nat} {ls : zL} {st : List Value} {w : zW} {ca sl : Nat} {ad : Nat → Nat} {ls0 : Array Slot} {H : Heap} {locs : List Loc}
theorem zret_sound (ok1 : okT E Cd) {v : Option Value} (Cx : zCx E Cd Ow Xn Hh cl GW SL D ct Sc y p s m meth c A b) (had : ∀ k, k < n0 → ad k = ad0 k) (hr : zRel D cl ct A s.heap (zMax (E.D y)) ad b ls0 H locs ls w) (hs : zstep E Sc y (pc, ls, st, w, ca, sl) = some (.inr (.inl v))) :
    W p l e R s m args below meth c H locs ca sl (vx_MQ below (zQc D cl ct A b ad0 n0 (.inl v, w, ca, sl)) (zXc Xn D cl ct A b ad0 n0 (.inl v, w, ca, sl)) args s ca sl A) (F0 m pc ls0 (st.map (xV ad b))) := by
  obtain ⟨hx, hb, hml, hown, hret, hlocks, hG, hK, hmk, hexc, hSs, hA, hstat⟩ := Cx
  obtain ⟨hX, hfit, rfl, tg, hcase⟩ := zstep_ret hs
  have hq : ∀ t : State, t.heap = H → s.WarmedH t.vm → zQc D cl ct A b ad0 n0 (.inl v, w, ca, sl) args s (.returned (v.map (xV ad b))) t :=
    fun t ht hW => ⟨ad, had, rfl, by rw [ht]; exact hr.2.1, hr.2.2.1, hr.2.2.2.F ht⟩
  have hf : ∀ z ∈ locs, A z.base := hr.2.2.2.2.2
  rcases hcase with ⟨hT, x, rfl⟩ | ⟨hT, x, rfl⟩ | ⟨hT, x, rfl⟩ | ⟨hT, rfl⟩
  · obtain ⟨n, hd, hn, -⟩ := ok1 _ _ _ _ hT
    obtain rfl := zlen_of hn rfl
    cases hR : zRet (E.D y) with
    | none => rw [hR] at hfit; cases hfit
    | some ty =>
      rw [hR] at hfit hret
      exact vx_ret (W.zret hx hb hret (zfit_ok (ad := ad) (b := b) hfit).1 hq hf hd hlocks)
  · obtain ⟨n, hd, hn, -⟩ := ok1 _ _ _ _ hT
    obtain rfl := zlen_of hn rfl
    cases hR : zRet (E.D y) with
    | none => rw [hR] at hfit; cases hfit
    | some ty =>
      rw [hR] at hfit hret
      cases ty with
      | long => exact vx_ret (W.lret hx hb hret hq hf hd hlocks)
      | _ => cases hfit
  · obtain ⟨n, hd, hn, -⟩ := ok1 _ _ _ _ hT
    obtain rfl := zlen_of hn rfl
    cases hR : zRet (E.D y) with
    | none => rw [hR] at hfit; cases hfit
    | some ty =>
      rw [hR] at hfit hret
      cases ty with
      | object C => exact vx_ret (W.aret (v := .ref (ad x)) hx hb hret (Or.inl ⟨C, rfl⟩) (Or.inr ⟨_, rfl⟩) hq hf hd hlocks)
      | array t => exact vx_ret (W.aret (v := .ref (ad x)) hx hb hret (Or.inr ⟨t, rfl⟩) (Or.inr ⟨_, rfl⟩) hq hf hd hlocks)
      | _ => cases hfit
  · obtain ⟨n, hd, hn, -⟩ := ok1 _ _ _ _ hT
    obtain rfl := zlen_of hn rfl
    cases hR : zRet (E.D y) with
    | some ty => rw [hR] at hfit; cases hfit
    | none =>
      rw [hR] at hret
      exact vx_ret (W.vret hx hb hret hq hf hd hlocks)
theorem zthr_sound (okx : okX E Cd Ow Xn Hh GW SL) {x : Nat} (hl : l.stackTraces = false) (Cx : zCx E Cd Ow Xn Hh cl GW SL D ct Sc y p s m meth c A b) (had : ∀ k, k < n0 → ad k = ad0 k) (hr : zRel D cl ct A s.heap (zMax (E.D y)) ad b ls0 H locs ls w) (hs : zstep E Sc y (pc, ls, st, w, ca, sl) = some (.inr (.inr (.inr x))))
    (hc : ca + 1 ≤ R.cells) (hsl : sl + 6 ≤ R.slots) (hfr : zFr (E.D y) ≤ R.frames) (hlo : zLo (E.D y) ≤ R.locals) :
    W p l e R s m args below meth c H locs ca sl (vx_MQ below (zQc D cl ct A b ad0 n0 (.inr x, w, ca + 1, sl + 6)) (zXc Xn D cl ct A b ad0 n0 (.inr x, w, ca + 1, sl + 6)) args s (ca + 1) (sl + 6) A) (F0 m pc ls0 (st.map (xV ad b))) := by
  obtain ⟨hx, hb, hml, hown, hret, hlocks, hG, hK, hmk, hexc, hSs, hA, hstat⟩ := Cx
  obtain ⟨hX, hf6, hw82⟩ := zstep_thr hs
  obtain ⟨hh, hfit, ik, is, ic, tx, d0, d3, d4, d6, d9, w1, w2, w3, w4, hSL⟩ := okx _ _ _ hX
  obtain ⟨sa, hsa⟩ := hstat.2.2.1 _ hSL
  have hexc' : c.exceptionTable.toList = [] := by
    rw [hh] at hexc
    exact List.map_eq_nil_iff.mp hexc
  refine vx_throwS (names := zNames) (text := tx) (sa := sa) hx hb hl hown hfit (by decide +kernel) (hG _ w1 args) (hG _ w2 args) hsa (fun w9 h9 => hG _ (w3 w9 h9) args) w4 hstat.1 hstat.2.1 hr.2.2.2 (hr.1.2.1.trans hml.symm) d0 d3 d4 d6 d9 (by rw [hexc']; intro z hz; cases hz)
    (show 2 + 3 < R.frames by omega) ?_ hc hsl hlocks (fun t hal hz hk => ?_) hr.2.2.2.2.2 (Nat.le_refl _) (Nat.le_refl _)
  · rw [zwt_map]
    show zwt st + (13 * (2 + 1) + 43) ≤ R.locals
    omega
  · refine ⟨rfl, ad, had, va_P.kept hr.2.1 (fun k q hq => hk q.1 (hr.2.1 k q hq).lt), hr.2.2.1, Nat.le_trans hr.2.2.2.1 hz, fun q h1 h2 => ?_⟩
    rw [hk q (Nat.lt_of_lt_of_le h1 hr.2.2.2.1)]
    exact hr.2.2.2.2.1 q h1 h2
end zSn
end
section
/-! Calls, and the whole. -/
section zMn
variable {E : zEnv} {Nm : Nat → MethodName} {Cd : Nat → ByteArray} {Ow : Nat → String} {Xn : Nat → String} {Hh : Nat → List (Nat × Nat × Nat × Nat)} {cl : List vw_C} {GW : List Cond} {SL : List (String × Nat × String)} {D : va_G} {ct : Nat → ClassId}
/-- what is to be shown of a run of f steps -/
def zSound (E : zEnv) (Cd : Nat → ByteArray) (Ow : Nat → String) (Xn : Nat → String) (Hh : Nat → List (Nat × Nat × Nat × Nat)) (cl : List vw_C) (GW : List Cond) (SL : List (String × Nat × String)) (D : va_G) (ct : Nat → ClassId) (f : Nat) : Prop :=
  ∀ (Sc : zSc) (y : Nat) (q : zSt) (o : zO), zrun E f Sc y q = some o → ∀ (p : Program) (l : Launch) (e : Env) (R : Room) (s : State) (m : MethodId) (args : Array Value) (below : List Frame) (meth : Method) (c : Code) (A : Nat → Prop) (b : Nat) (ad0 : Nat → Nat) (n0 : Nat),
    l.stackTraces = false → zCx E Cd Ow Xn Hh cl GW SL D ct Sc y p s m meth c A b → ∀ (ad : Nat → Nat) (ls0 : Array Slot) (H : Heap) (locs : List Loc), (∀ k, k < n0 → ad k = ad0 k) → n0 ≤ q.2.2.2.1.length → zRel D cl ct A s.heap (zMax (E.D y)) ad b ls0 H locs q.2.1 q.2.2.2.1 →
    o.2.2.1 ≤ R.cells → o.2.2.2 ≤ R.slots → zFr (E.D y) ≤ R.frames → zLo (E.D y) ≤ R.locals →
    W p l e R s m args below meth c H locs q.2.2.2.2.1 q.2.2.2.2.2 (vx_MQ below (zQc D cl ct A b ad0 n0 o) (zXc Xn D cl ct A b ad0 n0 o) args s o.2.2.1 o.2.2.2 A) (F0 m q.1 ls0 (q.2.2.1.map (xV ad b)))
variable {p : Program} {l : Launch} {e : Env} {R : Room} {s : State} {m : MethodId} {args : Array Value} {below : List Frame} {meth : Method} {c : Code} {A : Nat → Prop} {b : Nat}
variable {Sc : zSc} {y pc : Nat} {ls : zL} {st : List Value} {w : zW} {ca sl : Nat} {ad : Nat → Nat} {ls0 : Array Slot} {H : Heap} {locs : List Loc}
theorem zrecv_of {y' : Nat} {as : List Value} (ok3 : okC E Ow cl GW) (hK : va_K D cl (zty ct) s) (hP : va_P D cl (xW ad b ct w) H) (h : zrecv E y' as w = true) (hk : zKd (E.D y') ≠ 0) :
    ∃ a as' cell, as.map (xV ad b) = .ref a :: as' ∧ H[a]? = some cell ∧ cell.vm.isStatics = false ∧ s.vm.findClass (Ow (zOwn (E.D y'))) = some cell.cls := by
  unfold zrecv at h
  rw [if_pos hk] at h
  split at h
  · rename_i a as0
    split at h
    · rename_i o ho
      have ho1 : o.1 = zOwn (E.D y') := by simpa using h
      obtain ⟨ci, fs⟩ := o
      dsimp only at ho1
      obtain ⟨r, hr1, -⟩ := hP a _ (xW_at ho)
      obtain ⟨cell, c1, c2, c3⟩ := va_recv hK hP hr1 (xW_at ho)
      obtain ⟨C, T, N⟩ := r
      have hC := (ok3 _ _ _ _ hr1).2.1
      refine ⟨ad a, as0.map (xV ad b), cell, rfl, c1, c2, ?_⟩
      rw [← ho1, ← hC]
      exact c3
    · cases h
  · cases h
/-- a call: the callee runs to its end; what comes then -/
theorem zcall_sound {f : Nat} (ih : zSound E Cd Ow Xn Hh cl GW SL D ct f) (hgw : ∀ x ∈ GW, zgood x = true) (ok1 : okT E Cd) (ok3 : okC E Ow cl GW) (okm : okM E Nm Cd Ow Hh GW) {y' : Nat} {as : List Value} {q1 : zSt} {o1 : zO} {Q : State → Prop}
    (hl : l.stackTraces = false) (Cx : zCx E Cd Ow Xn Hh cl GW SL D ct Sc y p s m meth c A b) (hr : zRel D cl ct A s.heap (zMax (E.D y)) ad b ls0 H locs ls w) (hs : zstep E Sc y (pc, ls, st, w, ca, sl) = some (.inr (.inr (.inl (y', as, q1)))))
    (hrun : zrun E f none y' (zent E y' as q1.2.2.2.1) = some o1) (hc : ca + o1.2.2.1 ≤ R.cells) (hsl : sl + o1.2.2.2 ≤ R.slots) (hfr : zFr (E.D y) ≤ R.frames) (hlo : zLo (E.D y) ≤ R.locals)
    (kr : ∀ (v : Option Value) (ad1 : Nat → Nat) (H1 : Heap) (locs1 : List Loc), o1.1 = .inl v → (∀ k, k < w.length → ad1 k = ad k) → zRel D cl ct A s.heap (zMax (E.D y)) ad1 b ls0 H1 locs1 ls o1.2.1 → W p l e R s m args below meth c H1 locs1 (ca + o1.2.2.1) (sl + o1.2.2.2) Q (F0 m (pc + 3) ls0 ((v.toList ++ q1.2.2.1).map (xV ad1 b))))
    (kx : ∀ (x : Nat) (ad1 : Nat → Nat) (H1 : Heap) (locs1 : List Loc) (q9 : Addr) (ce : Cell), o1.1 = .inr x → (∀ k, k < w.length → ad1 k = ad k) → zRel D cl ct A s.heap (zMax (E.D y)) ad1 b ls0 H1 locs1 ls o1.2.1 → H1[q9]? = some ce → ce.vm = .none → s.vm.findClass (Xn x) = some ce.cls →
      vx_W p l e R s m args below meth c H1 locs1 (ca + o1.2.2.1) (sl + o1.2.2.2) Q (F0 m pc ls0 (q1.2.2.1.map (xV ad b))) q9) :
    W p l e R s m args below meth c H locs ca sl Q (F0 m pc ls0 (st.map (xV ad b))) := by
  obtain ⟨hx, hb, hml, hown, hret, hlocks, hG, hK, hmk, hexc, hSs, hA, hstat⟩ := Cx
  obtain ⟨kd, n, hk3, hX, hcl0, tg, hT⟩ := zstep_call hs
  obtain ⟨y2, hM, ⟨hkd, hf1, hlo1, har, hargs, hscL, hscS, hrcv⟩, e9⟩ := zcall_of hcl0
  cases e9
  obtain ⟨hlink, mok⟩ := okm _ _ _ hM
  obtain ⟨mk, methk, ck, hnamed, hmethM, hck, hcb, hcm, hcx, hcr, hclk, hsig⟩ := zcode hG mok
  obtain ⟨hl0, hP, hD, hS⟩ := id hr
  obtain ⟨n9, hd, hn9, -⟩ := ok1 _ _ _ _ hT
  have hdg : decode c.code pc = .ok ((if kd = 0 then Instr.invokestatic n else if kd = 1 then Instr.invokevirtual n else Instr.invokespecial n), 3) := by
    rw [hb, hd]
    have : n9 = 3 := by
      refine zlen_of hn9 ?_
      split
      · rfl
      · split
        · rfl
        · rfl
    rw [this]
  generalize has : (st.take (zAr (E.D y'))).reverse = as at hs hrun hargs hrcv ⊢
  generalize hrest : st.drop (zAr (E.D y')) = rest at kr kx hlo1 hs
  have hst : st = as.reverse ++ rest := by rw [← has, ← hrest, List.reverse_reverse, List.take_append_drop]
  have hscR : zscS w.length rest = true := by
    rw [hst] at hscS
    unfold zscS at hscS ⊢
    rw [List.all_append, Bool.and_eq_true] at hscS
    exact hscS.2
  intro T hT X
  obtain ⟨vm', X1, st1⟩ := zedge X hx hown hlink hG mok hkd hk3 (g := F0 m pc ls0 (st.map (xV ad b))) rfl (as := as.map (xV ad b)) (rest := rest.map (xV ad b)) (by show st.map (xV ad b) = _; rw [hst, List.map_append, List.map_reverse]) (by rw [List.length_map, ← has]; simp; omega)
    (fun h0 => by rw [hT]; exact zrecv_of ok3 hK hP hrcv (by rw [hkd]; exact h0)) hdg hnamed hmethM hsig
  have hW1 : s.WarmedH vm' := X1.warmed
  obtain ⟨Y0, hin⟩ := X1.into (g := F0 m pc ls0 (rest.map (xV ad b))) rfl (hl0.2.1.trans hml.symm) hdg (as.map (xV ad b)).toArray (R' := { frames := zFr (E.D y'), cells := o1.2.2.1, slots := o1.2.2.2, locals := zLo (E.D y') })
    (mk := mk) (methk := methk) (ck := ck) (by show vm'.method? mk = _; rw [hW1.alike.method?]; exact hmethM) hck hclk
    (State.WarmedH.plainAt hW1 (fun k hk => by obtain ⟨kC, hkC, hnC⟩ := className_of_methodNamed hnamed; cases hkC.symm.trans hk; rw [hnC]; exact mok.1))
    (by show zFr (E.D y') + 1 ≤ _; omega) (by show 2 * 0 + ((rest.map (xV ad b)).map fun v => v.category).sum + (ck.maxLocals + 11) + zLo (E.D y') ≤ _; rw [zwt_map, hcm]; omega) hc hsl
  have hFA : ∀ q, va_A (xW ad b ct w) H.size q → A q := by
    intro q hq
    rcases hq with ⟨k, e1, hk⟩ | hq
    · exact hD.2 k _ hk
    · exact hA q (Nat.le_trans hS.1 hq)
  have Cx' : zCx E Cd Ow Xn Hh cl GW SL D ct none y' p ((T.setVm vm').calling (F0 m pc ls0 (rest.map (xV ad b))) mk (as.map (xV ad b)).toArray) mk methk ck (va_A (xW ad b ct w) H.size) b := by
    refine ⟨hx, hcb, hcm, ?_, hcr, hclk, zG.warm hgw (show s.WarmedH ((T.setVm vm').calling _ mk _).vm from hW1) hG, va_K.moved (show s.vm.Alike ((T.setVm vm').calling _ mk _).vm from hW1.alike) hK, ?_, hcx, trivial, ?_, ?_⟩
    · show vm'.findClass _ = _
      rw [hW1.alike.findClass, ← mok.2.2.1]
      exact findClass_of_methodNamed hnamed
    · intro h2
      rw [(name_of_methodNamed hnamed hmethM).1]
      exact (mok.2.2.2.2.2.2.2.2 h2).1
    · intro q hq
      refine Or.inr ?_
      have : ((T.setVm vm').calling (F0 m pc ls0 (rest.map (xV ad b))) mk (as.map (xV ad b)).toArray).heap = H := hT
      rw [this] at hq
      exact hq
    · have h9 : ((T.setVm vm').calling (F0 m pc ls0 (rest.map (xV ad b))) mk (as.map (xV ad b)).toArray).heap = H := hT
      rw [h9]
      exact hstat.move hS (show s.WarmedH ((T.setVm vm').calling _ mk _).vm from hW1) hFA
  have K := ih none y' _ o1 hrun p l e { frames := zFr (E.D y'), cells := o1.2.2.1, slots := o1.2.2.2, locals := zLo (E.D y') } _ mk (as.map (xV ad b)).toArray (.java (F0 m pc ls0 (rest.map (xV ad b))) :: below) methk ck _ b ad w.length hl Cx' ad
    ((lg_sl (as.map (xV ad b)) ++ List.replicate (zMax (E.D y') - (lg_sl (as.map (xV ad b))).length) Slot.unset).toArray) H [] (fun _ _ => rfl) (Nat.le_refl _)
    ⟨xL_entry hargs, hP, hD.self, by rw [show ((T.setVm vm').calling (F0 m pc ls0 (rest.map (xV ad b))) mk (as.map (xV ad b)).toArray).heap = H from hT]; exact va_S.rf⟩ (Nat.le_refl _) (Nat.le_refl _) (Nat.le_refl _) (Nat.le_refl _)
  obtain ⟨t, hst1, oc, hrun1, hend, hQ⟩ := K _ (by show T.heap = H; exact hT) Y0
  have hgo : ∀ target, Steps p.tables e below t target → Steps p.tables e below (T.setTop (F0 m pc ls0 (st.map (xV ad b)))) target := by
    intro target htg
    refine st1 target (fun acts => ?_)
    have h1 := hin acts
    have e6 : entryFrame mk (as.map (xV ad b)).toArray ck.maxLocals = F0 mk 0 ((lg_sl (as.map (xV ad b)) ++ List.replicate (zMax (E.D y') - (lg_sl (as.map (xV ad b))).length) Slot.unset).toArray) [] := by rw [lg_entry_eq, hcm]
    rw [show ({ F0 m pc ls0 (st.map (xV ad b)) with stack := rest.map (xV ad b) } : JFrame) = F0 m pc ls0 (rest.map (xV ad b)) from rfl, h1]
    exact Eq.mp (congrArg (fun fr => Steps p.tables e below (State.setTop _ fr) target) e6.symm) ((zsteps_weaken (mid := [.java (F0 m pc ls0 (rest.map (xV ad b)))]) hst1).trans htg)
  rcases hQ with ⟨hqc, L, hfe, hL⟩ | ⟨q9, rfl, En, ce, L, hxc, hce, hcv, hcls, hW2, hsame, hL⟩
  · obtain ⟨v | x, w', mc, ms⟩ := o1
    · obtain ⟨ad1, hag, rfl, hP1, hD1, hF1⟩ := hqc
      obtain ⟨-, hW2, hsame⟩ := hfe
      obtain ⟨T2, X2, hW3, -, ht⟩ := X1.outOf (g := F0 m pc ls0 (rest.map (xV ad b))) rfl hdg hend hW2 hsame
      have hh : T2.heap = t.heap := by rw [ht]; rfl
      obtain ⟨k1, k2, k3⟩ := vx_keep (A1 := va_A (xW ad b ct w) H.size) (free := va_A (xW ad b ct w) H.size) (show ((T.setVm vm').calling (F0 m pc ls0 (rest.map (xV ad b))) mk (as.map (xV ad b)).toArray).heap = H from hT) hh hS (fun q _ h9 => hFA q h9) hFA hL hF1
      have K2 := kr v ad1 T2.heap (locs ++ L) rfl hag ⟨xL_same hag hscL hl0, by rw [hh]; exact hP1, va_D.weaken hD1 (fun k q _ h9 => hFA _ h9), k3⟩
      obtain ⟨t2, a1, b1⟩ := K2 T2 rfl X2
      refine ⟨t2, hgo t2 ?_, b1⟩
      rw [ht]
      have e5 : (v.toList ++ rest).map (xV ad1 b) = (v.map (xV ad1 b)).toList ++ rest.map (xV ad b) := by
        rw [List.map_append, xS_same hag hscR]
        cases v <;> rfl
      rw [e5] at a1
      exact a1
    · exact hqc.elim
  · obtain ⟨v | x, w', mc, ms⟩ := o1
    · exact hxc.elim
    · obtain ⟨rfl, ad1, hag, hP1, hD1, hF1⟩ := hxc
      obtain ⟨T2, X2, hW3, -, ht⟩ := X1.outOfThrown (g := F0 m pc ls0 (rest.map (xV ad b))) rfl hend hW2 hsame
      have hh : T2.heap = t.heap := by rw [ht]; rfl
      obtain ⟨k1, k2, k3⟩ := vx_keep (A1 := va_A (xW ad b ct w) H.size) (free := va_A (xW ad b ct w) H.size) (show ((T.setVm vm').calling (F0 m pc ls0 (rest.map (xV ad b))) mk (as.map (xV ad b)).toArray).heap = H from hT) hh hS (fun q _ h9 => hFA q h9) hFA hL hF1
      have hcl2 : s.vm.findClass (Xn x) = some ce.cls := by
        have h9 : vm'.findClass (Xn x) = some ce.cls := hcls
        rw [hW1.alike.findClass] at h9
        exact h9
      have K2 := kx x ad1 T2.heap (locs ++ L) q9 ce rfl hag ⟨xL_same hag hscL hl0, by rw [hh]; exact hP1, va_D.weaken hD1 (fun k q _ h9 => hFA _ h9), k3⟩ (by rw [hh]; exact hce) hcv hcl2
      obtain ⟨t2, a1, b1⟩ := K2 T2 rfl X2
      refine ⟨t2, hgo t2 ?_, b1⟩
      rw [ht]
      exact a1
theorem zx_table {xs : List ExceptionTableEntry} {hh : List (Nat × Nat × Nat × Nat)} (h : xs.map (fun x => (x.startPc, x.endPc, x.handlerPc, x.catchType)) = hh) {j : Nat} {r : Nat × Nat × Nat × Nat} (hj : hh[j]? = some r) : ∃ x, xs[j]? = some x ∧ r = (x.startPc, x.endPc, x.handlerPc, x.catchType) := by
  rw [← h, List.getElem?_map] at hj
  cases hx : xs[j]? with
  | none => rw [hx] at hj; cases hj
  | some x => rw [hx] at hj; exact ⟨x, rfl, (Option.some.inj hj).symm⟩
theorem zx_split {α : Type} {xs : List α} {j : Nat} {x : α} (h : xs[j]? = some x) : xs = xs.take j ++ x :: xs.drop (j + 1) := by
  obtain ⟨hl, he⟩ := List.getElem?_eq_some_iff.mp h
  rw [← he, ← List.drop_eq_getElem_cons hl, List.take_append_drop]
theorem z_sound (hgw : ∀ x ∈ GW, zgood x = true) (ok1 : okT E Cd) (ok2 : okF E Ow cl GW) (ok3 : okC E Ow cl GW) (ok4 : okNew E Ow cl GW) (ok5 : okK E Ow GW) (ok6 : okN E Ow GW) (okm : okM E Nm Cd Ow Hh GW) (okx : okX E Cd Ow Xn Hh GW SL) (okh : okH E Cd Ow Xn Hh GW) :
    ∀ f, zSound E Cd Ow Xn Hh cl GW SL D ct f := by
  intro f
  induction f with
  | zero => intro Sc y q o h; cases h
  | succ f ih =>
    intro Sc y q o h p l e R s m args below meth c A b ad0 n0 hl Cx ad ls0 H locs had hn0 hr hc hsl hfr hlo
    obtain ⟨pc, ls, st, w, ca, sl⟩ := q
    unfold zrun at h
    cases hs : zstep E Sc y (pc, ls, st, w, ca, sl) with
    | none => rw [hs] at h; cases h
    | some r =>
      rw [hs] at h
      rcases r with q' | v | ⟨y', as, q1⟩ | x
      · have hm := zrun_mono _ _ _ _ _ h
        obtain ⟨hx, hb, hml, hown, hret, hlocks, hG, hK, hmk, hexc, hSs, hA, hstat⟩ := id Cx
        refine zgo_sound ok1 ok2 ok3 ok4 ok5 ok6 hx hb hml hown hmk hG hK hSs hA hfr hlo hr hs (Nat.le_trans hm.2.1 hc) (Nat.le_trans hm.2.2 hsl) (fun ad' ls1 H1 locs1 hsm hr1 => ?_)
        exact ih _ _ _ _ h p l e R s m args below meth c A b ad0 n0 hl Cx ad' ls1 H1 locs1 (fun k hk => (hsm k (Nat.lt_of_lt_of_le hk hn0)).trans (had k hk)) (Nat.le_trans hn0 (zstep_le hs).1) hr1 hc hsl hfr hlo
      · cases h
        exact zret_sound ok1 Cx had hr hs
      · dsimp only at h
        cases hrun : zrun E f none y' (zent E y' as q1.2.2.2.1) with
        | none => rw [hrun] at h; cases h
        | some o1 =>
          rw [hrun] at h
          obtain ⟨kd, n, -, -, hcl0, -⟩ := zstep_call hs
          obtain ⟨y2, -, -, e9⟩ := zcall_of hcl0
          obtain ⟨eq1, eq2⟩ : q1.2.2.2 = (w, ca, sl) ∧ (q1.1 = pc + 3 ∧ q1.2.1 = ls) := by cases e9; exact ⟨rfl, rfl, rfl⟩
          have m1 := zrun_mono _ _ _ _ _ hrun
          have hw1 : w.length ≤ o1.2.1.length := by
            have h9 := m1.1
            rw [eq1] at h9
            exact h9
          have hca1 : q1.2.2.2.2.1 = ca := by rw [eq1]
          have hsl1 : q1.2.2.2.2.2 = sl := by rw [eq1]
          have fin : ca + o1.2.2.1 ≤ R.cells ∧ sl + o1.2.2.2 ≤ R.slots := by
            obtain ⟨v | x, w', mc, ms⟩ := o1
            · have h2 := zrun_mono _ _ _ _ _ h
              rw [← hca1, ← hsl1]
              exact ⟨Nat.le_trans h2.2.1 hc, Nat.le_trans h2.2.2 hsl⟩
            · dsimp only at h
              cases hf : zfind (E.H y) pc x with
              | some hi =>
                obtain ⟨hp, i⟩ := hi
                rw [hf] at h
                have h2 := zrun_mono _ _ _ _ _ h
                rw [← hca1, ← hsl1]
                exact ⟨Nat.le_trans h2.2.1 hc, Nat.le_trans h2.2.2 hsl⟩
              | none =>
                rw [hf] at h
                dsimp only at h
                split at h
                · cases h
                · cases h
                  rw [← hca1, ← hsl1]
                  exact ⟨hc, hsl⟩
          refine zcall_sound ih hgw ok1 ok3 okm hl Cx hr hs hrun fin.1 fin.2 hfr hlo (fun v ad1 H1 locs1 ho hag hr1 => ?_) (fun x ad1 H1 locs1 q9 ce ho hag hr1 hce hcv hcls => ?_)
          · obtain ⟨o11, w', mc, ms⟩ := o1
            dsimp only at ho
            subst ho
            have K := ih _ _ _ _ h p l e R s m args below meth c A b ad0 n0 hl Cx ad1 ls0 H1 locs1 (fun k hk => (hag k (Nat.lt_of_lt_of_le hk hn0)).trans (had k hk)) (Nat.le_trans hn0 hw1) (by rw [eq2.2]; exact hr1) hc hsl hfr hlo
            dsimp only at K
            rw [eq2.1, hca1, hsl1] at K
            exact K
          · obtain ⟨o11, w', mc, ms⟩ := o1
            dsimp only at ho
            subst ho
            dsimp only at h
            obtain ⟨hx, hb, hml, hown, hret, hlocks, hG, hK, hmk, hexc, hSs, hA, hstat⟩ := id Cx
            cases hf : zfind (E.H y) pc x with
            | none =>
              rw [hf] at h
              dsimp only at h
              split at h
              · cases h
              · rename_i hcov
                cases h
                rw [hca1, hsl1]
                refine vx_out (mc := ca + mc) (ms := sl + ms) ?_ hlocks hce hcv hcls (fun t ht hal => ⟨rfl, ad1, fun k hk => (hag k (Nat.lt_of_lt_of_le hk hn0)).trans (had k hk), by rw [ht]; exact hr1.2.1, hr1.2.2.1, hr1.2.2.2.F ht⟩) hr1.2.2.2.2.2 (Nat.le_refl _) (Nat.le_refl _)
                intro xe hxe
                obtain ⟨j, hj⟩ := List.getElem?_of_mem hxe
                have h1 : (Hh y)[j]? = some (xe.startPc, xe.endPc, xe.handlerPc, xe.catchType) := by rw [← hexc, List.getElem?_map, hj]; rfl
                have hjl : j < (E.H y).length := by rw [← (okh.2 y).1]; exact (List.getElem?_eq_some_iff.mp h1).1
                obtain ⟨⟨a9, b9, x9, h9, i9⟩, hE'⟩ : ∃ r, (E.H y)[j]? = some r := ⟨_, List.getElem?_eq_getElem hjl⟩
                obtain ⟨hp, cp, g1, -⟩ := (okh.2 y).2 _ _ _ _ _ _ hE'
                cases h1.symm.trans g1
                have g2 : ¬ (xe.startPc ≤ pc ∧ pc < xe.endPc) := by
                  intro g
                  apply hcov
                  exact List.any_eq_true.mpr ⟨_, List.mem_of_getElem? hE', by simpa using g⟩
                simp only [covers, Bool.and_eq_false_iff, decide_eq_false_iff_not]
                rcases Nat.lt_or_ge pc xe.startPc with g | g
                · exact Or.inl (by omega)
                · exact Or.inr (fun g3 => g2 ⟨g, g3⟩)
            | some hi =>
              obtain ⟨hh, i⟩ := hi
              rw [hf] at h
              dsimp only at h
              obtain ⟨j, a9, b9, hE, ga, gb, gpre⟩ := zfind_of _ _ _ _ _ hf
              obtain ⟨hp, cp, g1, hcp, hx3, hlk, hil, hdec⟩ := (okh.2 y).2 _ _ _ _ _ _ hE
              obtain ⟨xe, hxe, exe⟩ := zx_table hexc g1
              have K : ∀ ls1, xL ad1 b (zMax (E.D y)) ls1 (zcut i ls) → W p l e R s m args below meth c H1 locs1 (ca + mc) (sl + ms) (vx_MQ below (zQc D cl ct A b ad0 n0 o) (zXc Xn D cl ct A b ad0 n0 o) args s o.2.2.1 o.2.2.2 A) (F0 m hh ls1 []) := by
                intro ls1 hl1
                have K0 := ih _ _ _ _ h p l e R s m args below meth c A b ad0 n0 hl Cx ad1 ls1 H1 locs1 (fun k hk => (hag k (Nat.lt_of_lt_of_le hk hn0)).trans (had k hk)) (Nat.le_trans hn0 hw1) (by rw [eq2.2]; exact ⟨hl1, hr1.2⟩) hc hsl hfr hlo
                dsimp only at K0
                rw [hca1, hsl1] at K0
                exact K0
              have KH : W p l e R s m args below meth c H1 locs1 (ca + mc) (sl + ms) (vx_MQ below (zQc D cl ct A b ad0 n0 o) (zXc Xn D cl ct A b ad0 n0 o) args s o.2.2.1 o.2.2.2 A) (F0 m hp ls0 [.ref q9]) := by
                rcases hdec with ⟨i', hi', hd9, e9⟩ | ⟨hd9, e9⟩
                · rw [e9] at K
                  exact lv_astore_n hx hb hd9 hi' (xlist_has hr1.1) hil rfl (fun ls1 h1 => K ls1 (xL_cut hr1.1 h1))
                · rw [e9] at K
                  exact lv_astore hx hb hd9 (xlist_has hr1.1) hil rfl (fun ls1 h1 => K ls1 (xL_cut hr1.1 h1))
              intro T hT X
              have hpl : e.platform.magicAccessors = ({} : Platform).magicAccessors := by rw [X.admits.platform]
              have hcov : covers xe pc = true := by
                cases exe
                simp only [covers, Bool.and_eq_true, decide_eq_true_eq]
                exact ⟨ga, gb⟩
              have hcpx : xe.catchType = cp := by cases exe; rfl
              have hend : zcE e.platform s m.cls (F0 m pc ls0 (q1.2.2.1.map (xV ad b))).pc ce.cls true xe := by
                obtain ⟨c3, c4, hc3, hc4, hasg⟩ := Cond.castable_spec (hG _ (okh.1 x hx3) args)
                cases Option.some.inj (hc3.symm.trans hcls)
                obtain ⟨c5, hc5, hcl5⟩ := Cond.classLink_spec hown (hG _ hlk args) e.platform hpl
                cases Option.some.inj (hc4.symm.trans hc5)
                exact ⟨hcov, by rw [hcpx]; exact hcp, _, by rw [hcpx]; exact hcl5, hasg⟩
              have hpre : ∀ z ∈ c.exceptionTable.toList.take j, covers z pc = false ∨ zcE e.platform s m.cls (F0 m pc ls0 (q1.2.2.1.map (xV ad b))).pc ce.cls false z := by
                intro z hz
                by_cases hzc : covers z pc = true
                · right
                  obtain ⟨j', hj'⟩ := List.getElem?_of_mem hz
                  have hjlt : j' < j := by
                    have h1 := (List.getElem?_eq_some_iff.mp hj').1
                    rw [List.length_take] at h1
                    omega
                  rw [List.getElem?_take_of_lt hjlt] at hj'
                  have h1 : (Hh y)[j']? = some (z.startPc, z.endPc, z.handlerPc, z.catchType) := by rw [← hexc, List.getElem?_map, hj']; rfl
                  have hjl : j' < (E.H y).length := by rw [← (okh.2 y).1]; exact (List.getElem?_eq_some_iff.mp h1).1
                  obtain ⟨⟨a8, b8, x8, h8, i8⟩, hE8'⟩ : ∃ r, (E.H y)[j']? = some r := ⟨_, List.getElem?_eq_getElem hjl⟩
                  obtain ⟨hp8, cp8, g8, hcp8, hx8, hlk8, -⟩ := (okh.2 y).2 _ _ _ _ _ _ hE8'
                  cases h1.symm.trans g8
                  have hne := gpre j' hjlt _ hE8'
                  simp only [covers, Bool.and_eq_true, decide_eq_true_eq] at hzc
                  have hxx : x ≠ x8 := fun e8 => hne ⟨hzc.1, hzc.2, e8.symm⟩
                  obtain ⟨c3, c4, h3, h4, h5⟩ := hstat.2.2.2 x x8 hx3 hx8 hxx
                  cases Option.some.inj (h3.symm.trans hcls)
                  obtain ⟨c5, hc5, hcl5⟩ := Cond.classLink_spec hown (hG _ hlk8 args) e.platform hpl
                  cases Option.some.inj (h4.symm.trans hc5)
                  exact ⟨by simp only [covers, Bool.and_eq_true, decide_eq_true_eq]; exact hzc, hcp8, _, hcl5, h5⟩
                · left
                  simpa using hzc
              obtain ⟨vm', X', st'⟩ := zc_catch X q9 (g := F0 m pc ls0 (q1.2.2.1.map (xV ad b))) rfl (by rw [hT]; exact hce) hcv (by obtain ⟨k9, h9, -⟩ := Vm.findClass_spec hcls; exact ⟨k9, h9⟩) _ xe _ (zx_split hxe) hpre hend
              obtain ⟨t2, a1, b1⟩ := KH (T.setVm vm') hT X'
              refine ⟨t2, st' t2 ?_, b1⟩
              have e7 : xe.handlerPc = hp := by cases exe; rfl
              rw [e7]
              exact a1
      · cases h
        exact zthr_sound okx hl Cx had hr hs hc hsl hfr hlo
end zMn
end
section
/-! What a run comes to, without counting its steps. -/
theorem zrun_up {E : zEnv} : ∀ (f : Nat) (Sc : zSc) (y : Nat) (q : zSt) (o : zO), zrun E f Sc y q = some o → zrun E (f + 1) Sc y q = some o := by
  intro f
  induction f with
  | zero => intro Sc y q o h; cases h
  | succ f ih =>
    intro Sc y q o h
    rw [zrun] at h ⊢
    cases hs : zstep E Sc y q with
    | none => rw [hs] at h; cases h
    | some r =>
      rw [hs] at h
      rcases r with q' | v | ⟨y', as, q1⟩ | x
      · exact ih _ _ _ _ h
      · exact h
      · dsimp only at h ⊢
        cases hr : zrun E f none y' (zent E y' as q1.2.2.2.1) with
        | none => rw [hr] at h; cases h
        | some o1 =>
          rw [hr] at h
          rw [ih _ _ _ _ hr]
          obtain ⟨v | x, w', mc, ms⟩ := o1
          · exact ih _ _ _ _ h
          · dsimp only at h ⊢
            cases hf : zfind (E.H y) q.1 x with
            | none => rw [hf] at h; exact h
            | some hi =>
              obtain ⟨hp, i⟩ := hi
              rw [hf] at h
              exact ih _ _ _ _ h
      · exact h
theorem zrun_le {E : zEnv} {f g : Nat} (hfg : f ≤ g) {Sc : zSc} {y : Nat} {q : zSt} {o : zO} (h : zrun E f Sc y q = some o) : zrun E g Sc y q = some o := by
  induction hfg with
  | refl => exact h
  | step _ ih => exact zrun_up _ _ _ _ _ ih
theorem zrun_one {E : zEnv} {f g : Nat} {Sc : zSc} {y : Nat} {q : zSt} {o o' : zO} (h : zrun E f Sc y q = some o) (h' : zrun E g Sc y q = some o') : o = o' :=
  Option.some.inj ((zrun_le (Nat.le_max_left f g) h).symm.trans (zrun_le (Nat.le_max_right f g) h'))
noncomputable def zval (E : zEnv) (Sc : zSc) (y : Nat) (q : zSt) : Option zO := @dite _ (∃ o f, zrun E f Sc y q = some o) (Classical.propDecidable _) (fun h => some (Classical.choose h)) (fun _ => none)
theorem zval_iff {E : zEnv} {Sc : zSc} {y : Nat} {q : zSt} {o : zO} : zval E Sc y q = some o ↔ ∃ f, zrun E f Sc y q = some o := by
  unfold zval
  by_cases h : ∃ o f, zrun E f Sc y q = some o
  · rw [dif_pos h]
    obtain ⟨f, hf⟩ := Classical.choose_spec h
    constructor
    · intro e
      exact ⟨f, by rw [hf]; exact e⟩
    · rintro ⟨g, hg⟩
      exact congrArg some (zrun_one hf hg)
  · rw [dif_neg h]
    constructor
    · intro e; cases e
    · rintro ⟨g, hg⟩
      exact absurd ⟨o, g, hg⟩ h
/-- a method called at values in a world -/
noncomputable def zm (E : zEnv) (y : Nat) (as : List Value) (w : zW) : Option zO := zval E none y (zent E y as w)
/-- what comes behind a call -/
noncomputable def zAft (E : zEnv) (Sc : zSc) (y pc : Nat) (ls : zL) (st : List Value) (ca sl : Nat) : Option zO → Option zO
  | none => none
  | some (.inl v, w', mc, ms) => zval E Sc y (pc + 3, ls, v.toList ++ st, w', ca + mc, sl + ms)
  | some (.inr x, w', mc, ms) => match zfind (E.H y) pc x with
    | some (h, i) => zval E Sc y (h, zcut i ls, [], w', ca + mc, sl + ms)
    | none => if zcov (E.H y) pc = true then none else some (.inr x, w', ca + mc, sl + ms)
theorem zval_go {E : zEnv} {Sc : zSc} {y : Nat} {q q' : zSt} (h : zstep E Sc y q = some (.inl q')) : zval E Sc y q = zval E Sc y q' := by
  apply Option.ext
  intro o
  rw [zval_iff, zval_iff]
  constructor
  · rintro ⟨f, hf⟩
    cases f with
    | zero => cases hf
    | succ f => rw [zrun, h] at hf; exact ⟨f, hf⟩
  · rintro ⟨f, hf⟩
    exact ⟨f + 1, by rw [zrun, h]; exact hf⟩
theorem zval_ret {E : zEnv} {Sc : zSc} {y : Nat} {q : zSt} {v : Option Value} (h : zstep E Sc y q = some (.inr (.inl v))) : zval E Sc y q = some (.inl v, q.2.2.2) := zval_iff.mpr ⟨1, by rw [zrun, h]⟩
theorem zval_thr {E : zEnv} {Sc : zSc} {y x : Nat} {q : zSt} (h : zstep E Sc y q = some (.inr (.inr (.inr x)))) : zval E Sc y q = some (.inr x, q.2.2.2.1, q.2.2.2.2.1 + 1, q.2.2.2.2.2 + 6) := zval_iff.mpr ⟨1, by rw [zrun, h]⟩
theorem zval_call {E : zEnv} {Sc : zSc} {y y' : Nat} {pc : Nat} {ls : zL} {st rest : List Value} {w : zW} {ca sl : Nat} {as : List Value} (h : zstep E Sc y (pc, ls, st, w, ca, sl) = some (.inr (.inr (.inl (y', as, (pc + 3, ls, rest, w, ca, sl)))))) :
    zval E Sc y (pc, ls, st, w, ca, sl) = zAft E Sc y pc ls rest ca sl (zm E y' as w) := by
  apply Option.ext
  intro o
  rw [zval_iff]
  constructor
  · rintro ⟨f, hf⟩
    cases f with
    | zero => cases hf
    | succ f =>
      rw [zrun, h] at hf
      dsimp only at hf
      cases hr : zrun E f none y' (zent E y' as w) with
      | none => rw [hr] at hf; cases hf
      | some o1 =>
        rw [hr] at hf
        have h1 : zm E y' as w = some o1 := zval_iff.mpr ⟨f, hr⟩
        rw [h1]
        obtain ⟨v | x, w', mc, ms⟩ := o1
        · exact zval_iff.mpr ⟨f, hf⟩
        · dsimp only [zAft] at hf ⊢
          cases hz : zfind (E.H y) pc x with
          | none => rw [hz] at hf; exact hf
          | some hi =>
            obtain ⟨hp, i⟩ := hi
            rw [hz] at hf
            exact zval_iff.mpr ⟨f, hf⟩
  · intro hf
    cases h1 : zm E y' as w with
    | none => rw [h1] at hf; cases hf
    | some o1 =>
      rw [h1] at hf
      obtain ⟨f1, hr⟩ := zval_iff.mp h1
      obtain ⟨v | x, w', mc, ms⟩ := o1
      · obtain ⟨f2, h2⟩ := zval_iff.mp hf
        refine ⟨max f1 f2 + 1, ?_⟩
        rw [zrun, h]
        dsimp only
        rw [zrun_le (Nat.le_max_left f1 f2) hr]
        exact zrun_le (Nat.le_max_right f1 f2) h2
      · dsimp only [zAft] at hf
        cases hz : zfind (E.H y) pc x with
        | none =>
          rw [hz] at hf
          refine ⟨f1 + 1, ?_⟩
          rw [zrun, h]
          dsimp only
          rw [hr]
          dsimp only
          rw [hz]
          exact hf
        | some hi =>
          obtain ⟨hp, i⟩ := hi
          rw [hz] at hf
          obtain ⟨f2, h2⟩ := zval_iff.mp hf
          refine ⟨max f1 f2 + 1, ?_⟩
          rw [zrun, h]
          dsimp only
          rw [zrun_le (Nat.le_max_left f1 f2) hr]
          dsimp only
          rw [hz]
          exact zrun_le (Nat.le_max_right f1 f2) h2
end
section
def RX0 : String := "ShaftLoom$Crossings"
def TX0 : u_T := fun k => match k with
  | 0 => ("ShaftLoom$Crossings", "endsOver", "[I", true)
  | 1 => ("ShaftLoom$Crossings", "ends", "I", false)
  | _ => ("ShaftLoom$Crossings", "picks", "I", false)
def tyX0 : Nat → FieldType := fun k => match k with
  | 0 => .array .int
  | 1 => .int
  | _ => .int
theorem nmX0 : ∀ a, a < 3 → ∀ b, b < 3 → a ≠ b → (TX0 a).2.1 ≠ (TX0 b).2.1 := by decide +kernel
theorem tyX0_ok : ∀ k, k < 3 → parseFieldDescriptor (TX0 k).2.2.1 = some (tyX0 k) := by decide +kernel
abbrev cX0_init : ByteArray := prog_2_method_1_code
def yX0_init : MethodName := ⟨RX0, "<init>", "()V"⟩
abbrev cX0_stretch : ByteArray := prog_2_method_2_code
def yX0_stretch : MethodName := ⟨RX0, "stretch", "(II)V"⟩
abbrev cX0_throwPick : ByteArray := prog_2_method_3_code
def yX0_throwPick : MethodName := ⟨RX0, "throwPick", "(I)V"⟩
abbrev cX0_has : ByteArray := prog_2_method_4_code
def yX0_has : MethodName := ⟨RX0, "has", "(II)Z"⟩
abbrev cX0_isOver : ByteArray := prog_2_method_5_code
def yX0_isOver : MethodName := ⟨RX0, "isOver", "(II)Z"⟩
abbrev cX0_put : ByteArray := prog_2_method_6_code
def yX0_put : MethodName := ⟨RX0, "put", "(IIZ)V"⟩
abbrev cX0_count : ByteArray := prog_2_method_7_code
def yX0_count : MethodName := ⟨RX0, "count", "(Z)I"⟩
abbrev cX0_line : ByteArray := prog_2_method_8_code
def yX0_line : MethodName := ⟨RX0, "line", "(ZI)I"⟩
abbrev cX0_picksUnder : ByteArray := prog_2_method_9_code
def yX0_picksUnder : MethodName := ⟨RX0, "picksUnder", "(I)I"⟩
abbrev cX0_firstLike : ByteArray := prog_2_method_10_code
def yX0_firstLike : MethodName := ⟨RX0, "firstLike", "(ZI)I"⟩
abbrev cX0_leastShift : ByteArray := prog_2_method_11_code
def yX0_leastShift : MethodName := ⟨RX0, "leastShift", "(Z)I"⟩
abbrev cX0_repeatsAfter : ByteArray := prog_2_method_12_code
def yX0_repeatsAfter : MethodName := ⟨RX0, "repeatsAfter", "(ZI)Z"⟩
def RX1 : String := "ShaftLoom$Pile"
def TX1 : u_T := fun k => match k with
  | 0 => ("ShaftLoom$Pile", "below", "[J", true)
  | 1 => ("ShaftLoom$Pile", "numbers", "[I", true)
  | _ => ("ShaftLoom$Pile", "threads", "I", false)
def tyX1 : Nat → FieldType := fun k => match k with
  | 0 => .array .long
  | 1 => .array .int
  | _ => .int
theorem nmX1 : ∀ a, a < 3 → ∀ b, b < 3 → a ≠ b → (TX1 a).2.1 ≠ (TX1 b).2.1 := by decide +kernel
theorem tyX1_ok : ∀ k, k < 3 → parseFieldDescriptor (TX1 k).2.2.1 = some (tyX1 k) := by decide +kernel
abbrev cX1_init : ByteArray := prog_3_method_1_code
def yX1_init : MethodName := ⟨RX1, "<init>", "()V"⟩
abbrev cX1_sort : ByteArray := prog_3_method_2_code
def yX1_sort : MethodName := ⟨RX1, "sort", "(LShaftLoom$Crossings;)I"⟩
abbrev cX1_layDirectly : ByteArray := prog_3_method_3_code
def yX1_layDirectly : MethodName := ⟨RX1, "layDirectly", "(LShaftLoom$Crossings;)V"⟩
abbrev cX1_followOthers : ByteArray := prog_3_method_4_code
def yX1_followOthers : MethodName := ⟨RX1, "followOthers", "()V"⟩
abbrev cX1_numberFromBottom : ByteArray := prog_3_method_5_code
def yX1_numberFromBottom : MethodName := ⟨RX1, "numberFromBottom", "()I"⟩
abbrev cX1_lowestFree : ByteArray := prog_3_method_6_code
def yX1_lowestFree : MethodName := ⟨RX1, "lowestFree", "(J)I"⟩
abbrev cX1_isFree : ByteArray := prog_3_method_7_code
def yX1_isFree : MethodName := ⟨RX1, "isFree", "(IJ)Z"⟩
abbrev cX1_holds : ByteArray := prog_3_method_8_code
def yX1_holds : MethodName := ⟨RX1, "holds", "(JI)Z"⟩
def RX2 : String := "ShaftLoom$Row"
def TX2 : u_T := fun k => match k with
  | 0 => ("ShaftLoom$Row", "kinds", "[I", true)
  | _ => ("ShaftLoom$Row", "size", "I", false)
def tyX2 : Nat → FieldType := fun k => match k with
  | 0 => .array .int
  | _ => .int
theorem nmX2 : ∀ a, a < 2 → ∀ b, b < 2 → a ≠ b → (TX2 a).2.1 ≠ (TX2 b).2.1 := by decide +kernel
theorem tyX2_ok : ∀ k, k < 2 → parseFieldDescriptor (TX2 k).2.2.1 = some (tyX2 k) := by decide +kernel
abbrev cX2_init : ByteArray := prog_4_method_1_code
def yX2_init : MethodName := ⟨RX2, "<init>", "()V"⟩
abbrev cX2_kindOrNone : ByteArray := prog_4_method_2_code
def yX2_kindOrNone : MethodName := ⟨RX2, "kindOrNone", "(I)I"⟩
abbrev cX2_append : ByteArray := prog_4_method_3_code
def yX2_append : MethodName := ⟨RX2, "append", "(I)V"⟩
abbrev cX2_appendRepeated : ByteArray := prog_4_method_4_code
def yX2_appendRepeated : MethodName := ⟨RX2, "appendRepeated", "(II)V"⟩
abbrev cX2_appendTurned : ByteArray := prog_4_method_5_code
def yX2_appendTurned : MethodName := ⟨RX2, "appendTurned", "(I)V"⟩
abbrev cX2_copyFrom : ByteArray := prog_4_method_6_code
def yX2_copyFrom : MethodName := ⟨RX2, "copyFrom", "(LShaftLoom$Row;)V"⟩
abbrev cX2_numberLines : ByteArray := prog_4_method_7_code
def yX2_numberLines : MethodName := ⟨RX2, "numberLines", "(LShaftLoom$Crossings;Z)I"⟩
def RX3 : String := "ShaftLoom"
def TX3 : u_T := fun k => match k with
  | 0 => ("ShaftLoom", "threading", "LShaftLoom$Row;", true)
  | 1 => ("ShaftLoom", "treadling", "LShaftLoom$Row;", true)
  | 2 => ("ShaftLoom", "ties", "[I", true)
  | 3 => ("ShaftLoom", "endColours", "[I", true)
  | 4 => ("ShaftLoom", "pickColours", "[I", true)
  | 5 => ("ShaftLoom", "cloth", "LShaftLoom$Crossings;", true)
  | 6 => ("ShaftLoom", "pile", "LShaftLoom$Pile;", true)
  | 7 => ("ShaftLoom", "painting", "LShaftLoom$Crossings;", true)
  | 8 => ("ShaftLoom", "paintedThreading", "LShaftLoom$Row;", true)
  | _ => ("ShaftLoom", "paintedTreadling", "LShaftLoom$Row;", true)
def tyX3 : Nat → FieldType := fun k => match k with
  | 0 => .object "ShaftLoom$Row"
  | 1 => .object "ShaftLoom$Row"
  | 2 => .array .int
  | 3 => .array .int
  | 4 => .array .int
  | 5 => .object "ShaftLoom$Crossings"
  | 6 => .object "ShaftLoom$Pile"
  | 7 => .object "ShaftLoom$Crossings"
  | 8 => .object "ShaftLoom$Row"
  | _ => .object "ShaftLoom$Row"
theorem nmX3 : ∀ a, a < 10 → ∀ b, b < 10 → a ≠ b → (TX3 a).2.1 ≠ (TX3 b).2.1 := by decide +kernel
theorem tyX3_ok : ∀ k, k < 10 → parseFieldDescriptor (TX3 k).2.2.1 = some (tyX3 k) := by decide +kernel
abbrev cX3_init : ByteArray := prog_1_method_1_code
def yX3_init : MethodName := ⟨RX3, "<init>", "()V"⟩
abbrev cX3_run : ByteArray := prog_1_method_2_code
def yX3_run : MethodName := ⟨RX3, "run", "(ZII)I"⟩
abbrev cX3_again : ByteArray := prog_1_method_3_code
def yX3_again : MethodName := ⟨RX3, "again", "(ZIIZ)I"⟩
abbrev cX3_clear : ByteArray := prog_1_method_4_code
def yX3_clear : MethodName := ⟨RX3, "clear", "(Z)I"⟩
abbrev cX3_tie : ByteArray := prog_1_method_5_code
def yX3_tie : MethodName := ⟨RX3, "tie", "(IIZ)Z"⟩
abbrev cX3_draft : ByteArray := prog_1_method_6_code
def yX3_draft : MethodName := ⟨RX3, "draft", "(III)I"⟩
abbrev cX3_colour : ByteArray := prog_1_method_7_code
def yX3_colour : MethodName := ⟨RX3, "colour", "(ZII)I"⟩
abbrev cX3_weave : ByteArray := prog_1_method_8_code
def yX3_weave : MethodName := ⟨RX3, "weave", "(I)I"⟩
abbrev cX3_unweave : ByteArray := prog_1_method_9_code
def yX3_unweave : MethodName := ⟨RX3, "unweave", "(I)V"⟩
abbrev cX3_over : ByteArray := prog_1_method_10_code
def yX3_over : MethodName := ⟨RX3, "over", "(II)I"⟩
abbrev cX3_seen : ByteArray := prog_1_method_11_code
def yX3_seen : MethodName := ⟨RX3, "seen", "(IIZ)I"⟩
abbrev cX3_longest : ByteArray := prog_1_method_12_code
def yX3_longest : MethodName := ⟨RX3, "longest", "(IZ)I"⟩
abbrev cX3_layers : ByteArray := prog_1_method_13_code
def yX3_layers : MethodName := ⟨RX3, "layers", "()I"⟩
abbrev cX3_layer : ByteArray := prog_1_method_14_code
def yX3_layer : MethodName := ⟨RX3, "layer", "(I)I"⟩
abbrev cX3_period : ByteArray := prog_1_method_15_code
def yX3_period : MethodName := ⟨RX3, "period", "(Z)I"⟩
abbrev cX3_picture : ByteArray := prog_1_method_16_code
def yX3_picture : MethodName := ⟨RX3, "picture", "(II)V"⟩
abbrev cX3_paint : ByteArray := prog_1_method_17_code
def yX3_paint : MethodName := ⟨RX3, "paint", "(IIZ)Z"⟩
abbrev cX3_factor : ByteArray := prog_1_method_18_code
def yX3_factor : MethodName := ⟨RX3, "factor", "(Z)I"⟩
abbrev cX3_isKind : ByteArray := prog_1_method_19_code
def yX3_isKind : MethodName := ⟨RX3, "isKind", "(I)Z"⟩
abbrev cX3_withBit : ByteArray := prog_1_method_20_code
def yX3_withBit : MethodName := ⟨RX3, "withBit", "(IIZ)I"⟩
abbrev cX3_isPick : ByteArray := prog_1_method_21_code
def yX3_isPick : MethodName := ⟨RX3, "isPick", "(I)Z"⟩
abbrev cX3_isThread : ByteArray := prog_1_method_22_code
def yX3_isThread : MethodName := ⟨RX3, "isThread", "(I)Z"⟩
abbrev cX3_rowOf : ByteArray := prog_1_method_23_code
def yX3_rowOf : MethodName := ⟨RX3, "rowOf", "(Z)LShaftLoom$Row;"⟩
abbrev cX3_isTied : ByteArray := prog_1_method_24_code
def yX3_isTied : MethodName := ⟨RX3, "isTied", "(II)Z"⟩
abbrev cX3_tiedOrNone : ByteArray := prog_1_method_25_code
def yX3_tiedOrNone : MethodName := ⟨RX3, "tiedOrNone", "(II)I"⟩
abbrev cX3_requireRoom : ByteArray := prog_1_method_26_code
def yX3_requireRoom : MethodName := ⟨RX3, "requireRoom", "(ZJ)V"⟩
abbrev cX3_requireCloth : ByteArray := prog_1_method_27_code
def yX3_requireCloth : MethodName := ⟨RX3, "requireCloth", "()V"⟩
abbrev cX3_endsRaisedBy : ByteArray := prog_1_method_28_code
def yX3_endsRaisedBy : MethodName := ⟨RX3, "endsRaisedBy", "(I)I"⟩
abbrev cX3_longestStretch : ByteArray := prog_1_method_29_code
def yX3_longestStretch : MethodName := ⟨RX3, "longestStretch", "(IIZ)I"⟩
abbrev cX3_adoptPaintedDraft : ByteArray := prog_1_method_30_code
def yX3_adoptPaintedDraft : MethodName := ⟨RX3, "adoptPaintedDraft", "()V"⟩
def RX4 : String := "ShaftLoomModel"
def TX4 : u_T := fun k => match k with
  | 0 => ("ShaftLoomModel", "thrown", "I", false)
  | 1 => ("ShaftLoomModel", "rows", "[I", true)
  | 2 => ("ShaftLoomModel", "ends", "I", false)
  | 3 => ("ShaftLoomModel", "picks", "I", false)
  | 4 => ("ShaftLoomModel", "woven", "I", false)
  | 5 => ("ShaftLoomModel", "ties", "[Z", true)
  | 6 => ("ShaftLoomModel", "colours", "[I", true)
  | 7 => ("ShaftLoomModel", "cloth", "[Z", true)
  | 8 => ("ShaftLoomModel", "above", "[Z", true)
  | 9 => ("ShaftLoomModel", "layerOf", "[I", true)
  | 10 => ("ShaftLoomModel", "layers", "I", false)
  | 11 => ("ShaftLoomModel", "wide", "I", false)
  | 12 => ("ShaftLoomModel", "high", "I", false)
  | 13 => ("ShaftLoomModel", "picture", "[Z", true)
  | _ => ("ShaftLoomModel", "kinds", "[I", true)
def tyX4 : Nat → FieldType := fun k => match k with
  | 0 => .int
  | 1 => .array .int
  | 2 => .int
  | 3 => .int
  | 4 => .int
  | 5 => .array .boolean
  | 6 => .array .int
  | 7 => .array .boolean
  | 8 => .array .boolean
  | 9 => .array .int
  | 10 => .int
  | 11 => .int
  | 12 => .int
  | 13 => .array .boolean
  | _ => .array .int
theorem nmX4 : ∀ a, a < 15 → ∀ b, b < 15 → a ≠ b → (TX4 a).2.1 ≠ (TX4 b).2.1 := by decide +kernel
theorem tyX4_ok : ∀ k, k < 15 → parseFieldDescriptor (TX4 k).2.2.1 = some (tyX4 k) := by decide +kernel
abbrev cX4_init : ByteArray := prog_6_method_1_code
def yX4_init : MethodName := ⟨RX4, "<init>", "()V"⟩
abbrev cX4_thrown : ByteArray := prog_6_method_2_code
def yX4_thrown : MethodName := ⟨RX4, "thrown", "()I"⟩
abbrev cX4_count : ByteArray := prog_6_method_3_code
def yX4_count : MethodName := ⟨RX4, "count", "(Z)I"⟩
abbrev cX4_append : ByteArray := prog_6_method_4_code
def yX4_append : MethodName := ⟨RX4, "append", "(ZI)V"⟩
abbrev cX4_mayAppend : ByteArray := prog_6_method_5_code
def yX4_mayAppend : MethodName := ⟨RX4, "mayAppend", "(ZJ)Z"⟩
abbrev cX4_isOne : ByteArray := prog_6_method_6_code
def yX4_isOne : MethodName := ⟨RX4, "isOne", "(I)Z"⟩
abbrev cX4_run : ByteArray := prog_6_method_7_code
def yX4_run : MethodName := ⟨RX4, "run", "(ZII)I"⟩
abbrev cX4_again : ByteArray := prog_6_method_8_code
def yX4_again : MethodName := ⟨RX4, "again", "(ZIIZ)I"⟩
abbrev cX4_clear : ByteArray := prog_6_method_9_code
def yX4_clear : MethodName := ⟨RX4, "clear", "(Z)I"⟩
abbrev cX4_tie : ByteArray := prog_6_method_10_code
def yX4_tie : MethodName := ⟨RX4, "tie", "(IIZ)Z"⟩
abbrev cX4_draft : ByteArray := prog_6_method_11_code
def yX4_draft : MethodName := ⟨RX4, "draft", "(III)I"⟩
abbrev cX4_colour : ByteArray := prog_6_method_12_code
def yX4_colour : MethodName := ⟨RX4, "colour", "(ZII)I"⟩
abbrev cX4_weave : ByteArray := prog_6_method_13_code
def yX4_weave : MethodName := ⟨RX4, "weave", "(I)I"⟩
abbrev cX4_unweave : ByteArray := prog_6_method_14_code
def yX4_unweave : MethodName := ⟨RX4, "unweave", "(I)V"⟩
abbrev cX4_isCrossing : ByteArray := prog_6_method_15_code
def yX4_isCrossing : MethodName := ⟨RX4, "isCrossing", "(II)Z"⟩
abbrev cX4_over : ByteArray := prog_6_method_16_code
def yX4_over : MethodName := ⟨RX4, "over", "(II)I"⟩
abbrev cX4_seen : ByteArray := prog_6_method_17_code
def yX4_seen : MethodName := ⟨RX4, "seen", "(IIZ)I"⟩
abbrev cX4_threadOf : ByteArray := prog_6_method_18_code
def yX4_threadOf : MethodName := ⟨RX4, "threadOf", "(I)I"⟩
abbrev cX4_longest : ByteArray := prog_6_method_19_code
def yX4_longest : MethodName := ⟨RX4, "longest", "(IZ)I"⟩
abbrev cX4_isSeen : ByteArray := prog_6_method_20_code
def yX4_isSeen : MethodName := ⟨RX4, "isSeen", "(IIZ)Z"⟩
abbrev cX4_spread : ByteArray := prog_6_method_21_code
def yX4_spread : MethodName := ⟨RX4, "spread", "()V"⟩
abbrev cX4_together : ByteArray := prog_6_method_22_code
def yX4_together : MethodName := ⟨RX4, "together", "(II)Z"⟩
abbrev cX4_isFree : ByteArray := prog_6_method_23_code
def yX4_isFree : MethodName := ⟨RX4, "isFree", "(II)Z"⟩
abbrev cX4_number : ByteArray := prog_6_method_24_code
def yX4_number : MethodName := ⟨RX4, "number", "()V"⟩
abbrev cX4_layers : ByteArray := prog_6_method_25_code
def yX4_layers : MethodName := ⟨RX4, "layers", "()I"⟩
abbrev cX4_layer : ByteArray := prog_6_method_26_code
def yX4_layer : MethodName := ⟨RX4, "layer", "(I)I"⟩
abbrev cX4_sameEnds : ByteArray := prog_6_method_27_code
def yX4_sameEnds : MethodName := ⟨RX4, "sameEnds", "(II)Z"⟩
abbrev cX4_samePicks : ByteArray := prog_6_method_28_code
def yX4_samePicks : MethodName := ⟨RX4, "samePicks", "(II)Z"⟩
abbrev cX4_period : ByteArray := prog_6_method_29_code
def yX4_period : MethodName := ⟨RX4, "period", "(Z)I"⟩
abbrev cX4_picture : ByteArray := prog_6_method_30_code
def yX4_picture : MethodName := ⟨RX4, "picture", "(II)V"⟩
abbrev cX4_paint : ByteArray := prog_6_method_31_code
def yX4_paint : MethodName := ⟨RX4, "paint", "(IIZ)Z"⟩
abbrev cX4_samePainted : ByteArray := prog_6_method_32_code
def yX4_samePainted : MethodName := ⟨RX4, "samePainted", "(ZII)Z"⟩
abbrev cX4_sort : ByteArray := prog_6_method_33_code
def yX4_sort : MethodName := ⟨RX4, "sort", "(Z)I"⟩
abbrev cX4_factor : ByteArray := prog_6_method_34_code
def yX4_factor : MethodName := ⟨RX4, "factor", "(Z)I"⟩
def RJ9 : String := "java/lang/Math"
def TJ9 : u_T := fun k => match k with
  | _ => ("", "", "", false)
def tyJ9 : Nat → FieldType := fun k => match k with
  | _ => .int
theorem nmJ9 : ∀ a, a < 0 → ∀ b, b < 0 → a ≠ b → (TJ9 a).2.1 ≠ (TJ9 b).2.1 := by decide +kernel
theorem tyJ9_ok : ∀ k, k < 0 → parseFieldDescriptor (TJ9 k).2.2.1 = some (tyJ9 k) := by decide +kernel
abbrev cJ9_abs_0f7a4 : ByteArray := prog_11_method_59_code
def yJ9_abs_0f7a4 : MethodName := ⟨RJ9, "abs", "(I)I"⟩
abbrev cJ9_max_7cf53 : ByteArray := prog_11_method_65_code
def yJ9_max_7cf53 : MethodName := ⟨RJ9, "max", "(II)I"⟩
abbrev cJ9_min_7cf53 : ByteArray := prog_11_method_69_code
def yJ9_min_7cf53 : MethodName := ⟨RJ9, "min", "(II)I"⟩
def RJ0 : String := "java/lang/String"
def TJ0 : u_T := fun k => match k with
  | _ => ("", "", "", false)
def tyJ0 : Nat → FieldType := fun k => match k with
  | _ => .int
theorem nmJ0 : ∀ a, a < 0 → ∀ b, b < 0 → a ≠ b → (TJ0 a).2.1 ≠ (TJ0 b).2.1 := by decide +kernel
theorem tyJ0_ok : ∀ k, k < 0 → parseFieldDescriptor (TJ0 k).2.2.1 = some (tyJ0 k) := by decide +kernel
def RJ10 : String := "java/lang/System"
def TJ10 : u_T := fun k => match k with
  | _ => ("", "", "", false)
def tyJ10 : Nat → FieldType := fun k => match k with
  | _ => .int
theorem nmJ10 : ∀ a, a < 0 → ∀ b, b < 0 → a ≠ b → (TJ10 a).2.1 ≠ (TJ10 b).2.1 := by decide +kernel
theorem tyJ10_ok : ∀ k, k < 0 → parseFieldDescriptor (TJ10 k).2.2.1 = some (tyJ10 k) := by decide +kernel
def RJ7 : String := "java/util/Arrays"
def TJ7 : u_T := fun k => match k with
  | _ => ("", "", "", false)
def tyJ7 : Nat → FieldType := fun k => match k with
  | _ => .int
theorem nmJ7 : ∀ a, a < 0 → ∀ b, b < 0 → a ≠ b → (TJ7 a).2.1 ≠ (TJ7 b).2.1 := by decide +kernel
theorem tyJ7_ok : ∀ k, k < 0 → parseFieldDescriptor (TJ7 k).2.2.1 = some (tyJ7 k) := by decide +kernel
abbrev cJ7_fill_53178 : ByteArray := prog_16_method_103_code
def yJ7_fill_53178 : MethodName := ⟨RJ7, "fill", "([II)V"⟩
def RL : String := "ShaftLoomLaw"
abbrev cL_run : ByteArray := method_3_code
def yL_run : MethodName := ⟨RL, "run", "(LShaftLoom;ZII[J)I"⟩
abbrev cL_again : ByteArray := method_4_code
def yL_again : MethodName := ⟨RL, "again", "(LShaftLoom;ZIIZ[J)I"⟩
abbrev cL_clear : ByteArray := method_5_code
def yL_clear : MethodName := ⟨RL, "clear", "(LShaftLoom;Z[J)I"⟩
abbrev cL_tie : ByteArray := method_6_code
def yL_tie : MethodName := ⟨RL, "tie", "(LShaftLoom;IIZ[J)I"⟩
abbrev cL_draft : ByteArray := method_7_code
def yL_draft : MethodName := ⟨RL, "draft", "(LShaftLoom;III[J)I"⟩
abbrev cL_colour : ByteArray := method_8_code
def yL_colour : MethodName := ⟨RL, "colour", "(LShaftLoom;ZII[J)I"⟩
abbrev cL_weave : ByteArray := method_9_code
def yL_weave : MethodName := ⟨RL, "weave", "(LShaftLoom;I[J)I"⟩
abbrev cL_unweave : ByteArray := method_10_code
def yL_unweave : MethodName := ⟨RL, "unweave", "(LShaftLoom;I)I"⟩
abbrev cL_over : ByteArray := method_11_code
def yL_over : MethodName := ⟨RL, "over", "(LShaftLoom;II[J)I"⟩
abbrev cL_seen : ByteArray := method_12_code
def yL_seen : MethodName := ⟨RL, "seen", "(LShaftLoom;IIZ[J)I"⟩
abbrev cL_longest : ByteArray := method_13_code
def yL_longest : MethodName := ⟨RL, "longest", "(LShaftLoom;IZ[J)I"⟩
abbrev cL_layers : ByteArray := method_14_code
def yL_layers : MethodName := ⟨RL, "layers", "(LShaftLoom;[J)I"⟩
abbrev cL_layer : ByteArray := method_15_code
def yL_layer : MethodName := ⟨RL, "layer", "(LShaftLoom;I[J)I"⟩
abbrev cL_period : ByteArray := method_16_code
def yL_period : MethodName := ⟨RL, "period", "(LShaftLoom;Z[J)I"⟩
abbrev cL_picture : ByteArray := method_17_code
def yL_picture : MethodName := ⟨RL, "picture", "(LShaftLoom;II)I"⟩
abbrev cL_paint : ByteArray := method_18_code
def yL_paint : MethodName := ⟨RL, "paint", "(LShaftLoom;IIZ[J)I"⟩
abbrev cL_factor : ByteArray := method_19_code
def yL_factor : MethodName := ⟨RL, "factor", "(LShaftLoom;Z[J)I"⟩
abbrev cL_law : ByteArray := code
def yL_law : MethodName := ⟨RL, "law", "([I)Z"⟩
end
section
/-! The program as tables. -/
def GW : List Cond := lw_tbl.filter zgood
theorem inGW {w : Cond} (h : w ∈ lw_tbl) (hg : zgood w = true) : w ∈ GW := List.mem_filter.mpr ⟨h, hg⟩
theorem GW_good : ∀ w ∈ GW, zgood w = true := fun _ h => (List.mem_filter.mp h).2
def inB (w : Cond) : Bool := decide (w ∈ lw_tbl) && zgood w
theorem inB_in {w : Cond} (h : inB w = true) : w ∈ GW := by
  unfold inB at h
  rw [Bool.and_eq_true, decide_eq_true_eq] at h
  exact inGW h.1 h.2
def Ow (o : Nat) : String := ([RX0, RX1, RX2, RX3, RX4, RL, RJ7] : List String).getD o ""
def Xn (x : Nat) : String := (["java/lang/IllegalArgumentException", "java/lang/IllegalStateException", "java/lang/IndexOutOfBoundsException"] : List String).getD x ""
def cl0 : List vw_C := [(RX0, TX0, 3), (RX1, TX1, 3), (RX2, TX2, 2), (RX3, TX3, 10), (RX4, TX4, 15)]
def NmL : List MethodName := [yX0_init, yX0_stretch, yX0_throwPick, yX0_has, yX0_isOver, yX0_put, yX0_count, yX0_line, yX0_picksUnder, yX0_firstLike, yX0_leastShift, yX0_repeatsAfter, yX1_init, yX1_sort, yX1_layDirectly, yX1_followOthers, yX1_numberFromBottom, yX1_lowestFree, yX1_isFree, yX1_holds, yX2_init, yX2_kindOrNone, yX2_append, yX2_appendRepeated, yX2_appendTurned, yX2_copyFrom, yX2_numberLines, yX3_init, yX3_run, yX3_again, yX3_clear, yX3_tie, yX3_draft, yX3_colour, yX3_weave, yX3_unweave, yX3_over, yX3_seen, yX3_longest, yX3_layers, yX3_layer, yX3_period, yX3_picture, yX3_paint, yX3_factor, yX3_isKind, yX3_withBit, yX3_isPick, yX3_isThread, yX3_rowOf, yX3_isTied, yX3_tiedOrNone, yX3_requireRoom, yX3_requireCloth, yX3_endsRaisedBy, yX3_longestStretch, yX3_adoptPaintedDraft, yX4_init, yX4_thrown, yX4_count, yX4_append, yX4_mayAppend, yX4_isOne, yX4_run, yX4_again, yX4_clear, yX4_tie, yX4_draft, yX4_colour, yX4_weave, yX4_unweave, yX4_isCrossing, yX4_over, yX4_seen, yX4_threadOf, yX4_longest, yX4_isSeen, yX4_spread, yX4_together, yX4_isFree, yX4_number, yX4_layers, yX4_layer, yX4_sameEnds, yX4_samePicks, yX4_period, yX4_picture, yX4_paint, yX4_samePainted, yX4_sort, yX4_factor, yJ7_fill_53178, yL_run, yL_again, yL_clear, yL_tie, yL_draft, yL_colour, yL_weave, yL_unweave, yL_over, yL_seen, yL_longest, yL_layers, yL_layer, yL_period, yL_picture, yL_paint, yL_factor, yL_law]
def Nm (y : Nat) : MethodName := NmL.getD y yL_law
def CdL : List ByteArray := [cX0_init, cX0_stretch, cX0_throwPick, cX0_has, cX0_isOver, cX0_put, cX0_count, cX0_line, cX0_picksUnder, cX0_firstLike, cX0_leastShift, cX0_repeatsAfter, cX1_init, cX1_sort, cX1_layDirectly, cX1_followOthers, cX1_numberFromBottom, cX1_lowestFree, cX1_isFree, cX1_holds, cX2_init, cX2_kindOrNone, cX2_append, cX2_appendRepeated, cX2_appendTurned, cX2_copyFrom, cX2_numberLines, cX3_init, cX3_run, cX3_again, cX3_clear, cX3_tie, cX3_draft, cX3_colour, cX3_weave, cX3_unweave, cX3_over, cX3_seen, cX3_longest, cX3_layers, cX3_layer, cX3_period, cX3_picture, cX3_paint, cX3_factor, cX3_isKind, cX3_withBit, cX3_isPick, cX3_isThread, cX3_rowOf, cX3_isTied, cX3_tiedOrNone, cX3_requireRoom, cX3_requireCloth, cX3_endsRaisedBy, cX3_longestStretch, cX3_adoptPaintedDraft, cX4_init, cX4_thrown, cX4_count, cX4_append, cX4_mayAppend, cX4_isOne, cX4_run, cX4_again, cX4_clear, cX4_tie, cX4_draft, cX4_colour, cX4_weave, cX4_unweave, cX4_isCrossing, cX4_over, cX4_seen, cX4_threadOf, cX4_longest, cX4_isSeen, cX4_spread, cX4_together, cX4_isFree, cX4_number, cX4_layers, cX4_layer, cX4_sameEnds, cX4_samePicks, cX4_period, cX4_picture, cX4_paint, cX4_samePainted, cX4_sort, cX4_factor, cJ7_fill_53178, cL_run, cL_again, cL_clear, cL_tie, cL_draft, cL_colour, cL_weave, cL_unweave, cL_over, cL_seen, cL_longest, cL_layers, cL_layer, cL_period, cL_picture, cL_paint, cL_factor, cL_law]
def Cd (y : Nat) : ByteArray := CdL.getD y cL_law
def DL : List zD := [(1, 0, 1, none, 2, 1, 48), (3, 0, 3, none, 1, 1, 23), (2, 0, 2, none, 1, 0, 0), (3, 0, 3, (some .boolean), 1, 0, 0), (3, 0, 3, (some .boolean), 1, 0, 0), (4, 0, 4, none, 1, 1, 22), (2, 0, 2, (some .int), 1, 0, 0), (3, 0, 3, (some .int), 1, 2, 45), (4, 0, 2, (some .int), 1, 1, 22), (5, 0, 3, (some .int), 1, 3, 67), (4, 0, 2, (some .int), 1, 4, 91), (5, 0, 3, (some .boolean), 1, 3, 67), (1, 1, 1, none, 2, 1, 48), (2, 1, 2, (some .int), 1, 4, 97), (6, 1, 2, none, 1, 3, 67), (3, 1, 1, none, 1, 1, 22), (7, 1, 1, (some .int), 1, 3, 71), (4, 1, 2, (some .int), 1, 2, 48), (7, 1, 3, (some .boolean), 1, 1, 22), (3, 1, 2, (some .boolean), 0, 0, 0), (1, 2, 1, none, 2, 1, 48), (2, 2, 2, (some .int), 1, 0, 0), (2, 2, 2, none, 1, 0, 0), (4, 2, 3, none, 1, 1, 21), (4, 2, 2, none, 1, 1, 21), (2, 2, 2, none, 1, 1, 48), (6, 2, 3, (some .int), 1, 4, 91), (1, 3, 1, none, 2, 2, 68), (8, 3, 4, (some .int), 1, 7, 113), (8, 3, 5, (some .int), 1, 7, 113), (3, 3, 2, (some .int), 1, 6, 90), (5, 3, 4, (some .boolean), 1, 6, 90), (4, 3, 4, (some .int), 1, 6, 90), (6, 3, 4, (some .int), 1, 6, 90), (4, 3, 2, (some .int), 1, 6, 90), (2, 3, 2, none, 1, 6, 90), (3, 3, 3, (some .int), 1, 6, 90), (5, 3, 4, (some .int), 1, 6, 90), (3, 3, 3, (some .int), 1, 6, 90), (1, 3, 1, (some .int), 1, 7, 118), (2, 3, 2, (some .int), 1, 7, 118), (2, 3, 2, (some .int), 1, 7, 114), (3, 3, 3, none, 1, 6, 90), (5, 3, 4, (some .boolean), 1, 6, 90), (4, 3, 2, (some .int), 1, 6, 116), (1, 3, 1, (some .boolean), 0, 0, 0), (3, 3, 3, (some .int), 0, 0, 0), (1, 3, 1, (some .boolean), 0, 0, 0), (2, 3, 2, (some .boolean), 1, 1, 20), (2, 3, 2, (some (.object "ShaftLoom$Row")), 1, 0, 0), (3, 3, 3, (some .boolean), 1, 0, 0), (3, 3, 3, (some .int), 1, 1, 22), (4, 3, 3, none, 1, 6, 90), (1, 3, 1, none, 1, 6, 90), (4, 3, 2, (some .int), 1, 1, 22), (7, 3, 3, (some .int), 0, 1, 48), (4, 3, 1, none, 1, 2, 69), (1, 4, 1, none, 2, 1, 48), (1, 4, 1, (some .int), 1, 0, 0), (2, 4, 2, (some .int), 1, 0, 0), (3, 4, 3, none, 1, 0, 0), (4, 4, 3, (some .boolean), 1, 1, 21), (1, 4, 1, (some .boolean), 0, 0, 0), (6, 4, 4, (some .int), 1, 2, 44), (8, 4, 5, (some .int), 1, 2, 44), (2, 4, 2, (some .int), 1, 1, 21), (5, 4, 4, (some .boolean), 1, 1, 20), (4, 4, 4, (some .int), 1, 1, 20), (6, 4, 4, (some .int), 1, 0, 0), (4, 4, 2, (some .int), 1, 0, 0), (2, 4, 2, none, 1, 0, 0), (4, 4, 3, (some .boolean), 1, 0, 0), (3, 4, 3, (some .int), 1, 1, 23), (4, 4, 4, (some .int), 1, 1, 23), (2, 4, 2, (some .int), 1, 0, 0), (8, 4, 3, (some .int), 1, 1, 25), (6, 4, 4, (some .boolean), 1, 0, 0), (5, 4, 1, none, 1, 0, 0), (3, 4, 3, (some .boolean), 1, 0, 0), (4, 4, 3, (some .boolean), 1, 0, 0), (4, 4, 1, none, 1, 1, 24), (1, 4, 1, (some .int), 1, 2, 47), (3, 4, 2, (some .int), 1, 2, 47), (5, 4, 3, (some .boolean), 1, 0, 0), (5, 4, 3, (some .boolean), 1, 0, 0), (6, 4, 2, (some .int), 1, 1, 24), (4, 4, 3, none, 1, 0, 0), (5, 4, 4, (some .boolean), 1, 0, 0), (7, 4, 4, (some .boolean), 1, 0, 0), (7, 4, 2, (some .int), 1, 1, 26), (6, 4, 2, (some .int), 1, 2, 52), (4, 6, 2, none, 0, 0, 0), (6, 5, 5, (some .int), 0, 8, 140), (7, 5, 6, (some .int), 0, 8, 140), (4, 5, 3, (some .int), 0, 7, 112), (6, 5, 5, (some .int), 0, 7, 114), (6, 5, 5, (some .int), 0, 7, 113), (6, 5, 5, (some .int), 0, 7, 115), (4, 5, 3, (some .int), 0, 7, 113), (3, 5, 2, (some .int), 0, 7, 111), (5, 5, 4, (some .int), 0, 7, 112), (6, 5, 5, (some .int), 0, 7, 114), (5, 5, 4, (some .int), 0, 7, 112), (3, 5, 2, (some .int), 0, 8, 138), (4, 5, 3, (some .int), 0, 8, 139), (4, 5, 3, (some .int), 0, 8, 135), (4, 5, 3, (some .int), 0, 7, 112), (6, 5, 5, (some .int), 0, 7, 114), (4, 5, 3, (some .int), 0, 7, 139), (7, 5, 1, (some .boolean), 0, 9, 166)]
def eD (y : Nat) : zD := DL.getD y (0, 0, 0, none, 0, 0, 0)
def HhL : List (Nat × List (Nat × Nat × Nat × Nat)) := [(92, [(0, 12, 15, 13), (0, 12, 19, 15)]), (93, [(0, 14, 17, 13), (0, 14, 21, 15)]), (94, [(0, 9, 12, 15)]), (95, [(0, 19, 22, 13)]), (96, [(0, 12, 15, 13)]), (97, [(0, 12, 15, 13)]), (98, [(0, 9, 12, 13), (0, 9, 15, 15)]), (99, [(0, 5, 8, 13)]), (100, [(0, 10, 13, 48)]), (101, [(0, 12, 15, 48)]), (102, [(0, 10, 13, 48)]), (103, [(0, 8, 11, 15)]), (104, [(0, 9, 12, 15), (0, 9, 15, 48)]), (105, [(0, 9, 12, 15)]), (106, [(0, 6, 9, 13)]), (107, [(0, 19, 22, 48)]), (108, [(0, 9, 12, 15)])]
def Hh (y : Nat) : List (Nat × Nat × Nat × Nat) := ((HhL.find? fun r => r.1 == y).map fun r => r.2).getD []
def eHL : List (Nat × List (Nat × Nat × Nat × Nat × Nat)) := [(92, [(0, 12, 0, 17, 5), (0, 12, 1, 21, 5)]), (93, [(0, 14, 0, 19, 6), (0, 14, 1, 23, 6)]), (94, [(0, 9, 1, 13, 3)]), (95, [(0, 19, 0, 24, 5)]), (96, [(0, 12, 0, 17, 5)]), (97, [(0, 12, 0, 17, 5)]), (98, [(0, 9, 0, 13, 3), (0, 9, 1, 16, 3)]), (99, [(0, 5, 0, 9, 2)]), (100, [(0, 10, 2, 15, 4)]), (101, [(0, 12, 2, 17, 5)]), (102, [(0, 10, 2, 15, 4)]), (103, [(0, 8, 1, 12, 2)]), (104, [(0, 9, 1, 13, 3), (0, 9, 2, 16, 3)]), (105, [(0, 9, 1, 13, 3)]), (106, [(0, 6, 0, 10, 3)]), (107, [(0, 19, 2, 24, 5)]), (108, [(0, 9, 1, 13, 3)])]
def eH (y : Nat) : List (Nat × Nat × Nat × Nat × Nat) := ((eHL.find? fun r => r.1 == y).map fun r => r.2).getD []
def FL : List (Nat × Nat × Nat × Nat × Bool) := [(0, 9, 0, 0, false), (0, 15, 0, 1, false), (0, 19, 0, 2, false), (1, 9, 1, 0, false), (1, 15, 1, 1, false), (1, 19, 0, 1, true), (1, 25, 0, 2, true), (1, 28, 1, 2, false), (2, 9, 2, 0, false), (2, 15, 2, 1, false), (3, 10, 3, 0, false), (3, 16, 3, 1, false), (3, 19, 3, 2, false), (3, 23, 3, 3, false), (3, 26, 3, 4, false), (3, 32, 3, 5, false), (3, 39, 3, 6, false), (3, 43, 3, 7, false), (3, 46, 3, 8, false), (3, 49, 3, 9, false), (3, 85, 2, 1, true), (3, 99, 0, 2, true), (3, 135, 0, 1, true), (3, 138, 2, 0, true), (3, 182, 1, 1, true), (4, 7, 4, 1, false), (4, 13, 4, 5, false), (4, 17, 4, 6, false), (4, 20, 4, 7, false), (4, 23, 4, 8, false), (4, 26, 4, 9, false), (4, 29, 4, 11, false), (4, 33, 4, 12, false), (4, 36, 4, 13, false), (4, 39, 4, 14, false), (4, 42, 4, 0, false), (4, 45, 4, 2, false), (4, 48, 4, 3, false), (4, 57, 4, 4, false), (4, 87, 4, 10, false)]
def eF (own n : Nat) : Option (Nat × Nat) := (FL.find? fun r => r.1 == own && r.2.1 == n).map fun r => (r.2.2.1, r.2.2.2.1)
def ML : List (Nat × Nat × Nat × Bool) := [(0, 22, 91, false), (0, 28, 46, true), (0, 32, 8, false), (0, 36, 4, false), (0, 40, 7, false), (0, 44, 6, false), (0, 48, 11, false), (1, 31, 14, false), (1, 35, 15, false), (1, 38, 16, false), (1, 42, 7, true), (1, 46, 19, false), (1, 50, 17, false), (1, 56, 18, false), (2, 19, 22, false), (2, 29, 6, true), (2, 35, 9, true), (3, 9, 20, true), (3, 31, 0, true), (3, 38, 12, true), (3, 52, 1, true), (3, 56, 45, false), (3, 73, 52, false), (3, 77, 49, false), (3, 81, 22, true), (3, 93, 24, true), (3, 96, 23, true), (3, 107, 50, false), (3, 111, 46, false), (3, 115, 21, true), (3, 118, 51, false), (3, 141, 54, false), (3, 144, 2, true), (3, 149, 3, true), (3, 157, 4, true), (3, 160, 48, false), (3, 165, 47, false), (3, 168, 7, true), (3, 172, 55, false), (3, 175, 53, false), (3, 178, 13, true), (3, 185, 10, true), (3, 191, 5, true), (3, 195, 26, true), (3, 201, 56, false), (3, 211, 25, true), (3, 215, 91, false), (4, 51, 59, false), (4, 60, 62, false), (4, 64, 61, false), (4, 68, 60, false), (4, 72, 71, false), (4, 76, 74, false), (4, 80, 76, false), (4, 84, 77, false), (4, 90, 79, false), (4, 93, 78, false), (4, 96, 80, false), (4, 99, 84, false), (4, 102, 83, false), (4, 105, 88, false), (4, 109, 89, false), (5, 7, 28, false), (5, 17, 29, false), (5, 21, 30, false), (5, 25, 31, false), (5, 29, 32, false), (5, 33, 33, false), (5, 36, 34, false), (5, 40, 35, false), (5, 44, 36, false), (5, 50, 37, false), (5, 54, 38, false), (5, 58, 39, false), (5, 62, 40, false), (5, 65, 41, false), (5, 68, 42, false), (5, 72, 43, false), (5, 75, 44, false), (5, 78, 27, false), (5, 81, 57, false), (5, 82, 92, false), (5, 87, 63, false), (5, 88, 58, false), (5, 91, 93, false), (5, 94, 64, false), (5, 95, 94, false), (5, 98, 65, false), (5, 99, 95, false), (5, 102, 66, false), (5, 103, 96, false), (5, 106, 67, false), (5, 107, 97, false), (5, 109, 68, false), (5, 110, 98, false), (5, 113, 69, false), (5, 114, 99, false), (5, 117, 70, false), (5, 118, 100, false), (5, 121, 72, false), (5, 122, 101, false), (5, 124, 73, false), (5, 125, 102, false), (5, 128, 75, false), (5, 129, 103, false), (5, 132, 81, false), (5, 133, 104, false), (5, 135, 82, false), (5, 136, 105, false), (5, 138, 85, false), (5, 139, 106, false), (5, 142, 86, false), (5, 143, 107, false), (5, 145, 87, false), (5, 146, 108, false), (5, 148, 90, false)]
def eM (own n : Nat) : Option Nat := (ML.find? fun r => r.1 == own && r.2.1 == n).map fun r => r.2.2.1
def NL : List (Nat × Nat × Nat) := [(0, 3, 0), (1, 3, 0), (2, 3, 0), (2, 23, 4), (3, 1, 0), (3, 67, 3), (3, 132, 2), (3, 208, 1), (4, 1, 0)]
def eN (own n : Nat) : Option Nat := (NL.find? fun r => r.1 == own && r.2.1 == n).map fun r => r.2.2
def CL : List (Nat × Nat × Nat) := [(3, 7, 2), (3, 29, 0), (3, 36, 1), (5, 8, 3), (5, 79, 4)]
def eC (own n : Nat) : Option Nat := (CL.find? fun r => r.1 == own && r.2.1 == n).map fun r => r.2.2
def XL : List (Nat × Nat × Nat × Nat × Nat × Nat × String) := [(28, 14, 0, 60, 62, 64, "no such shaft or treadle"), (29, 21, 0, 60, 89, 64, "there are not that many to append again"), (29, 40, 0, 60, 91, 64, "times below 0"), (30, 14, 1, 102, 104, 106, "something is woven"), (31, 14, 0, 60, 62, 64, "no such shaft or treadle"), (32, 89, 0, 60, 122, 64, "what is not 0 to 5"), (33, 10, 0, 60, 124, 64, "no such end or pick"), (33, 30, 0, 60, 126, 64, "no such colour"), (34, 4, 0, 60, 128, 64, "picks below 0"), (34, 24, 1, 102, 130, 106, "there are no ends"), (35, 15, 0, 60, 147, 64, "not that many picks are woven"), (36, 12, 2, 152, 154, 156, "no such crossing"), (37, 12, 2, 152, 154, 156, "no such crossing"), (38, 8, 2, 152, 163, 156, "no such thread"), (40, 12, 2, 152, 163, 156, "no such thread"), (42, 22, 0, 60, 189, 64, "a picture has 1 to 30 ends and picks"), (43, 12, 2, 152, 154, 156, "no such crossing"), (44, 42, 1, 102, 199, 106, "more than 12 shafts or treadles"), (52, 14, 1, 102, 104, 106, "something is woven"), (52, 41, 1, 102, 204, 106, "more than 30"), (53, 10, 1, 102, 206, 106, "nothing is woven")]
def eX (y pc : Nat) : Option Nat := (XL.find? fun r => r.1 == y && r.2.1 == pc).map fun r => r.2.2.1
def SL : List (String × Nat × String) := [(RX3, 62, "no such shaft or treadle"), (RX3, 89, "there are not that many to append again"), (RX3, 91, "times below 0"), (RX3, 104, "something is woven"), (RX3, 122, "what is not 0 to 5"), (RX3, 124, "no such end or pick"), (RX3, 126, "no such colour"), (RX3, 128, "picks below 0"), (RX3, 130, "there are no ends"), (RX3, 147, "not that many picks are woven"), (RX3, 154, "no such crossing"), (RX3, 163, "no such thread"), (RX3, 189, "a picture has 1 to 30 ends and picks"), (RX3, 199, "more than 12 shafts or treadles"), (RX3, 204, "more than 30"), (RX3, 206, "nothing is woven")]
def KL : List (List Value × List FieldType × List Bool) := [([.null, .int 0, .int 0], [.array .int, .int, .int], [true, false, false]), ([.null, .null, .int 0], [.array .long, .array .int, .int], [true, true, false]), ([.null, .int 0], [.array .int, .int], [true, false]), ([.null, .null, .null, .null, .null, .null, .null, .null, .null, .null], [.object "ShaftLoom$Row", .object "ShaftLoom$Row", .array .int, .array .int, .array .int, .object "ShaftLoom$Crossings", .object "ShaftLoom$Pile", .object "ShaftLoom$Crossings", .object "ShaftLoom$Row", .object "ShaftLoom$Row"], [true, true, true, true, true, true, true, true, true, true]), ([.int 0, .null, .int 0, .int 0, .int 0, .null, .null, .null, .null, .null, .int 0, .int 0, .int 0, .null, .null], [.int, .array .int, .int, .int, .int, .array .boolean, .array .int, .array .boolean, .array .boolean, .array .int, .int, .int, .int, .array .boolean, .array .int], [false, true, false, false, false, true, true, true, true, true, false, false, false, true, true])]
def eK (ci : Nat) : List Value × List FieldType × List Bool := KL.getD ci ([], [], [])
def eJ (own n : Nat) : Option Int64 := if own = 1 ∧ n = 54 then some (-1) else if own = 4 ∧ n = 55 then some (30) else none
def eI (_ _ : Nat) : Option Int32 := none
def zT0 (Cd : Nat → ByteArray) (y pc : Nat) : Option (Instr × Nat) := match decode (Cd y) pc with
  | .ok (i, n) => if (zlen i = some n ∨ zlen i = none) ∧ 0 ≤ (pc : Int) + (zoff i).getD 0 then some (i, ((pc : Int) + (zoff i).getD 0).toNat) else none
  | _ => none
def E0 : zEnv := (zT0 Cd, eF, eM, eN, eC, eX, eH, eD, eK, eJ, eI)
theorem okT0 : okT E0 Cd := by
  intro y pc i tg h
  change zT0 Cd y pc = some (i, tg) at h
  unfold zT0 at h
  split at h
  · rename_i i' n hd
    split at h
    · rename_i hg
      cases h
      refine ⟨n, hd, hg.1, fun o9 ho => ?_⟩
      have h2 := hg.2
      rw [ho] at h2 ⊢
      exact (Int.toNat_of_nonneg h2).symm
    · cases h
  · cases h
theorem zfindm {α β : Type} {L : List α} {p : α → Bool} {f : α → β} {v : β} (h : (L.find? p).map f = some v) : ∃ r ∈ L, p r = true ∧ f r = v := by
  cases hr : L.find? p with
  | none => rw [hr] at h; cases h
  | some r => rw [hr] at h; exact ⟨r, List.mem_of_find?_eq_some hr, List.find?_some hr, Option.some.inj h⟩
def Fchk (r : Nat × Nat × Nat × Nat × Bool) : Bool := match cl0[r.2.2.1]? with
  | some (_, T, N) => decide (r.2.2.2.1 < N) && (if r.2.2.2.2 = true then (!(r.1 == r.2.2.1)) && inB (.fieldLinkNest (Ow r.1) r.2.1 (T r.2.2.2.1).1 (T r.2.2.2.1).2.1 (T r.2.2.2.1).2.2.1 "ShaftLoom") else inB (.fieldLink (Ow r.1) r.2.1 (T r.2.2.2.1).1 (T r.2.2.2.1).2.1 (T r.2.2.2.1).2.2.1))
  | none => false
theorem FL_ok : FL.all Fchk = true := by decide +kernel
theorem okF0 : okF E0 Ow cl0 GW := by
  intro own n ci k h
  obtain ⟨r, hr, hp, hv⟩ := zfindm (show (FL.find? fun r => r.1 == own && r.2.1 == n).map (fun r => (r.2.2.1, r.2.2.2.1)) = some (ci, k) from h)
  have hc := List.all_eq_true.mp FL_ok r hr
  rw [Bool.and_eq_true, beq_iff_eq, beq_iff_eq] at hp
  obtain ⟨r1, r2, r3, r4, r5⟩ := r
  obtain ⟨rfl, rfl⟩ := hp
  cases hv
  unfold Fchk at hc
  dsimp only at hc
  cases hcl : cl0[r3]? with
  | none => rw [hcl] at hc; cases hc
  | some q =>
    obtain ⟨C, T, N⟩ := q
    rw [hcl] at hc
    dsimp only at hc
    rw [Bool.and_eq_true, decide_eq_true_eq] at hc
    refine ⟨C, T, N, rfl, hc.1, ?_⟩
    cases r5 with
    | true =>
      have h2 := hc.2
      rw [if_pos rfl, Bool.and_eq_true] at h2
      exact Or.inr ⟨by simpa using h2.1, _, inB_in h2.2⟩
    | false =>
      have h2 := hc.2
      rw [if_neg (by decide)] at h2
      exact Or.inl (inB_in h2)
def NewChk (r : Nat × Nat × Nat) : Bool := match cl0[r.2.2]? with
  | some (C, _, _) => inB (.classLink (Ow r.1) r.2.1 C)
  | none => false
theorem CL_ok : CL.all NewChk = true := by decide +kernel
theorem okNew0 : okNew E0 Ow cl0 GW := by
  intro own n ci h
  obtain ⟨r, hr, hp, hv⟩ := zfindm (show (CL.find? fun r => r.1 == own && r.2.1 == n).map (fun r => r.2.2) = some ci from h)
  have hc := List.all_eq_true.mp CL_ok r hr
  rw [Bool.and_eq_true, beq_iff_eq, beq_iff_eq] at hp
  obtain ⟨r1, r2, r3⟩ := r
  obtain ⟨rfl, rfl⟩ := hp
  cases hv
  unfold NewChk at hc
  dsimp only at hc
  cases hcl : cl0[r3]? with
  | none => rw [hcl] at hc; cases hc
  | some q =>
    obtain ⟨C, T, N⟩ := q
    rw [hcl] at hc
    exact ⟨C, T, N, rfl, inB_in hc⟩
theorem NL_ok : NL.all (fun r => (zNatW (Ow r.1) r.2.1 r.2.2).all inB) = true := by decide +kernel
theorem okN0 : okN E0 Ow GW := by
  intro own n k h
  obtain ⟨r, hr, hp, hv⟩ := zfindm (show (NL.find? fun r => r.1 == own && r.2.1 == n).map (fun r => r.2.2) = some k from h)
  have hc := List.all_eq_true.mp NL_ok r hr
  rw [Bool.and_eq_true, beq_iff_eq, beq_iff_eq] at hp
  obtain ⟨r1, r2, r3⟩ := r
  obtain ⟨rfl, rfl⟩ := hp
  cases hv
  exact fun w hw => inB_in (List.all_eq_true.mp hc w hw)

theorem okK0 : okK E0 Ow GW := by
  refine ⟨fun own n v h => ?_, fun own n v h => (by cases h), inB_in (by decide +kernel), inB_in (by decide +kernel), inB_in (by decide +kernel)⟩
  change eJ own n = some v at h
  unfold eJ at h
  split at h
  · rename_i hg
    obtain ⟨rfl, rfl⟩ := hg
    cases h
    exact inB_in (by decide +kernel)
  split at h
  · rename_i hg
    obtain ⟨rfl, rfl⟩ := hg
    cases h
    exact inB_in (by decide +kernel)
  cases h
theorem okC_0 : (∀ w ∈ u_ws RX0 TX0 3, w ∈ GW) := fun w hw => inB_in (List.all_eq_true.mp (show (u_ws RX0 TX0 3).all inB = true by decide +kernel) w hw)
theorem okC_1 : (∀ w ∈ u_ws RX1 TX1 3, w ∈ GW) := fun w hw => inB_in (List.all_eq_true.mp (show (u_ws RX1 TX1 3).all inB = true by decide +kernel) w hw)
theorem okC_2 : (∀ w ∈ u_ws RX2 TX2 2, w ∈ GW) := fun w hw => inB_in (List.all_eq_true.mp (show (u_ws RX2 TX2 2).all inB = true by decide +kernel) w hw)
theorem okC_3 : (∀ w ∈ u_ws RX3 TX3 10, w ∈ GW) := fun w hw => inB_in (List.all_eq_true.mp (show (u_ws RX3 TX3 10).all inB = true by decide +kernel) w hw)
theorem okC_4 : (∀ w ∈ u_ws RX4 TX4 15, w ∈ GW) := fun w hw => inB_in (List.all_eq_true.mp (show (u_ws RX4 TX4 15).all inB = true by decide +kernel) w hw)
theorem okC0 : okC E0 Ow cl0 GW := by
  intro ci C T N h
  match ci, h with
  | 0, h =>
    cases h
    exact ⟨okC_0, rfl, by decide +kernel, ⟨tyX0, tyX0_ok, by decide +kernel, by decide +kernel⟩, nmX0, rfl, by decide +kernel, by decide +kernel, inB_in (by decide +kernel), inB_in (by decide +kernel)⟩
  | 1, h =>
    cases h
    exact ⟨okC_1, rfl, by decide +kernel, ⟨tyX1, tyX1_ok, by decide +kernel, by decide +kernel⟩, nmX1, rfl, by decide +kernel, by decide +kernel, inB_in (by decide +kernel), inB_in (by decide +kernel)⟩
  | 2, h =>
    cases h
    exact ⟨okC_2, rfl, by decide +kernel, ⟨tyX2, tyX2_ok, by decide +kernel, by decide +kernel⟩, nmX2, rfl, by decide +kernel, by decide +kernel, inB_in (by decide +kernel), inB_in (by decide +kernel)⟩
  | 3, h =>
    cases h
    exact ⟨okC_3, rfl, by decide +kernel, ⟨tyX3, tyX3_ok, by decide +kernel, by decide +kernel⟩, nmX3, rfl, by decide +kernel, by decide +kernel, inB_in (by decide +kernel), inB_in (by decide +kernel)⟩
  | 4, h =>
    cases h
    exact ⟨okC_4, rfl, by decide +kernel, ⟨tyX4, tyX4_ok, by decide +kernel, by decide +kernel⟩, nmX4, rfl, by decide +kernel, by decide +kernel, inB_in (by decide +kernel), inB_in (by decide +kernel)⟩
  | k + 5, h => simp [cl0] at h
set_option maxRecDepth 100000 in
theorem cw_0 : zcw E0 Nm Cd Hh 0 ∈ GW := inGW (List.mem_of_getElem? (i := 89) rfl) rfl
set_option maxRecDepth 100000 in
theorem cw_1 : zcw E0 Nm Cd Hh 1 ∈ GW := inGW (List.mem_of_getElem? (i := 126) rfl) rfl
set_option maxRecDepth 100000 in
theorem cw_2 : zcw E0 Nm Cd Hh 2 ∈ GW := inGW (List.mem_of_getElem? (i := 356) rfl) rfl
set_option maxRecDepth 100000 in
theorem cw_3 : zcw E0 Nm Cd Hh 3 ∈ GW := inGW (List.mem_of_getElem? (i := 376) rfl) rfl
set_option maxRecDepth 100000 in
theorem cw_4 : zcw E0 Nm Cd Hh 4 ∈ GW := inGW (List.mem_of_getElem? (i := 396) rfl) rfl
set_option maxRecDepth 100000 in
theorem cw_5 : zcw E0 Nm Cd Hh 5 ∈ GW := inGW (List.mem_of_getElem? (i := 521) rfl) rfl
set_option maxRecDepth 100000 in
theorem cw_6 : zcw E0 Nm Cd Hh 6 ∈ GW := inGW (List.mem_of_getElem? (i := 497) rfl) rfl
set_option maxRecDepth 100000 in
theorem cw_7 : zcw E0 Nm Cd Hh 7 ∈ GW := inGW (List.mem_of_getElem? (i := 422) rfl) rfl
set_option maxRecDepth 100000 in
theorem cw_8 : zcw E0 Nm Cd Hh 8 ∈ GW := inGW (List.mem_of_getElem? (i := 426) rfl) rfl
set_option maxRecDepth 100000 in
theorem cw_9 : zcw E0 Nm Cd Hh 9 ∈ GW := inGW (List.mem_of_getElem? (i := 537) rfl) rfl
set_option maxRecDepth 100000 in
theorem cw_10 : zcw E0 Nm Cd Hh 10 ∈ GW := inGW (List.mem_of_getElem? (i := 493) rfl) rfl
set_option maxRecDepth 100000 in
theorem cw_11 : zcw E0 Nm Cd Hh 11 ∈ GW := inGW (List.mem_of_getElem? (i := 501) rfl) rfl
set_option maxRecDepth 100000 in
theorem cw_12 : zcw E0 Nm Cd Hh 12 ∈ GW := inGW (List.mem_of_getElem? (i := 109) rfl) rfl
set_option maxRecDepth 100000 in
theorem cw_13 : zcw E0 Nm Cd Hh 13 ∈ GW := inGW (List.mem_of_getElem? (i := 450) rfl) rfl
set_option maxRecDepth 100000 in
theorem cw_14 : zcw E0 Nm Cd Hh 14 ∈ GW := inGW (List.mem_of_getElem? (i := 454) rfl) rfl
set_option maxRecDepth 100000 in
theorem cw_15 : zcw E0 Nm Cd Hh 15 ∈ GW := inGW (List.mem_of_getElem? (i := 459) rfl) rfl
set_option maxRecDepth 100000 in
theorem cw_16 : zcw E0 Nm Cd Hh 16 ∈ GW := inGW (List.mem_of_getElem? (i := 466) rfl) rfl
set_option maxRecDepth 100000 in
theorem cw_17 : zcw E0 Nm Cd Hh 17 ∈ GW := inGW (List.mem_of_getElem? (i := 470) rfl) rfl
set_option maxRecDepth 100000 in
theorem cw_18 : zcw E0 Nm Cd Hh 18 ∈ GW := inGW (List.mem_of_getElem? (i := 474) rfl) rfl
set_option maxRecDepth 100000 in
theorem cw_19 : zcw E0 Nm Cd Hh 19 ∈ GW := inGW (List.mem_of_getElem? (i := 462) rfl) rfl
set_option maxRecDepth 100000 in
theorem cw_20 : zcw E0 Nm Cd Hh 20 ∈ GW := inGW (List.mem_of_getElem? (i := 73) rfl) rfl
set_option maxRecDepth 100000 in
theorem cw_21 : zcw E0 Nm Cd Hh 21 ∈ GW := inGW (List.mem_of_getElem? (i := 322) rfl) rfl
set_option maxRecDepth 100000 in
theorem cw_22 : zcw E0 Nm Cd Hh 22 ∈ GW := inGW (List.mem_of_getElem? (i := 272) rfl) rfl
set_option maxRecDepth 100000 in
theorem cw_23 : zcw E0 Nm Cd Hh 23 ∈ GW := inGW (List.mem_of_getElem? (i := 290) rfl) rfl
set_option maxRecDepth 100000 in
theorem cw_24 : zcw E0 Nm Cd Hh 24 ∈ GW := inGW (List.mem_of_getElem? (i := 285) rfl) rfl
set_option maxRecDepth 100000 in
theorem cw_25 : zcw E0 Nm Cd Hh 25 ∈ GW := inGW (List.mem_of_getElem? (i := 546) rfl) rfl
set_option maxRecDepth 100000 in
theorem cw_26 : zcw E0 Nm Cd Hh 26 ∈ GW := inGW (List.mem_of_getElem? (i := 532) rfl) rfl
set_option maxRecDepth 100000 in
theorem cw_27 : zcw E0 Nm Cd Hh 27 ∈ GW := inGW (List.mem_of_getElem? (i := 65) rfl) rfl
set_option maxRecDepth 100000 in
theorem cw_28 : zcw E0 Nm Cd Hh 28 ∈ GW := inGW (List.mem_of_getElem? (i := 169) rfl) rfl
set_option maxRecDepth 100000 in
theorem cw_29 : zcw E0 Nm Cd Hh 29 ∈ GW := inGW (List.mem_of_getElem? (i := 279) rfl) rfl
set_option maxRecDepth 100000 in
theorem cw_30 : zcw E0 Nm Cd Hh 30 ∈ GW := inGW (List.mem_of_getElem? (i := 297) rfl) rfl
set_option maxRecDepth 100000 in
theorem cw_31 : zcw E0 Nm Cd Hh 31 ∈ GW := inGW (List.mem_of_getElem? (i := 304) rfl) rfl
set_option maxRecDepth 100000 in
theorem cw_32 : zcw E0 Nm Cd Hh 32 ∈ GW := inGW (List.mem_of_getElem? (i := 318) rfl) rfl
set_option maxRecDepth 100000 in
theorem cw_33 : zcw E0 Nm Cd Hh 33 ∈ GW := inGW (List.mem_of_getElem? (i := 334) rfl) rfl
set_option maxRecDepth 100000 in
theorem cw_34 : zcw E0 Nm Cd Hh 34 ∈ GW := inGW (List.mem_of_getElem? (i := 343) rfl) rfl
set_option maxRecDepth 100000 in
theorem cw_35 : zcw E0 Nm Cd Hh 35 ∈ GW := inGW (List.mem_of_getElem? (i := 363) rfl) rfl
set_option maxRecDepth 100000 in
theorem cw_36 : zcw E0 Nm Cd Hh 36 ∈ GW := inGW (List.mem_of_getElem? (i := 372) rfl) rfl
set_option maxRecDepth 100000 in
theorem cw_37 : zcw E0 Nm Cd Hh 37 ∈ GW := inGW (List.mem_of_getElem? (i := 403) rfl) rfl
set_option maxRecDepth 100000 in
theorem cw_38 : zcw E0 Nm Cd Hh 38 ∈ GW := inGW (List.mem_of_getElem? (i := 410) rfl) rfl
set_option maxRecDepth 100000 in
theorem cw_39 : zcw E0 Nm Cd Hh 39 ∈ GW := inGW (List.mem_of_getElem? (i := 441) rfl) rfl
set_option maxRecDepth 100000 in
theorem cw_40 : zcw E0 Nm Cd Hh 40 ∈ GW := inGW (List.mem_of_getElem? (i := 482) rfl) rfl
set_option maxRecDepth 100000 in
theorem cw_41 : zcw E0 Nm Cd Hh 41 ∈ GW := inGW (List.mem_of_getElem? (i := 489) rfl) rfl
set_option maxRecDepth 100000 in
theorem cw_42 : zcw E0 Nm Cd Hh 42 ∈ GW := inGW (List.mem_of_getElem? (i := 509) rfl) rfl
set_option maxRecDepth 100000 in
theorem cw_43 : zcw E0 Nm Cd Hh 43 ∈ GW := inGW (List.mem_of_getElem? (i := 517) rfl) rfl
set_option maxRecDepth 100000 in
theorem cw_44 : zcw E0 Nm Cd Hh 44 ∈ GW := inGW (List.mem_of_getElem? (i := 528) rfl) rfl
set_option maxRecDepth 100000 in
theorem cw_45 : zcw E0 Nm Cd Hh 45 ∈ GW := inGW (List.mem_of_getElem? (i := 172) rfl) rfl
set_option maxRecDepth 100000 in
theorem cw_46 : zcw E0 Nm Cd Hh 46 ∈ GW := inGW (List.mem_of_getElem? (i := 311) rfl) rfl
set_option maxRecDepth 100000 in
theorem cw_47 : zcw E0 Nm Cd Hh 47 ∈ GW := inGW (List.mem_of_getElem? (i := 417) rfl) rfl
set_option maxRecDepth 100000 in
theorem cw_48 : zcw E0 Nm Cd Hh 48 ∈ GW := inGW (List.mem_of_getElem? (i := 414) rfl) rfl
set_option maxRecDepth 100000 in
theorem cw_49 : zcw E0 Nm Cd Hh 49 ∈ GW := inGW (List.mem_of_getElem? (i := 267) rfl) rfl
set_option maxRecDepth 100000 in
theorem cw_50 : zcw E0 Nm Cd Hh 50 ∈ GW := inGW (List.mem_of_getElem? (i := 308) rfl) rfl
set_option maxRecDepth 100000 in
theorem cw_51 : zcw E0 Nm Cd Hh 51 ∈ GW := inGW (List.mem_of_getElem? (i := 326) rfl) rfl
set_option maxRecDepth 100000 in
theorem cw_52 : zcw E0 Nm Cd Hh 52 ∈ GW := inGW (List.mem_of_getElem? (i := 247) rfl) rfl
set_option maxRecDepth 100000 in
theorem cw_53 : zcw E0 Nm Cd Hh 53 ∈ GW := inGW (List.mem_of_getElem? (i := 445) rfl) rfl
set_option maxRecDepth 100000 in
theorem cw_54 : zcw E0 Nm Cd Hh 54 ∈ GW := inGW (List.mem_of_getElem? (i := 352) rfl) rfl
set_option maxRecDepth 100000 in
theorem cw_55 : zcw E0 Nm Cd Hh 55 ∈ GW := inGW (List.mem_of_getElem? (i := 431) rfl) rfl
set_option maxRecDepth 100000 in
theorem cw_56 : zcw E0 Nm Cd Hh 56 ∈ GW := inGW (List.mem_of_getElem? (i := 542) rfl) rfl
set_option maxRecDepth 100000 in
theorem cw_57 : zcw E0 Nm Cd Hh 57 ∈ GW := inGW (List.mem_of_getElem? (i := 555) rfl) rfl
set_option maxRecDepth 100000 in
theorem cw_58 : zcw E0 Nm Cd Hh 58 ∈ GW := inGW (List.mem_of_getElem? (i := 607) rfl) rfl
set_option maxRecDepth 100000 in
theorem cw_59 : zcw E0 Nm Cd Hh 59 ∈ GW := inGW (List.mem_of_getElem? (i := 622) rfl) rfl
set_option maxRecDepth 100000 in
theorem cw_60 : zcw E0 Nm Cd Hh 60 ∈ GW := inGW (List.mem_of_getElem? (i := 627) rfl) rfl
set_option maxRecDepth 100000 in
theorem cw_61 : zcw E0 Nm Cd Hh 61 ∈ GW := inGW (List.mem_of_getElem? (i := 618) rfl) rfl
set_option maxRecDepth 100000 in
theorem cw_62 : zcw E0 Nm Cd Hh 62 ∈ GW := inGW (List.mem_of_getElem? (i := 614) rfl) rfl
set_option maxRecDepth 100000 in
theorem cw_63 : zcw E0 Nm Cd Hh 63 ∈ GW := inGW (List.mem_of_getElem? (i := 611) rfl) rfl
set_option maxRecDepth 100000 in
theorem cw_64 : zcw E0 Nm Cd Hh 64 ∈ GW := inGW (List.mem_of_getElem? (i := 631) rfl) rfl
set_option maxRecDepth 100000 in
theorem cw_65 : zcw E0 Nm Cd Hh 65 ∈ GW := inGW (List.mem_of_getElem? (i := 635) rfl) rfl
set_option maxRecDepth 100000 in
theorem cw_66 : zcw E0 Nm Cd Hh 66 ∈ GW := inGW (List.mem_of_getElem? (i := 639) rfl) rfl
set_option maxRecDepth 100000 in
theorem cw_67 : zcw E0 Nm Cd Hh 67 ∈ GW := inGW (List.mem_of_getElem? (i := 643) rfl) rfl
set_option maxRecDepth 100000 in
theorem cw_68 : zcw E0 Nm Cd Hh 68 ∈ GW := inGW (List.mem_of_getElem? (i := 647) rfl) rfl
set_option maxRecDepth 100000 in
theorem cw_69 : zcw E0 Nm Cd Hh 69 ∈ GW := inGW (List.mem_of_getElem? (i := 651) rfl) rfl
set_option maxRecDepth 100000 in
theorem cw_70 : zcw E0 Nm Cd Hh 70 ∈ GW := inGW (List.mem_of_getElem? (i := 655) rfl) rfl
set_option maxRecDepth 100000 in
theorem cw_71 : zcw E0 Nm Cd Hh 71 ∈ GW := inGW (List.mem_of_getElem? (i := 663) rfl) rfl
set_option maxRecDepth 100000 in
theorem cw_72 : zcw E0 Nm Cd Hh 72 ∈ GW := inGW (List.mem_of_getElem? (i := 659) rfl) rfl
set_option maxRecDepth 100000 in
theorem cw_73 : zcw E0 Nm Cd Hh 73 ∈ GW := inGW (List.mem_of_getElem? (i := 667) rfl) rfl
set_option maxRecDepth 100000 in
theorem cw_74 : zcw E0 Nm Cd Hh 74 ∈ GW := inGW (List.mem_of_getElem? (i := 675) rfl) rfl
set_option maxRecDepth 100000 in
theorem cw_75 : zcw E0 Nm Cd Hh 75 ∈ GW := inGW (List.mem_of_getElem? (i := 671) rfl) rfl
set_option maxRecDepth 100000 in
theorem cw_76 : zcw E0 Nm Cd Hh 76 ∈ GW := inGW (List.mem_of_getElem? (i := 679) rfl) rfl
set_option maxRecDepth 100000 in
theorem cw_77 : zcw E0 Nm Cd Hh 77 ∈ GW := inGW (List.mem_of_getElem? (i := 691) rfl) rfl
set_option maxRecDepth 100000 in
theorem cw_78 : zcw E0 Nm Cd Hh 78 ∈ GW := inGW (List.mem_of_getElem? (i := 699) rfl) rfl
set_option maxRecDepth 100000 in
theorem cw_79 : zcw E0 Nm Cd Hh 79 ∈ GW := inGW (List.mem_of_getElem? (i := 695) rfl) rfl
set_option maxRecDepth 100000 in
theorem cw_80 : zcw E0 Nm Cd Hh 80 ∈ GW := inGW (List.mem_of_getElem? (i := 687) rfl) rfl
set_option maxRecDepth 100000 in
theorem cw_81 : zcw E0 Nm Cd Hh 81 ∈ GW := inGW (List.mem_of_getElem? (i := 683) rfl) rfl
set_option maxRecDepth 100000 in
theorem cw_82 : zcw E0 Nm Cd Hh 82 ∈ GW := inGW (List.mem_of_getElem? (i := 703) rfl) rfl
set_option maxRecDepth 100000 in
theorem cw_83 : zcw E0 Nm Cd Hh 83 ∈ GW := inGW (List.mem_of_getElem? (i := 715) rfl) rfl
set_option maxRecDepth 100000 in
theorem cw_84 : zcw E0 Nm Cd Hh 84 ∈ GW := inGW (List.mem_of_getElem? (i := 711) rfl) rfl
set_option maxRecDepth 100000 in
theorem cw_85 : zcw E0 Nm Cd Hh 85 ∈ GW := inGW (List.mem_of_getElem? (i := 707) rfl) rfl
set_option maxRecDepth 100000 in
theorem cw_86 : zcw E0 Nm Cd Hh 86 ∈ GW := inGW (List.mem_of_getElem? (i := 719) rfl) rfl
set_option maxRecDepth 100000 in
theorem cw_87 : zcw E0 Nm Cd Hh 87 ∈ GW := inGW (List.mem_of_getElem? (i := 723) rfl) rfl
set_option maxRecDepth 100000 in
theorem cw_88 : zcw E0 Nm Cd Hh 88 ∈ GW := inGW (List.mem_of_getElem? (i := 735) rfl) rfl
set_option maxRecDepth 100000 in
theorem cw_89 : zcw E0 Nm Cd Hh 89 ∈ GW := inGW (List.mem_of_getElem? (i := 731) rfl) rfl
set_option maxRecDepth 100000 in
theorem cw_90 : zcw E0 Nm Cd Hh 90 ∈ GW := inGW (List.mem_of_getElem? (i := 727) rfl) rfl
set_option maxRecDepth 100000 in
theorem cw_91 : zcw E0 Nm Cd Hh 91 ∈ GW := inGW (List.mem_of_getElem? (i := 129) rfl) rfl
set_option maxRecDepth 100000 in
theorem cw_92 : zcw E0 Nm Cd Hh 92 ∈ GW := inGW (List.mem_of_getElem? (i := 163) rfl) rfl
set_option maxRecDepth 100000 in
theorem cw_93 : zcw E0 Nm Cd Hh 93 ∈ GW := inGW (List.mem_of_getElem? (i := 275) rfl) rfl
set_option maxRecDepth 100000 in
theorem cw_94 : zcw E0 Nm Cd Hh 94 ∈ GW := inGW (List.mem_of_getElem? (i := 293) rfl) rfl
set_option maxRecDepth 100000 in
theorem cw_95 : zcw E0 Nm Cd Hh 95 ∈ GW := inGW (List.mem_of_getElem? (i := 300) rfl) rfl
set_option maxRecDepth 100000 in
theorem cw_96 : zcw E0 Nm Cd Hh 96 ∈ GW := inGW (List.mem_of_getElem? (i := 314) rfl) rfl
set_option maxRecDepth 100000 in
theorem cw_97 : zcw E0 Nm Cd Hh 97 ∈ GW := inGW (List.mem_of_getElem? (i := 330) rfl) rfl
set_option maxRecDepth 100000 in
theorem cw_98 : zcw E0 Nm Cd Hh 98 ∈ GW := inGW (List.mem_of_getElem? (i := 339) rfl) rfl
set_option maxRecDepth 100000 in
theorem cw_99 : zcw E0 Nm Cd Hh 99 ∈ GW := inGW (List.mem_of_getElem? (i := 359) rfl) rfl
set_option maxRecDepth 100000 in
theorem cw_100 : zcw E0 Nm Cd Hh 100 ∈ GW := inGW (List.mem_of_getElem? (i := 367) rfl) rfl
set_option maxRecDepth 100000 in
theorem cw_101 : zcw E0 Nm Cd Hh 101 ∈ GW := inGW (List.mem_of_getElem? (i := 399) rfl) rfl
set_option maxRecDepth 100000 in
theorem cw_102 : zcw E0 Nm Cd Hh 102 ∈ GW := inGW (List.mem_of_getElem? (i := 406) rfl) rfl
set_option maxRecDepth 100000 in
theorem cw_103 : zcw E0 Nm Cd Hh 103 ∈ GW := inGW (List.mem_of_getElem? (i := 437) rfl) rfl
set_option maxRecDepth 100000 in
theorem cw_104 : zcw E0 Nm Cd Hh 104 ∈ GW := inGW (List.mem_of_getElem? (i := 478) rfl) rfl
set_option maxRecDepth 100000 in
theorem cw_105 : zcw E0 Nm Cd Hh 105 ∈ GW := inGW (List.mem_of_getElem? (i := 485) rfl) rfl
set_option maxRecDepth 100000 in
theorem cw_106 : zcw E0 Nm Cd Hh 106 ∈ GW := inGW (List.mem_of_getElem? (i := 505) rfl) rfl
set_option maxRecDepth 100000 in
theorem cw_107 : zcw E0 Nm Cd Hh 107 ∈ GW := inGW (List.mem_of_getElem? (i := 513) rfl) rfl
set_option maxRecDepth 100000 in
theorem cw_108 : zcw E0 Nm Cd Hh 108 ∈ GW := inGW (List.mem_of_getElem? (i := 524) rfl) rfl
def cwIdx : List Nat := [0, 1, 2, 3, 4, 5, 6, 7, 8, 9, 10, 11, 12, 13, 14, 15, 16, 17, 18, 19, 20, 21, 22, 23, 24, 25, 26, 27, 28, 29, 30, 31, 32, 33, 34, 35, 36, 37, 38, 39, 40, 41, 42, 43, 44, 45, 46, 47, 48, 49, 50, 51, 52, 53, 54, 55, 56, 57, 58, 59, 60, 61, 62, 63, 64, 65, 66, 67, 68, 69, 70, 71, 72, 73, 74, 75, 76, 77, 78, 79, 80, 81, 82, 83, 84, 85, 86, 87, 88, 89, 90, 91, 92, 93, 94, 95, 96, 97, 98, 99, 100, 101, 102, 103, 104, 105, 106, 107, 108]
theorem cwC_0 : ∀ y ∈ ([0, 1, 2, 3, 4, 5, 6, 7, 8, 9, 10, 11, 12, 13, 14, 15] : List Nat), zcw E0 Nm Cd Hh y ∈ GW := List.forall_mem_cons.mpr ⟨cw_0, List.forall_mem_cons.mpr ⟨cw_1, List.forall_mem_cons.mpr ⟨cw_2, List.forall_mem_cons.mpr ⟨cw_3, List.forall_mem_cons.mpr ⟨cw_4, List.forall_mem_cons.mpr ⟨cw_5, List.forall_mem_cons.mpr ⟨cw_6, List.forall_mem_cons.mpr ⟨cw_7, List.forall_mem_cons.mpr ⟨cw_8, List.forall_mem_cons.mpr ⟨cw_9, List.forall_mem_cons.mpr ⟨cw_10, List.forall_mem_cons.mpr ⟨cw_11, List.forall_mem_cons.mpr ⟨cw_12, List.forall_mem_cons.mpr ⟨cw_13, List.forall_mem_cons.mpr ⟨cw_14, List.forall_mem_cons.mpr ⟨cw_15, fun _ h => absurd h List.not_mem_nil⟩⟩⟩⟩⟩⟩⟩⟩⟩⟩⟩⟩⟩⟩⟩⟩
theorem cwC_1 : ∀ y ∈ ([16, 17, 18, 19, 20, 21, 22, 23, 24, 25, 26, 27, 28, 29, 30, 31] : List Nat), zcw E0 Nm Cd Hh y ∈ GW := List.forall_mem_cons.mpr ⟨cw_16, List.forall_mem_cons.mpr ⟨cw_17, List.forall_mem_cons.mpr ⟨cw_18, List.forall_mem_cons.mpr ⟨cw_19, List.forall_mem_cons.mpr ⟨cw_20, List.forall_mem_cons.mpr ⟨cw_21, List.forall_mem_cons.mpr ⟨cw_22, List.forall_mem_cons.mpr ⟨cw_23, List.forall_mem_cons.mpr ⟨cw_24, List.forall_mem_cons.mpr ⟨cw_25, List.forall_mem_cons.mpr ⟨cw_26, List.forall_mem_cons.mpr ⟨cw_27, List.forall_mem_cons.mpr ⟨cw_28, List.forall_mem_cons.mpr ⟨cw_29, List.forall_mem_cons.mpr ⟨cw_30, List.forall_mem_cons.mpr ⟨cw_31, fun _ h => absurd h List.not_mem_nil⟩⟩⟩⟩⟩⟩⟩⟩⟩⟩⟩⟩⟩⟩⟩⟩
theorem cwC_2 : ∀ y ∈ ([32, 33, 34, 35, 36, 37, 38, 39, 40, 41, 42, 43, 44, 45, 46, 47] : List Nat), zcw E0 Nm Cd Hh y ∈ GW := List.forall_mem_cons.mpr ⟨cw_32, List.forall_mem_cons.mpr ⟨cw_33, List.forall_mem_cons.mpr ⟨cw_34, List.forall_mem_cons.mpr ⟨cw_35, List.forall_mem_cons.mpr ⟨cw_36, List.forall_mem_cons.mpr ⟨cw_37, List.forall_mem_cons.mpr ⟨cw_38, List.forall_mem_cons.mpr ⟨cw_39, List.forall_mem_cons.mpr ⟨cw_40, List.forall_mem_cons.mpr ⟨cw_41, List.forall_mem_cons.mpr ⟨cw_42, List.forall_mem_cons.mpr ⟨cw_43, List.forall_mem_cons.mpr ⟨cw_44, List.forall_mem_cons.mpr ⟨cw_45, List.forall_mem_cons.mpr ⟨cw_46, List.forall_mem_cons.mpr ⟨cw_47, fun _ h => absurd h List.not_mem_nil⟩⟩⟩⟩⟩⟩⟩⟩⟩⟩⟩⟩⟩⟩⟩⟩
theorem cwC_3 : ∀ y ∈ ([48, 49, 50, 51, 52, 53, 54, 55, 56, 57, 58, 59, 60, 61, 62, 63] : List Nat), zcw E0 Nm Cd Hh y ∈ GW := List.forall_mem_cons.mpr ⟨cw_48, List.forall_mem_cons.mpr ⟨cw_49, List.forall_mem_cons.mpr ⟨cw_50, List.forall_mem_cons.mpr ⟨cw_51, List.forall_mem_cons.mpr ⟨cw_52, List.forall_mem_cons.mpr ⟨cw_53, List.forall_mem_cons.mpr ⟨cw_54, List.forall_mem_cons.mpr ⟨cw_55, List.forall_mem_cons.mpr ⟨cw_56, List.forall_mem_cons.mpr ⟨cw_57, List.forall_mem_cons.mpr ⟨cw_58, List.forall_mem_cons.mpr ⟨cw_59, List.forall_mem_cons.mpr ⟨cw_60, List.forall_mem_cons.mpr ⟨cw_61, List.forall_mem_cons.mpr ⟨cw_62, List.forall_mem_cons.mpr ⟨cw_63, fun _ h => absurd h List.not_mem_nil⟩⟩⟩⟩⟩⟩⟩⟩⟩⟩⟩⟩⟩⟩⟩⟩
theorem cwC_4 : ∀ y ∈ ([64, 65, 66, 67, 68, 69, 70, 71, 72, 73, 74, 75, 76, 77, 78, 79] : List Nat), zcw E0 Nm Cd Hh y ∈ GW := List.forall_mem_cons.mpr ⟨cw_64, List.forall_mem_cons.mpr ⟨cw_65, List.forall_mem_cons.mpr ⟨cw_66, List.forall_mem_cons.mpr ⟨cw_67, List.forall_mem_cons.mpr ⟨cw_68, List.forall_mem_cons.mpr ⟨cw_69, List.forall_mem_cons.mpr ⟨cw_70, List.forall_mem_cons.mpr ⟨cw_71, List.forall_mem_cons.mpr ⟨cw_72, List.forall_mem_cons.mpr ⟨cw_73, List.forall_mem_cons.mpr ⟨cw_74, List.forall_mem_cons.mpr ⟨cw_75, List.forall_mem_cons.mpr ⟨cw_76, List.forall_mem_cons.mpr ⟨cw_77, List.forall_mem_cons.mpr ⟨cw_78, List.forall_mem_cons.mpr ⟨cw_79, fun _ h => absurd h List.not_mem_nil⟩⟩⟩⟩⟩⟩⟩⟩⟩⟩⟩⟩⟩⟩⟩⟩
theorem cwC_5 : ∀ y ∈ ([80, 81, 82, 83, 84, 85, 86, 87, 88, 89, 90, 91, 92, 93, 94, 95] : List Nat), zcw E0 Nm Cd Hh y ∈ GW := List.forall_mem_cons.mpr ⟨cw_80, List.forall_mem_cons.mpr ⟨cw_81, List.forall_mem_cons.mpr ⟨cw_82, List.forall_mem_cons.mpr ⟨cw_83, List.forall_mem_cons.mpr ⟨cw_84, List.forall_mem_cons.mpr ⟨cw_85, List.forall_mem_cons.mpr ⟨cw_86, List.forall_mem_cons.mpr ⟨cw_87, List.forall_mem_cons.mpr ⟨cw_88, List.forall_mem_cons.mpr ⟨cw_89, List.forall_mem_cons.mpr ⟨cw_90, List.forall_mem_cons.mpr ⟨cw_91, List.forall_mem_cons.mpr ⟨cw_92, List.forall_mem_cons.mpr ⟨cw_93, List.forall_mem_cons.mpr ⟨cw_94, List.forall_mem_cons.mpr ⟨cw_95, fun _ h => absurd h List.not_mem_nil⟩⟩⟩⟩⟩⟩⟩⟩⟩⟩⟩⟩⟩⟩⟩⟩
theorem cwC_6 : ∀ y ∈ ([96, 97, 98, 99, 100, 101, 102, 103, 104, 105, 106, 107, 108] : List Nat), zcw E0 Nm Cd Hh y ∈ GW := List.forall_mem_cons.mpr ⟨cw_96, List.forall_mem_cons.mpr ⟨cw_97, List.forall_mem_cons.mpr ⟨cw_98, List.forall_mem_cons.mpr ⟨cw_99, List.forall_mem_cons.mpr ⟨cw_100, List.forall_mem_cons.mpr ⟨cw_101, List.forall_mem_cons.mpr ⟨cw_102, List.forall_mem_cons.mpr ⟨cw_103, List.forall_mem_cons.mpr ⟨cw_104, List.forall_mem_cons.mpr ⟨cw_105, List.forall_mem_cons.mpr ⟨cw_106, List.forall_mem_cons.mpr ⟨cw_107, List.forall_mem_cons.mpr ⟨cw_108, fun _ h => absurd h List.not_mem_nil⟩⟩⟩⟩⟩⟩⟩⟩⟩⟩⟩⟩⟩
theorem cwAll (y : Nat) (h : cwIdx.any (fun i => i == y) = true) : zcw E0 Nm Cd Hh y ∈ GW := by
  have h1 : ∀ y ∈ ([0, 1, 2, 3, 4, 5, 6, 7, 8, 9, 10, 11, 12, 13, 14, 15] ++ ([16, 17, 18, 19, 20, 21, 22, 23, 24, 25, 26, 27, 28, 29, 30, 31] ++ ([32, 33, 34, 35, 36, 37, 38, 39, 40, 41, 42, 43, 44, 45, 46, 47] ++ ([48, 49, 50, 51, 52, 53, 54, 55, 56, 57, 58, 59, 60, 61, 62, 63] ++ ([64, 65, 66, 67, 68, 69, 70, 71, 72, 73, 74, 75, 76, 77, 78, 79] ++ ([80, 81, 82, 83, 84, 85, 86, 87, 88, 89, 90, 91, 92, 93, 94, 95] ++ ([96, 97, 98, 99, 100, 101, 102, 103, 104, 105, 106, 107, 108])))))) : List Nat), zcw E0 Nm Cd Hh y ∈ GW := List.forall_mem_append.mpr ⟨cwC_0, List.forall_mem_append.mpr ⟨cwC_1, List.forall_mem_append.mpr ⟨cwC_2, List.forall_mem_append.mpr ⟨cwC_3, List.forall_mem_append.mpr ⟨cwC_4, List.forall_mem_append.mpr ⟨cwC_5, cwC_6⟩⟩⟩⟩⟩⟩
  obtain ⟨i, hi, e9⟩ := List.any_eq_true.mp h
  rw [beq_iff_eq] at e9
  rw [← e9]
  exact h1 i hi
def zMB (y : Nat) : Bool := plainName (Nm y).cls && !((Nm y).cls == "java/lang/invoke/MethodHandle") && !((Nm y).cls == "java/lang/invoke/VarHandle") && ((Nm y).cls == Ow (zOwn (eD y))) && inB (.initialized (Nm y).cls) &&
  decide ((parseMethodDescriptor (Nm y).desc).map (fun d => d.parameters.length) = some (zAr (eD y) - (if zKd (eD y) = 0 then 0 else 1))) &&
  (if zKd (eD y) = 0 then inB (.static (Nm y)) else if zKd (eD y) = 1 then inB (.instanceMethod (Nm y)) && inB (.selects (Ow (zOwn (eD y))) (Nm y) (Nm y)) else ((Nm y).name == "<init>") && inB (.instanceMethod (Nm y)) && decide (Hh y = []) && decide (zRet (eD y) = none))
theorem zMB_ok {y : Nat} (hc : zcw E0 Nm Cd Hh y ∈ GW) (h : zMB y = true) : zMok E0 Nm Cd Ow Hh GW y := by
  unfold zMB at h
  simp only [Bool.and_eq_true, Bool.not_eq_true', beq_eq_false_iff_ne, beq_iff_eq, decide_eq_true_eq] at h
  obtain ⟨⟨⟨⟨⟨⟨h1, h2⟩, h3⟩, h4⟩, h6⟩, h7⟩, h8⟩ := h
  refine ⟨h1, ⟨h2, h3⟩, h4, hc, inB_in h6, h7, fun hk => ?_, fun hk => ?_, fun hk => ?_⟩
  · rw [if_pos (show zKd (eD y) = 0 from hk)] at h8
    exact inB_in h8
  · have hk : zKd (eD y) = 1 := hk
    rw [if_neg (by rw [hk]; decide), if_pos hk, Bool.and_eq_true] at h8
    exact ⟨inB_in h8.1, inB_in h8.2⟩
  · have hk : zKd (eD y) = 2 := hk
    rw [if_neg (by rw [hk]; decide), if_neg (by rw [hk]; decide)] at h8
    simp only [Bool.and_eq_true, beq_iff_eq, decide_eq_true_eq] at h8
    exact ⟨h8.1.1.1, inB_in h8.1.1.2, h8.1.2, h8.2⟩
def Mchk (r : Nat × Nat × Nat × Bool) : Bool := (if r.2.2.2 = true then inB (.methodLinkNest (Ow r.1) r.2.1 (Nm r.2.2.1) "ShaftLoom") else inB (.methodLink (Ow r.1) r.2.1 (Nm r.2.2.1)))
theorem ML_ok : ML.all Mchk = true := by decide +kernel
theorem MLm_ok : (ML.map fun r => r.2.2.1).all zMB = true := by decide +kernel
theorem MLr_ok : (ML.map fun r => r.2.2.1).all (fun y => cwIdx.any (fun i => i == y)) = true := by decide +kernel
theorem okM0 : okM E0 Nm Cd Ow Hh GW := by
  intro own n y h
  obtain ⟨r, hr, hp, hv⟩ := zfindm (show (ML.find? fun r => r.1 == own && r.2.1 == n).map (fun r => r.2.2.1) = some y from h)
  have hc := List.all_eq_true.mp ML_ok r hr
  have hm := List.all_eq_true.mp MLm_ok r.2.2.1 (List.mem_map.mpr ⟨r, hr, rfl⟩)
  rw [Bool.and_eq_true, beq_iff_eq, beq_iff_eq] at hp
  obtain ⟨r1, r2, r3, r4⟩ := r
  obtain ⟨rfl, rfl⟩ := hp
  cases hv
  refine ⟨?_, zMB_ok (cwAll r3 (List.all_eq_true.mp MLr_ok _ (List.mem_map.mpr ⟨_, hr, rfl⟩))) hm⟩
  unfold Mchk at hc
  dsimp only at hc
  cases r4 with
  | true => rw [if_pos rfl] at hc; exact Or.inr ⟨_, inB_in hc⟩
  | false => rw [if_neg (by decide)] at hc; exact Or.inl (inB_in hc)
def Xchk (r : Nat × Nat × Nat × Nat × Nat × Nat × String) : Bool :=
  decide (Hh r.1 = []) && Bundle.fit (Xn r.2.2.1) && decide (decode (Cd r.1) r.2.1 = .ok (.new r.2.2.2.1, 3)) && decide (decode (Cd r.1) (r.2.1 + 3) = .ok (.dup, 1)) && decide (decode (Cd r.1) (r.2.1 + 4) = .ok (.ldc r.2.2.2.2.1, 2)) && decide (decode (Cd r.1) (r.2.1 + 6) = .ok (.invokespecial r.2.2.2.2.2.1, 3)) && decide (decode (Cd r.1) (r.2.1 + 9) = .ok (.athrow, 1)) &&
  inB (.classLink (Ow (zOwn (eD r.1))) r.2.2.2.1 (Xn r.2.2.1)) && inB (.initialized (Xn r.2.2.1)) && (vx_atS (Ow (zOwn (eD r.1))) r.2.2.2.2.2.1 (Xn r.2.2.1) zNames).all inB &&
  (Cond.classLink (Ow (zOwn (eD r.1))) r.2.2.2.1 (Xn r.2.2.1) :: Cond.initialized (Xn r.2.2.1) :: vx_atS (Ow (zOwn (eD r.1))) r.2.2.2.2.2.1 (Xn r.2.2.1) zNames).all vx_ot && decide ((Ow (zOwn (eD r.1)), r.2.2.2.2.1, r.2.2.2.2.2.2) ∈ SL)
theorem XA_ok : (vx_atS RX3 64 (Xn 0) zNames).all inB = true := by decide +kernel
theorem XB_ok : (vx_atS RX3 64 (Xn 0) zNames).all zgood = true := by decide +kernel
theorem XD_ok : (vx_atS RX3 64 (Xn 0) zNames).all vx_ot = true := by decide +kernel
theorem XL_ok : XL.all Xchk = true := by decide +kernel
theorem okX0 : okX E0 Cd Ow Xn Hh GW SL := by
  intro y pc x h
  obtain ⟨r, hr, hp, hv⟩ := zfindm (show (XL.find? fun r => r.1 == y && r.2.1 == pc).map (fun r => r.2.2.1) = some x from h)
  have hc := List.all_eq_true.mp XL_ok r hr
  rw [Bool.and_eq_true, beq_iff_eq, beq_iff_eq] at hp
  obtain ⟨r1, r2, r3, r4, r5, r6, r7⟩ := r
  obtain ⟨rfl, rfl⟩ := hp
  cases hv
  unfold Xchk at hc
  dsimp only at hc
  simp only [Bool.and_eq_true, decide_eq_true_eq] at hc
  obtain ⟨⟨⟨⟨⟨⟨⟨⟨⟨⟨⟨c1, c2⟩, c3⟩, c4⟩, c5⟩, c6⟩, c7⟩, c8⟩, c9⟩, c10⟩, c11⟩, c12⟩ := hc
  exact ⟨c1, c2, r4, r5, r6, r7, c3, c4, c5, c6, c7, inB_in c8, inB_in c9, fun w hw => inB_in (List.all_eq_true.mp c10 w hw), fun w hw => List.all_eq_true.mp c11 w hw, c12⟩
def Hchk (y : Nat) (p : (Nat × Nat × Nat × Nat × Nat) × (Nat × Nat × Nat × Nat)) : Bool :=
  (p.1.1 == p.2.1) && (p.1.2.1 == p.2.2.1) && !(p.2.2.2.2 == 0) && decide (p.1.2.2.1 < 3) && inB (.classLink (Ow (zOwn (eD y))) p.2.2.2.2 (Xn p.1.2.2.1)) && decide (p.1.2.2.2.2 < zMax (eD y)) &&
  ((if hh : p.1.2.2.2.2 < 4 then decide (decode (Cd y) p.2.2.2.1 = .ok (.astore_n ⟨p.1.2.2.2.2, hh⟩, 1)) && (p.1.2.2.2.1 == p.2.2.2.1 + 1) else false) || (decide (decode (Cd y) p.2.2.2.1 = .ok (.astore p.1.2.2.2.2, 2)) && (p.1.2.2.2.1 == p.2.2.2.1 + 2)))
theorem eHL_ok : (eHL.map fun r => r.1).all (fun y => ((Hh y).length == (eH y).length) && ((eH y).zip (Hh y)).all (Hchk y)) = true := by decide +kernel
theorem HhL_eq : HhL.map (fun r => r.1) = eHL.map (fun r => r.1) := by decide +kernel
theorem okH0 : okH E0 Cd Ow Xn Hh GW := by
  refine ⟨fun x hx => ?_, fun y => ?_⟩
  · match x, hx with
    | 0, _ => exact inB_in (by decide +kernel)
    | 1, _ => exact inB_in (by decide +kernel)
    | 2, _ => exact inB_in (by decide +kernel)
  · change (Hh y).length = (eH y).length ∧ ∀ (j a b x h i : Nat), (eH y)[j]? = some (a, b, x, h, i) → _
    by_cases hy : y ∈ eHL.map (fun r => r.1)
    · have hc := List.all_eq_true.mp eHL_ok y hy
      rw [Bool.and_eq_true, beq_iff_eq] at hc
      refine ⟨hc.1, fun j a b x h i hj => ?_⟩
      have hjl : j < (Hh y).length := by rw [hc.1]; exact (List.getElem?_eq_some_iff.mp hj).1
      obtain ⟨⟨a', b', hp, cp⟩, hq⟩ : ∃ r, (Hh y)[j]? = some r := ⟨_, List.getElem?_eq_getElem hjl⟩
      have hz : ((eH y).zip (Hh y))[j]? = some ((a, b, x, h, i), (a', b', hp, cp)) := by rw [List.getElem?_zip_eq_some]; exact ⟨hj, hq⟩
      have h1 := List.all_eq_true.mp hc.2 _ (List.mem_of_getElem? hz)
      unfold Hchk at h1
      simp only [Bool.and_eq_true, Bool.or_eq_true, beq_iff_eq, Bool.not_eq_true', beq_eq_false_iff_ne, decide_eq_true_eq] at h1
      obtain ⟨⟨⟨⟨⟨⟨c1, c2⟩, c3⟩, c4⟩, c5⟩, c6⟩, c7⟩ := h1
      subst c1; subst c2
      refine ⟨hp, cp, hq, c3, c4, inB_in c5, c6, ?_⟩
      rcases c7 with c7 | c7
      · split at c7
        · rename_i hh
          simp only [Bool.and_eq_true, beq_iff_eq, decide_eq_true_eq] at c7
          exact Or.inl ⟨⟨i, hh⟩, rfl, c7.1, c7.2⟩
        · cases c7
      · exact Or.inr c7
    · have e1 : eH y = [] := by
        unfold eH
        rw [List.find?_eq_none.mpr (fun r hr => by simp only [beq_iff_eq]; exact fun e => hy (List.mem_map.mpr ⟨r, hr, e⟩))]
        rfl
      have e2 : Hh y = [] := by
        unfold Hh
        rw [List.find?_eq_none.mpr (fun r hr => by simp only [beq_iff_eq]; exact fun e => hy (by rw [← HhL_eq]; exact List.mem_map.mpr ⟨r, hr, e⟩))]
        rfl
      rw [e1, e2]
      exact ⟨rfl, fun j a b x h i hj => by simp at hj⟩
theorem sound0 (D : va_G) (ct : Nat → ClassId) : ∀ f, zSound E0 Cd Ow Xn Hh cl0 GW SL D ct f := z_sound GW_good okT0 okF0 okC0 okNew0 okK0 okN0 okM0 okX0 okH0
end
section
theorem dX0_init_0 : decode cX0_init 0 = .ok (.aload_n 0, 1) := by decide +kernel
theorem dX0_init_1 : decode cX0_init 1 = .ok (.invokespecial 3, 3) := by decide +kernel
theorem dX0_init_4 : decode cX0_init 4 = .ok (.aload_n 0, 1) := by decide +kernel
theorem dX0_init_5 : decode cX0_init 5 = .ok (.bipush 30, 2) := by decide +kernel
theorem dX0_init_7 : decode cX0_init 7 = .ok (.newarray .int, 2) := by decide +kernel
theorem dX0_init_9 : decode cX0_init 9 = .ok (.putfield 9, 3) := by decide +kernel
theorem dX0_init_12 : decode cX0_init 12 = .ok (.return_, 1) := by decide +kernel
theorem dX0_stretch_0 : decode cX0_stretch 0 = .ok (.aload_n 0, 1) := by decide +kernel
theorem dX0_stretch_1 : decode cX0_stretch 1 = .ok (.iload_n 1, 1) := by decide +kernel
theorem dX0_stretch_2 : decode cX0_stretch 2 = .ok (.putfield 15, 3) := by decide +kernel
theorem dX0_stretch_5 : decode cX0_stretch 5 = .ok (.aload_n 0, 1) := by decide +kernel
theorem dX0_stretch_6 : decode cX0_stretch 6 = .ok (.iload_n 2, 1) := by decide +kernel
theorem dX0_stretch_7 : decode cX0_stretch 7 = .ok (.putfield 19, 3) := by decide +kernel
theorem dX0_stretch_10 : decode cX0_stretch 10 = .ok (.aload_n 0, 1) := by decide +kernel
theorem dX0_stretch_11 : decode cX0_stretch 11 = .ok (.getfield 9, 3) := by decide +kernel
theorem dX0_stretch_14 : decode cX0_stretch 14 = .ok (.iconst 0, 1) := by decide +kernel
theorem dX0_stretch_15 : decode cX0_stretch 15 = .ok (.invokestatic 22, 3) := by decide +kernel
theorem dX0_stretch_18 : decode cX0_stretch 18 = .ok (.return_, 1) := by decide +kernel
theorem dX0_throwPick_0 : decode cX0_throwPick 0 = .ok (.aload_n 0, 1) := by decide +kernel
theorem dX0_throwPick_1 : decode cX0_throwPick 1 = .ok (.getfield 19, 3) := by decide +kernel
theorem dX0_throwPick_4 : decode cX0_throwPick 4 = .ok (.bipush 30, 2) := by decide +kernel
theorem dX0_throwPick_6 : decode cX0_throwPick 6 = .ok (.if_icmp .ge 23, 3) := by decide +kernel
theorem dX0_throwPick_9 : decode cX0_throwPick 9 = .ok (.aload_n 0, 1) := by decide +kernel
theorem dX0_throwPick_10 : decode cX0_throwPick 10 = .ok (.getfield 9, 3) := by decide +kernel
theorem dX0_throwPick_13 : decode cX0_throwPick 13 = .ok (.aload_n 0, 1) := by decide +kernel
theorem dX0_throwPick_14 : decode cX0_throwPick 14 = .ok (.getfield 19, 3) := by decide +kernel
theorem dX0_throwPick_17 : decode cX0_throwPick 17 = .ok (.iload_n 1, 1) := by decide +kernel
theorem dX0_throwPick_18 : decode cX0_throwPick 18 = .ok (.iastore, 1) := by decide +kernel
theorem dX0_throwPick_19 : decode cX0_throwPick 19 = .ok (.aload_n 0, 1) := by decide +kernel
theorem dX0_throwPick_20 : decode cX0_throwPick 20 = .ok (.dup, 1) := by decide +kernel
theorem dX0_throwPick_21 : decode cX0_throwPick 21 = .ok (.getfield 19, 3) := by decide +kernel
theorem dX0_throwPick_24 : decode cX0_throwPick 24 = .ok (.iconst 1, 1) := by decide +kernel
theorem dX0_throwPick_25 : decode cX0_throwPick 25 = .ok (.iadd, 1) := by decide +kernel
theorem dX0_throwPick_26 : decode cX0_throwPick 26 = .ok (.putfield 19, 3) := by decide +kernel
theorem dX0_throwPick_29 : decode cX0_throwPick 29 = .ok (.return_, 1) := by decide +kernel
theorem dX0_has_0 : decode cX0_has 0 = .ok (.iload_n 1, 1) := by decide +kernel
theorem dX0_has_1 : decode cX0_has 1 = .ok (.ifCond .lt 27, 3) := by decide +kernel
theorem dX0_has_4 : decode cX0_has 4 = .ok (.iload_n 1, 1) := by decide +kernel
theorem dX0_has_5 : decode cX0_has 5 = .ok (.aload_n 0, 1) := by decide +kernel
theorem dX0_has_6 : decode cX0_has 6 = .ok (.getfield 15, 3) := by decide +kernel
theorem dX0_has_9 : decode cX0_has 9 = .ok (.if_icmp .ge 19, 3) := by decide +kernel
theorem dX0_has_12 : decode cX0_has 12 = .ok (.iload_n 2, 1) := by decide +kernel
theorem dX0_has_13 : decode cX0_has 13 = .ok (.ifCond .lt 15, 3) := by decide +kernel
theorem dX0_has_16 : decode cX0_has 16 = .ok (.iload_n 2, 1) := by decide +kernel
theorem dX0_has_17 : decode cX0_has 17 = .ok (.aload_n 0, 1) := by decide +kernel
theorem dX0_has_18 : decode cX0_has 18 = .ok (.getfield 19, 3) := by decide +kernel
theorem dX0_has_21 : decode cX0_has 21 = .ok (.if_icmp .ge 7, 3) := by decide +kernel
theorem dX0_has_24 : decode cX0_has 24 = .ok (.iconst 1, 1) := by decide +kernel
theorem dX0_has_25 : decode cX0_has 25 = .ok (.goto 4, 3) := by decide +kernel
theorem dX0_has_28 : decode cX0_has 28 = .ok (.iconst 0, 1) := by decide +kernel
theorem dX0_has_29 : decode cX0_has 29 = .ok (.ireturn, 1) := by decide +kernel
theorem dX0_isOver_0 : decode cX0_isOver 0 = .ok (.aload_n 0, 1) := by decide +kernel
theorem dX0_isOver_1 : decode cX0_isOver 1 = .ok (.getfield 9, 3) := by decide +kernel
theorem dX0_isOver_4 : decode cX0_isOver 4 = .ok (.iload_n 2, 1) := by decide +kernel
theorem dX0_isOver_5 : decode cX0_isOver 5 = .ok (.iaload, 1) := by decide +kernel
theorem dX0_isOver_6 : decode cX0_isOver 6 = .ok (.iload_n 1, 1) := by decide +kernel
theorem dX0_isOver_7 : decode cX0_isOver 7 = .ok (.ishr, 1) := by decide +kernel
theorem dX0_isOver_8 : decode cX0_isOver 8 = .ok (.iconst 1, 1) := by decide +kernel
theorem dX0_isOver_9 : decode cX0_isOver 9 = .ok (.iand, 1) := by decide +kernel
theorem dX0_isOver_10 : decode cX0_isOver 10 = .ok (.iconst 1, 1) := by decide +kernel
theorem dX0_isOver_11 : decode cX0_isOver 11 = .ok (.if_icmp .ne 7, 3) := by decide +kernel
theorem dX0_isOver_14 : decode cX0_isOver 14 = .ok (.iconst 1, 1) := by decide +kernel
theorem dX0_isOver_15 : decode cX0_isOver 15 = .ok (.goto 4, 3) := by decide +kernel
theorem dX0_isOver_18 : decode cX0_isOver 18 = .ok (.iconst 0, 1) := by decide +kernel
theorem dX0_isOver_19 : decode cX0_isOver 19 = .ok (.ireturn, 1) := by decide +kernel
theorem dX0_put_0 : decode cX0_put 0 = .ok (.aload_n 0, 1) := by decide +kernel
theorem dX0_put_1 : decode cX0_put 1 = .ok (.getfield 9, 3) := by decide +kernel
theorem dX0_put_4 : decode cX0_put 4 = .ok (.iload_n 2, 1) := by decide +kernel
theorem dX0_put_5 : decode cX0_put 5 = .ok (.aload_n 0, 1) := by decide +kernel
theorem dX0_put_6 : decode cX0_put 6 = .ok (.getfield 9, 3) := by decide +kernel
theorem dX0_put_9 : decode cX0_put 9 = .ok (.iload_n 2, 1) := by decide +kernel
theorem dX0_put_10 : decode cX0_put 10 = .ok (.iaload, 1) := by decide +kernel
theorem dX0_put_11 : decode cX0_put 11 = .ok (.iload_n 1, 1) := by decide +kernel
theorem dX0_put_12 : decode cX0_put 12 = .ok (.iload_n 3, 1) := by decide +kernel
theorem dX0_put_13 : decode cX0_put 13 = .ok (.invokestatic 28, 3) := by decide +kernel
theorem dX0_put_16 : decode cX0_put 16 = .ok (.iastore, 1) := by decide +kernel
theorem dX0_put_17 : decode cX0_put 17 = .ok (.return_, 1) := by decide +kernel
theorem dX0_count_0 : decode cX0_count 0 = .ok (.iload_n 1, 1) := by decide +kernel
theorem dX0_count_1 : decode cX0_count 1 = .ok (.ifCond .eq 10, 3) := by decide +kernel
theorem dX0_count_4 : decode cX0_count 4 = .ok (.aload_n 0, 1) := by decide +kernel
theorem dX0_count_5 : decode cX0_count 5 = .ok (.getfield 19, 3) := by decide +kernel
theorem dX0_count_8 : decode cX0_count 8 = .ok (.goto 7, 3) := by decide +kernel
theorem dX0_count_11 : decode cX0_count 11 = .ok (.aload_n 0, 1) := by decide +kernel
theorem dX0_count_12 : decode cX0_count 12 = .ok (.getfield 15, 3) := by decide +kernel
theorem dX0_count_15 : decode cX0_count 15 = .ok (.ireturn, 1) := by decide +kernel
theorem dX0_line_0 : decode cX0_line 0 = .ok (.iload_n 1, 1) := by decide +kernel
theorem dX0_line_1 : decode cX0_line 1 = .ok (.ifCond .eq 12, 3) := by decide +kernel
theorem dX0_line_4 : decode cX0_line 4 = .ok (.aload_n 0, 1) := by decide +kernel
theorem dX0_line_5 : decode cX0_line 5 = .ok (.getfield 9, 3) := by decide +kernel
theorem dX0_line_8 : decode cX0_line 8 = .ok (.iload_n 2, 1) := by decide +kernel
theorem dX0_line_9 : decode cX0_line 9 = .ok (.iaload, 1) := by decide +kernel
theorem dX0_line_10 : decode cX0_line 10 = .ok (.goto 8, 3) := by decide +kernel
theorem dX0_line_13 : decode cX0_line 13 = .ok (.aload_n 0, 1) := by decide +kernel
theorem dX0_line_14 : decode cX0_line 14 = .ok (.iload_n 2, 1) := by decide +kernel
theorem dX0_line_15 : decode cX0_line 15 = .ok (.invokevirtual 32, 3) := by decide +kernel
theorem dX0_line_18 : decode cX0_line 18 = .ok (.ireturn, 1) := by decide +kernel
theorem dX0_picksUnder_0 : decode cX0_picksUnder 0 = .ok (.iconst 0, 1) := by decide +kernel
theorem dX0_picksUnder_1 : decode cX0_picksUnder 1 = .ok (.istore_n 2, 1) := by decide +kernel
theorem dX0_picksUnder_2 : decode cX0_picksUnder 2 = .ok (.iconst 0, 1) := by decide +kernel
theorem dX0_picksUnder_3 : decode cX0_picksUnder 3 = .ok (.istore_n 3, 1) := by decide +kernel
theorem dX0_picksUnder_4 : decode cX0_picksUnder 4 = .ok (.iload_n 3, 1) := by decide +kernel
theorem dX0_picksUnder_5 : decode cX0_picksUnder 5 = .ok (.aload_n 0, 1) := by decide +kernel
theorem dX0_picksUnder_6 : decode cX0_picksUnder 6 = .ok (.getfield 19, 3) := by decide +kernel
theorem dX0_picksUnder_9 : decode cX0_picksUnder 9 = .ok (.if_icmp .ge 21, 3) := by decide +kernel
theorem dX0_picksUnder_12 : decode cX0_picksUnder 12 = .ok (.iload_n 2, 1) := by decide +kernel
theorem dX0_picksUnder_13 : decode cX0_picksUnder 13 = .ok (.iload_n 3, 1) := by decide +kernel
theorem dX0_picksUnder_14 : decode cX0_picksUnder 14 = .ok (.aload_n 0, 1) := by decide +kernel
theorem dX0_picksUnder_15 : decode cX0_picksUnder 15 = .ok (.iload_n 1, 1) := by decide +kernel
theorem dX0_picksUnder_16 : decode cX0_picksUnder 16 = .ok (.iload_n 3, 1) := by decide +kernel
theorem dX0_picksUnder_17 : decode cX0_picksUnder 17 = .ok (.invokevirtual 36, 3) := by decide +kernel
theorem dX0_picksUnder_20 : decode cX0_picksUnder 20 = .ok (.invokestatic 28, 3) := by decide +kernel
theorem dX0_picksUnder_23 : decode cX0_picksUnder 23 = .ok (.istore_n 2, 1) := by decide +kernel
theorem dX0_picksUnder_24 : decode cX0_picksUnder 24 = .ok (.iinc 3 1, 3) := by decide +kernel
theorem dX0_picksUnder_27 : decode cX0_picksUnder 27 = .ok (.goto (-23), 3) := by decide +kernel
theorem dX0_picksUnder_30 : decode cX0_picksUnder 30 = .ok (.iload_n 2, 1) := by decide +kernel
theorem dX0_picksUnder_31 : decode cX0_picksUnder 31 = .ok (.ireturn, 1) := by decide +kernel
theorem dX0_firstLike_0 : decode cX0_firstLike 0 = .ok (.aload_n 0, 1) := by decide +kernel
theorem dX0_firstLike_1 : decode cX0_firstLike 1 = .ok (.iload_n 1, 1) := by decide +kernel
theorem dX0_firstLike_2 : decode cX0_firstLike 2 = .ok (.iload_n 2, 1) := by decide +kernel
theorem dX0_firstLike_3 : decode cX0_firstLike 3 = .ok (.invokevirtual 40, 3) := by decide +kernel
theorem dX0_firstLike_6 : decode cX0_firstLike 6 = .ok (.istore_n 3, 1) := by decide +kernel
theorem dX0_firstLike_7 : decode cX0_firstLike 7 = .ok (.iconst 0, 1) := by decide +kernel
theorem dX0_firstLike_8 : decode cX0_firstLike 8 = .ok (.istore 4, 2) := by decide +kernel
theorem dX0_firstLike_10 : decode cX0_firstLike 10 = .ok (.iload 4, 2) := by decide +kernel
theorem dX0_firstLike_12 : decode cX0_firstLike 12 = .ok (.iload_n 2, 1) := by decide +kernel
theorem dX0_firstLike_13 : decode cX0_firstLike 13 = .ok (.if_icmp .ge 23, 3) := by decide +kernel
theorem dX0_firstLike_16 : decode cX0_firstLike 16 = .ok (.aload_n 0, 1) := by decide +kernel
theorem dX0_firstLike_17 : decode cX0_firstLike 17 = .ok (.iload_n 1, 1) := by decide +kernel
theorem dX0_firstLike_18 : decode cX0_firstLike 18 = .ok (.iload 4, 2) := by decide +kernel
theorem dX0_firstLike_20 : decode cX0_firstLike 20 = .ok (.invokevirtual 40, 3) := by decide +kernel
theorem dX0_firstLike_23 : decode cX0_firstLike 23 = .ok (.iload_n 3, 1) := by decide +kernel
theorem dX0_firstLike_24 : decode cX0_firstLike 24 = .ok (.if_icmp .ne 6, 3) := by decide +kernel
theorem dX0_firstLike_27 : decode cX0_firstLike 27 = .ok (.iload 4, 2) := by decide +kernel
theorem dX0_firstLike_29 : decode cX0_firstLike 29 = .ok (.ireturn, 1) := by decide +kernel
theorem dX0_firstLike_30 : decode cX0_firstLike 30 = .ok (.iinc 4 1, 3) := by decide +kernel
theorem dX0_firstLike_33 : decode cX0_firstLike 33 = .ok (.goto (-23), 3) := by decide +kernel
theorem dX0_firstLike_36 : decode cX0_firstLike 36 = .ok (.iload_n 2, 1) := by decide +kernel
theorem dX0_firstLike_37 : decode cX0_firstLike 37 = .ok (.ireturn, 1) := by decide +kernel
theorem dX0_leastShift_0 : decode cX0_leastShift 0 = .ok (.aload_n 0, 1) := by decide +kernel
theorem dX0_leastShift_1 : decode cX0_leastShift 1 = .ok (.iload_n 1, 1) := by decide +kernel
theorem dX0_leastShift_2 : decode cX0_leastShift 2 = .ok (.invokevirtual 44, 3) := by decide +kernel
theorem dX0_leastShift_5 : decode cX0_leastShift 5 = .ok (.istore_n 2, 1) := by decide +kernel
theorem dX0_leastShift_6 : decode cX0_leastShift 6 = .ok (.iconst 1, 1) := by decide +kernel
theorem dX0_leastShift_7 : decode cX0_leastShift 7 = .ok (.istore_n 3, 1) := by decide +kernel
theorem dX0_leastShift_8 : decode cX0_leastShift 8 = .ok (.iload_n 3, 1) := by decide +kernel
theorem dX0_leastShift_9 : decode cX0_leastShift 9 = .ok (.iload_n 2, 1) := by decide +kernel
theorem dX0_leastShift_10 : decode cX0_leastShift 10 = .ok (.if_icmp .ge 20, 3) := by decide +kernel
theorem dX0_leastShift_13 : decode cX0_leastShift 13 = .ok (.aload_n 0, 1) := by decide +kernel
theorem dX0_leastShift_14 : decode cX0_leastShift 14 = .ok (.iload_n 1, 1) := by decide +kernel
theorem dX0_leastShift_15 : decode cX0_leastShift 15 = .ok (.iload_n 3, 1) := by decide +kernel
theorem dX0_leastShift_16 : decode cX0_leastShift 16 = .ok (.invokevirtual 48, 3) := by decide +kernel
theorem dX0_leastShift_19 : decode cX0_leastShift 19 = .ok (.ifCond .eq 5, 3) := by decide +kernel
theorem dX0_leastShift_22 : decode cX0_leastShift 22 = .ok (.iload_n 3, 1) := by decide +kernel
theorem dX0_leastShift_23 : decode cX0_leastShift 23 = .ok (.ireturn, 1) := by decide +kernel
theorem dX0_leastShift_24 : decode cX0_leastShift 24 = .ok (.iinc 3 1, 3) := by decide +kernel
theorem dX0_leastShift_27 : decode cX0_leastShift 27 = .ok (.goto (-19), 3) := by decide +kernel
theorem dX0_leastShift_30 : decode cX0_leastShift 30 = .ok (.iload_n 2, 1) := by decide +kernel
theorem dX0_leastShift_31 : decode cX0_leastShift 31 = .ok (.ireturn, 1) := by decide +kernel
theorem dX0_repeatsAfter_0 : decode cX0_repeatsAfter 0 = .ok (.aload_n 0, 1) := by decide +kernel
theorem dX0_repeatsAfter_1 : decode cX0_repeatsAfter 1 = .ok (.iload_n 1, 1) := by decide +kernel
theorem dX0_repeatsAfter_2 : decode cX0_repeatsAfter 2 = .ok (.invokevirtual 44, 3) := by decide +kernel
theorem dX0_repeatsAfter_5 : decode cX0_repeatsAfter 5 = .ok (.istore_n 3, 1) := by decide +kernel
theorem dX0_repeatsAfter_6 : decode cX0_repeatsAfter 6 = .ok (.iconst 0, 1) := by decide +kernel
theorem dX0_repeatsAfter_7 : decode cX0_repeatsAfter 7 = .ok (.istore 4, 2) := by decide +kernel
theorem dX0_repeatsAfter_9 : decode cX0_repeatsAfter 9 = .ok (.iload 4, 2) := by decide +kernel
theorem dX0_repeatsAfter_11 : decode cX0_repeatsAfter 11 = .ok (.iload_n 2, 1) := by decide +kernel
theorem dX0_repeatsAfter_12 : decode cX0_repeatsAfter 12 = .ok (.iadd, 1) := by decide +kernel
theorem dX0_repeatsAfter_13 : decode cX0_repeatsAfter 13 = .ok (.iload_n 3, 1) := by decide +kernel
theorem dX0_repeatsAfter_14 : decode cX0_repeatsAfter 14 = .ok (.if_icmp .ge 30, 3) := by decide +kernel
theorem dX0_repeatsAfter_17 : decode cX0_repeatsAfter 17 = .ok (.aload_n 0, 1) := by decide +kernel
theorem dX0_repeatsAfter_18 : decode cX0_repeatsAfter 18 = .ok (.iload_n 1, 1) := by decide +kernel
theorem dX0_repeatsAfter_19 : decode cX0_repeatsAfter 19 = .ok (.iload 4, 2) := by decide +kernel
theorem dX0_repeatsAfter_21 : decode cX0_repeatsAfter 21 = .ok (.invokevirtual 40, 3) := by decide +kernel
theorem dX0_repeatsAfter_24 : decode cX0_repeatsAfter 24 = .ok (.aload_n 0, 1) := by decide +kernel
theorem dX0_repeatsAfter_25 : decode cX0_repeatsAfter 25 = .ok (.iload_n 1, 1) := by decide +kernel
theorem dX0_repeatsAfter_26 : decode cX0_repeatsAfter 26 = .ok (.iload 4, 2) := by decide +kernel
theorem dX0_repeatsAfter_28 : decode cX0_repeatsAfter 28 = .ok (.iload_n 2, 1) := by decide +kernel
theorem dX0_repeatsAfter_29 : decode cX0_repeatsAfter 29 = .ok (.iadd, 1) := by decide +kernel
theorem dX0_repeatsAfter_30 : decode cX0_repeatsAfter 30 = .ok (.invokevirtual 40, 3) := by decide +kernel
theorem dX0_repeatsAfter_33 : decode cX0_repeatsAfter 33 = .ok (.if_icmp .eq 5, 3) := by decide +kernel
theorem dX0_repeatsAfter_36 : decode cX0_repeatsAfter 36 = .ok (.iconst 0, 1) := by decide +kernel
theorem dX0_repeatsAfter_37 : decode cX0_repeatsAfter 37 = .ok (.ireturn, 1) := by decide +kernel
theorem dX0_repeatsAfter_38 : decode cX0_repeatsAfter 38 = .ok (.iinc 4 1, 3) := by decide +kernel
theorem dX0_repeatsAfter_41 : decode cX0_repeatsAfter 41 = .ok (.goto (-32), 3) := by decide +kernel
theorem dX0_repeatsAfter_44 : decode cX0_repeatsAfter 44 = .ok (.iconst 1, 1) := by decide +kernel
theorem dX0_repeatsAfter_45 : decode cX0_repeatsAfter 45 = .ok (.ireturn, 1) := by decide +kernel
theorem dX1_init_0 : decode cX1_init 0 = .ok (.aload_n 0, 1) := by decide +kernel
theorem dX1_init_1 : decode cX1_init 1 = .ok (.invokespecial 3, 3) := by decide +kernel
theorem dX1_init_4 : decode cX1_init 4 = .ok (.aload_n 0, 1) := by decide +kernel
theorem dX1_init_5 : decode cX1_init 5 = .ok (.bipush 60, 2) := by decide +kernel
theorem dX1_init_7 : decode cX1_init 7 = .ok (.newarray .long, 2) := by decide +kernel
theorem dX1_init_9 : decode cX1_init 9 = .ok (.putfield 9, 3) := by decide +kernel
theorem dX1_init_12 : decode cX1_init 12 = .ok (.aload_n 0, 1) := by decide +kernel
theorem dX1_init_13 : decode cX1_init 13 = .ok (.bipush 60, 2) := by decide +kernel
theorem dX1_init_15 : decode cX1_init 15 = .ok (.newarray .int, 2) := by decide +kernel
theorem dX1_init_17 : decode cX1_init 17 = .ok (.putfield 15, 3) := by decide +kernel
theorem dX1_init_20 : decode cX1_init 20 = .ok (.return_, 1) := by decide +kernel
theorem dX1_sort_0 : decode cX1_sort 0 = .ok (.aload_n 0, 1) := by decide +kernel
theorem dX1_sort_1 : decode cX1_sort 1 = .ok (.aload_n 1, 1) := by decide +kernel
theorem dX1_sort_2 : decode cX1_sort 2 = .ok (.getfield 19, 3) := by decide +kernel
theorem dX1_sort_5 : decode cX1_sort 5 = .ok (.aload_n 1, 1) := by decide +kernel
theorem dX1_sort_6 : decode cX1_sort 6 = .ok (.getfield 25, 3) := by decide +kernel
theorem dX1_sort_9 : decode cX1_sort 9 = .ok (.iadd, 1) := by decide +kernel
theorem dX1_sort_10 : decode cX1_sort 10 = .ok (.putfield 28, 3) := by decide +kernel
theorem dX1_sort_13 : decode cX1_sort 13 = .ok (.aload_n 0, 1) := by decide +kernel
theorem dX1_sort_14 : decode cX1_sort 14 = .ok (.aload_n 1, 1) := by decide +kernel
theorem dX1_sort_15 : decode cX1_sort 15 = .ok (.invokevirtual 31, 3) := by decide +kernel
theorem dX1_sort_18 : decode cX1_sort 18 = .ok (.aload_n 0, 1) := by decide +kernel
theorem dX1_sort_19 : decode cX1_sort 19 = .ok (.invokevirtual 35, 3) := by decide +kernel
theorem dX1_sort_22 : decode cX1_sort 22 = .ok (.aload_n 0, 1) := by decide +kernel
theorem dX1_sort_23 : decode cX1_sort 23 = .ok (.invokevirtual 38, 3) := by decide +kernel
theorem dX1_sort_26 : decode cX1_sort 26 = .ok (.ireturn, 1) := by decide +kernel
theorem dX1_layDirectly_0 : decode cX1_layDirectly 0 = .ok (.lconst 1, 1) := by decide +kernel
theorem dX1_layDirectly_1 : decode cX1_layDirectly 1 = .ok (.aload_n 1, 1) := by decide +kernel
theorem dX1_layDirectly_2 : decode cX1_layDirectly 2 = .ok (.getfield 19, 3) := by decide +kernel
theorem dX1_layDirectly_5 : decode cX1_layDirectly 5 = .ok (.lshl, 1) := by decide +kernel
theorem dX1_layDirectly_6 : decode cX1_layDirectly 6 = .ok (.lconst 1, 1) := by decide +kernel
theorem dX1_layDirectly_7 : decode cX1_layDirectly 7 = .ok (.lsub, 1) := by decide +kernel
theorem dX1_layDirectly_8 : decode cX1_layDirectly 8 = .ok (.lstore_n 2, 1) := by decide +kernel
theorem dX1_layDirectly_9 : decode cX1_layDirectly 9 = .ok (.iconst 0, 1) := by decide +kernel
theorem dX1_layDirectly_10 : decode cX1_layDirectly 10 = .ok (.istore 4, 2) := by decide +kernel
theorem dX1_layDirectly_12 : decode cX1_layDirectly 12 = .ok (.iload 4, 2) := by decide +kernel
theorem dX1_layDirectly_14 : decode cX1_layDirectly 14 = .ok (.aload_n 1, 1) := by decide +kernel
theorem dX1_layDirectly_15 : decode cX1_layDirectly 15 = .ok (.getfield 19, 3) := by decide +kernel
theorem dX1_layDirectly_18 : decode cX1_layDirectly 18 = .ok (.if_icmp .ge 34, 3) := by decide +kernel
theorem dX1_layDirectly_21 : decode cX1_layDirectly 21 = .ok (.aload_n 0, 1) := by decide +kernel
theorem dX1_layDirectly_22 : decode cX1_layDirectly 22 = .ok (.getfield 9, 3) := by decide +kernel
theorem dX1_layDirectly_25 : decode cX1_layDirectly 25 = .ok (.iload 4, 2) := by decide +kernel
theorem dX1_layDirectly_27 : decode cX1_layDirectly 27 = .ok (.lconst 1, 1) := by decide +kernel
theorem dX1_layDirectly_28 : decode cX1_layDirectly 28 = .ok (.iload 4, 2) := by decide +kernel
theorem dX1_layDirectly_30 : decode cX1_layDirectly 30 = .ok (.lshl, 1) := by decide +kernel
theorem dX1_layDirectly_31 : decode cX1_layDirectly 31 = .ok (.aload_n 1, 1) := by decide +kernel
theorem dX1_layDirectly_32 : decode cX1_layDirectly 32 = .ok (.iconst 0, 1) := by decide +kernel
theorem dX1_layDirectly_33 : decode cX1_layDirectly 33 = .ok (.iload 4, 2) := by decide +kernel
theorem dX1_layDirectly_35 : decode cX1_layDirectly 35 = .ok (.invokevirtual 42, 3) := by decide +kernel
theorem dX1_layDirectly_38 : decode cX1_layDirectly 38 = .ok (.i2l, 1) := by decide +kernel
theorem dX1_layDirectly_39 : decode cX1_layDirectly 39 = .ok (.aload_n 1, 1) := by decide +kernel
theorem dX1_layDirectly_40 : decode cX1_layDirectly 40 = .ok (.getfield 19, 3) := by decide +kernel
theorem dX1_layDirectly_43 : decode cX1_layDirectly 43 = .ok (.lshl, 1) := by decide +kernel
theorem dX1_layDirectly_44 : decode cX1_layDirectly 44 = .ok (.lor, 1) := by decide +kernel
theorem dX1_layDirectly_45 : decode cX1_layDirectly 45 = .ok (.lastore, 1) := by decide +kernel
theorem dX1_layDirectly_46 : decode cX1_layDirectly 46 = .ok (.iinc 4 1, 3) := by decide +kernel
theorem dX1_layDirectly_49 : decode cX1_layDirectly 49 = .ok (.goto (-37), 3) := by decide +kernel
theorem dX1_layDirectly_52 : decode cX1_layDirectly 52 = .ok (.iconst 0, 1) := by decide +kernel
theorem dX1_layDirectly_53 : decode cX1_layDirectly 53 = .ok (.istore 4, 2) := by decide +kernel
theorem dX1_layDirectly_55 : decode cX1_layDirectly 55 = .ok (.iload 4, 2) := by decide +kernel
theorem dX1_layDirectly_57 : decode cX1_layDirectly 57 = .ok (.aload_n 1, 1) := by decide +kernel
theorem dX1_layDirectly_58 : decode cX1_layDirectly 58 = .ok (.getfield 25, 3) := by decide +kernel
theorem dX1_layDirectly_61 : decode cX1_layDirectly 61 = .ok (.if_icmp .ge 42, 3) := by decide +kernel
theorem dX1_layDirectly_64 : decode cX1_layDirectly 64 = .ok (.aload_n 1, 1) := by decide +kernel
theorem dX1_layDirectly_65 : decode cX1_layDirectly 65 = .ok (.getfield 19, 3) := by decide +kernel
theorem dX1_layDirectly_68 : decode cX1_layDirectly 68 = .ok (.iload 4, 2) := by decide +kernel
theorem dX1_layDirectly_70 : decode cX1_layDirectly 70 = .ok (.iadd, 1) := by decide +kernel
theorem dX1_layDirectly_71 : decode cX1_layDirectly 71 = .ok (.istore 5, 2) := by decide +kernel
theorem dX1_layDirectly_73 : decode cX1_layDirectly 73 = .ok (.aload_n 0, 1) := by decide +kernel
theorem dX1_layDirectly_74 : decode cX1_layDirectly 74 = .ok (.getfield 9, 3) := by decide +kernel
theorem dX1_layDirectly_77 : decode cX1_layDirectly 77 = .ok (.iload 5, 2) := by decide +kernel
theorem dX1_layDirectly_79 : decode cX1_layDirectly 79 = .ok (.lconst 1, 1) := by decide +kernel
theorem dX1_layDirectly_80 : decode cX1_layDirectly 80 = .ok (.iload 5, 2) := by decide +kernel
theorem dX1_layDirectly_82 : decode cX1_layDirectly 82 = .ok (.lshl, 1) := by decide +kernel
theorem dX1_layDirectly_83 : decode cX1_layDirectly 83 = .ok (.lload_n 2, 1) := by decide +kernel
theorem dX1_layDirectly_84 : decode cX1_layDirectly 84 = .ok (.aload_n 1, 1) := by decide +kernel
theorem dX1_layDirectly_85 : decode cX1_layDirectly 85 = .ok (.iconst 1, 1) := by decide +kernel
theorem dX1_layDirectly_86 : decode cX1_layDirectly 86 = .ok (.iload 4, 2) := by decide +kernel
theorem dX1_layDirectly_88 : decode cX1_layDirectly 88 = .ok (.invokevirtual 42, 3) := by decide +kernel
theorem dX1_layDirectly_91 : decode cX1_layDirectly 91 = .ok (.iconst (-1), 1) := by decide +kernel
theorem dX1_layDirectly_92 : decode cX1_layDirectly 92 = .ok (.ixor, 1) := by decide +kernel
theorem dX1_layDirectly_93 : decode cX1_layDirectly 93 = .ok (.i2l, 1) := by decide +kernel
theorem dX1_layDirectly_94 : decode cX1_layDirectly 94 = .ok (.land, 1) := by decide +kernel
theorem dX1_layDirectly_95 : decode cX1_layDirectly 95 = .ok (.lor, 1) := by decide +kernel
theorem dX1_layDirectly_96 : decode cX1_layDirectly 96 = .ok (.lastore, 1) := by decide +kernel
theorem dX1_layDirectly_97 : decode cX1_layDirectly 97 = .ok (.iinc 4 1, 3) := by decide +kernel
theorem dX1_layDirectly_100 : decode cX1_layDirectly 100 = .ok (.goto (-45), 3) := by decide +kernel
theorem dX1_layDirectly_103 : decode cX1_layDirectly 103 = .ok (.return_, 1) := by decide +kernel
theorem dX1_followOthers_0 : decode cX1_followOthers 0 = .ok (.iconst 0, 1) := by decide +kernel
theorem dX1_followOthers_1 : decode cX1_followOthers 1 = .ok (.istore_n 1, 1) := by decide +kernel
theorem dX1_followOthers_2 : decode cX1_followOthers 2 = .ok (.iload_n 1, 1) := by decide +kernel
theorem dX1_followOthers_3 : decode cX1_followOthers 3 = .ok (.aload_n 0, 1) := by decide +kernel
theorem dX1_followOthers_4 : decode cX1_followOthers 4 = .ok (.getfield 28, 3) := by decide +kernel
theorem dX1_followOthers_7 : decode cX1_followOthers 7 = .ok (.if_icmp .ge 53, 3) := by decide +kernel
theorem dX1_followOthers_10 : decode cX1_followOthers 10 = .ok (.iconst 0, 1) := by decide +kernel
theorem dX1_followOthers_11 : decode cX1_followOthers 11 = .ok (.istore_n 2, 1) := by decide +kernel
theorem dX1_followOthers_12 : decode cX1_followOthers 12 = .ok (.iload_n 2, 1) := by decide +kernel
theorem dX1_followOthers_13 : decode cX1_followOthers 13 = .ok (.aload_n 0, 1) := by decide +kernel
theorem dX1_followOthers_14 : decode cX1_followOthers 14 = .ok (.getfield 28, 3) := by decide +kernel
theorem dX1_followOthers_17 : decode cX1_followOthers 17 = .ok (.if_icmp .ge 37, 3) := by decide +kernel
theorem dX1_followOthers_20 : decode cX1_followOthers 20 = .ok (.aload_n 0, 1) := by decide +kernel
theorem dX1_followOthers_21 : decode cX1_followOthers 21 = .ok (.getfield 9, 3) := by decide +kernel
theorem dX1_followOthers_24 : decode cX1_followOthers 24 = .ok (.iload_n 2, 1) := by decide +kernel
theorem dX1_followOthers_25 : decode cX1_followOthers 25 = .ok (.laload, 1) := by decide +kernel
theorem dX1_followOthers_26 : decode cX1_followOthers 26 = .ok (.iload_n 1, 1) := by decide +kernel
theorem dX1_followOthers_27 : decode cX1_followOthers 27 = .ok (.invokestatic 46, 3) := by decide +kernel
theorem dX1_followOthers_30 : decode cX1_followOthers 30 = .ok (.ifCond .eq 18, 3) := by decide +kernel
theorem dX1_followOthers_33 : decode cX1_followOthers 33 = .ok (.aload_n 0, 1) := by decide +kernel
theorem dX1_followOthers_34 : decode cX1_followOthers 34 = .ok (.getfield 9, 3) := by decide +kernel
theorem dX1_followOthers_37 : decode cX1_followOthers 37 = .ok (.iload_n 2, 1) := by decide +kernel
theorem dX1_followOthers_38 : decode cX1_followOthers 38 = .ok (.dup2, 1) := by decide +kernel
theorem dX1_followOthers_39 : decode cX1_followOthers 39 = .ok (.laload, 1) := by decide +kernel
theorem dX1_followOthers_40 : decode cX1_followOthers 40 = .ok (.aload_n 0, 1) := by decide +kernel
theorem dX1_followOthers_41 : decode cX1_followOthers 41 = .ok (.getfield 9, 3) := by decide +kernel
theorem dX1_followOthers_44 : decode cX1_followOthers 44 = .ok (.iload_n 1, 1) := by decide +kernel
theorem dX1_followOthers_45 : decode cX1_followOthers 45 = .ok (.laload, 1) := by decide +kernel
theorem dX1_followOthers_46 : decode cX1_followOthers 46 = .ok (.lor, 1) := by decide +kernel
theorem dX1_followOthers_47 : decode cX1_followOthers 47 = .ok (.lastore, 1) := by decide +kernel
theorem dX1_followOthers_48 : decode cX1_followOthers 48 = .ok (.iinc 2 1, 3) := by decide +kernel
theorem dX1_followOthers_51 : decode cX1_followOthers 51 = .ok (.goto (-39), 3) := by decide +kernel
theorem dX1_followOthers_54 : decode cX1_followOthers 54 = .ok (.iinc 1 1, 3) := by decide +kernel
theorem dX1_followOthers_57 : decode cX1_followOthers 57 = .ok (.goto (-55), 3) := by decide +kernel
theorem dX1_followOthers_60 : decode cX1_followOthers 60 = .ok (.return_, 1) := by decide +kernel
theorem dX1_numberFromBottom_0 : decode cX1_numberFromBottom 0 = .ok (.lconst 1, 1) := by decide +kernel
theorem dX1_numberFromBottom_1 : decode cX1_numberFromBottom 1 = .ok (.aload_n 0, 1) := by decide +kernel
theorem dX1_numberFromBottom_2 : decode cX1_numberFromBottom 2 = .ok (.getfield 28, 3) := by decide +kernel
theorem dX1_numberFromBottom_5 : decode cX1_numberFromBottom 5 = .ok (.lshl, 1) := by decide +kernel
theorem dX1_numberFromBottom_6 : decode cX1_numberFromBottom 6 = .ok (.lconst 1, 1) := by decide +kernel
theorem dX1_numberFromBottom_7 : decode cX1_numberFromBottom 7 = .ok (.lsub, 1) := by decide +kernel
theorem dX1_numberFromBottom_8 : decode cX1_numberFromBottom 8 = .ok (.lstore_n 1, 1) := by decide +kernel
theorem dX1_numberFromBottom_9 : decode cX1_numberFromBottom 9 = .ok (.iconst 0, 1) := by decide +kernel
theorem dX1_numberFromBottom_10 : decode cX1_numberFromBottom 10 = .ok (.istore_n 3, 1) := by decide +kernel
theorem dX1_numberFromBottom_11 : decode cX1_numberFromBottom 11 = .ok (.lload_n 1, 1) := by decide +kernel
theorem dX1_numberFromBottom_12 : decode cX1_numberFromBottom 12 = .ok (.lconst 0, 1) := by decide +kernel
theorem dX1_numberFromBottom_13 : decode cX1_numberFromBottom 13 = .ok (.lcmp, 1) := by decide +kernel
theorem dX1_numberFromBottom_14 : decode cX1_numberFromBottom 14 = .ok (.ifCond .eq 76, 3) := by decide +kernel
theorem dX1_numberFromBottom_17 : decode cX1_numberFromBottom 17 = .ok (.iload_n 3, 1) := by decide +kernel
theorem dX1_numberFromBottom_18 : decode cX1_numberFromBottom 18 = .ok (.aload_n 0, 1) := by decide +kernel
theorem dX1_numberFromBottom_19 : decode cX1_numberFromBottom 19 = .ok (.getfield 28, 3) := by decide +kernel
theorem dX1_numberFromBottom_22 : decode cX1_numberFromBottom 22 = .ok (.if_icmp .ge 68, 3) := by decide +kernel
theorem dX1_numberFromBottom_25 : decode cX1_numberFromBottom 25 = .ok (.aload_n 0, 1) := by decide +kernel
theorem dX1_numberFromBottom_26 : decode cX1_numberFromBottom 26 = .ok (.getfield 9, 3) := by decide +kernel
theorem dX1_numberFromBottom_29 : decode cX1_numberFromBottom 29 = .ok (.aload_n 0, 1) := by decide +kernel
theorem dX1_numberFromBottom_30 : decode cX1_numberFromBottom 30 = .ok (.lload_n 1, 1) := by decide +kernel
theorem dX1_numberFromBottom_31 : decode cX1_numberFromBottom 31 = .ok (.invokevirtual 50, 3) := by decide +kernel
theorem dX1_numberFromBottom_34 : decode cX1_numberFromBottom 34 = .ok (.laload, 1) := by decide +kernel
theorem dX1_numberFromBottom_35 : decode cX1_numberFromBottom 35 = .ok (.lload_n 1, 1) := by decide +kernel
theorem dX1_numberFromBottom_36 : decode cX1_numberFromBottom 36 = .ok (.land, 1) := by decide +kernel
theorem dX1_numberFromBottom_37 : decode cX1_numberFromBottom 37 = .ok (.lstore 4, 2) := by decide +kernel
theorem dX1_numberFromBottom_39 : decode cX1_numberFromBottom 39 = .ok (.iconst 0, 1) := by decide +kernel
theorem dX1_numberFromBottom_40 : decode cX1_numberFromBottom 40 = .ok (.istore 6, 2) := by decide +kernel
theorem dX1_numberFromBottom_42 : decode cX1_numberFromBottom 42 = .ok (.iload 6, 2) := by decide +kernel
theorem dX1_numberFromBottom_44 : decode cX1_numberFromBottom 44 = .ok (.aload_n 0, 1) := by decide +kernel
theorem dX1_numberFromBottom_45 : decode cX1_numberFromBottom 45 = .ok (.getfield 28, 3) := by decide +kernel
theorem dX1_numberFromBottom_48 : decode cX1_numberFromBottom 48 = .ok (.if_icmp .ge 27, 3) := by decide +kernel
theorem dX1_numberFromBottom_51 : decode cX1_numberFromBottom 51 = .ok (.lload 4, 2) := by decide +kernel
theorem dX1_numberFromBottom_53 : decode cX1_numberFromBottom 53 = .ok (.iload 6, 2) := by decide +kernel
theorem dX1_numberFromBottom_55 : decode cX1_numberFromBottom 55 = .ok (.invokestatic 46, 3) := by decide +kernel
theorem dX1_numberFromBottom_58 : decode cX1_numberFromBottom 58 = .ok (.ifCond .eq 11, 3) := by decide +kernel
theorem dX1_numberFromBottom_61 : decode cX1_numberFromBottom 61 = .ok (.aload_n 0, 1) := by decide +kernel
theorem dX1_numberFromBottom_62 : decode cX1_numberFromBottom 62 = .ok (.getfield 15, 3) := by decide +kernel
theorem dX1_numberFromBottom_65 : decode cX1_numberFromBottom 65 = .ok (.iload 6, 2) := by decide +kernel
theorem dX1_numberFromBottom_67 : decode cX1_numberFromBottom 67 = .ok (.iload_n 3, 1) := by decide +kernel
theorem dX1_numberFromBottom_68 : decode cX1_numberFromBottom 68 = .ok (.iastore, 1) := by decide +kernel
theorem dX1_numberFromBottom_69 : decode cX1_numberFromBottom 69 = .ok (.iinc 6 1, 3) := by decide +kernel
theorem dX1_numberFromBottom_72 : decode cX1_numberFromBottom 72 = .ok (.goto (-30), 3) := by decide +kernel
theorem dX1_numberFromBottom_75 : decode cX1_numberFromBottom 75 = .ok (.lload_n 1, 1) := by decide +kernel
theorem dX1_numberFromBottom_76 : decode cX1_numberFromBottom 76 = .ok (.lload 4, 2) := by decide +kernel
theorem dX1_numberFromBottom_78 : decode cX1_numberFromBottom 78 = .ok (.ldc2_w 54, 3) := by decide +kernel
theorem dX1_numberFromBottom_81 : decode cX1_numberFromBottom 81 = .ok (.lxor, 1) := by decide +kernel
theorem dX1_numberFromBottom_82 : decode cX1_numberFromBottom 82 = .ok (.land, 1) := by decide +kernel
theorem dX1_numberFromBottom_83 : decode cX1_numberFromBottom 83 = .ok (.lstore_n 1, 1) := by decide +kernel
theorem dX1_numberFromBottom_84 : decode cX1_numberFromBottom 84 = .ok (.iinc 3 1, 3) := by decide +kernel
theorem dX1_numberFromBottom_87 : decode cX1_numberFromBottom 87 = .ok (.goto (-76), 3) := by decide +kernel
theorem dX1_numberFromBottom_90 : decode cX1_numberFromBottom 90 = .ok (.iload_n 3, 1) := by decide +kernel
theorem dX1_numberFromBottom_91 : decode cX1_numberFromBottom 91 = .ok (.ireturn, 1) := by decide +kernel
theorem dX1_lowestFree_0 : decode cX1_lowestFree 0 = .ok (.iconst 0, 1) := by decide +kernel
theorem dX1_lowestFree_1 : decode cX1_lowestFree 1 = .ok (.istore_n 3, 1) := by decide +kernel
theorem dX1_lowestFree_2 : decode cX1_lowestFree 2 = .ok (.iload_n 3, 1) := by decide +kernel
theorem dX1_lowestFree_3 : decode cX1_lowestFree 3 = .ok (.aload_n 0, 1) := by decide +kernel
theorem dX1_lowestFree_4 : decode cX1_lowestFree 4 = .ok (.getfield 28, 3) := by decide +kernel
theorem dX1_lowestFree_7 : decode cX1_lowestFree 7 = .ok (.if_icmp .ge 28, 3) := by decide +kernel
theorem dX1_lowestFree_10 : decode cX1_lowestFree 10 = .ok (.lload_n 1, 1) := by decide +kernel
theorem dX1_lowestFree_11 : decode cX1_lowestFree 11 = .ok (.iload_n 3, 1) := by decide +kernel
theorem dX1_lowestFree_12 : decode cX1_lowestFree 12 = .ok (.invokestatic 46, 3) := by decide +kernel
theorem dX1_lowestFree_15 : decode cX1_lowestFree 15 = .ok (.ifCond .eq 14, 3) := by decide +kernel
theorem dX1_lowestFree_18 : decode cX1_lowestFree 18 = .ok (.aload_n 0, 1) := by decide +kernel
theorem dX1_lowestFree_19 : decode cX1_lowestFree 19 = .ok (.iload_n 3, 1) := by decide +kernel
theorem dX1_lowestFree_20 : decode cX1_lowestFree 20 = .ok (.lload_n 1, 1) := by decide +kernel
theorem dX1_lowestFree_21 : decode cX1_lowestFree 21 = .ok (.invokevirtual 56, 3) := by decide +kernel
theorem dX1_lowestFree_24 : decode cX1_lowestFree 24 = .ok (.ifCond .eq 5, 3) := by decide +kernel
theorem dX1_lowestFree_27 : decode cX1_lowestFree 27 = .ok (.iload_n 3, 1) := by decide +kernel
theorem dX1_lowestFree_28 : decode cX1_lowestFree 28 = .ok (.ireturn, 1) := by decide +kernel
theorem dX1_lowestFree_29 : decode cX1_lowestFree 29 = .ok (.iinc 3 1, 3) := by decide +kernel
theorem dX1_lowestFree_32 : decode cX1_lowestFree 32 = .ok (.goto (-30), 3) := by decide +kernel
theorem dX1_lowestFree_35 : decode cX1_lowestFree 35 = .ok (.iconst 0, 1) := by decide +kernel
theorem dX1_lowestFree_36 : decode cX1_lowestFree 36 = .ok (.ireturn, 1) := by decide +kernel
theorem dX1_isFree_0 : decode cX1_isFree 0 = .ok (.aload_n 0, 1) := by decide +kernel
theorem dX1_isFree_1 : decode cX1_isFree 1 = .ok (.getfield 9, 3) := by decide +kernel
theorem dX1_isFree_4 : decode cX1_isFree 4 = .ok (.iload_n 1, 1) := by decide +kernel
theorem dX1_isFree_5 : decode cX1_isFree 5 = .ok (.laload, 1) := by decide +kernel
theorem dX1_isFree_6 : decode cX1_isFree 6 = .ok (.lload_n 2, 1) := by decide +kernel
theorem dX1_isFree_7 : decode cX1_isFree 7 = .ok (.land, 1) := by decide +kernel
theorem dX1_isFree_8 : decode cX1_isFree 8 = .ok (.lstore 4, 2) := by decide +kernel
theorem dX1_isFree_10 : decode cX1_isFree 10 = .ok (.iconst 0, 1) := by decide +kernel
theorem dX1_isFree_11 : decode cX1_isFree 11 = .ok (.istore 6, 2) := by decide +kernel
theorem dX1_isFree_13 : decode cX1_isFree 13 = .ok (.iload 6, 2) := by decide +kernel
theorem dX1_isFree_15 : decode cX1_isFree 15 = .ok (.aload_n 0, 1) := by decide +kernel
theorem dX1_isFree_16 : decode cX1_isFree 16 = .ok (.getfield 28, 3) := by decide +kernel
theorem dX1_isFree_19 : decode cX1_isFree 19 = .ok (.if_icmp .ge 35, 3) := by decide +kernel
theorem dX1_isFree_22 : decode cX1_isFree 22 = .ok (.lload 4, 2) := by decide +kernel
theorem dX1_isFree_24 : decode cX1_isFree 24 = .ok (.iload 6, 2) := by decide +kernel
theorem dX1_isFree_26 : decode cX1_isFree 26 = .ok (.invokestatic 46, 3) := by decide +kernel
theorem dX1_isFree_29 : decode cX1_isFree 29 = .ok (.ifCond .eq 19, 3) := by decide +kernel
theorem dX1_isFree_32 : decode cX1_isFree 32 = .ok (.aload_n 0, 1) := by decide +kernel
theorem dX1_isFree_33 : decode cX1_isFree 33 = .ok (.getfield 9, 3) := by decide +kernel
theorem dX1_isFree_36 : decode cX1_isFree 36 = .ok (.iload 6, 2) := by decide +kernel
theorem dX1_isFree_38 : decode cX1_isFree 38 = .ok (.laload, 1) := by decide +kernel
theorem dX1_isFree_39 : decode cX1_isFree 39 = .ok (.iload_n 1, 1) := by decide +kernel
theorem dX1_isFree_40 : decode cX1_isFree 40 = .ok (.invokestatic 46, 3) := by decide +kernel
theorem dX1_isFree_43 : decode cX1_isFree 43 = .ok (.ifCond .ne 5, 3) := by decide +kernel
theorem dX1_isFree_46 : decode cX1_isFree 46 = .ok (.iconst 0, 1) := by decide +kernel
theorem dX1_isFree_47 : decode cX1_isFree 47 = .ok (.ireturn, 1) := by decide +kernel
theorem dX1_isFree_48 : decode cX1_isFree 48 = .ok (.iinc 6 1, 3) := by decide +kernel
theorem dX1_isFree_51 : decode cX1_isFree 51 = .ok (.goto (-38), 3) := by decide +kernel
theorem dX1_isFree_54 : decode cX1_isFree 54 = .ok (.iconst 1, 1) := by decide +kernel
theorem dX1_isFree_55 : decode cX1_isFree 55 = .ok (.ireturn, 1) := by decide +kernel
theorem dX1_holds_0 : decode cX1_holds 0 = .ok (.lload_n 0, 1) := by decide +kernel
theorem dX1_holds_1 : decode cX1_holds 1 = .ok (.iload_n 2, 1) := by decide +kernel
theorem dX1_holds_2 : decode cX1_holds 2 = .ok (.lushr, 1) := by decide +kernel
theorem dX1_holds_3 : decode cX1_holds 3 = .ok (.lconst 1, 1) := by decide +kernel
theorem dX1_holds_4 : decode cX1_holds 4 = .ok (.land, 1) := by decide +kernel
theorem dX1_holds_5 : decode cX1_holds 5 = .ok (.lconst 1, 1) := by decide +kernel
theorem dX1_holds_6 : decode cX1_holds 6 = .ok (.lcmp, 1) := by decide +kernel
theorem dX1_holds_7 : decode cX1_holds 7 = .ok (.ifCond .ne 7, 3) := by decide +kernel
theorem dX1_holds_10 : decode cX1_holds 10 = .ok (.iconst 1, 1) := by decide +kernel
theorem dX1_holds_11 : decode cX1_holds 11 = .ok (.goto 4, 3) := by decide +kernel
theorem dX1_holds_14 : decode cX1_holds 14 = .ok (.iconst 0, 1) := by decide +kernel
theorem dX1_holds_15 : decode cX1_holds 15 = .ok (.ireturn, 1) := by decide +kernel
theorem dX2_init_0 : decode cX2_init 0 = .ok (.aload_n 0, 1) := by decide +kernel
theorem dX2_init_1 : decode cX2_init 1 = .ok (.invokespecial 3, 3) := by decide +kernel
theorem dX2_init_4 : decode cX2_init 4 = .ok (.aload_n 0, 1) := by decide +kernel
theorem dX2_init_5 : decode cX2_init 5 = .ok (.bipush 30, 2) := by decide +kernel
theorem dX2_init_7 : decode cX2_init 7 = .ok (.newarray .int, 2) := by decide +kernel
theorem dX2_init_9 : decode cX2_init 9 = .ok (.putfield 9, 3) := by decide +kernel
theorem dX2_init_12 : decode cX2_init 12 = .ok (.return_, 1) := by decide +kernel
theorem dX2_kindOrNone_0 : decode cX2_kindOrNone 0 = .ok (.iload_n 1, 1) := by decide +kernel
theorem dX2_kindOrNone_1 : decode cX2_kindOrNone 1 = .ok (.ifCond .lt 20, 3) := by decide +kernel
theorem dX2_kindOrNone_4 : decode cX2_kindOrNone 4 = .ok (.iload_n 1, 1) := by decide +kernel
theorem dX2_kindOrNone_5 : decode cX2_kindOrNone 5 = .ok (.aload_n 0, 1) := by decide +kernel
theorem dX2_kindOrNone_6 : decode cX2_kindOrNone 6 = .ok (.getfield 15, 3) := by decide +kernel
theorem dX2_kindOrNone_9 : decode cX2_kindOrNone 9 = .ok (.if_icmp .ge 12, 3) := by decide +kernel
theorem dX2_kindOrNone_12 : decode cX2_kindOrNone 12 = .ok (.aload_n 0, 1) := by decide +kernel
theorem dX2_kindOrNone_13 : decode cX2_kindOrNone 13 = .ok (.getfield 9, 3) := by decide +kernel
theorem dX2_kindOrNone_16 : decode cX2_kindOrNone 16 = .ok (.iload_n 1, 1) := by decide +kernel
theorem dX2_kindOrNone_17 : decode cX2_kindOrNone 17 = .ok (.iaload, 1) := by decide +kernel
theorem dX2_kindOrNone_18 : decode cX2_kindOrNone 18 = .ok (.goto 4, 3) := by decide +kernel
theorem dX2_kindOrNone_21 : decode cX2_kindOrNone 21 = .ok (.iconst (-1), 1) := by decide +kernel
theorem dX2_kindOrNone_22 : decode cX2_kindOrNone 22 = .ok (.ireturn, 1) := by decide +kernel
theorem dX2_append_0 : decode cX2_append 0 = .ok (.aload_n 0, 1) := by decide +kernel
theorem dX2_append_1 : decode cX2_append 1 = .ok (.getfield 15, 3) := by decide +kernel
theorem dX2_append_4 : decode cX2_append 4 = .ok (.bipush 30, 2) := by decide +kernel
theorem dX2_append_6 : decode cX2_append 6 = .ok (.if_icmp .ge 23, 3) := by decide +kernel
theorem dX2_append_9 : decode cX2_append 9 = .ok (.aload_n 0, 1) := by decide +kernel
theorem dX2_append_10 : decode cX2_append 10 = .ok (.getfield 9, 3) := by decide +kernel
theorem dX2_append_13 : decode cX2_append 13 = .ok (.aload_n 0, 1) := by decide +kernel
theorem dX2_append_14 : decode cX2_append 14 = .ok (.getfield 15, 3) := by decide +kernel
theorem dX2_append_17 : decode cX2_append 17 = .ok (.iload_n 1, 1) := by decide +kernel
theorem dX2_append_18 : decode cX2_append 18 = .ok (.iastore, 1) := by decide +kernel
theorem dX2_append_19 : decode cX2_append 19 = .ok (.aload_n 0, 1) := by decide +kernel
theorem dX2_append_20 : decode cX2_append 20 = .ok (.dup, 1) := by decide +kernel
theorem dX2_append_21 : decode cX2_append 21 = .ok (.getfield 15, 3) := by decide +kernel
theorem dX2_append_24 : decode cX2_append 24 = .ok (.iconst 1, 1) := by decide +kernel
theorem dX2_append_25 : decode cX2_append 25 = .ok (.iadd, 1) := by decide +kernel
theorem dX2_append_26 : decode cX2_append 26 = .ok (.putfield 15, 3) := by decide +kernel
theorem dX2_append_29 : decode cX2_append 29 = .ok (.return_, 1) := by decide +kernel
theorem dX2_appendRepeated_0 : decode cX2_appendRepeated 0 = .ok (.iconst 0, 1) := by decide +kernel
theorem dX2_appendRepeated_1 : decode cX2_appendRepeated 1 = .ok (.istore_n 3, 1) := by decide +kernel
theorem dX2_appendRepeated_2 : decode cX2_appendRepeated 2 = .ok (.iload_n 3, 1) := by decide +kernel
theorem dX2_appendRepeated_3 : decode cX2_appendRepeated 3 = .ok (.iload_n 2, 1) := by decide +kernel
theorem dX2_appendRepeated_4 : decode cX2_appendRepeated 4 = .ok (.if_icmp .ge 24, 3) := by decide +kernel
theorem dX2_appendRepeated_7 : decode cX2_appendRepeated 7 = .ok (.aload_n 0, 1) := by decide +kernel
theorem dX2_appendRepeated_8 : decode cX2_appendRepeated 8 = .ok (.aload_n 0, 1) := by decide +kernel
theorem dX2_appendRepeated_9 : decode cX2_appendRepeated 9 = .ok (.getfield 9, 3) := by decide +kernel
theorem dX2_appendRepeated_12 : decode cX2_appendRepeated 12 = .ok (.aload_n 0, 1) := by decide +kernel
theorem dX2_appendRepeated_13 : decode cX2_appendRepeated 13 = .ok (.getfield 15, 3) := by decide +kernel
theorem dX2_appendRepeated_16 : decode cX2_appendRepeated 16 = .ok (.iload_n 1, 1) := by decide +kernel
theorem dX2_appendRepeated_17 : decode cX2_appendRepeated 17 = .ok (.isub, 1) := by decide +kernel
theorem dX2_appendRepeated_18 : decode cX2_appendRepeated 18 = .ok (.iaload, 1) := by decide +kernel
theorem dX2_appendRepeated_19 : decode cX2_appendRepeated 19 = .ok (.invokevirtual 19, 3) := by decide +kernel
theorem dX2_appendRepeated_22 : decode cX2_appendRepeated 22 = .ok (.iinc 3 1, 3) := by decide +kernel
theorem dX2_appendRepeated_25 : decode cX2_appendRepeated 25 = .ok (.goto (-23), 3) := by decide +kernel
theorem dX2_appendRepeated_28 : decode cX2_appendRepeated 28 = .ok (.return_, 1) := by decide +kernel
theorem dX2_appendTurned_0 : decode cX2_appendTurned 0 = .ok (.aload_n 0, 1) := by decide +kernel
theorem dX2_appendTurned_1 : decode cX2_appendTurned 1 = .ok (.getfield 15, 3) := by decide +kernel
theorem dX2_appendTurned_4 : decode cX2_appendTurned 4 = .ok (.iconst 1, 1) := by decide +kernel
theorem dX2_appendTurned_5 : decode cX2_appendTurned 5 = .ok (.isub, 1) := by decide +kernel
theorem dX2_appendTurned_6 : decode cX2_appendTurned 6 = .ok (.istore_n 2, 1) := by decide +kernel
theorem dX2_appendTurned_7 : decode cX2_appendTurned 7 = .ok (.iconst 1, 1) := by decide +kernel
theorem dX2_appendTurned_8 : decode cX2_appendTurned 8 = .ok (.istore_n 3, 1) := by decide +kernel
theorem dX2_appendTurned_9 : decode cX2_appendTurned 9 = .ok (.iload_n 3, 1) := by decide +kernel
theorem dX2_appendTurned_10 : decode cX2_appendTurned 10 = .ok (.iload_n 1, 1) := by decide +kernel
theorem dX2_appendTurned_11 : decode cX2_appendTurned 11 = .ok (.if_icmp .ge 21, 3) := by decide +kernel
theorem dX2_appendTurned_14 : decode cX2_appendTurned 14 = .ok (.aload_n 0, 1) := by decide +kernel
theorem dX2_appendTurned_15 : decode cX2_appendTurned 15 = .ok (.aload_n 0, 1) := by decide +kernel
theorem dX2_appendTurned_16 : decode cX2_appendTurned 16 = .ok (.getfield 9, 3) := by decide +kernel
theorem dX2_appendTurned_19 : decode cX2_appendTurned 19 = .ok (.iload_n 2, 1) := by decide +kernel
theorem dX2_appendTurned_20 : decode cX2_appendTurned 20 = .ok (.iload_n 3, 1) := by decide +kernel
theorem dX2_appendTurned_21 : decode cX2_appendTurned 21 = .ok (.isub, 1) := by decide +kernel
theorem dX2_appendTurned_22 : decode cX2_appendTurned 22 = .ok (.iaload, 1) := by decide +kernel
theorem dX2_appendTurned_23 : decode cX2_appendTurned 23 = .ok (.invokevirtual 19, 3) := by decide +kernel
theorem dX2_appendTurned_26 : decode cX2_appendTurned 26 = .ok (.iinc 3 1, 3) := by decide +kernel
theorem dX2_appendTurned_29 : decode cX2_appendTurned 29 = .ok (.goto (-20), 3) := by decide +kernel
theorem dX2_appendTurned_32 : decode cX2_appendTurned 32 = .ok (.return_, 1) := by decide +kernel
theorem dX2_copyFrom_0 : decode cX2_copyFrom 0 = .ok (.aload_n 1, 1) := by decide +kernel
theorem dX2_copyFrom_1 : decode cX2_copyFrom 1 = .ok (.getfield 9, 3) := by decide +kernel
theorem dX2_copyFrom_4 : decode cX2_copyFrom 4 = .ok (.iconst 0, 1) := by decide +kernel
theorem dX2_copyFrom_5 : decode cX2_copyFrom 5 = .ok (.aload_n 0, 1) := by decide +kernel
theorem dX2_copyFrom_6 : decode cX2_copyFrom 6 = .ok (.getfield 9, 3) := by decide +kernel
theorem dX2_copyFrom_9 : decode cX2_copyFrom 9 = .ok (.iconst 0, 1) := by decide +kernel
theorem dX2_copyFrom_10 : decode cX2_copyFrom 10 = .ok (.aload_n 1, 1) := by decide +kernel
theorem dX2_copyFrom_11 : decode cX2_copyFrom 11 = .ok (.getfield 15, 3) := by decide +kernel
theorem dX2_copyFrom_14 : decode cX2_copyFrom 14 = .ok (.invokestatic 23, 3) := by decide +kernel
theorem dX2_copyFrom_17 : decode cX2_copyFrom 17 = .ok (.aload_n 0, 1) := by decide +kernel
theorem dX2_copyFrom_18 : decode cX2_copyFrom 18 = .ok (.aload_n 1, 1) := by decide +kernel
theorem dX2_copyFrom_19 : decode cX2_copyFrom 19 = .ok (.getfield 15, 3) := by decide +kernel
theorem dX2_copyFrom_22 : decode cX2_copyFrom 22 = .ok (.putfield 15, 3) := by decide +kernel
theorem dX2_copyFrom_25 : decode cX2_copyFrom 25 = .ok (.return_, 1) := by decide +kernel
theorem dX2_numberLines_0 : decode cX2_numberLines 0 = .ok (.aload_n 0, 1) := by decide +kernel
theorem dX2_numberLines_1 : decode cX2_numberLines 1 = .ok (.aload_n 1, 1) := by decide +kernel
theorem dX2_numberLines_2 : decode cX2_numberLines 2 = .ok (.iload_n 2, 1) := by decide +kernel
theorem dX2_numberLines_3 : decode cX2_numberLines 3 = .ok (.invokevirtual 29, 3) := by decide +kernel
theorem dX2_numberLines_6 : decode cX2_numberLines 6 = .ok (.putfield 15, 3) := by decide +kernel
theorem dX2_numberLines_9 : decode cX2_numberLines 9 = .ok (.iconst 0, 1) := by decide +kernel
theorem dX2_numberLines_10 : decode cX2_numberLines 10 = .ok (.istore_n 3, 1) := by decide +kernel
theorem dX2_numberLines_11 : decode cX2_numberLines 11 = .ok (.iconst 0, 1) := by decide +kernel
theorem dX2_numberLines_12 : decode cX2_numberLines 12 = .ok (.istore 4, 2) := by decide +kernel
theorem dX2_numberLines_14 : decode cX2_numberLines 14 = .ok (.iload 4, 2) := by decide +kernel
theorem dX2_numberLines_16 : decode cX2_numberLines 16 = .ok (.aload_n 0, 1) := by decide +kernel
theorem dX2_numberLines_17 : decode cX2_numberLines 17 = .ok (.getfield 15, 3) := by decide +kernel
theorem dX2_numberLines_20 : decode cX2_numberLines 20 = .ok (.if_icmp .ge 53, 3) := by decide +kernel
theorem dX2_numberLines_23 : decode cX2_numberLines 23 = .ok (.aload_n 1, 1) := by decide +kernel
theorem dX2_numberLines_24 : decode cX2_numberLines 24 = .ok (.iload_n 2, 1) := by decide +kernel
theorem dX2_numberLines_25 : decode cX2_numberLines 25 = .ok (.iload 4, 2) := by decide +kernel
theorem dX2_numberLines_27 : decode cX2_numberLines 27 = .ok (.invokevirtual 35, 3) := by decide +kernel
theorem dX2_numberLines_30 : decode cX2_numberLines 30 = .ok (.istore 5, 2) := by decide +kernel
theorem dX2_numberLines_32 : decode cX2_numberLines 32 = .ok (.iload 5, 2) := by decide +kernel
theorem dX2_numberLines_34 : decode cX2_numberLines 34 = .ok (.iload 4, 2) := by decide +kernel
theorem dX2_numberLines_36 : decode cX2_numberLines 36 = .ok (.if_icmp .ge 20, 3) := by decide +kernel
theorem dX2_numberLines_39 : decode cX2_numberLines 39 = .ok (.aload_n 0, 1) := by decide +kernel
theorem dX2_numberLines_40 : decode cX2_numberLines 40 = .ok (.getfield 9, 3) := by decide +kernel
theorem dX2_numberLines_43 : decode cX2_numberLines 43 = .ok (.iload 4, 2) := by decide +kernel
theorem dX2_numberLines_45 : decode cX2_numberLines 45 = .ok (.aload_n 0, 1) := by decide +kernel
theorem dX2_numberLines_46 : decode cX2_numberLines 46 = .ok (.getfield 9, 3) := by decide +kernel
theorem dX2_numberLines_49 : decode cX2_numberLines 49 = .ok (.iload 5, 2) := by decide +kernel
theorem dX2_numberLines_51 : decode cX2_numberLines 51 = .ok (.iaload, 1) := by decide +kernel
theorem dX2_numberLines_52 : decode cX2_numberLines 52 = .ok (.iastore, 1) := by decide +kernel
theorem dX2_numberLines_53 : decode cX2_numberLines 53 = .ok (.goto 14, 3) := by decide +kernel
theorem dX2_numberLines_56 : decode cX2_numberLines 56 = .ok (.aload_n 0, 1) := by decide +kernel
theorem dX2_numberLines_57 : decode cX2_numberLines 57 = .ok (.getfield 9, 3) := by decide +kernel
theorem dX2_numberLines_60 : decode cX2_numberLines 60 = .ok (.iload 4, 2) := by decide +kernel
theorem dX2_numberLines_62 : decode cX2_numberLines 62 = .ok (.iload_n 3, 1) := by decide +kernel
theorem dX2_numberLines_63 : decode cX2_numberLines 63 = .ok (.iastore, 1) := by decide +kernel
theorem dX2_numberLines_64 : decode cX2_numberLines 64 = .ok (.iinc 3 1, 3) := by decide +kernel
theorem dX2_numberLines_67 : decode cX2_numberLines 67 = .ok (.iinc 4 1, 3) := by decide +kernel
theorem dX2_numberLines_70 : decode cX2_numberLines 70 = .ok (.goto (-56), 3) := by decide +kernel
theorem dX2_numberLines_73 : decode cX2_numberLines 73 = .ok (.iload_n 3, 1) := by decide +kernel
theorem dX2_numberLines_74 : decode cX2_numberLines 74 = .ok (.ireturn, 1) := by decide +kernel
theorem dX3_init_0 : decode cX3_init 0 = .ok (.aload_n 0, 1) := by decide +kernel
theorem dX3_init_1 : decode cX3_init 1 = .ok (.invokespecial 1, 3) := by decide +kernel
theorem dX3_init_4 : decode cX3_init 4 = .ok (.aload_n 0, 1) := by decide +kernel
theorem dX3_init_5 : decode cX3_init 5 = .ok (.new 7, 3) := by decide +kernel
theorem dX3_init_8 : decode cX3_init 8 = .ok (.dup, 1) := by decide +kernel
theorem dX3_init_9 : decode cX3_init 9 = .ok (.invokespecial 9, 3) := by decide +kernel
theorem dX3_init_12 : decode cX3_init 12 = .ok (.putfield 10, 3) := by decide +kernel
theorem dX3_init_15 : decode cX3_init 15 = .ok (.aload_n 0, 1) := by decide +kernel
theorem dX3_init_16 : decode cX3_init 16 = .ok (.new 7, 3) := by decide +kernel
theorem dX3_init_19 : decode cX3_init 19 = .ok (.dup, 1) := by decide +kernel
theorem dX3_init_20 : decode cX3_init 20 = .ok (.invokespecial 9, 3) := by decide +kernel
theorem dX3_init_23 : decode cX3_init 23 = .ok (.putfield 16, 3) := by decide +kernel
theorem dX3_init_26 : decode cX3_init 26 = .ok (.aload_n 0, 1) := by decide +kernel
theorem dX3_init_27 : decode cX3_init 27 = .ok (.bipush 12, 2) := by decide +kernel
theorem dX3_init_29 : decode cX3_init 29 = .ok (.newarray .int, 2) := by decide +kernel
theorem dX3_init_31 : decode cX3_init 31 = .ok (.putfield 19, 3) := by decide +kernel
theorem dX3_init_34 : decode cX3_init 34 = .ok (.aload_n 0, 1) := by decide +kernel
theorem dX3_init_35 : decode cX3_init 35 = .ok (.bipush 30, 2) := by decide +kernel
theorem dX3_init_37 : decode cX3_init 37 = .ok (.newarray .int, 2) := by decide +kernel
theorem dX3_init_39 : decode cX3_init 39 = .ok (.putfield 23, 3) := by decide +kernel
theorem dX3_init_42 : decode cX3_init 42 = .ok (.aload_n 0, 1) := by decide +kernel
theorem dX3_init_43 : decode cX3_init 43 = .ok (.bipush 30, 2) := by decide +kernel
theorem dX3_init_45 : decode cX3_init 45 = .ok (.newarray .int, 2) := by decide +kernel
theorem dX3_init_47 : decode cX3_init 47 = .ok (.putfield 26, 3) := by decide +kernel
theorem dX3_init_50 : decode cX3_init 50 = .ok (.aload_n 0, 1) := by decide +kernel
theorem dX3_init_51 : decode cX3_init 51 = .ok (.new 29, 3) := by decide +kernel
theorem dX3_init_54 : decode cX3_init 54 = .ok (.dup, 1) := by decide +kernel
theorem dX3_init_55 : decode cX3_init 55 = .ok (.invokespecial 31, 3) := by decide +kernel
theorem dX3_init_58 : decode cX3_init 58 = .ok (.putfield 32, 3) := by decide +kernel
theorem dX3_init_61 : decode cX3_init 61 = .ok (.aload_n 0, 1) := by decide +kernel
theorem dX3_init_62 : decode cX3_init 62 = .ok (.new 36, 3) := by decide +kernel
theorem dX3_init_65 : decode cX3_init 65 = .ok (.dup, 1) := by decide +kernel
theorem dX3_init_66 : decode cX3_init 66 = .ok (.invokespecial 38, 3) := by decide +kernel
theorem dX3_init_69 : decode cX3_init 69 = .ok (.putfield 39, 3) := by decide +kernel
theorem dX3_init_72 : decode cX3_init 72 = .ok (.aload_n 0, 1) := by decide +kernel
theorem dX3_init_73 : decode cX3_init 73 = .ok (.new 29, 3) := by decide +kernel
theorem dX3_init_76 : decode cX3_init 76 = .ok (.dup, 1) := by decide +kernel
theorem dX3_init_77 : decode cX3_init 77 = .ok (.invokespecial 31, 3) := by decide +kernel
theorem dX3_init_80 : decode cX3_init 80 = .ok (.putfield 43, 3) := by decide +kernel
theorem dX3_init_83 : decode cX3_init 83 = .ok (.aload_n 0, 1) := by decide +kernel
theorem dX3_init_84 : decode cX3_init 84 = .ok (.new 7, 3) := by decide +kernel
theorem dX3_init_87 : decode cX3_init 87 = .ok (.dup, 1) := by decide +kernel
theorem dX3_init_88 : decode cX3_init 88 = .ok (.invokespecial 9, 3) := by decide +kernel
theorem dX3_init_91 : decode cX3_init 91 = .ok (.putfield 46, 3) := by decide +kernel
theorem dX3_init_94 : decode cX3_init 94 = .ok (.aload_n 0, 1) := by decide +kernel
theorem dX3_init_95 : decode cX3_init 95 = .ok (.new 7, 3) := by decide +kernel
theorem dX3_init_98 : decode cX3_init 98 = .ok (.dup, 1) := by decide +kernel
theorem dX3_init_99 : decode cX3_init 99 = .ok (.invokespecial 9, 3) := by decide +kernel
theorem dX3_init_102 : decode cX3_init 102 = .ok (.putfield 49, 3) := by decide +kernel
theorem dX3_init_105 : decode cX3_init 105 = .ok (.aload_n 0, 1) := by decide +kernel
theorem dX3_init_106 : decode cX3_init 106 = .ok (.getfield 43, 3) := by decide +kernel
theorem dX3_init_109 : decode cX3_init 109 = .ok (.iconst 1, 1) := by decide +kernel
theorem dX3_init_110 : decode cX3_init 110 = .ok (.iconst 1, 1) := by decide +kernel
theorem dX3_init_111 : decode cX3_init 111 = .ok (.invokevirtual 52, 3) := by decide +kernel
theorem dX3_init_114 : decode cX3_init 114 = .ok (.return_, 1) := by decide +kernel
theorem dX3_run_0 : decode cX3_run 0 = .ok (.iload_n 2, 1) := by decide +kernel
theorem dX3_run_1 : decode cX3_run 1 = .ok (.invokestatic 56, 3) := by decide +kernel
theorem dX3_run_4 : decode cX3_run 4 = .ok (.ifCond .eq 10, 3) := by decide +kernel
theorem dX3_run_7 : decode cX3_run 7 = .ok (.iload_n 3, 1) := by decide +kernel
theorem dX3_run_8 : decode cX3_run 8 = .ok (.invokestatic 56, 3) := by decide +kernel
theorem dX3_run_11 : decode cX3_run 11 = .ok (.ifCond .ne 13, 3) := by decide +kernel
theorem dX3_run_14 : decode cX3_run 14 = .ok (.new 60, 3) := by decide +kernel
theorem dX3_run_17 : decode cX3_run 17 = .ok (.dup, 1) := by decide +kernel
theorem dX3_run_18 : decode cX3_run 18 = .ok (.ldc 62, 2) := by decide +kernel
theorem dX3_run_20 : decode cX3_run 20 = .ok (.invokespecial 64, 3) := by decide +kernel
theorem dX3_run_23 : decode cX3_run 23 = .ok (.athrow, 1) := by decide +kernel
theorem dX3_run_24 : decode cX3_run 24 = .ok (.iload_n 3, 1) := by decide +kernel
theorem dX3_run_25 : decode cX3_run 25 = .ok (.iload_n 2, 1) := by decide +kernel
theorem dX3_run_26 : decode cX3_run 26 = .ok (.isub, 1) := by decide +kernel
theorem dX3_run_27 : decode cX3_run 27 = .ok (.invokestatic 67, 3) := by decide +kernel
theorem dX3_run_30 : decode cX3_run 30 = .ok (.istore 4, 2) := by decide +kernel
theorem dX3_run_32 : decode cX3_run 32 = .ok (.aload_n 0, 1) := by decide +kernel
theorem dX3_run_33 : decode cX3_run 33 = .ok (.iload_n 1, 1) := by decide +kernel
theorem dX3_run_34 : decode cX3_run 34 = .ok (.iload 4, 2) := by decide +kernel
theorem dX3_run_36 : decode cX3_run 36 = .ok (.iconst 1, 1) := by decide +kernel
theorem dX3_run_37 : decode cX3_run 37 = .ok (.iadd, 1) := by decide +kernel
theorem dX3_run_38 : decode cX3_run 38 = .ok (.i2l, 1) := by decide +kernel
theorem dX3_run_39 : decode cX3_run 39 = .ok (.invokevirtual 73, 3) := by decide +kernel
theorem dX3_run_42 : decode cX3_run 42 = .ok (.aload_n 0, 1) := by decide +kernel
theorem dX3_run_43 : decode cX3_run 43 = .ok (.iload_n 1, 1) := by decide +kernel
theorem dX3_run_44 : decode cX3_run 44 = .ok (.invokevirtual 77, 3) := by decide +kernel
theorem dX3_run_47 : decode cX3_run 47 = .ok (.astore 5, 2) := by decide +kernel
theorem dX3_run_49 : decode cX3_run 49 = .ok (.iload_n 2, 1) := by decide +kernel
theorem dX3_run_50 : decode cX3_run 50 = .ok (.iload_n 3, 1) := by decide +kernel
theorem dX3_run_51 : decode cX3_run 51 = .ok (.if_icmp .gt 7, 3) := by decide +kernel
theorem dX3_run_54 : decode cX3_run 54 = .ok (.iconst 1, 1) := by decide +kernel
theorem dX3_run_55 : decode cX3_run 55 = .ok (.goto 4, 3) := by decide +kernel
theorem dX3_run_58 : decode cX3_run 58 = .ok (.iconst (-1), 1) := by decide +kernel
theorem dX3_run_59 : decode cX3_run 59 = .ok (.istore 6, 2) := by decide +kernel
theorem dX3_run_61 : decode cX3_run 61 = .ok (.iconst 0, 1) := by decide +kernel
theorem dX3_run_62 : decode cX3_run 62 = .ok (.istore 7, 2) := by decide +kernel
theorem dX3_run_64 : decode cX3_run 64 = .ok (.iload 7, 2) := by decide +kernel
theorem dX3_run_66 : decode cX3_run 66 = .ok (.iload 4, 2) := by decide +kernel
theorem dX3_run_68 : decode cX3_run 68 = .ok (.if_icmp .gt 21, 3) := by decide +kernel
theorem dX3_run_71 : decode cX3_run 71 = .ok (.aload 5, 2) := by decide +kernel
theorem dX3_run_73 : decode cX3_run 73 = .ok (.iload_n 2, 1) := by decide +kernel
theorem dX3_run_74 : decode cX3_run 74 = .ok (.iload 7, 2) := by decide +kernel
theorem dX3_run_76 : decode cX3_run 76 = .ok (.iload 6, 2) := by decide +kernel
theorem dX3_run_78 : decode cX3_run 78 = .ok (.imul, 1) := by decide +kernel
theorem dX3_run_79 : decode cX3_run 79 = .ok (.iadd, 1) := by decide +kernel
theorem dX3_run_80 : decode cX3_run 80 = .ok (.invokevirtual 81, 3) := by decide +kernel
theorem dX3_run_83 : decode cX3_run 83 = .ok (.iinc 7 1, 3) := by decide +kernel
theorem dX3_run_86 : decode cX3_run 86 = .ok (.goto (-22), 3) := by decide +kernel
theorem dX3_run_89 : decode cX3_run 89 = .ok (.aload 5, 2) := by decide +kernel
theorem dX3_run_91 : decode cX3_run 91 = .ok (.getfield 85, 3) := by decide +kernel
theorem dX3_run_94 : decode cX3_run 94 = .ok (.ireturn, 1) := by decide +kernel
theorem dX3_again_0 : decode cX3_again 0 = .ok (.aload_n 0, 1) := by decide +kernel
theorem dX3_again_1 : decode cX3_again 1 = .ok (.iload_n 1, 1) := by decide +kernel
theorem dX3_again_2 : decode cX3_again 2 = .ok (.invokevirtual 77, 3) := by decide +kernel
theorem dX3_again_5 : decode cX3_again 5 = .ok (.astore 5, 2) := by decide +kernel
theorem dX3_again_7 : decode cX3_again 7 = .ok (.iload_n 2, 1) := by decide +kernel
theorem dX3_again_8 : decode cX3_again 8 = .ok (.iconst 1, 1) := by decide +kernel
theorem dX3_again_9 : decode cX3_again 9 = .ok (.if_icmp .lt 12, 3) := by decide +kernel
theorem dX3_again_12 : decode cX3_again 12 = .ok (.iload_n 2, 1) := by decide +kernel
theorem dX3_again_13 : decode cX3_again 13 = .ok (.aload 5, 2) := by decide +kernel
theorem dX3_again_15 : decode cX3_again 15 = .ok (.getfield 85, 3) := by decide +kernel
theorem dX3_again_18 : decode cX3_again 18 = .ok (.if_icmp .le 13, 3) := by decide +kernel
theorem dX3_again_21 : decode cX3_again 21 = .ok (.new 60, 3) := by decide +kernel
theorem dX3_again_24 : decode cX3_again 24 = .ok (.dup, 1) := by decide +kernel
theorem dX3_again_25 : decode cX3_again 25 = .ok (.ldc 89, 2) := by decide +kernel
theorem dX3_again_27 : decode cX3_again 27 = .ok (.invokespecial 64, 3) := by decide +kernel
theorem dX3_again_30 : decode cX3_again 30 = .ok (.athrow, 1) := by decide +kernel
theorem dX3_again_31 : decode cX3_again 31 = .ok (.iload 4, 2) := by decide +kernel
theorem dX3_again_33 : decode cX3_again 33 = .ok (.ifCond .ne 17, 3) := by decide +kernel
theorem dX3_again_36 : decode cX3_again 36 = .ok (.iload_n 3, 1) := by decide +kernel
theorem dX3_again_37 : decode cX3_again 37 = .ok (.ifCond .ge 13, 3) := by decide +kernel
theorem dX3_again_40 : decode cX3_again 40 = .ok (.new 60, 3) := by decide +kernel
theorem dX3_again_43 : decode cX3_again 43 = .ok (.dup, 1) := by decide +kernel
theorem dX3_again_44 : decode cX3_again 44 = .ok (.ldc 91, 2) := by decide +kernel
theorem dX3_again_46 : decode cX3_again 46 = .ok (.invokespecial 64, 3) := by decide +kernel
theorem dX3_again_49 : decode cX3_again 49 = .ok (.athrow, 1) := by decide +kernel
theorem dX3_again_50 : decode cX3_again 50 = .ok (.iload 4, 2) := by decide +kernel
theorem dX3_again_52 : decode cX3_again 52 = .ok (.ifCond .eq 10, 3) := by decide +kernel
theorem dX3_again_55 : decode cX3_again 55 = .ok (.iload_n 2, 1) := by decide +kernel
theorem dX3_again_56 : decode cX3_again 56 = .ok (.iconst 1, 1) := by decide +kernel
theorem dX3_again_57 : decode cX3_again 57 = .ok (.isub, 1) := by decide +kernel
theorem dX3_again_58 : decode cX3_again 58 = .ok (.i2l, 1) := by decide +kernel
theorem dX3_again_59 : decode cX3_again 59 = .ok (.goto 8, 3) := by decide +kernel
theorem dX3_again_62 : decode cX3_again 62 = .ok (.iload_n 2, 1) := by decide +kernel
theorem dX3_again_63 : decode cX3_again 63 = .ok (.i2l, 1) := by decide +kernel
theorem dX3_again_64 : decode cX3_again 64 = .ok (.iload_n 3, 1) := by decide +kernel
theorem dX3_again_65 : decode cX3_again 65 = .ok (.i2l, 1) := by decide +kernel
theorem dX3_again_66 : decode cX3_again 66 = .ok (.lmul, 1) := by decide +kernel
theorem dX3_again_67 : decode cX3_again 67 = .ok (.lstore 6, 2) := by decide +kernel
theorem dX3_again_69 : decode cX3_again 69 = .ok (.aload_n 0, 1) := by decide +kernel
theorem dX3_again_70 : decode cX3_again 70 = .ok (.iload_n 1, 1) := by decide +kernel
theorem dX3_again_71 : decode cX3_again 71 = .ok (.lload 6, 2) := by decide +kernel
theorem dX3_again_73 : decode cX3_again 73 = .ok (.invokevirtual 73, 3) := by decide +kernel
theorem dX3_again_76 : decode cX3_again 76 = .ok (.iload 4, 2) := by decide +kernel
theorem dX3_again_78 : decode cX3_again 78 = .ok (.ifCond .eq 12, 3) := by decide +kernel
theorem dX3_again_81 : decode cX3_again 81 = .ok (.aload 5, 2) := by decide +kernel
theorem dX3_again_83 : decode cX3_again 83 = .ok (.iload_n 2, 1) := by decide +kernel
theorem dX3_again_84 : decode cX3_again 84 = .ok (.invokevirtual 93, 3) := by decide +kernel
theorem dX3_again_87 : decode cX3_again 87 = .ok (.goto 12, 3) := by decide +kernel
theorem dX3_again_90 : decode cX3_again 90 = .ok (.aload 5, 2) := by decide +kernel
theorem dX3_again_92 : decode cX3_again 92 = .ok (.iload_n 2, 1) := by decide +kernel
theorem dX3_again_93 : decode cX3_again 93 = .ok (.lload 6, 2) := by decide +kernel
theorem dX3_again_95 : decode cX3_again 95 = .ok (.l2i, 1) := by decide +kernel
theorem dX3_again_96 : decode cX3_again 96 = .ok (.invokevirtual 96, 3) := by decide +kernel
theorem dX3_again_99 : decode cX3_again 99 = .ok (.aload 5, 2) := by decide +kernel
theorem dX3_again_101 : decode cX3_again 101 = .ok (.getfield 85, 3) := by decide +kernel
theorem dX3_again_104 : decode cX3_again 104 = .ok (.ireturn, 1) := by decide +kernel
theorem dX3_clear_0 : decode cX3_clear 0 = .ok (.iload_n 1, 1) := by decide +kernel
theorem dX3_clear_1 : decode cX3_clear 1 = .ok (.ifCond .eq 23, 3) := by decide +kernel
theorem dX3_clear_4 : decode cX3_clear 4 = .ok (.aload_n 0, 1) := by decide +kernel
theorem dX3_clear_5 : decode cX3_clear 5 = .ok (.getfield 32, 3) := by decide +kernel
theorem dX3_clear_8 : decode cX3_clear 8 = .ok (.getfield 99, 3) := by decide +kernel
theorem dX3_clear_11 : decode cX3_clear 11 = .ok (.ifCond .le 13, 3) := by decide +kernel
theorem dX3_clear_14 : decode cX3_clear 14 = .ok (.new 102, 3) := by decide +kernel
theorem dX3_clear_17 : decode cX3_clear 17 = .ok (.dup, 1) := by decide +kernel
theorem dX3_clear_18 : decode cX3_clear 18 = .ok (.ldc 104, 2) := by decide +kernel
theorem dX3_clear_20 : decode cX3_clear 20 = .ok (.invokespecial 106, 3) := by decide +kernel
theorem dX3_clear_23 : decode cX3_clear 23 = .ok (.athrow, 1) := by decide +kernel
theorem dX3_clear_24 : decode cX3_clear 24 = .ok (.aload_n 0, 1) := by decide +kernel
theorem dX3_clear_25 : decode cX3_clear 25 = .ok (.iload_n 1, 1) := by decide +kernel
theorem dX3_clear_26 : decode cX3_clear 26 = .ok (.invokevirtual 77, 3) := by decide +kernel
theorem dX3_clear_29 : decode cX3_clear 29 = .ok (.astore_n 2, 1) := by decide +kernel
theorem dX3_clear_30 : decode cX3_clear 30 = .ok (.aload_n 2, 1) := by decide +kernel
theorem dX3_clear_31 : decode cX3_clear 31 = .ok (.iload_n 1, 1) := by decide +kernel
theorem dX3_clear_32 : decode cX3_clear 32 = .ok (.ifCond .eq 7, 3) := by decide +kernel
theorem dX3_clear_35 : decode cX3_clear 35 = .ok (.iconst 0, 1) := by decide +kernel
theorem dX3_clear_36 : decode cX3_clear 36 = .ok (.goto 10, 3) := by decide +kernel
theorem dX3_clear_39 : decode cX3_clear 39 = .ok (.aload_n 0, 1) := by decide +kernel
theorem dX3_clear_40 : decode cX3_clear 40 = .ok (.getfield 32, 3) := by decide +kernel
theorem dX3_clear_43 : decode cX3_clear 43 = .ok (.getfield 99, 3) := by decide +kernel
theorem dX3_clear_46 : decode cX3_clear 46 = .ok (.putfield 85, 3) := by decide +kernel
theorem dX3_clear_49 : decode cX3_clear 49 = .ok (.aload_n 2, 1) := by decide +kernel
theorem dX3_clear_50 : decode cX3_clear 50 = .ok (.getfield 85, 3) := by decide +kernel
theorem dX3_clear_53 : decode cX3_clear 53 = .ok (.ireturn, 1) := by decide +kernel
theorem dX3_tie_0 : decode cX3_tie 0 = .ok (.iload_n 1, 1) := by decide +kernel
theorem dX3_tie_1 : decode cX3_tie 1 = .ok (.invokestatic 56, 3) := by decide +kernel
theorem dX3_tie_4 : decode cX3_tie 4 = .ok (.ifCond .eq 10, 3) := by decide +kernel
theorem dX3_tie_7 : decode cX3_tie 7 = .ok (.iload_n 2, 1) := by decide +kernel
theorem dX3_tie_8 : decode cX3_tie 8 = .ok (.invokestatic 56, 3) := by decide +kernel
theorem dX3_tie_11 : decode cX3_tie 11 = .ok (.ifCond .ne 13, 3) := by decide +kernel
theorem dX3_tie_14 : decode cX3_tie 14 = .ok (.new 60, 3) := by decide +kernel
theorem dX3_tie_17 : decode cX3_tie 17 = .ok (.dup, 1) := by decide +kernel
theorem dX3_tie_18 : decode cX3_tie 18 = .ok (.ldc 62, 2) := by decide +kernel
theorem dX3_tie_20 : decode cX3_tie 20 = .ok (.invokespecial 64, 3) := by decide +kernel
theorem dX3_tie_23 : decode cX3_tie 23 = .ok (.athrow, 1) := by decide +kernel
theorem dX3_tie_24 : decode cX3_tie 24 = .ok (.aload_n 0, 1) := by decide +kernel
theorem dX3_tie_25 : decode cX3_tie 25 = .ok (.iload_n 1, 1) := by decide +kernel
theorem dX3_tie_26 : decode cX3_tie 26 = .ok (.iload_n 2, 1) := by decide +kernel
theorem dX3_tie_27 : decode cX3_tie 27 = .ok (.invokevirtual 107, 3) := by decide +kernel
theorem dX3_tie_30 : decode cX3_tie 30 = .ok (.istore 4, 2) := by decide +kernel
theorem dX3_tie_32 : decode cX3_tie 32 = .ok (.aload_n 0, 1) := by decide +kernel
theorem dX3_tie_33 : decode cX3_tie 33 = .ok (.getfield 19, 3) := by decide +kernel
theorem dX3_tie_36 : decode cX3_tie 36 = .ok (.iload_n 1, 1) := by decide +kernel
theorem dX3_tie_37 : decode cX3_tie 37 = .ok (.aload_n 0, 1) := by decide +kernel
theorem dX3_tie_38 : decode cX3_tie 38 = .ok (.getfield 19, 3) := by decide +kernel
theorem dX3_tie_41 : decode cX3_tie 41 = .ok (.iload_n 1, 1) := by decide +kernel
theorem dX3_tie_42 : decode cX3_tie 42 = .ok (.iaload, 1) := by decide +kernel
theorem dX3_tie_43 : decode cX3_tie 43 = .ok (.iload_n 2, 1) := by decide +kernel
theorem dX3_tie_44 : decode cX3_tie 44 = .ok (.iload_n 3, 1) := by decide +kernel
theorem dX3_tie_45 : decode cX3_tie 45 = .ok (.invokestatic 111, 3) := by decide +kernel
theorem dX3_tie_48 : decode cX3_tie 48 = .ok (.iastore, 1) := by decide +kernel
theorem dX3_tie_49 : decode cX3_tie 49 = .ok (.iload 4, 2) := by decide +kernel
theorem dX3_tie_51 : decode cX3_tie 51 = .ok (.ireturn, 1) := by decide +kernel
theorem dX3_draft_0 : decode cX3_draft 0 = .ok (.iload_n 1, 1) := by decide +kernel
theorem dX3_draft_1 : decode cX3_draft 1 = .ok (.tableswitch 88 0 5 #[39, 48, 57, 64, 72, 80], 39) := by decide +kernel
theorem dX3_draft_40 : decode cX3_draft 40 = .ok (.aload_n 0, 1) := by decide +kernel
theorem dX3_draft_41 : decode cX3_draft 41 = .ok (.getfield 10, 3) := by decide +kernel
theorem dX3_draft_44 : decode cX3_draft 44 = .ok (.iload_n 2, 1) := by decide +kernel
theorem dX3_draft_45 : decode cX3_draft 45 = .ok (.invokevirtual 115, 3) := by decide +kernel
theorem dX3_draft_48 : decode cX3_draft 48 = .ok (.ireturn, 1) := by decide +kernel
theorem dX3_draft_49 : decode cX3_draft 49 = .ok (.aload_n 0, 1) := by decide +kernel
theorem dX3_draft_50 : decode cX3_draft 50 = .ok (.getfield 16, 3) := by decide +kernel
theorem dX3_draft_53 : decode cX3_draft 53 = .ok (.iload_n 2, 1) := by decide +kernel
theorem dX3_draft_54 : decode cX3_draft 54 = .ok (.invokevirtual 115, 3) := by decide +kernel
theorem dX3_draft_57 : decode cX3_draft 57 = .ok (.ireturn, 1) := by decide +kernel
theorem dX3_draft_58 : decode cX3_draft 58 = .ok (.aload_n 0, 1) := by decide +kernel
theorem dX3_draft_59 : decode cX3_draft 59 = .ok (.iload_n 2, 1) := by decide +kernel
theorem dX3_draft_60 : decode cX3_draft 60 = .ok (.iload_n 3, 1) := by decide +kernel
theorem dX3_draft_61 : decode cX3_draft 61 = .ok (.invokevirtual 118, 3) := by decide +kernel
theorem dX3_draft_64 : decode cX3_draft 64 = .ok (.ireturn, 1) := by decide +kernel
theorem dX3_draft_65 : decode cX3_draft 65 = .ok (.aload_n 0, 1) := by decide +kernel
theorem dX3_draft_66 : decode cX3_draft 66 = .ok (.getfield 10, 3) := by decide +kernel
theorem dX3_draft_69 : decode cX3_draft 69 = .ok (.getfield 85, 3) := by decide +kernel
theorem dX3_draft_72 : decode cX3_draft 72 = .ok (.ireturn, 1) := by decide +kernel
theorem dX3_draft_73 : decode cX3_draft 73 = .ok (.aload_n 0, 1) := by decide +kernel
theorem dX3_draft_74 : decode cX3_draft 74 = .ok (.getfield 16, 3) := by decide +kernel
theorem dX3_draft_77 : decode cX3_draft 77 = .ok (.getfield 85, 3) := by decide +kernel
theorem dX3_draft_80 : decode cX3_draft 80 = .ok (.ireturn, 1) := by decide +kernel
theorem dX3_draft_81 : decode cX3_draft 81 = .ok (.aload_n 0, 1) := by decide +kernel
theorem dX3_draft_82 : decode cX3_draft 82 = .ok (.getfield 32, 3) := by decide +kernel
theorem dX3_draft_85 : decode cX3_draft 85 = .ok (.getfield 99, 3) := by decide +kernel
theorem dX3_draft_88 : decode cX3_draft 88 = .ok (.ireturn, 1) := by decide +kernel
theorem dX3_draft_89 : decode cX3_draft 89 = .ok (.new 60, 3) := by decide +kernel
theorem dX3_draft_92 : decode cX3_draft 92 = .ok (.dup, 1) := by decide +kernel
theorem dX3_draft_93 : decode cX3_draft 93 = .ok (.ldc 122, 2) := by decide +kernel
theorem dX3_draft_95 : decode cX3_draft 95 = .ok (.invokespecial 64, 3) := by decide +kernel
theorem dX3_draft_98 : decode cX3_draft 98 = .ok (.athrow, 1) := by decide +kernel
theorem dX3_colour_0 : decode cX3_colour 0 = .ok (.iload_n 2, 1) := by decide +kernel
theorem dX3_colour_1 : decode cX3_colour 1 = .ok (.ifCond .lt 9, 3) := by decide +kernel
theorem dX3_colour_4 : decode cX3_colour 4 = .ok (.iload_n 2, 1) := by decide +kernel
theorem dX3_colour_5 : decode cX3_colour 5 = .ok (.bipush 30, 2) := by decide +kernel
theorem dX3_colour_7 : decode cX3_colour 7 = .ok (.if_icmp .lt 13, 3) := by decide +kernel
theorem dX3_colour_10 : decode cX3_colour 10 = .ok (.new 60, 3) := by decide +kernel
theorem dX3_colour_13 : decode cX3_colour 13 = .ok (.dup, 1) := by decide +kernel
theorem dX3_colour_14 : decode cX3_colour 14 = .ok (.ldc 124, 2) := by decide +kernel
theorem dX3_colour_16 : decode cX3_colour 16 = .ok (.invokespecial 64, 3) := by decide +kernel
theorem dX3_colour_19 : decode cX3_colour 19 = .ok (.athrow, 1) := by decide +kernel
theorem dX3_colour_20 : decode cX3_colour 20 = .ok (.iload_n 3, 1) := by decide +kernel
theorem dX3_colour_21 : decode cX3_colour 21 = .ok (.ifCond .lt 9, 3) := by decide +kernel
theorem dX3_colour_24 : decode cX3_colour 24 = .ok (.iload_n 3, 1) := by decide +kernel
theorem dX3_colour_25 : decode cX3_colour 25 = .ok (.bipush 10, 2) := by decide +kernel
theorem dX3_colour_27 : decode cX3_colour 27 = .ok (.if_icmp .lt 13, 3) := by decide +kernel
theorem dX3_colour_30 : decode cX3_colour 30 = .ok (.new 60, 3) := by decide +kernel
theorem dX3_colour_33 : decode cX3_colour 33 = .ok (.dup, 1) := by decide +kernel
theorem dX3_colour_34 : decode cX3_colour 34 = .ok (.ldc 126, 2) := by decide +kernel
theorem dX3_colour_36 : decode cX3_colour 36 = .ok (.invokespecial 64, 3) := by decide +kernel
theorem dX3_colour_39 : decode cX3_colour 39 = .ok (.athrow, 1) := by decide +kernel
theorem dX3_colour_40 : decode cX3_colour 40 = .ok (.iload_n 1, 1) := by decide +kernel
theorem dX3_colour_41 : decode cX3_colour 41 = .ok (.ifCond .eq 10, 3) := by decide +kernel
theorem dX3_colour_44 : decode cX3_colour 44 = .ok (.aload_n 0, 1) := by decide +kernel
theorem dX3_colour_45 : decode cX3_colour 45 = .ok (.getfield 23, 3) := by decide +kernel
theorem dX3_colour_48 : decode cX3_colour 48 = .ok (.goto 7, 3) := by decide +kernel
theorem dX3_colour_51 : decode cX3_colour 51 = .ok (.aload_n 0, 1) := by decide +kernel
theorem dX3_colour_52 : decode cX3_colour 52 = .ok (.getfield 26, 3) := by decide +kernel
theorem dX3_colour_55 : decode cX3_colour 55 = .ok (.astore 4, 2) := by decide +kernel
theorem dX3_colour_57 : decode cX3_colour 57 = .ok (.aload 4, 2) := by decide +kernel
theorem dX3_colour_59 : decode cX3_colour 59 = .ok (.iload_n 2, 1) := by decide +kernel
theorem dX3_colour_60 : decode cX3_colour 60 = .ok (.iaload, 1) := by decide +kernel
theorem dX3_colour_61 : decode cX3_colour 61 = .ok (.istore 5, 2) := by decide +kernel
theorem dX3_colour_63 : decode cX3_colour 63 = .ok (.aload 4, 2) := by decide +kernel
theorem dX3_colour_65 : decode cX3_colour 65 = .ok (.iload_n 2, 1) := by decide +kernel
theorem dX3_colour_66 : decode cX3_colour 66 = .ok (.iload_n 3, 1) := by decide +kernel
theorem dX3_colour_67 : decode cX3_colour 67 = .ok (.iastore, 1) := by decide +kernel
theorem dX3_colour_68 : decode cX3_colour 68 = .ok (.iload 5, 2) := by decide +kernel
theorem dX3_colour_70 : decode cX3_colour 70 = .ok (.ireturn, 1) := by decide +kernel
theorem dX3_weave_0 : decode cX3_weave 0 = .ok (.iload_n 1, 1) := by decide +kernel
theorem dX3_weave_1 : decode cX3_weave 1 = .ok (.ifCond .ge 13, 3) := by decide +kernel
theorem dX3_weave_4 : decode cX3_weave 4 = .ok (.new 60, 3) := by decide +kernel
theorem dX3_weave_7 : decode cX3_weave 7 = .ok (.dup, 1) := by decide +kernel
theorem dX3_weave_8 : decode cX3_weave 8 = .ok (.ldc 128, 2) := by decide +kernel
theorem dX3_weave_10 : decode cX3_weave 10 = .ok (.invokespecial 64, 3) := by decide +kernel
theorem dX3_weave_13 : decode cX3_weave 13 = .ok (.athrow, 1) := by decide +kernel
theorem dX3_weave_14 : decode cX3_weave 14 = .ok (.aload_n 0, 1) := by decide +kernel
theorem dX3_weave_15 : decode cX3_weave 15 = .ok (.getfield 10, 3) := by decide +kernel
theorem dX3_weave_18 : decode cX3_weave 18 = .ok (.getfield 85, 3) := by decide +kernel
theorem dX3_weave_21 : decode cX3_weave 21 = .ok (.ifCond .ne 13, 3) := by decide +kernel
theorem dX3_weave_24 : decode cX3_weave 24 = .ok (.new 102, 3) := by decide +kernel
theorem dX3_weave_27 : decode cX3_weave 27 = .ok (.dup, 1) := by decide +kernel
theorem dX3_weave_28 : decode cX3_weave 28 = .ok (.ldc 130, 2) := by decide +kernel
theorem dX3_weave_30 : decode cX3_weave 30 = .ok (.invokespecial 106, 3) := by decide +kernel
theorem dX3_weave_33 : decode cX3_weave 33 = .ok (.athrow, 1) := by decide +kernel
theorem dX3_weave_34 : decode cX3_weave 34 = .ok (.iload_n 1, 1) := by decide +kernel
theorem dX3_weave_35 : decode cX3_weave 35 = .ok (.aload_n 0, 1) := by decide +kernel
theorem dX3_weave_36 : decode cX3_weave 36 = .ok (.getfield 16, 3) := by decide +kernel
theorem dX3_weave_39 : decode cX3_weave 39 = .ok (.getfield 85, 3) := by decide +kernel
theorem dX3_weave_42 : decode cX3_weave 42 = .ok (.aload_n 0, 1) := by decide +kernel
theorem dX3_weave_43 : decode cX3_weave 43 = .ok (.getfield 32, 3) := by decide +kernel
theorem dX3_weave_46 : decode cX3_weave 46 = .ok (.getfield 99, 3) := by decide +kernel
theorem dX3_weave_49 : decode cX3_weave 49 = .ok (.isub, 1) := by decide +kernel
theorem dX3_weave_50 : decode cX3_weave 50 = .ok (.invokestatic 132, 3) := by decide +kernel
theorem dX3_weave_53 : decode cX3_weave 53 = .ok (.istore_n 2, 1) := by decide +kernel
theorem dX3_weave_54 : decode cX3_weave 54 = .ok (.aload_n 0, 1) := by decide +kernel
theorem dX3_weave_55 : decode cX3_weave 55 = .ok (.getfield 32, 3) := by decide +kernel
theorem dX3_weave_58 : decode cX3_weave 58 = .ok (.aload_n 0, 1) := by decide +kernel
theorem dX3_weave_59 : decode cX3_weave 59 = .ok (.getfield 10, 3) := by decide +kernel
theorem dX3_weave_62 : decode cX3_weave 62 = .ok (.getfield 85, 3) := by decide +kernel
theorem dX3_weave_65 : decode cX3_weave 65 = .ok (.putfield 135, 3) := by decide +kernel
theorem dX3_weave_68 : decode cX3_weave 68 = .ok (.iconst 0, 1) := by decide +kernel
theorem dX3_weave_69 : decode cX3_weave 69 = .ok (.istore_n 3, 1) := by decide +kernel
theorem dX3_weave_70 : decode cX3_weave 70 = .ok (.iload_n 3, 1) := by decide +kernel
theorem dX3_weave_71 : decode cX3_weave 71 = .ok (.iload_n 2, 1) := by decide +kernel
theorem dX3_weave_72 : decode cX3_weave 72 = .ok (.if_icmp .ge 35, 3) := by decide +kernel
theorem dX3_weave_75 : decode cX3_weave 75 = .ok (.aload_n 0, 1) := by decide +kernel
theorem dX3_weave_76 : decode cX3_weave 76 = .ok (.getfield 32, 3) := by decide +kernel
theorem dX3_weave_79 : decode cX3_weave 79 = .ok (.aload_n 0, 1) := by decide +kernel
theorem dX3_weave_80 : decode cX3_weave 80 = .ok (.aload_n 0, 1) := by decide +kernel
theorem dX3_weave_81 : decode cX3_weave 81 = .ok (.getfield 16, 3) := by decide +kernel
theorem dX3_weave_84 : decode cX3_weave 84 = .ok (.getfield 138, 3) := by decide +kernel
theorem dX3_weave_87 : decode cX3_weave 87 = .ok (.aload_n 0, 1) := by decide +kernel
theorem dX3_weave_88 : decode cX3_weave 88 = .ok (.getfield 32, 3) := by decide +kernel
theorem dX3_weave_91 : decode cX3_weave 91 = .ok (.getfield 99, 3) := by decide +kernel
theorem dX3_weave_94 : decode cX3_weave 94 = .ok (.iaload, 1) := by decide +kernel
theorem dX3_weave_95 : decode cX3_weave 95 = .ok (.invokevirtual 141, 3) := by decide +kernel
theorem dX3_weave_98 : decode cX3_weave 98 = .ok (.invokevirtual 144, 3) := by decide +kernel
theorem dX3_weave_101 : decode cX3_weave 101 = .ok (.iinc 3 1, 3) := by decide +kernel
theorem dX3_weave_104 : decode cX3_weave 104 = .ok (.goto (-34), 3) := by decide +kernel
theorem dX3_weave_107 : decode cX3_weave 107 = .ok (.iload_n 2, 1) := by decide +kernel
theorem dX3_weave_108 : decode cX3_weave 108 = .ok (.ireturn, 1) := by decide +kernel
theorem dX3_unweave_0 : decode cX3_unweave 0 = .ok (.iload_n 1, 1) := by decide +kernel
theorem dX3_unweave_1 : decode cX3_unweave 1 = .ok (.ifCond .lt 14, 3) := by decide +kernel
theorem dX3_unweave_4 : decode cX3_unweave 4 = .ok (.iload_n 1, 1) := by decide +kernel
end
section
theorem dX3_unweave_5 : decode cX3_unweave 5 = .ok (.aload_n 0, 1) := by decide +kernel
theorem dX3_unweave_6 : decode cX3_unweave 6 = .ok (.getfield 32, 3) := by decide +kernel
theorem dX3_unweave_9 : decode cX3_unweave 9 = .ok (.getfield 99, 3) := by decide +kernel
theorem dX3_unweave_12 : decode cX3_unweave 12 = .ok (.if_icmp .le 13, 3) := by decide +kernel
theorem dX3_unweave_15 : decode cX3_unweave 15 = .ok (.new 60, 3) := by decide +kernel
theorem dX3_unweave_18 : decode cX3_unweave 18 = .ok (.dup, 1) := by decide +kernel
theorem dX3_unweave_19 : decode cX3_unweave 19 = .ok (.ldc 147, 2) := by decide +kernel
theorem dX3_unweave_21 : decode cX3_unweave 21 = .ok (.invokespecial 64, 3) := by decide +kernel
theorem dX3_unweave_24 : decode cX3_unweave 24 = .ok (.athrow, 1) := by decide +kernel
theorem dX3_unweave_25 : decode cX3_unweave 25 = .ok (.aload_n 0, 1) := by decide +kernel
theorem dX3_unweave_26 : decode cX3_unweave 26 = .ok (.getfield 32, 3) := by decide +kernel
theorem dX3_unweave_29 : decode cX3_unweave 29 = .ok (.dup, 1) := by decide +kernel
theorem dX3_unweave_30 : decode cX3_unweave 30 = .ok (.getfield 99, 3) := by decide +kernel
theorem dX3_unweave_33 : decode cX3_unweave 33 = .ok (.iload_n 1, 1) := by decide +kernel
theorem dX3_unweave_34 : decode cX3_unweave 34 = .ok (.isub, 1) := by decide +kernel
theorem dX3_unweave_35 : decode cX3_unweave 35 = .ok (.putfield 99, 3) := by decide +kernel
theorem dX3_unweave_38 : decode cX3_unweave 38 = .ok (.return_, 1) := by decide +kernel
theorem dX3_over_0 : decode cX3_over 0 = .ok (.aload_n 0, 1) := by decide +kernel
theorem dX3_over_1 : decode cX3_over 1 = .ok (.getfield 32, 3) := by decide +kernel
theorem dX3_over_4 : decode cX3_over 4 = .ok (.iload_n 1, 1) := by decide +kernel
theorem dX3_over_5 : decode cX3_over 5 = .ok (.iload_n 2, 1) := by decide +kernel
theorem dX3_over_6 : decode cX3_over 6 = .ok (.invokevirtual 149, 3) := by decide +kernel
theorem dX3_over_9 : decode cX3_over 9 = .ok (.ifCond .ne 13, 3) := by decide +kernel
theorem dX3_over_12 : decode cX3_over 12 = .ok (.new 152, 3) := by decide +kernel
theorem dX3_over_15 : decode cX3_over 15 = .ok (.dup, 1) := by decide +kernel
theorem dX3_over_16 : decode cX3_over 16 = .ok (.ldc 154, 2) := by decide +kernel
theorem dX3_over_18 : decode cX3_over 18 = .ok (.invokespecial 156, 3) := by decide +kernel
theorem dX3_over_21 : decode cX3_over 21 = .ok (.athrow, 1) := by decide +kernel
theorem dX3_over_22 : decode cX3_over 22 = .ok (.aload_n 0, 1) := by decide +kernel
theorem dX3_over_23 : decode cX3_over 23 = .ok (.getfield 32, 3) := by decide +kernel
theorem dX3_over_26 : decode cX3_over 26 = .ok (.iload_n 1, 1) := by decide +kernel
theorem dX3_over_27 : decode cX3_over 27 = .ok (.iload_n 2, 1) := by decide +kernel
theorem dX3_over_28 : decode cX3_over 28 = .ok (.invokevirtual 157, 3) := by decide +kernel
theorem dX3_over_31 : decode cX3_over 31 = .ok (.ifCond .eq 7, 3) := by decide +kernel
theorem dX3_over_34 : decode cX3_over 34 = .ok (.iconst 1, 1) := by decide +kernel
theorem dX3_over_35 : decode cX3_over 35 = .ok (.goto 4, 3) := by decide +kernel
theorem dX3_over_38 : decode cX3_over 38 = .ok (.iconst 0, 1) := by decide +kernel
theorem dX3_over_39 : decode cX3_over 39 = .ok (.ireturn, 1) := by decide +kernel
theorem dX3_seen_0 : decode cX3_seen 0 = .ok (.aload_n 0, 1) := by decide +kernel
theorem dX3_seen_1 : decode cX3_seen 1 = .ok (.getfield 32, 3) := by decide +kernel
theorem dX3_seen_4 : decode cX3_seen 4 = .ok (.iload_n 1, 1) := by decide +kernel
theorem dX3_seen_5 : decode cX3_seen 5 = .ok (.iload_n 2, 1) := by decide +kernel
theorem dX3_seen_6 : decode cX3_seen 6 = .ok (.invokevirtual 149, 3) := by decide +kernel
theorem dX3_seen_9 : decode cX3_seen 9 = .ok (.ifCond .ne 13, 3) := by decide +kernel
theorem dX3_seen_12 : decode cX3_seen 12 = .ok (.new 152, 3) := by decide +kernel
theorem dX3_seen_15 : decode cX3_seen 15 = .ok (.dup, 1) := by decide +kernel
theorem dX3_seen_16 : decode cX3_seen 16 = .ok (.ldc 154, 2) := by decide +kernel
theorem dX3_seen_18 : decode cX3_seen 18 = .ok (.invokespecial 156, 3) := by decide +kernel
theorem dX3_seen_21 : decode cX3_seen 21 = .ok (.athrow, 1) := by decide +kernel
theorem dX3_seen_22 : decode cX3_seen 22 = .ok (.aload_n 0, 1) := by decide +kernel
theorem dX3_seen_23 : decode cX3_seen 23 = .ok (.getfield 32, 3) := by decide +kernel
theorem dX3_seen_26 : decode cX3_seen 26 = .ok (.iload_n 1, 1) := by decide +kernel
theorem dX3_seen_27 : decode cX3_seen 27 = .ok (.iload_n 2, 1) := by decide +kernel
theorem dX3_seen_28 : decode cX3_seen 28 = .ok (.invokevirtual 157, 3) := by decide +kernel
theorem dX3_seen_31 : decode cX3_seen 31 = .ok (.iload_n 3, 1) := by decide +kernel
theorem dX3_seen_32 : decode cX3_seen 32 = .ok (.if_icmp .eq 7, 3) := by decide +kernel
theorem dX3_seen_35 : decode cX3_seen 35 = .ok (.iconst 1, 1) := by decide +kernel
theorem dX3_seen_36 : decode cX3_seen 36 = .ok (.goto 4, 3) := by decide +kernel
theorem dX3_seen_39 : decode cX3_seen 39 = .ok (.iconst 0, 1) := by decide +kernel
theorem dX3_seen_40 : decode cX3_seen 40 = .ok (.istore 4, 2) := by decide +kernel
theorem dX3_seen_42 : decode cX3_seen 42 = .ok (.iload 4, 2) := by decide +kernel
theorem dX3_seen_44 : decode cX3_seen 44 = .ok (.ifCond .eq 12, 3) := by decide +kernel
theorem dX3_seen_47 : decode cX3_seen 47 = .ok (.aload_n 0, 1) := by decide +kernel
theorem dX3_seen_48 : decode cX3_seen 48 = .ok (.getfield 23, 3) := by decide +kernel
theorem dX3_seen_51 : decode cX3_seen 51 = .ok (.iload_n 1, 1) := by decide +kernel
theorem dX3_seen_52 : decode cX3_seen 52 = .ok (.iaload, 1) := by decide +kernel
theorem dX3_seen_53 : decode cX3_seen 53 = .ok (.goto 9, 3) := by decide +kernel
theorem dX3_seen_56 : decode cX3_seen 56 = .ok (.aload_n 0, 1) := by decide +kernel
theorem dX3_seen_57 : decode cX3_seen 57 = .ok (.getfield 26, 3) := by decide +kernel
theorem dX3_seen_60 : decode cX3_seen 60 = .ok (.iload_n 2, 1) := by decide +kernel
theorem dX3_seen_61 : decode cX3_seen 61 = .ok (.iaload, 1) := by decide +kernel
theorem dX3_seen_62 : decode cX3_seen 62 = .ok (.ireturn, 1) := by decide +kernel
theorem dX3_longest_0 : decode cX3_longest 0 = .ok (.aload_n 0, 1) := by decide +kernel
theorem dX3_longest_1 : decode cX3_longest 1 = .ok (.iload_n 1, 1) := by decide +kernel
theorem dX3_longest_2 : decode cX3_longest 2 = .ok (.invokevirtual 160, 3) := by decide +kernel
theorem dX3_longest_5 : decode cX3_longest 5 = .ok (.ifCond .ne 13, 3) := by decide +kernel
theorem dX3_longest_8 : decode cX3_longest 8 = .ok (.new 152, 3) := by decide +kernel
theorem dX3_longest_11 : decode cX3_longest 11 = .ok (.dup, 1) := by decide +kernel
theorem dX3_longest_12 : decode cX3_longest 12 = .ok (.ldc 163, 2) := by decide +kernel
theorem dX3_longest_14 : decode cX3_longest 14 = .ok (.invokespecial 156, 3) := by decide +kernel
theorem dX3_longest_17 : decode cX3_longest 17 = .ok (.athrow, 1) := by decide +kernel
theorem dX3_longest_18 : decode cX3_longest 18 = .ok (.iload_n 1, 1) := by decide +kernel
theorem dX3_longest_19 : decode cX3_longest 19 = .ok (.invokestatic 165, 3) := by decide +kernel
theorem dX3_longest_22 : decode cX3_longest 22 = .ok (.ifCond .eq 27, 3) := by decide +kernel
theorem dX3_longest_25 : decode cX3_longest 25 = .ok (.aload_n 0, 1) := by decide +kernel
theorem dX3_longest_26 : decode cX3_longest 26 = .ok (.getfield 32, 3) := by decide +kernel
theorem dX3_longest_29 : decode cX3_longest 29 = .ok (.iconst 1, 1) := by decide +kernel
theorem dX3_longest_30 : decode cX3_longest 30 = .ok (.iload_n 1, 1) := by decide +kernel
theorem dX3_longest_31 : decode cX3_longest 31 = .ok (.bipush 100, 2) := by decide +kernel
theorem dX3_longest_33 : decode cX3_longest 33 = .ok (.isub, 1) := by decide +kernel
theorem dX3_longest_34 : decode cX3_longest 34 = .ok (.invokevirtual 168, 3) := by decide +kernel
theorem dX3_longest_37 : decode cX3_longest 37 = .ok (.aload_n 0, 1) := by decide +kernel
theorem dX3_longest_38 : decode cX3_longest 38 = .ok (.getfield 32, 3) := by decide +kernel
theorem dX3_longest_41 : decode cX3_longest 41 = .ok (.getfield 135, 3) := by decide +kernel
theorem dX3_longest_44 : decode cX3_longest 44 = .ok (.iload_n 2, 1) := by decide +kernel
theorem dX3_longest_45 : decode cX3_longest 45 = .ok (.invokestatic 172, 3) := by decide +kernel
theorem dX3_longest_48 : decode cX3_longest 48 = .ok (.ireturn, 1) := by decide +kernel
theorem dX3_longest_49 : decode cX3_longest 49 = .ok (.aload_n 0, 1) := by decide +kernel
theorem dX3_longest_50 : decode cX3_longest 50 = .ok (.getfield 32, 3) := by decide +kernel
theorem dX3_longest_53 : decode cX3_longest 53 = .ok (.iconst 0, 1) := by decide +kernel
theorem dX3_longest_54 : decode cX3_longest 54 = .ok (.iload_n 1, 1) := by decide +kernel
theorem dX3_longest_55 : decode cX3_longest 55 = .ok (.invokevirtual 168, 3) := by decide +kernel
theorem dX3_longest_58 : decode cX3_longest 58 = .ok (.aload_n 0, 1) := by decide +kernel
theorem dX3_longest_59 : decode cX3_longest 59 = .ok (.getfield 32, 3) := by decide +kernel
theorem dX3_longest_62 : decode cX3_longest 62 = .ok (.getfield 99, 3) := by decide +kernel
theorem dX3_longest_65 : decode cX3_longest 65 = .ok (.iload_n 2, 1) := by decide +kernel
theorem dX3_longest_66 : decode cX3_longest 66 = .ok (.ifCond .ne 7, 3) := by decide +kernel
theorem dX3_longest_69 : decode cX3_longest 69 = .ok (.iconst 1, 1) := by decide +kernel
theorem dX3_longest_70 : decode cX3_longest 70 = .ok (.goto 4, 3) := by decide +kernel
theorem dX3_longest_73 : decode cX3_longest 73 = .ok (.iconst 0, 1) := by decide +kernel
theorem dX3_longest_74 : decode cX3_longest 74 = .ok (.invokestatic 172, 3) := by decide +kernel
theorem dX3_longest_77 : decode cX3_longest 77 = .ok (.ireturn, 1) := by decide +kernel
theorem dX3_layers_0 : decode cX3_layers 0 = .ok (.aload_n 0, 1) := by decide +kernel
theorem dX3_layers_1 : decode cX3_layers 1 = .ok (.invokevirtual 175, 3) := by decide +kernel
theorem dX3_layers_4 : decode cX3_layers 4 = .ok (.aload_n 0, 1) := by decide +kernel
theorem dX3_layers_5 : decode cX3_layers 5 = .ok (.getfield 39, 3) := by decide +kernel
theorem dX3_layers_8 : decode cX3_layers 8 = .ok (.aload_n 0, 1) := by decide +kernel
theorem dX3_layers_9 : decode cX3_layers 9 = .ok (.getfield 32, 3) := by decide +kernel
theorem dX3_layers_12 : decode cX3_layers 12 = .ok (.invokevirtual 178, 3) := by decide +kernel
theorem dX3_layers_15 : decode cX3_layers 15 = .ok (.ireturn, 1) := by decide +kernel
theorem dX3_layer_0 : decode cX3_layer 0 = .ok (.aload_n 0, 1) := by decide +kernel
theorem dX3_layer_1 : decode cX3_layer 1 = .ok (.invokevirtual 175, 3) := by decide +kernel
theorem dX3_layer_4 : decode cX3_layer 4 = .ok (.aload_n 0, 1) := by decide +kernel
theorem dX3_layer_5 : decode cX3_layer 5 = .ok (.iload_n 1, 1) := by decide +kernel
theorem dX3_layer_6 : decode cX3_layer 6 = .ok (.invokevirtual 160, 3) := by decide +kernel
theorem dX3_layer_9 : decode cX3_layer 9 = .ok (.ifCond .ne 13, 3) := by decide +kernel
theorem dX3_layer_12 : decode cX3_layer 12 = .ok (.new 152, 3) := by decide +kernel
theorem dX3_layer_15 : decode cX3_layer 15 = .ok (.dup, 1) := by decide +kernel
theorem dX3_layer_16 : decode cX3_layer 16 = .ok (.ldc 163, 2) := by decide +kernel
theorem dX3_layer_18 : decode cX3_layer 18 = .ok (.invokespecial 156, 3) := by decide +kernel
theorem dX3_layer_21 : decode cX3_layer 21 = .ok (.athrow, 1) := by decide +kernel
theorem dX3_layer_22 : decode cX3_layer 22 = .ok (.aload_n 0, 1) := by decide +kernel
theorem dX3_layer_23 : decode cX3_layer 23 = .ok (.getfield 39, 3) := by decide +kernel
theorem dX3_layer_26 : decode cX3_layer 26 = .ok (.aload_n 0, 1) := by decide +kernel
theorem dX3_layer_27 : decode cX3_layer 27 = .ok (.getfield 32, 3) := by decide +kernel
theorem dX3_layer_30 : decode cX3_layer 30 = .ok (.invokevirtual 178, 3) := by decide +kernel
theorem dX3_layer_33 : decode cX3_layer 33 = .ok (.pop, 1) := by decide +kernel
theorem dX3_layer_34 : decode cX3_layer 34 = .ok (.aload_n 0, 1) := by decide +kernel
theorem dX3_layer_35 : decode cX3_layer 35 = .ok (.getfield 39, 3) := by decide +kernel
theorem dX3_layer_38 : decode cX3_layer 38 = .ok (.getfield 182, 3) := by decide +kernel
theorem dX3_layer_41 : decode cX3_layer 41 = .ok (.iload_n 1, 1) := by decide +kernel
theorem dX3_layer_42 : decode cX3_layer 42 = .ok (.invokestatic 165, 3) := by decide +kernel
theorem dX3_layer_45 : decode cX3_layer 45 = .ok (.ifCond .eq 18, 3) := by decide +kernel
theorem dX3_layer_48 : decode cX3_layer 48 = .ok (.aload_n 0, 1) := by decide +kernel
theorem dX3_layer_49 : decode cX3_layer 49 = .ok (.getfield 32, 3) := by decide +kernel
theorem dX3_layer_52 : decode cX3_layer 52 = .ok (.getfield 135, 3) := by decide +kernel
theorem dX3_layer_55 : decode cX3_layer 55 = .ok (.iload_n 1, 1) := by decide +kernel
theorem dX3_layer_56 : decode cX3_layer 56 = .ok (.iadd, 1) := by decide +kernel
theorem dX3_layer_57 : decode cX3_layer 57 = .ok (.bipush 100, 2) := by decide +kernel
theorem dX3_layer_59 : decode cX3_layer 59 = .ok (.isub, 1) := by decide +kernel
theorem dX3_layer_60 : decode cX3_layer 60 = .ok (.goto 4, 3) := by decide +kernel
theorem dX3_layer_63 : decode cX3_layer 63 = .ok (.iload_n 1, 1) := by decide +kernel
theorem dX3_layer_64 : decode cX3_layer 64 = .ok (.iaload, 1) := by decide +kernel
theorem dX3_layer_65 : decode cX3_layer 65 = .ok (.ireturn, 1) := by decide +kernel
theorem dX3_period_0 : decode cX3_period 0 = .ok (.aload_n 0, 1) := by decide +kernel
theorem dX3_period_1 : decode cX3_period 1 = .ok (.invokevirtual 175, 3) := by decide +kernel
theorem dX3_period_4 : decode cX3_period 4 = .ok (.aload_n 0, 1) := by decide +kernel
theorem dX3_period_5 : decode cX3_period 5 = .ok (.getfield 32, 3) := by decide +kernel
theorem dX3_period_8 : decode cX3_period 8 = .ok (.iload_n 1, 1) := by decide +kernel
theorem dX3_period_9 : decode cX3_period 9 = .ok (.invokevirtual 185, 3) := by decide +kernel
theorem dX3_period_12 : decode cX3_period 12 = .ok (.ireturn, 1) := by decide +kernel
theorem dX3_picture_0 : decode cX3_picture 0 = .ok (.iload_n 1, 1) := by decide +kernel
theorem dX3_picture_1 : decode cX3_picture 1 = .ok (.iconst 1, 1) := by decide +kernel
theorem dX3_picture_2 : decode cX3_picture 2 = .ok (.if_icmp .lt 20, 3) := by decide +kernel
theorem dX3_picture_5 : decode cX3_picture 5 = .ok (.iload_n 1, 1) := by decide +kernel
theorem dX3_picture_6 : decode cX3_picture 6 = .ok (.bipush 30, 2) := by decide +kernel
theorem dX3_picture_8 : decode cX3_picture 8 = .ok (.if_icmp .gt 14, 3) := by decide +kernel
theorem dX3_picture_11 : decode cX3_picture 11 = .ok (.iload_n 2, 1) := by decide +kernel
theorem dX3_picture_12 : decode cX3_picture 12 = .ok (.iconst 1, 1) := by decide +kernel
theorem dX3_picture_13 : decode cX3_picture 13 = .ok (.if_icmp .lt 9, 3) := by decide +kernel
theorem dX3_picture_16 : decode cX3_picture 16 = .ok (.iload_n 2, 1) := by decide +kernel
theorem dX3_picture_17 : decode cX3_picture 17 = .ok (.bipush 30, 2) := by decide +kernel
theorem dX3_picture_19 : decode cX3_picture 19 = .ok (.if_icmp .le 13, 3) := by decide +kernel
theorem dX3_picture_22 : decode cX3_picture 22 = .ok (.new 60, 3) := by decide +kernel
theorem dX3_picture_25 : decode cX3_picture 25 = .ok (.dup, 1) := by decide +kernel
theorem dX3_picture_26 : decode cX3_picture 26 = .ok (.ldc 189, 2) := by decide +kernel
theorem dX3_picture_28 : decode cX3_picture 28 = .ok (.invokespecial 64, 3) := by decide +kernel
theorem dX3_picture_31 : decode cX3_picture 31 = .ok (.athrow, 1) := by decide +kernel
theorem dX3_picture_32 : decode cX3_picture 32 = .ok (.aload_n 0, 1) := by decide +kernel
theorem dX3_picture_33 : decode cX3_picture 33 = .ok (.getfield 43, 3) := by decide +kernel
theorem dX3_picture_36 : decode cX3_picture 36 = .ok (.iload_n 1, 1) := by decide +kernel
theorem dX3_picture_37 : decode cX3_picture 37 = .ok (.iload_n 2, 1) := by decide +kernel
theorem dX3_picture_38 : decode cX3_picture 38 = .ok (.invokevirtual 52, 3) := by decide +kernel
theorem dX3_picture_41 : decode cX3_picture 41 = .ok (.return_, 1) := by decide +kernel
theorem dX3_paint_0 : decode cX3_paint 0 = .ok (.aload_n 0, 1) := by decide +kernel
theorem dX3_paint_1 : decode cX3_paint 1 = .ok (.getfield 43, 3) := by decide +kernel
theorem dX3_paint_4 : decode cX3_paint 4 = .ok (.iload_n 1, 1) := by decide +kernel
theorem dX3_paint_5 : decode cX3_paint 5 = .ok (.iload_n 2, 1) := by decide +kernel
theorem dX3_paint_6 : decode cX3_paint 6 = .ok (.invokevirtual 149, 3) := by decide +kernel
theorem dX3_paint_9 : decode cX3_paint 9 = .ok (.ifCond .ne 13, 3) := by decide +kernel
theorem dX3_paint_12 : decode cX3_paint 12 = .ok (.new 152, 3) := by decide +kernel
theorem dX3_paint_15 : decode cX3_paint 15 = .ok (.dup, 1) := by decide +kernel
theorem dX3_paint_16 : decode cX3_paint 16 = .ok (.ldc 154, 2) := by decide +kernel
theorem dX3_paint_18 : decode cX3_paint 18 = .ok (.invokespecial 156, 3) := by decide +kernel
theorem dX3_paint_21 : decode cX3_paint 21 = .ok (.athrow, 1) := by decide +kernel
theorem dX3_paint_22 : decode cX3_paint 22 = .ok (.aload_n 0, 1) := by decide +kernel
theorem dX3_paint_23 : decode cX3_paint 23 = .ok (.getfield 43, 3) := by decide +kernel
theorem dX3_paint_26 : decode cX3_paint 26 = .ok (.iload_n 1, 1) := by decide +kernel
theorem dX3_paint_27 : decode cX3_paint 27 = .ok (.iload_n 2, 1) := by decide +kernel
theorem dX3_paint_28 : decode cX3_paint 28 = .ok (.invokevirtual 157, 3) := by decide +kernel
theorem dX3_paint_31 : decode cX3_paint 31 = .ok (.istore 4, 2) := by decide +kernel
theorem dX3_paint_33 : decode cX3_paint 33 = .ok (.aload_n 0, 1) := by decide +kernel
theorem dX3_paint_34 : decode cX3_paint 34 = .ok (.getfield 43, 3) := by decide +kernel
theorem dX3_paint_37 : decode cX3_paint 37 = .ok (.iload_n 1, 1) := by decide +kernel
theorem dX3_paint_38 : decode cX3_paint 38 = .ok (.iload_n 2, 1) := by decide +kernel
theorem dX3_paint_39 : decode cX3_paint 39 = .ok (.iload_n 3, 1) := by decide +kernel
theorem dX3_paint_40 : decode cX3_paint 40 = .ok (.invokevirtual 191, 3) := by decide +kernel
theorem dX3_paint_43 : decode cX3_paint 43 = .ok (.iload 4, 2) := by decide +kernel
theorem dX3_paint_45 : decode cX3_paint 45 = .ok (.ireturn, 1) := by decide +kernel
theorem dX3_factor_0 : decode cX3_factor 0 = .ok (.aload_n 0, 1) := by decide +kernel
theorem dX3_factor_1 : decode cX3_factor 1 = .ok (.getfield 46, 3) := by decide +kernel
theorem dX3_factor_4 : decode cX3_factor 4 = .ok (.aload_n 0, 1) := by decide +kernel
theorem dX3_factor_5 : decode cX3_factor 5 = .ok (.getfield 43, 3) := by decide +kernel
theorem dX3_factor_8 : decode cX3_factor 8 = .ok (.iconst 0, 1) := by decide +kernel
theorem dX3_factor_9 : decode cX3_factor 9 = .ok (.invokevirtual 195, 3) := by decide +kernel
theorem dX3_factor_12 : decode cX3_factor 12 = .ok (.istore_n 2, 1) := by decide +kernel
theorem dX3_factor_13 : decode cX3_factor 13 = .ok (.aload_n 0, 1) := by decide +kernel
theorem dX3_factor_14 : decode cX3_factor 14 = .ok (.getfield 49, 3) := by decide +kernel
theorem dX3_factor_17 : decode cX3_factor 17 = .ok (.aload_n 0, 1) := by decide +kernel
theorem dX3_factor_18 : decode cX3_factor 18 = .ok (.getfield 43, 3) := by decide +kernel
theorem dX3_factor_21 : decode cX3_factor 21 = .ok (.iconst 1, 1) := by decide +kernel
theorem dX3_factor_22 : decode cX3_factor 22 = .ok (.invokevirtual 195, 3) := by decide +kernel
theorem dX3_factor_25 : decode cX3_factor 25 = .ok (.istore_n 3, 1) := by decide +kernel
theorem dX3_factor_26 : decode cX3_factor 26 = .ok (.iload_n 1, 1) := by decide +kernel
theorem dX3_factor_27 : decode cX3_factor 27 = .ok (.ifCond .eq 25, 3) := by decide +kernel
theorem dX3_factor_30 : decode cX3_factor 30 = .ok (.iload_n 2, 1) := by decide +kernel
theorem dX3_factor_31 : decode cX3_factor 31 = .ok (.bipush 12, 2) := by decide +kernel
theorem dX3_factor_33 : decode cX3_factor 33 = .ok (.if_icmp .gt 9, 3) := by decide +kernel
theorem dX3_factor_36 : decode cX3_factor 36 = .ok (.iload_n 3, 1) := by decide +kernel
theorem dX3_factor_37 : decode cX3_factor 37 = .ok (.bipush 12, 2) := by decide +kernel
theorem dX3_factor_39 : decode cX3_factor 39 = .ok (.if_icmp .le 13, 3) := by decide +kernel
theorem dX3_factor_42 : decode cX3_factor 42 = .ok (.new 102, 3) := by decide +kernel
theorem dX3_factor_45 : decode cX3_factor 45 = .ok (.dup, 1) := by decide +kernel
theorem dX3_factor_46 : decode cX3_factor 46 = .ok (.ldc 199, 2) := by decide +kernel
theorem dX3_factor_48 : decode cX3_factor 48 = .ok (.invokespecial 106, 3) := by decide +kernel
theorem dX3_factor_51 : decode cX3_factor 51 = .ok (.athrow, 1) := by decide +kernel
theorem dX3_factor_52 : decode cX3_factor 52 = .ok (.iload_n 1, 1) := by decide +kernel
theorem dX3_factor_53 : decode cX3_factor 53 = .ok (.ifCond .eq 7, 3) := by decide +kernel
theorem dX3_factor_56 : decode cX3_factor 56 = .ok (.aload_n 0, 1) := by decide +kernel
theorem dX3_factor_57 : decode cX3_factor 57 = .ok (.invokevirtual 201, 3) := by decide +kernel
theorem dX3_factor_60 : decode cX3_factor 60 = .ok (.bipush 100, 2) := by decide +kernel
theorem dX3_factor_62 : decode cX3_factor 62 = .ok (.iload_n 2, 1) := by decide +kernel
theorem dX3_factor_63 : decode cX3_factor 63 = .ok (.imul, 1) := by decide +kernel
theorem dX3_factor_64 : decode cX3_factor 64 = .ok (.iload_n 3, 1) := by decide +kernel
theorem dX3_factor_65 : decode cX3_factor 65 = .ok (.iadd, 1) := by decide +kernel
theorem dX3_factor_66 : decode cX3_factor 66 = .ok (.ireturn, 1) := by decide +kernel
theorem dX3_isKind_0 : decode cX3_isKind 0 = .ok (.iload_n 0, 1) := by decide +kernel
theorem dX3_isKind_1 : decode cX3_isKind 1 = .ok (.ifCond .lt 13, 3) := by decide +kernel
theorem dX3_isKind_4 : decode cX3_isKind 4 = .ok (.iload_n 0, 1) := by decide +kernel
theorem dX3_isKind_5 : decode cX3_isKind 5 = .ok (.bipush 12, 2) := by decide +kernel
theorem dX3_isKind_7 : decode cX3_isKind 7 = .ok (.if_icmp .ge 7, 3) := by decide +kernel
theorem dX3_isKind_10 : decode cX3_isKind 10 = .ok (.iconst 1, 1) := by decide +kernel
theorem dX3_isKind_11 : decode cX3_isKind 11 = .ok (.goto 4, 3) := by decide +kernel
theorem dX3_isKind_14 : decode cX3_isKind 14 = .ok (.iconst 0, 1) := by decide +kernel
theorem dX3_isKind_15 : decode cX3_isKind 15 = .ok (.ireturn, 1) := by decide +kernel
theorem dX3_withBit_0 : decode cX3_withBit 0 = .ok (.iload_n 2, 1) := by decide +kernel
theorem dX3_withBit_1 : decode cX3_withBit 1 = .ok (.ifCond .eq 11, 3) := by decide +kernel
theorem dX3_withBit_4 : decode cX3_withBit 4 = .ok (.iload_n 0, 1) := by decide +kernel
theorem dX3_withBit_5 : decode cX3_withBit 5 = .ok (.iconst 1, 1) := by decide +kernel
theorem dX3_withBit_6 : decode cX3_withBit 6 = .ok (.iload_n 1, 1) := by decide +kernel
theorem dX3_withBit_7 : decode cX3_withBit 7 = .ok (.ishl, 1) := by decide +kernel
theorem dX3_withBit_8 : decode cX3_withBit 8 = .ok (.ior, 1) := by decide +kernel
theorem dX3_withBit_9 : decode cX3_withBit 9 = .ok (.goto 10, 3) := by decide +kernel
theorem dX3_withBit_12 : decode cX3_withBit 12 = .ok (.iload_n 0, 1) := by decide +kernel
theorem dX3_withBit_13 : decode cX3_withBit 13 = .ok (.iconst 1, 1) := by decide +kernel
theorem dX3_withBit_14 : decode cX3_withBit 14 = .ok (.iload_n 1, 1) := by decide +kernel
theorem dX3_withBit_15 : decode cX3_withBit 15 = .ok (.ishl, 1) := by decide +kernel
theorem dX3_withBit_16 : decode cX3_withBit 16 = .ok (.iconst (-1), 1) := by decide +kernel
theorem dX3_withBit_17 : decode cX3_withBit 17 = .ok (.ixor, 1) := by decide +kernel
theorem dX3_withBit_18 : decode cX3_withBit 18 = .ok (.iand, 1) := by decide +kernel
theorem dX3_withBit_19 : decode cX3_withBit 19 = .ok (.ireturn, 1) := by decide +kernel
theorem dX3_isPick_0 : decode cX3_isPick 0 = .ok (.iload_n 0, 1) := by decide +kernel
theorem dX3_isPick_1 : decode cX3_isPick 1 = .ok (.bipush 100, 2) := by decide +kernel
theorem dX3_isPick_3 : decode cX3_isPick 3 = .ok (.if_icmp .lt 7, 3) := by decide +kernel
theorem dX3_isPick_6 : decode cX3_isPick 6 = .ok (.iconst 1, 1) := by decide +kernel
theorem dX3_isPick_7 : decode cX3_isPick 7 = .ok (.goto 4, 3) := by decide +kernel
theorem dX3_isPick_10 : decode cX3_isPick 10 = .ok (.iconst 0, 1) := by decide +kernel
theorem dX3_isPick_11 : decode cX3_isPick 11 = .ok (.ireturn, 1) := by decide +kernel
theorem dX3_isThread_0 : decode cX3_isThread 0 = .ok (.iload_n 1, 1) := by decide +kernel
theorem dX3_isThread_1 : decode cX3_isThread 1 = .ok (.invokestatic 165, 3) := by decide +kernel
theorem dX3_isThread_4 : decode cX3_isThread 4 = .ok (.ifCond .eq 25, 3) := by decide +kernel
theorem dX3_isThread_7 : decode cX3_isThread 7 = .ok (.iload_n 1, 1) := by decide +kernel
theorem dX3_isThread_8 : decode cX3_isThread 8 = .ok (.bipush 100, 2) := by decide +kernel
theorem dX3_isThread_10 : decode cX3_isThread 10 = .ok (.isub, 1) := by decide +kernel
theorem dX3_isThread_11 : decode cX3_isThread 11 = .ok (.aload_n 0, 1) := by decide +kernel
theorem dX3_isThread_12 : decode cX3_isThread 12 = .ok (.getfield 32, 3) := by decide +kernel
theorem dX3_isThread_15 : decode cX3_isThread 15 = .ok (.getfield 99, 3) := by decide +kernel
theorem dX3_isThread_18 : decode cX3_isThread 18 = .ok (.if_icmp .ge 7, 3) := by decide +kernel
theorem dX3_isThread_21 : decode cX3_isThread 21 = .ok (.iconst 1, 1) := by decide +kernel
theorem dX3_isThread_22 : decode cX3_isThread 22 = .ok (.goto 27, 3) := by decide +kernel
theorem dX3_isThread_25 : decode cX3_isThread 25 = .ok (.iconst 0, 1) := by decide +kernel
theorem dX3_isThread_26 : decode cX3_isThread 26 = .ok (.goto 23, 3) := by decide +kernel
theorem dX3_isThread_29 : decode cX3_isThread 29 = .ok (.iload_n 1, 1) := by decide +kernel
theorem dX3_isThread_30 : decode cX3_isThread 30 = .ok (.ifCond .lt 18, 3) := by decide +kernel
theorem dX3_isThread_33 : decode cX3_isThread 33 = .ok (.iload_n 1, 1) := by decide +kernel
theorem dX3_isThread_34 : decode cX3_isThread 34 = .ok (.aload_n 0, 1) := by decide +kernel
theorem dX3_isThread_35 : decode cX3_isThread 35 = .ok (.getfield 10, 3) := by decide +kernel
theorem dX3_isThread_38 : decode cX3_isThread 38 = .ok (.getfield 85, 3) := by decide +kernel
theorem dX3_isThread_41 : decode cX3_isThread 41 = .ok (.if_icmp .ge 7, 3) := by decide +kernel
theorem dX3_isThread_44 : decode cX3_isThread 44 = .ok (.iconst 1, 1) := by decide +kernel
theorem dX3_isThread_45 : decode cX3_isThread 45 = .ok (.goto 4, 3) := by decide +kernel
theorem dX3_isThread_48 : decode cX3_isThread 48 = .ok (.iconst 0, 1) := by decide +kernel
theorem dX3_isThread_49 : decode cX3_isThread 49 = .ok (.ireturn, 1) := by decide +kernel
theorem dX3_rowOf_0 : decode cX3_rowOf 0 = .ok (.iload_n 1, 1) := by decide +kernel
theorem dX3_rowOf_1 : decode cX3_rowOf 1 = .ok (.ifCond .eq 10, 3) := by decide +kernel
theorem dX3_rowOf_4 : decode cX3_rowOf 4 = .ok (.aload_n 0, 1) := by decide +kernel
theorem dX3_rowOf_5 : decode cX3_rowOf 5 = .ok (.getfield 10, 3) := by decide +kernel
theorem dX3_rowOf_8 : decode cX3_rowOf 8 = .ok (.goto 7, 3) := by decide +kernel
theorem dX3_rowOf_11 : decode cX3_rowOf 11 = .ok (.aload_n 0, 1) := by decide +kernel
theorem dX3_rowOf_12 : decode cX3_rowOf 12 = .ok (.getfield 16, 3) := by decide +kernel
theorem dX3_rowOf_15 : decode cX3_rowOf 15 = .ok (.areturn, 1) := by decide +kernel
theorem dX3_isTied_0 : decode cX3_isTied 0 = .ok (.aload_n 0, 1) := by decide +kernel
theorem dX3_isTied_1 : decode cX3_isTied 1 = .ok (.getfield 19, 3) := by decide +kernel
theorem dX3_isTied_4 : decode cX3_isTied 4 = .ok (.iload_n 1, 1) := by decide +kernel
theorem dX3_isTied_5 : decode cX3_isTied 5 = .ok (.iaload, 1) := by decide +kernel
theorem dX3_isTied_6 : decode cX3_isTied 6 = .ok (.iload_n 2, 1) := by decide +kernel
theorem dX3_isTied_7 : decode cX3_isTied 7 = .ok (.ishr, 1) := by decide +kernel
theorem dX3_isTied_8 : decode cX3_isTied 8 = .ok (.iconst 1, 1) := by decide +kernel
theorem dX3_isTied_9 : decode cX3_isTied 9 = .ok (.iand, 1) := by decide +kernel
theorem dX3_isTied_10 : decode cX3_isTied 10 = .ok (.iconst 1, 1) := by decide +kernel
theorem dX3_isTied_11 : decode cX3_isTied 11 = .ok (.if_icmp .ne 7, 3) := by decide +kernel
theorem dX3_isTied_14 : decode cX3_isTied 14 = .ok (.iconst 1, 1) := by decide +kernel
theorem dX3_isTied_15 : decode cX3_isTied 15 = .ok (.goto 4, 3) := by decide +kernel
theorem dX3_isTied_18 : decode cX3_isTied 18 = .ok (.iconst 0, 1) := by decide +kernel
theorem dX3_isTied_19 : decode cX3_isTied 19 = .ok (.ireturn, 1) := by decide +kernel
theorem dX3_tiedOrNone_0 : decode cX3_tiedOrNone 0 = .ok (.iload_n 1, 1) := by decide +kernel
theorem dX3_tiedOrNone_1 : decode cX3_tiedOrNone 1 = .ok (.invokestatic 56, 3) := by decide +kernel
theorem dX3_tiedOrNone_4 : decode cX3_tiedOrNone 4 = .ok (.ifCond .eq 10, 3) := by decide +kernel
theorem dX3_tiedOrNone_7 : decode cX3_tiedOrNone 7 = .ok (.iload_n 2, 1) := by decide +kernel
theorem dX3_tiedOrNone_8 : decode cX3_tiedOrNone 8 = .ok (.invokestatic 56, 3) := by decide +kernel
theorem dX3_tiedOrNone_11 : decode cX3_tiedOrNone 11 = .ok (.ifCond .ne 5, 3) := by decide +kernel
theorem dX3_tiedOrNone_14 : decode cX3_tiedOrNone 14 = .ok (.iconst (-1), 1) := by decide +kernel
theorem dX3_tiedOrNone_15 : decode cX3_tiedOrNone 15 = .ok (.ireturn, 1) := by decide +kernel
theorem dX3_tiedOrNone_16 : decode cX3_tiedOrNone 16 = .ok (.aload_n 0, 1) := by decide +kernel
theorem dX3_tiedOrNone_17 : decode cX3_tiedOrNone 17 = .ok (.iload_n 1, 1) := by decide +kernel
theorem dX3_tiedOrNone_18 : decode cX3_tiedOrNone 18 = .ok (.iload_n 2, 1) := by decide +kernel
theorem dX3_tiedOrNone_19 : decode cX3_tiedOrNone 19 = .ok (.invokevirtual 107, 3) := by decide +kernel
theorem dX3_tiedOrNone_22 : decode cX3_tiedOrNone 22 = .ok (.ifCond .eq 7, 3) := by decide +kernel
theorem dX3_tiedOrNone_25 : decode cX3_tiedOrNone 25 = .ok (.iconst 1, 1) := by decide +kernel
theorem dX3_tiedOrNone_26 : decode cX3_tiedOrNone 26 = .ok (.goto 4, 3) := by decide +kernel
theorem dX3_tiedOrNone_29 : decode cX3_tiedOrNone 29 = .ok (.iconst 0, 1) := by decide +kernel
theorem dX3_tiedOrNone_30 : decode cX3_tiedOrNone 30 = .ok (.ireturn, 1) := by decide +kernel
theorem dX3_requireRoom_0 : decode cX3_requireRoom 0 = .ok (.iload_n 1, 1) := by decide +kernel
theorem dX3_requireRoom_1 : decode cX3_requireRoom 1 = .ok (.ifCond .eq 23, 3) := by decide +kernel
theorem dX3_requireRoom_4 : decode cX3_requireRoom 4 = .ok (.aload_n 0, 1) := by decide +kernel
theorem dX3_requireRoom_5 : decode cX3_requireRoom 5 = .ok (.getfield 32, 3) := by decide +kernel
theorem dX3_requireRoom_8 : decode cX3_requireRoom 8 = .ok (.getfield 99, 3) := by decide +kernel
theorem dX3_requireRoom_11 : decode cX3_requireRoom 11 = .ok (.ifCond .le 13, 3) := by decide +kernel
theorem dX3_requireRoom_14 : decode cX3_requireRoom 14 = .ok (.new 102, 3) := by decide +kernel
theorem dX3_requireRoom_17 : decode cX3_requireRoom 17 = .ok (.dup, 1) := by decide +kernel
theorem dX3_requireRoom_18 : decode cX3_requireRoom 18 = .ok (.ldc 104, 2) := by decide +kernel
theorem dX3_requireRoom_20 : decode cX3_requireRoom 20 = .ok (.invokespecial 106, 3) := by decide +kernel
theorem dX3_requireRoom_23 : decode cX3_requireRoom 23 = .ok (.athrow, 1) := by decide +kernel
theorem dX3_requireRoom_24 : decode cX3_requireRoom 24 = .ok (.lload_n 2, 1) := by decide +kernel
theorem dX3_requireRoom_25 : decode cX3_requireRoom 25 = .ok (.bipush 30, 2) := by decide +kernel
theorem dX3_requireRoom_27 : decode cX3_requireRoom 27 = .ok (.aload_n 0, 1) := by decide +kernel
theorem dX3_requireRoom_28 : decode cX3_requireRoom 28 = .ok (.iload_n 1, 1) := by decide +kernel
theorem dX3_requireRoom_29 : decode cX3_requireRoom 29 = .ok (.invokevirtual 77, 3) := by decide +kernel
theorem dX3_requireRoom_32 : decode cX3_requireRoom 32 = .ok (.getfield 85, 3) := by decide +kernel
theorem dX3_requireRoom_35 : decode cX3_requireRoom 35 = .ok (.isub, 1) := by decide +kernel
theorem dX3_requireRoom_36 : decode cX3_requireRoom 36 = .ok (.i2l, 1) := by decide +kernel
theorem dX3_requireRoom_37 : decode cX3_requireRoom 37 = .ok (.lcmp, 1) := by decide +kernel
theorem dX3_requireRoom_38 : decode cX3_requireRoom 38 = .ok (.ifCond .le 13, 3) := by decide +kernel
theorem dX3_requireRoom_41 : decode cX3_requireRoom 41 = .ok (.new 102, 3) := by decide +kernel
theorem dX3_requireRoom_44 : decode cX3_requireRoom 44 = .ok (.dup, 1) := by decide +kernel
theorem dX3_requireRoom_45 : decode cX3_requireRoom 45 = .ok (.ldc 204, 2) := by decide +kernel
theorem dX3_requireRoom_47 : decode cX3_requireRoom 47 = .ok (.invokespecial 106, 3) := by decide +kernel
theorem dX3_requireRoom_50 : decode cX3_requireRoom 50 = .ok (.athrow, 1) := by decide +kernel
theorem dX3_requireRoom_51 : decode cX3_requireRoom 51 = .ok (.return_, 1) := by decide +kernel
theorem dX3_requireCloth_0 : decode cX3_requireCloth 0 = .ok (.aload_n 0, 1) := by decide +kernel
theorem dX3_requireCloth_1 : decode cX3_requireCloth 1 = .ok (.getfield 32, 3) := by decide +kernel
theorem dX3_requireCloth_4 : decode cX3_requireCloth 4 = .ok (.getfield 99, 3) := by decide +kernel
theorem dX3_requireCloth_7 : decode cX3_requireCloth 7 = .ok (.ifCond .ne 13, 3) := by decide +kernel
theorem dX3_requireCloth_10 : decode cX3_requireCloth 10 = .ok (.new 102, 3) := by decide +kernel
theorem dX3_requireCloth_13 : decode cX3_requireCloth 13 = .ok (.dup, 1) := by decide +kernel
theorem dX3_requireCloth_14 : decode cX3_requireCloth 14 = .ok (.ldc 206, 2) := by decide +kernel
theorem dX3_requireCloth_16 : decode cX3_requireCloth 16 = .ok (.invokespecial 106, 3) := by decide +kernel
theorem dX3_requireCloth_19 : decode cX3_requireCloth 19 = .ok (.athrow, 1) := by decide +kernel
theorem dX3_requireCloth_20 : decode cX3_requireCloth 20 = .ok (.return_, 1) := by decide +kernel
theorem dX3_endsRaisedBy_0 : decode cX3_endsRaisedBy 0 = .ok (.iconst 0, 1) := by decide +kernel
theorem dX3_endsRaisedBy_1 : decode cX3_endsRaisedBy 1 = .ok (.istore_n 2, 1) := by decide +kernel
theorem dX3_endsRaisedBy_2 : decode cX3_endsRaisedBy 2 = .ok (.iconst 0, 1) := by decide +kernel
theorem dX3_endsRaisedBy_3 : decode cX3_endsRaisedBy 3 = .ok (.istore_n 3, 1) := by decide +kernel
theorem dX3_endsRaisedBy_4 : decode cX3_endsRaisedBy 4 = .ok (.iload_n 3, 1) := by decide +kernel
theorem dX3_endsRaisedBy_5 : decode cX3_endsRaisedBy 5 = .ok (.aload_n 0, 1) := by decide +kernel
theorem dX3_endsRaisedBy_6 : decode cX3_endsRaisedBy 6 = .ok (.getfield 10, 3) := by decide +kernel
theorem dX3_endsRaisedBy_9 : decode cX3_endsRaisedBy 9 = .ok (.getfield 85, 3) := by decide +kernel
theorem dX3_endsRaisedBy_12 : decode cX3_endsRaisedBy 12 = .ok (.if_icmp .ge 29, 3) := by decide +kernel
theorem dX3_endsRaisedBy_15 : decode cX3_endsRaisedBy 15 = .ok (.iload_n 2, 1) := by decide +kernel
theorem dX3_endsRaisedBy_16 : decode cX3_endsRaisedBy 16 = .ok (.iload_n 3, 1) := by decide +kernel
theorem dX3_endsRaisedBy_17 : decode cX3_endsRaisedBy 17 = .ok (.aload_n 0, 1) := by decide +kernel
theorem dX3_endsRaisedBy_18 : decode cX3_endsRaisedBy 18 = .ok (.aload_n 0, 1) := by decide +kernel
theorem dX3_endsRaisedBy_19 : decode cX3_endsRaisedBy 19 = .ok (.getfield 10, 3) := by decide +kernel
theorem dX3_endsRaisedBy_22 : decode cX3_endsRaisedBy 22 = .ok (.getfield 138, 3) := by decide +kernel
theorem dX3_endsRaisedBy_25 : decode cX3_endsRaisedBy 25 = .ok (.iload_n 3, 1) := by decide +kernel
theorem dX3_endsRaisedBy_26 : decode cX3_endsRaisedBy 26 = .ok (.iaload, 1) := by decide +kernel
theorem dX3_endsRaisedBy_27 : decode cX3_endsRaisedBy 27 = .ok (.iload_n 1, 1) := by decide +kernel
theorem dX3_endsRaisedBy_28 : decode cX3_endsRaisedBy 28 = .ok (.invokevirtual 107, 3) := by decide +kernel
theorem dX3_endsRaisedBy_31 : decode cX3_endsRaisedBy 31 = .ok (.invokestatic 111, 3) := by decide +kernel
theorem dX3_endsRaisedBy_34 : decode cX3_endsRaisedBy 34 = .ok (.istore_n 2, 1) := by decide +kernel
theorem dX3_endsRaisedBy_35 : decode cX3_endsRaisedBy 35 = .ok (.iinc 3 1, 3) := by decide +kernel
theorem dX3_endsRaisedBy_38 : decode cX3_endsRaisedBy 38 = .ok (.goto (-34), 3) := by decide +kernel
theorem dX3_endsRaisedBy_41 : decode cX3_endsRaisedBy 41 = .ok (.iload_n 2, 1) := by decide +kernel
theorem dX3_endsRaisedBy_42 : decode cX3_endsRaisedBy 42 = .ok (.ireturn, 1) := by decide +kernel
theorem dX3_longestStretch_0 : decode cX3_longestStretch 0 = .ok (.iload_n 2, 1) := by decide +kernel
theorem dX3_longestStretch_1 : decode cX3_longestStretch 1 = .ok (.ifCond .eq 7, 3) := by decide +kernel
theorem dX3_longestStretch_4 : decode cX3_longestStretch 4 = .ok (.iconst 1, 1) := by decide +kernel
theorem dX3_longestStretch_5 : decode cX3_longestStretch 5 = .ok (.goto 4, 3) := by decide +kernel
theorem dX3_longestStretch_8 : decode cX3_longestStretch 8 = .ok (.iconst 0, 1) := by decide +kernel
theorem dX3_longestStretch_9 : decode cX3_longestStretch 9 = .ok (.istore_n 3, 1) := by decide +kernel
theorem dX3_longestStretch_10 : decode cX3_longestStretch 10 = .ok (.iconst 0, 1) := by decide +kernel
theorem dX3_longestStretch_11 : decode cX3_longestStretch 11 = .ok (.istore 4, 2) := by decide +kernel
theorem dX3_longestStretch_13 : decode cX3_longestStretch 13 = .ok (.iconst 0, 1) := by decide +kernel
theorem dX3_longestStretch_14 : decode cX3_longestStretch 14 = .ok (.istore 5, 2) := by decide +kernel
theorem dX3_longestStretch_16 : decode cX3_longestStretch 16 = .ok (.iconst 0, 1) := by decide +kernel
theorem dX3_longestStretch_17 : decode cX3_longestStretch 17 = .ok (.istore 6, 2) := by decide +kernel
theorem dX3_longestStretch_19 : decode cX3_longestStretch 19 = .ok (.iload 6, 2) := by decide +kernel
theorem dX3_longestStretch_21 : decode cX3_longestStretch 21 = .ok (.iload_n 1, 1) := by decide +kernel
theorem dX3_longestStretch_22 : decode cX3_longestStretch 22 = .ok (.if_icmp .ge 38, 3) := by decide +kernel
theorem dX3_longestStretch_25 : decode cX3_longestStretch 25 = .ok (.iload_n 0, 1) := by decide +kernel
theorem dX3_longestStretch_26 : decode cX3_longestStretch 26 = .ok (.iload 6, 2) := by decide +kernel
theorem dX3_longestStretch_28 : decode cX3_longestStretch 28 = .ok (.ishr, 1) := by decide +kernel
theorem dX3_longestStretch_29 : decode cX3_longestStretch 29 = .ok (.iconst 1, 1) := by decide +kernel
theorem dX3_longestStretch_30 : decode cX3_longestStretch 30 = .ok (.iand, 1) := by decide +kernel
theorem dX3_longestStretch_31 : decode cX3_longestStretch 31 = .ok (.iload_n 3, 1) := by decide +kernel
theorem dX3_longestStretch_32 : decode cX3_longestStretch 32 = .ok (.if_icmp .ne 10, 3) := by decide +kernel
theorem dX3_longestStretch_35 : decode cX3_longestStretch 35 = .ok (.iload 5, 2) := by decide +kernel
theorem dX3_longestStretch_37 : decode cX3_longestStretch 37 = .ok (.iconst 1, 1) := by decide +kernel
theorem dX3_longestStretch_38 : decode cX3_longestStretch 38 = .ok (.iadd, 1) := by decide +kernel
theorem dX3_longestStretch_39 : decode cX3_longestStretch 39 = .ok (.goto 4, 3) := by decide +kernel
theorem dX3_longestStretch_42 : decode cX3_longestStretch 42 = .ok (.iconst 0, 1) := by decide +kernel
theorem dX3_longestStretch_43 : decode cX3_longestStretch 43 = .ok (.istore 5, 2) := by decide +kernel
theorem dX3_longestStretch_45 : decode cX3_longestStretch 45 = .ok (.iload 4, 2) := by decide +kernel
theorem dX3_longestStretch_47 : decode cX3_longestStretch 47 = .ok (.iload 5, 2) := by decide +kernel
theorem dX3_longestStretch_49 : decode cX3_longestStretch 49 = .ok (.invokestatic 208, 3) := by decide +kernel
theorem dX3_longestStretch_52 : decode cX3_longestStretch 52 = .ok (.istore 4, 2) := by decide +kernel
theorem dX3_longestStretch_54 : decode cX3_longestStretch 54 = .ok (.iinc 6 1, 3) := by decide +kernel
theorem dX3_longestStretch_57 : decode cX3_longestStretch 57 = .ok (.goto (-38), 3) := by decide +kernel
theorem dX3_longestStretch_60 : decode cX3_longestStretch 60 = .ok (.iload 4, 2) := by decide +kernel
theorem dX3_longestStretch_62 : decode cX3_longestStretch 62 = .ok (.ireturn, 1) := by decide +kernel
theorem dX3_adoptPaintedDraft_0 : decode cX3_adoptPaintedDraft 0 = .ok (.aload_n 0, 1) := by decide +kernel
theorem dX3_adoptPaintedDraft_1 : decode cX3_adoptPaintedDraft 1 = .ok (.getfield 10, 3) := by decide +kernel
theorem dX3_adoptPaintedDraft_4 : decode cX3_adoptPaintedDraft 4 = .ok (.aload_n 0, 1) := by decide +kernel
theorem dX3_adoptPaintedDraft_5 : decode cX3_adoptPaintedDraft 5 = .ok (.getfield 46, 3) := by decide +kernel
theorem dX3_adoptPaintedDraft_8 : decode cX3_adoptPaintedDraft 8 = .ok (.invokevirtual 211, 3) := by decide +kernel
theorem dX3_adoptPaintedDraft_11 : decode cX3_adoptPaintedDraft 11 = .ok (.aload_n 0, 1) := by decide +kernel
theorem dX3_adoptPaintedDraft_12 : decode cX3_adoptPaintedDraft 12 = .ok (.getfield 16, 3) := by decide +kernel
theorem dX3_adoptPaintedDraft_15 : decode cX3_adoptPaintedDraft 15 = .ok (.aload_n 0, 1) := by decide +kernel
theorem dX3_adoptPaintedDraft_16 : decode cX3_adoptPaintedDraft 16 = .ok (.getfield 49, 3) := by decide +kernel
theorem dX3_adoptPaintedDraft_19 : decode cX3_adoptPaintedDraft 19 = .ok (.invokevirtual 211, 3) := by decide +kernel
theorem dX3_adoptPaintedDraft_22 : decode cX3_adoptPaintedDraft 22 = .ok (.aload_n 0, 1) := by decide +kernel
theorem dX3_adoptPaintedDraft_23 : decode cX3_adoptPaintedDraft 23 = .ok (.getfield 19, 3) := by decide +kernel
theorem dX3_adoptPaintedDraft_26 : decode cX3_adoptPaintedDraft 26 = .ok (.iconst 0, 1) := by decide +kernel
theorem dX3_adoptPaintedDraft_27 : decode cX3_adoptPaintedDraft 27 = .ok (.invokestatic 215, 3) := by decide +kernel
theorem dX3_adoptPaintedDraft_30 : decode cX3_adoptPaintedDraft 30 = .ok (.iconst 0, 1) := by decide +kernel
theorem dX3_adoptPaintedDraft_31 : decode cX3_adoptPaintedDraft 31 = .ok (.istore_n 1, 1) := by decide +kernel
theorem dX3_adoptPaintedDraft_32 : decode cX3_adoptPaintedDraft 32 = .ok (.iload_n 1, 1) := by decide +kernel
theorem dX3_adoptPaintedDraft_33 : decode cX3_adoptPaintedDraft 33 = .ok (.aload_n 0, 1) := by decide +kernel
theorem dX3_adoptPaintedDraft_34 : decode cX3_adoptPaintedDraft 34 = .ok (.getfield 43, 3) := by decide +kernel
theorem dX3_adoptPaintedDraft_37 : decode cX3_adoptPaintedDraft 37 = .ok (.getfield 99, 3) := by decide +kernel
theorem dX3_adoptPaintedDraft_40 : decode cX3_adoptPaintedDraft 40 = .ok (.if_icmp .ge 71, 3) := by decide +kernel
theorem dX3_adoptPaintedDraft_43 : decode cX3_adoptPaintedDraft 43 = .ok (.iconst 0, 1) := by decide +kernel
theorem dX3_adoptPaintedDraft_44 : decode cX3_adoptPaintedDraft 44 = .ok (.istore_n 2, 1) := by decide +kernel
theorem dX3_adoptPaintedDraft_45 : decode cX3_adoptPaintedDraft 45 = .ok (.iload_n 2, 1) := by decide +kernel
theorem dX3_adoptPaintedDraft_46 : decode cX3_adoptPaintedDraft 46 = .ok (.aload_n 0, 1) := by decide +kernel
theorem dX3_adoptPaintedDraft_47 : decode cX3_adoptPaintedDraft 47 = .ok (.getfield 43, 3) := by decide +kernel
theorem dX3_adoptPaintedDraft_50 : decode cX3_adoptPaintedDraft 50 = .ok (.getfield 135, 3) := by decide +kernel
theorem dX3_adoptPaintedDraft_53 : decode cX3_adoptPaintedDraft 53 = .ok (.if_icmp .ge 52, 3) := by decide +kernel
theorem dX3_adoptPaintedDraft_56 : decode cX3_adoptPaintedDraft 56 = .ok (.aload_n 0, 1) := by decide +kernel
theorem dX3_adoptPaintedDraft_57 : decode cX3_adoptPaintedDraft 57 = .ok (.getfield 10, 3) := by decide +kernel
theorem dX3_adoptPaintedDraft_60 : decode cX3_adoptPaintedDraft 60 = .ok (.getfield 138, 3) := by decide +kernel
theorem dX3_adoptPaintedDraft_63 : decode cX3_adoptPaintedDraft 63 = .ok (.iload_n 2, 1) := by decide +kernel
theorem dX3_adoptPaintedDraft_64 : decode cX3_adoptPaintedDraft 64 = .ok (.iaload, 1) := by decide +kernel
theorem dX3_adoptPaintedDraft_65 : decode cX3_adoptPaintedDraft 65 = .ok (.istore_n 3, 1) := by decide +kernel
theorem dX3_adoptPaintedDraft_66 : decode cX3_adoptPaintedDraft 66 = .ok (.aload_n 0, 1) := by decide +kernel
theorem dX3_adoptPaintedDraft_67 : decode cX3_adoptPaintedDraft 67 = .ok (.getfield 19, 3) := by decide +kernel
theorem dX3_adoptPaintedDraft_70 : decode cX3_adoptPaintedDraft 70 = .ok (.iload_n 3, 1) := by decide +kernel
theorem dX3_adoptPaintedDraft_71 : decode cX3_adoptPaintedDraft 71 = .ok (.aload_n 0, 1) := by decide +kernel
theorem dX3_adoptPaintedDraft_72 : decode cX3_adoptPaintedDraft 72 = .ok (.getfield 19, 3) := by decide +kernel
theorem dX3_adoptPaintedDraft_75 : decode cX3_adoptPaintedDraft 75 = .ok (.iload_n 3, 1) := by decide +kernel
theorem dX3_adoptPaintedDraft_76 : decode cX3_adoptPaintedDraft 76 = .ok (.iaload, 1) := by decide +kernel
theorem dX3_adoptPaintedDraft_77 : decode cX3_adoptPaintedDraft 77 = .ok (.aload_n 0, 1) := by decide +kernel
theorem dX3_adoptPaintedDraft_78 : decode cX3_adoptPaintedDraft 78 = .ok (.getfield 16, 3) := by decide +kernel
theorem dX3_adoptPaintedDraft_81 : decode cX3_adoptPaintedDraft 81 = .ok (.getfield 138, 3) := by decide +kernel
theorem dX3_adoptPaintedDraft_84 : decode cX3_adoptPaintedDraft 84 = .ok (.iload_n 1, 1) := by decide +kernel
theorem dX3_adoptPaintedDraft_85 : decode cX3_adoptPaintedDraft 85 = .ok (.iaload, 1) := by decide +kernel
theorem dX3_adoptPaintedDraft_86 : decode cX3_adoptPaintedDraft 86 = .ok (.aload_n 0, 1) := by decide +kernel
theorem dX3_adoptPaintedDraft_87 : decode cX3_adoptPaintedDraft 87 = .ok (.getfield 43, 3) := by decide +kernel
theorem dX3_adoptPaintedDraft_90 : decode cX3_adoptPaintedDraft 90 = .ok (.iload_n 2, 1) := by decide +kernel
theorem dX3_adoptPaintedDraft_91 : decode cX3_adoptPaintedDraft 91 = .ok (.iload_n 1, 1) := by decide +kernel
theorem dX3_adoptPaintedDraft_92 : decode cX3_adoptPaintedDraft 92 = .ok (.invokevirtual 157, 3) := by decide +kernel
theorem dX3_adoptPaintedDraft_95 : decode cX3_adoptPaintedDraft 95 = .ok (.invokestatic 111, 3) := by decide +kernel
theorem dX3_adoptPaintedDraft_98 : decode cX3_adoptPaintedDraft 98 = .ok (.iastore, 1) := by decide +kernel
theorem dX3_adoptPaintedDraft_99 : decode cX3_adoptPaintedDraft 99 = .ok (.iinc 2 1, 3) := by decide +kernel
theorem dX3_adoptPaintedDraft_102 : decode cX3_adoptPaintedDraft 102 = .ok (.goto (-57), 3) := by decide +kernel
theorem dX3_adoptPaintedDraft_105 : decode cX3_adoptPaintedDraft 105 = .ok (.iinc 1 1, 3) := by decide +kernel
theorem dX3_adoptPaintedDraft_108 : decode cX3_adoptPaintedDraft 108 = .ok (.goto (-76), 3) := by decide +kernel
theorem dX3_adoptPaintedDraft_111 : decode cX3_adoptPaintedDraft 111 = .ok (.aload_n 0, 1) := by decide +kernel
theorem dX3_adoptPaintedDraft_112 : decode cX3_adoptPaintedDraft 112 = .ok (.getfield 32, 3) := by decide +kernel
theorem dX3_adoptPaintedDraft_115 : decode cX3_adoptPaintedDraft 115 = .ok (.iconst 0, 1) := by decide +kernel
theorem dX3_adoptPaintedDraft_116 : decode cX3_adoptPaintedDraft 116 = .ok (.putfield 99, 3) := by decide +kernel
theorem dX3_adoptPaintedDraft_119 : decode cX3_adoptPaintedDraft 119 = .ok (.return_, 1) := by decide +kernel
theorem dX4_init_0 : decode cX4_init 0 = .ok (.aload_n 0, 1) := by decide +kernel
theorem dX4_init_1 : decode cX4_init 1 = .ok (.invokespecial 1, 3) := by decide +kernel
theorem dX4_init_4 : decode cX4_init 4 = .ok (.aload_n 0, 1) := by decide +kernel
theorem dX4_init_5 : decode cX4_init 5 = .ok (.bipush 60, 2) := by decide +kernel
theorem dX4_init_7 : decode cX4_init 7 = .ok (.newarray .int, 2) := by decide +kernel
theorem dX4_init_9 : decode cX4_init 9 = .ok (.putfield 7, 3) := by decide +kernel
theorem dX4_init_12 : decode cX4_init 12 = .ok (.aload_n 0, 1) := by decide +kernel
theorem dX4_init_13 : decode cX4_init 13 = .ok (.sipush 144, 3) := by decide +kernel
theorem dX4_init_16 : decode cX4_init 16 = .ok (.newarray .boolean, 2) := by decide +kernel
theorem dX4_init_18 : decode cX4_init 18 = .ok (.putfield 13, 3) := by decide +kernel
theorem dX4_init_21 : decode cX4_init 21 = .ok (.aload_n 0, 1) := by decide +kernel
theorem dX4_init_22 : decode cX4_init 22 = .ok (.bipush 60, 2) := by decide +kernel
theorem dX4_init_24 : decode cX4_init 24 = .ok (.newarray .int, 2) := by decide +kernel
theorem dX4_init_26 : decode cX4_init 26 = .ok (.putfield 17, 3) := by decide +kernel
theorem dX4_init_29 : decode cX4_init 29 = .ok (.aload_n 0, 1) := by decide +kernel
theorem dX4_init_30 : decode cX4_init 30 = .ok (.sipush 900, 3) := by decide +kernel
theorem dX4_init_33 : decode cX4_init 33 = .ok (.newarray .boolean, 2) := by decide +kernel
theorem dX4_init_35 : decode cX4_init 35 = .ok (.putfield 20, 3) := by decide +kernel
theorem dX4_init_38 : decode cX4_init 38 = .ok (.aload_n 0, 1) := by decide +kernel
theorem dX4_init_39 : decode cX4_init 39 = .ok (.sipush 3600, 3) := by decide +kernel
theorem dX4_init_42 : decode cX4_init 42 = .ok (.newarray .boolean, 2) := by decide +kernel
theorem dX4_init_44 : decode cX4_init 44 = .ok (.putfield 23, 3) := by decide +kernel
theorem dX4_init_47 : decode cX4_init 47 = .ok (.aload_n 0, 1) := by decide +kernel
theorem dX4_init_48 : decode cX4_init 48 = .ok (.bipush 60, 2) := by decide +kernel
theorem dX4_init_50 : decode cX4_init 50 = .ok (.newarray .int, 2) := by decide +kernel
theorem dX4_init_52 : decode cX4_init 52 = .ok (.putfield 26, 3) := by decide +kernel
theorem dX4_init_55 : decode cX4_init 55 = .ok (.aload_n 0, 1) := by decide +kernel
theorem dX4_init_56 : decode cX4_init 56 = .ok (.iconst 1, 1) := by decide +kernel
theorem dX4_init_57 : decode cX4_init 57 = .ok (.putfield 29, 3) := by decide +kernel
theorem dX4_init_60 : decode cX4_init 60 = .ok (.aload_n 0, 1) := by decide +kernel
theorem dX4_init_61 : decode cX4_init 61 = .ok (.iconst 1, 1) := by decide +kernel
theorem dX4_init_62 : decode cX4_init 62 = .ok (.putfield 33, 3) := by decide +kernel
theorem dX4_init_65 : decode cX4_init 65 = .ok (.aload_n 0, 1) := by decide +kernel
theorem dX4_init_66 : decode cX4_init 66 = .ok (.sipush 900, 3) := by decide +kernel
theorem dX4_init_69 : decode cX4_init 69 = .ok (.newarray .boolean, 2) := by decide +kernel
theorem dX4_init_71 : decode cX4_init 71 = .ok (.putfield 36, 3) := by decide +kernel
theorem dX4_init_74 : decode cX4_init 74 = .ok (.aload_n 0, 1) := by decide +kernel
theorem dX4_init_75 : decode cX4_init 75 = .ok (.bipush 60, 2) := by decide +kernel
theorem dX4_init_77 : decode cX4_init 77 = .ok (.newarray .int, 2) := by decide +kernel
theorem dX4_init_79 : decode cX4_init 79 = .ok (.putfield 39, 3) := by decide +kernel
theorem dX4_init_82 : decode cX4_init 82 = .ok (.return_, 1) := by decide +kernel
theorem dX4_thrown_0 : decode cX4_thrown 0 = .ok (.aload_n 0, 1) := by decide +kernel
theorem dX4_thrown_1 : decode cX4_thrown 1 = .ok (.getfield 42, 3) := by decide +kernel
theorem dX4_thrown_4 : decode cX4_thrown 4 = .ok (.ireturn, 1) := by decide +kernel
theorem dX4_count_0 : decode cX4_count 0 = .ok (.iload_n 1, 1) := by decide +kernel
theorem dX4_count_1 : decode cX4_count 1 = .ok (.ifCond .eq 10, 3) := by decide +kernel
theorem dX4_count_4 : decode cX4_count 4 = .ok (.aload_n 0, 1) := by decide +kernel
theorem dX4_count_5 : decode cX4_count 5 = .ok (.getfield 45, 3) := by decide +kernel
theorem dX4_count_8 : decode cX4_count 8 = .ok (.goto 7, 3) := by decide +kernel
theorem dX4_count_11 : decode cX4_count 11 = .ok (.aload_n 0, 1) := by decide +kernel
theorem dX4_count_12 : decode cX4_count 12 = .ok (.getfield 48, 3) := by decide +kernel
theorem dX4_count_15 : decode cX4_count 15 = .ok (.ireturn, 1) := by decide +kernel
theorem dX4_append_0 : decode cX4_append 0 = .ok (.iload_n 1, 1) := by decide +kernel
theorem dX4_append_1 : decode cX4_append 1 = .ok (.ifCond .eq 26, 3) := by decide +kernel
theorem dX4_append_4 : decode cX4_append 4 = .ok (.aload_n 0, 1) := by decide +kernel
theorem dX4_append_5 : decode cX4_append 5 = .ok (.getfield 7, 3) := by decide +kernel
theorem dX4_append_8 : decode cX4_append 8 = .ok (.aload_n 0, 1) := by decide +kernel
theorem dX4_append_9 : decode cX4_append 9 = .ok (.getfield 45, 3) := by decide +kernel
theorem dX4_append_12 : decode cX4_append 12 = .ok (.iload_n 2, 1) := by decide +kernel
theorem dX4_append_13 : decode cX4_append 13 = .ok (.iastore, 1) := by decide +kernel
theorem dX4_append_14 : decode cX4_append 14 = .ok (.aload_n 0, 1) := by decide +kernel
theorem dX4_append_15 : decode cX4_append 15 = .ok (.dup, 1) := by decide +kernel
theorem dX4_append_16 : decode cX4_append 16 = .ok (.getfield 45, 3) := by decide +kernel
theorem dX4_append_19 : decode cX4_append 19 = .ok (.iconst 1, 1) := by decide +kernel
theorem dX4_append_20 : decode cX4_append 20 = .ok (.iadd, 1) := by decide +kernel
theorem dX4_append_21 : decode cX4_append 21 = .ok (.putfield 45, 3) := by decide +kernel
theorem dX4_append_24 : decode cX4_append 24 = .ok (.goto 26, 3) := by decide +kernel
theorem dX4_append_27 : decode cX4_append 27 = .ok (.aload_n 0, 1) := by decide +kernel
theorem dX4_append_28 : decode cX4_append 28 = .ok (.getfield 7, 3) := by decide +kernel
theorem dX4_append_31 : decode cX4_append 31 = .ok (.bipush 30, 2) := by decide +kernel
theorem dX4_append_33 : decode cX4_append 33 = .ok (.aload_n 0, 1) := by decide +kernel
theorem dX4_append_34 : decode cX4_append 34 = .ok (.getfield 48, 3) := by decide +kernel
theorem dX4_append_37 : decode cX4_append 37 = .ok (.iadd, 1) := by decide +kernel
theorem dX4_append_38 : decode cX4_append 38 = .ok (.iload_n 2, 1) := by decide +kernel
theorem dX4_append_39 : decode cX4_append 39 = .ok (.iastore, 1) := by decide +kernel
theorem dX4_append_40 : decode cX4_append 40 = .ok (.aload_n 0, 1) := by decide +kernel
theorem dX4_append_41 : decode cX4_append 41 = .ok (.dup, 1) := by decide +kernel
theorem dX4_append_42 : decode cX4_append 42 = .ok (.getfield 48, 3) := by decide +kernel
theorem dX4_append_45 : decode cX4_append 45 = .ok (.iconst 1, 1) := by decide +kernel
theorem dX4_append_46 : decode cX4_append 46 = .ok (.iadd, 1) := by decide +kernel
theorem dX4_append_47 : decode cX4_append 47 = .ok (.putfield 48, 3) := by decide +kernel
theorem dX4_append_50 : decode cX4_append 50 = .ok (.return_, 1) := by decide +kernel
theorem dX4_mayAppend_0 : decode cX4_mayAppend 0 = .ok (.aload_n 0, 1) := by decide +kernel
theorem dX4_mayAppend_1 : decode cX4_mayAppend 1 = .ok (.aload_n 0, 1) := by decide +kernel
theorem dX4_mayAppend_2 : decode cX4_mayAppend 2 = .ok (.iload_n 1, 1) := by decide +kernel
theorem dX4_mayAppend_3 : decode cX4_mayAppend 3 = .ok (.invokevirtual 51, 3) := by decide +kernel
theorem dX4_mayAppend_6 : decode cX4_mayAppend 6 = .ok (.i2l, 1) := by decide +kernel
theorem dX4_mayAppend_7 : decode cX4_mayAppend 7 = .ok (.lload_n 2, 1) := by decide +kernel
theorem dX4_mayAppend_8 : decode cX4_mayAppend 8 = .ok (.ladd, 1) := by decide +kernel
theorem dX4_mayAppend_9 : decode cX4_mayAppend 9 = .ok (.ldc2_w 55, 3) := by decide +kernel
theorem dX4_mayAppend_12 : decode cX4_mayAppend 12 = .ok (.lcmp, 1) := by decide +kernel
theorem dX4_mayAppend_13 : decode cX4_mayAppend 13 = .ok (.ifCond .gt 14, 3) := by decide +kernel
theorem dX4_mayAppend_16 : decode cX4_mayAppend 16 = .ok (.iload_n 1, 1) := by decide +kernel
theorem dX4_mayAppend_17 : decode cX4_mayAppend 17 = .ok (.ifCond .eq 14, 3) := by decide +kernel
theorem dX4_mayAppend_20 : decode cX4_mayAppend 20 = .ok (.aload_n 0, 1) := by decide +kernel
theorem dX4_mayAppend_21 : decode cX4_mayAppend 21 = .ok (.getfield 57, 3) := by decide +kernel
theorem dX4_mayAppend_24 : decode cX4_mayAppend 24 = .ok (.ifCond .le 7, 3) := by decide +kernel
theorem dX4_mayAppend_27 : decode cX4_mayAppend 27 = .ok (.iconst 2, 1) := by decide +kernel
theorem dX4_mayAppend_28 : decode cX4_mayAppend 28 = .ok (.goto 4, 3) := by decide +kernel
theorem dX4_mayAppend_31 : decode cX4_mayAppend 31 = .ok (.iconst 0, 1) := by decide +kernel
theorem dX4_mayAppend_32 : decode cX4_mayAppend 32 = .ok (.putfield 42, 3) := by decide +kernel
theorem dX4_mayAppend_35 : decode cX4_mayAppend 35 = .ok (.aload_n 0, 1) := by decide +kernel
theorem dX4_mayAppend_36 : decode cX4_mayAppend 36 = .ok (.getfield 42, 3) := by decide +kernel
theorem dX4_mayAppend_39 : decode cX4_mayAppend 39 = .ok (.ifCond .ne 7, 3) := by decide +kernel
theorem dX4_mayAppend_42 : decode cX4_mayAppend 42 = .ok (.iconst 1, 1) := by decide +kernel
theorem dX4_mayAppend_43 : decode cX4_mayAppend 43 = .ok (.goto 4, 3) := by decide +kernel
theorem dX4_mayAppend_46 : decode cX4_mayAppend 46 = .ok (.iconst 0, 1) := by decide +kernel
theorem dX4_mayAppend_47 : decode cX4_mayAppend 47 = .ok (.ireturn, 1) := by decide +kernel
theorem dX4_isOne_0 : decode cX4_isOne 0 = .ok (.iload_n 0, 1) := by decide +kernel
theorem dX4_isOne_1 : decode cX4_isOne 1 = .ok (.ifCond .lt 13, 3) := by decide +kernel
theorem dX4_isOne_4 : decode cX4_isOne 4 = .ok (.iload_n 0, 1) := by decide +kernel
theorem dX4_isOne_5 : decode cX4_isOne 5 = .ok (.bipush 12, 2) := by decide +kernel
theorem dX4_isOne_7 : decode cX4_isOne 7 = .ok (.if_icmp .ge 7, 3) := by decide +kernel
theorem dX4_isOne_10 : decode cX4_isOne 10 = .ok (.iconst 1, 1) := by decide +kernel
theorem dX4_isOne_11 : decode cX4_isOne 11 = .ok (.goto 4, 3) := by decide +kernel
theorem dX4_isOne_14 : decode cX4_isOne 14 = .ok (.iconst 0, 1) := by decide +kernel
theorem dX4_isOne_15 : decode cX4_isOne 15 = .ok (.ireturn, 1) := by decide +kernel
theorem dX4_run_0 : decode cX4_run 0 = .ok (.aload_n 0, 1) := by decide +kernel
theorem dX4_run_1 : decode cX4_run 1 = .ok (.iload_n 2, 1) := by decide +kernel
theorem dX4_run_2 : decode cX4_run 2 = .ok (.invokestatic 60, 3) := by decide +kernel
theorem dX4_run_5 : decode cX4_run 5 = .ok (.ifCond .eq 14, 3) := by decide +kernel
theorem dX4_run_8 : decode cX4_run 8 = .ok (.iload_n 3, 1) := by decide +kernel
theorem dX4_run_9 : decode cX4_run 9 = .ok (.invokestatic 60, 3) := by decide +kernel
theorem dX4_run_12 : decode cX4_run 12 = .ok (.ifCond .eq 7, 3) := by decide +kernel
theorem dX4_run_15 : decode cX4_run 15 = .ok (.iconst 0, 1) := by decide +kernel
theorem dX4_run_16 : decode cX4_run 16 = .ok (.goto 4, 3) := by decide +kernel
theorem dX4_run_19 : decode cX4_run 19 = .ok (.iconst 1, 1) := by decide +kernel
theorem dX4_run_20 : decode cX4_run 20 = .ok (.putfield 42, 3) := by decide +kernel
theorem dX4_run_23 : decode cX4_run 23 = .ok (.aload_n 0, 1) := by decide +kernel
theorem dX4_run_24 : decode cX4_run 24 = .ok (.getfield 42, 3) := by decide +kernel
theorem dX4_run_27 : decode cX4_run 27 = .ok (.ifCond .eq 5, 3) := by decide +kernel
theorem dX4_run_30 : decode cX4_run 30 = .ok (.iconst 0, 1) := by decide +kernel
theorem dX4_run_31 : decode cX4_run 31 = .ok (.ireturn, 1) := by decide +kernel
theorem dX4_run_32 : decode cX4_run 32 = .ok (.iload_n 2, 1) := by decide +kernel
theorem dX4_run_33 : decode cX4_run 33 = .ok (.iload_n 3, 1) := by decide +kernel
theorem dX4_run_34 : decode cX4_run 34 = .ok (.if_icmp .gt 7, 3) := by decide +kernel
theorem dX4_run_37 : decode cX4_run 37 = .ok (.iconst 1, 1) := by decide +kernel
theorem dX4_run_38 : decode cX4_run 38 = .ok (.goto 4, 3) := by decide +kernel
theorem dX4_run_41 : decode cX4_run 41 = .ok (.iconst (-1), 1) := by decide +kernel
theorem dX4_run_42 : decode cX4_run 42 = .ok (.istore 4, 2) := by decide +kernel
theorem dX4_run_44 : decode cX4_run 44 = .ok (.aload_n 0, 1) := by decide +kernel
theorem dX4_run_45 : decode cX4_run 45 = .ok (.iload_n 1, 1) := by decide +kernel
theorem dX4_run_46 : decode cX4_run 46 = .ok (.iload_n 3, 1) := by decide +kernel
theorem dX4_run_47 : decode cX4_run 47 = .ok (.iload_n 2, 1) := by decide +kernel
theorem dX4_run_48 : decode cX4_run 48 = .ok (.isub, 1) := by decide +kernel
theorem dX4_run_49 : decode cX4_run 49 = .ok (.iload 4, 2) := by decide +kernel
theorem dX4_run_51 : decode cX4_run 51 = .ok (.imul, 1) := by decide +kernel
theorem dX4_run_52 : decode cX4_run 52 = .ok (.iconst 1, 1) := by decide +kernel
theorem dX4_run_53 : decode cX4_run 53 = .ok (.iadd, 1) := by decide +kernel
theorem dX4_run_54 : decode cX4_run 54 = .ok (.i2l, 1) := by decide +kernel
theorem dX4_run_55 : decode cX4_run 55 = .ok (.invokevirtual 64, 3) := by decide +kernel
theorem dX4_run_58 : decode cX4_run 58 = .ok (.ifCond .ne 5, 3) := by decide +kernel
theorem dX4_run_61 : decode cX4_run 61 = .ok (.iconst 0, 1) := by decide +kernel
theorem dX4_run_62 : decode cX4_run 62 = .ok (.ireturn, 1) := by decide +kernel
theorem dX4_run_63 : decode cX4_run 63 = .ok (.iload_n 2, 1) := by decide +kernel
theorem dX4_run_64 : decode cX4_run 64 = .ok (.istore 5, 2) := by decide +kernel
theorem dX4_run_66 : decode cX4_run 66 = .ok (.iload 5, 2) := by decide +kernel
theorem dX4_run_68 : decode cX4_run 68 = .ok (.iload_n 3, 1) := by decide +kernel
theorem dX4_run_69 : decode cX4_run 69 = .ok (.iload 4, 2) := by decide +kernel
theorem dX4_run_71 : decode cX4_run 71 = .ok (.iadd, 1) := by decide +kernel
theorem dX4_run_72 : decode cX4_run 72 = .ok (.if_icmp .eq 20, 3) := by decide +kernel
theorem dX4_run_75 : decode cX4_run 75 = .ok (.aload_n 0, 1) := by decide +kernel
theorem dX4_run_76 : decode cX4_run 76 = .ok (.iload_n 1, 1) := by decide +kernel
theorem dX4_run_77 : decode cX4_run 77 = .ok (.iload 5, 2) := by decide +kernel
theorem dX4_run_79 : decode cX4_run 79 = .ok (.invokevirtual 68, 3) := by decide +kernel
theorem dX4_run_82 : decode cX4_run 82 = .ok (.iload 5, 2) := by decide +kernel
theorem dX4_run_84 : decode cX4_run 84 = .ok (.iload 4, 2) := by decide +kernel
theorem dX4_run_86 : decode cX4_run 86 = .ok (.iadd, 1) := by decide +kernel
theorem dX4_run_87 : decode cX4_run 87 = .ok (.istore 5, 2) := by decide +kernel
theorem dX4_run_89 : decode cX4_run 89 = .ok (.goto (-23), 3) := by decide +kernel
theorem dX4_run_92 : decode cX4_run 92 = .ok (.aload_n 0, 1) := by decide +kernel
theorem dX4_run_93 : decode cX4_run 93 = .ok (.iload_n 1, 1) := by decide +kernel
theorem dX4_run_94 : decode cX4_run 94 = .ok (.invokevirtual 51, 3) := by decide +kernel
theorem dX4_run_97 : decode cX4_run 97 = .ok (.ireturn, 1) := by decide +kernel
theorem dX4_again_0 : decode cX4_again 0 = .ok (.aload_n 0, 1) := by decide +kernel
theorem dX4_again_1 : decode cX4_again 1 = .ok (.iload_n 1, 1) := by decide +kernel
theorem dX4_again_2 : decode cX4_again 2 = .ok (.invokevirtual 51, 3) := by decide +kernel
theorem dX4_again_5 : decode cX4_again 5 = .ok (.istore 5, 2) := by decide +kernel
theorem dX4_again_7 : decode cX4_again 7 = .ok (.aload_n 0, 1) := by decide +kernel
theorem dX4_again_8 : decode cX4_again 8 = .ok (.iload_n 2, 1) := by decide +kernel
theorem dX4_again_9 : decode cX4_again 9 = .ok (.iconst 1, 1) := by decide +kernel
theorem dX4_again_10 : decode cX4_again 10 = .ok (.if_icmp .lt 18, 3) := by decide +kernel
theorem dX4_again_13 : decode cX4_again 13 = .ok (.iload_n 2, 1) := by decide +kernel
theorem dX4_again_14 : decode cX4_again 14 = .ok (.iload 5, 2) := by decide +kernel
theorem dX4_again_16 : decode cX4_again 16 = .ok (.if_icmp .gt 12, 3) := by decide +kernel
theorem dX4_again_19 : decode cX4_again 19 = .ok (.iload 4, 2) := by decide +kernel
theorem dX4_again_21 : decode cX4_again 21 = .ok (.ifCond .ne 11, 3) := by decide +kernel
theorem dX4_again_24 : decode cX4_again 24 = .ok (.iload_n 3, 1) := by decide +kernel
theorem dX4_again_25 : decode cX4_again 25 = .ok (.ifCond .ge 7, 3) := by decide +kernel
theorem dX4_again_28 : decode cX4_again 28 = .ok (.iconst 1, 1) := by decide +kernel
theorem dX4_again_29 : decode cX4_again 29 = .ok (.goto 4, 3) := by decide +kernel
theorem dX4_again_32 : decode cX4_again 32 = .ok (.iconst 0, 1) := by decide +kernel
theorem dX4_again_33 : decode cX4_again 33 = .ok (.putfield 42, 3) := by decide +kernel
theorem dX4_again_36 : decode cX4_again 36 = .ok (.aload_n 0, 1) := by decide +kernel
theorem dX4_again_37 : decode cX4_again 37 = .ok (.getfield 42, 3) := by decide +kernel
theorem dX4_again_40 : decode cX4_again 40 = .ok (.ifCond .eq 5, 3) := by decide +kernel
theorem dX4_again_43 : decode cX4_again 43 = .ok (.iconst 0, 1) := by decide +kernel
theorem dX4_again_44 : decode cX4_again 44 = .ok (.ireturn, 1) := by decide +kernel
theorem dX4_again_45 : decode cX4_again 45 = .ok (.iload_n 1, 1) := by decide +kernel
theorem dX4_again_46 : decode cX4_again 46 = .ok (.ifCond .eq 7, 3) := by decide +kernel
theorem dX4_again_49 : decode cX4_again 49 = .ok (.iconst 0, 1) := by decide +kernel
theorem dX4_again_50 : decode cX4_again 50 = .ok (.goto 5, 3) := by decide +kernel
theorem dX4_again_53 : decode cX4_again 53 = .ok (.bipush 30, 2) := by decide +kernel
theorem dX4_again_55 : decode cX4_again 55 = .ok (.istore 6, 2) := by decide +kernel
theorem dX4_again_57 : decode cX4_again 57 = .ok (.iload 4, 2) := by decide +kernel
theorem dX4_again_59 : decode cX4_again 59 = .ok (.ifCond .eq 56, 3) := by decide +kernel
theorem dX4_again_62 : decode cX4_again 62 = .ok (.aload_n 0, 1) := by decide +kernel
theorem dX4_again_63 : decode cX4_again 63 = .ok (.iload_n 1, 1) := by decide +kernel
theorem dX4_again_64 : decode cX4_again 64 = .ok (.iload_n 2, 1) := by decide +kernel
theorem dX4_again_65 : decode cX4_again 65 = .ok (.iconst 1, 1) := by decide +kernel
theorem dX4_again_66 : decode cX4_again 66 = .ok (.isub, 1) := by decide +kernel
theorem dX4_again_67 : decode cX4_again 67 = .ok (.i2l, 1) := by decide +kernel
theorem dX4_again_68 : decode cX4_again 68 = .ok (.invokevirtual 64, 3) := by decide +kernel
theorem dX4_again_71 : decode cX4_again 71 = .ok (.ifCond .ne 5, 3) := by decide +kernel
theorem dX4_again_74 : decode cX4_again 74 = .ok (.iconst 0, 1) := by decide +kernel
theorem dX4_again_75 : decode cX4_again 75 = .ok (.ireturn, 1) := by decide +kernel
theorem dX4_again_76 : decode cX4_again 76 = .ok (.iconst 2, 1) := by decide +kernel
theorem dX4_again_77 : decode cX4_again 77 = .ok (.istore 7, 2) := by decide +kernel
theorem dX4_again_79 : decode cX4_again 79 = .ok (.iload 7, 2) := by decide +kernel
theorem dX4_again_81 : decode cX4_again 81 = .ok (.iload_n 2, 1) := by decide +kernel
theorem dX4_again_82 : decode cX4_again 82 = .ok (.if_icmp .gt 27, 3) := by decide +kernel
theorem dX4_again_85 : decode cX4_again 85 = .ok (.aload_n 0, 1) := by decide +kernel
theorem dX4_again_86 : decode cX4_again 86 = .ok (.iload_n 1, 1) := by decide +kernel
theorem dX4_again_87 : decode cX4_again 87 = .ok (.aload_n 0, 1) := by decide +kernel
theorem dX4_again_88 : decode cX4_again 88 = .ok (.getfield 7, 3) := by decide +kernel
theorem dX4_again_91 : decode cX4_again 91 = .ok (.iload 6, 2) := by decide +kernel
theorem dX4_again_93 : decode cX4_again 93 = .ok (.iload 5, 2) := by decide +kernel
theorem dX4_again_95 : decode cX4_again 95 = .ok (.iadd, 1) := by decide +kernel
theorem dX4_again_96 : decode cX4_again 96 = .ok (.iload 7, 2) := by decide +kernel
theorem dX4_again_98 : decode cX4_again 98 = .ok (.isub, 1) := by decide +kernel
theorem dX4_again_99 : decode cX4_again 99 = .ok (.iaload, 1) := by decide +kernel
theorem dX4_again_100 : decode cX4_again 100 = .ok (.invokevirtual 68, 3) := by decide +kernel
theorem dX4_again_103 : decode cX4_again 103 = .ok (.iinc 7 1, 3) := by decide +kernel
theorem dX4_again_106 : decode cX4_again 106 = .ok (.goto (-27), 3) := by decide +kernel
theorem dX4_again_109 : decode cX4_again 109 = .ok (.aload_n 0, 1) := by decide +kernel
theorem dX4_again_110 : decode cX4_again 110 = .ok (.iload_n 1, 1) := by decide +kernel
theorem dX4_again_111 : decode cX4_again 111 = .ok (.invokevirtual 51, 3) := by decide +kernel
theorem dX4_again_114 : decode cX4_again 114 = .ok (.ireturn, 1) := by decide +kernel
theorem dX4_again_115 : decode cX4_again 115 = .ok (.aload_n 0, 1) := by decide +kernel
theorem dX4_again_116 : decode cX4_again 116 = .ok (.iload_n 1, 1) := by decide +kernel
theorem dX4_again_117 : decode cX4_again 117 = .ok (.iload_n 2, 1) := by decide +kernel
theorem dX4_again_118 : decode cX4_again 118 = .ok (.i2l, 1) := by decide +kernel
theorem dX4_again_119 : decode cX4_again 119 = .ok (.iload_n 3, 1) := by decide +kernel
theorem dX4_again_120 : decode cX4_again 120 = .ok (.i2l, 1) := by decide +kernel
theorem dX4_again_121 : decode cX4_again 121 = .ok (.lmul, 1) := by decide +kernel
theorem dX4_again_122 : decode cX4_again 122 = .ok (.invokevirtual 64, 3) := by decide +kernel
theorem dX4_again_125 : decode cX4_again 125 = .ok (.ifCond .ne 5, 3) := by decide +kernel
theorem dX4_again_128 : decode cX4_again 128 = .ok (.iconst 0, 1) := by decide +kernel
theorem dX4_again_129 : decode cX4_again 129 = .ok (.ireturn, 1) := by decide +kernel
theorem dX4_again_130 : decode cX4_again 130 = .ok (.iconst 0, 1) := by decide +kernel
theorem dX4_again_131 : decode cX4_again 131 = .ok (.istore 7, 2) := by decide +kernel
theorem dX4_again_133 : decode cX4_again 133 = .ok (.iload 7, 2) := by decide +kernel
theorem dX4_again_135 : decode cX4_again 135 = .ok (.iload_n 2, 1) := by decide +kernel
theorem dX4_again_136 : decode cX4_again 136 = .ok (.iload_n 3, 1) := by decide +kernel
theorem dX4_again_137 : decode cX4_again 137 = .ok (.imul, 1) := by decide +kernel
theorem dX4_again_138 : decode cX4_again 138 = .ok (.if_icmp .ge 31, 3) := by decide +kernel
theorem dX4_again_141 : decode cX4_again 141 = .ok (.aload_n 0, 1) := by decide +kernel
theorem dX4_again_142 : decode cX4_again 142 = .ok (.iload_n 1, 1) := by decide +kernel
theorem dX4_again_143 : decode cX4_again 143 = .ok (.aload_n 0, 1) := by decide +kernel
theorem dX4_again_144 : decode cX4_again 144 = .ok (.getfield 7, 3) := by decide +kernel
theorem dX4_again_147 : decode cX4_again 147 = .ok (.iload 6, 2) := by decide +kernel
theorem dX4_again_149 : decode cX4_again 149 = .ok (.iload 5, 2) := by decide +kernel
theorem dX4_again_151 : decode cX4_again 151 = .ok (.iadd, 1) := by decide +kernel
theorem dX4_again_152 : decode cX4_again 152 = .ok (.iload_n 2, 1) := by decide +kernel
theorem dX4_again_153 : decode cX4_again 153 = .ok (.isub, 1) := by decide +kernel
theorem dX4_again_154 : decode cX4_again 154 = .ok (.iload 7, 2) := by decide +kernel
theorem dX4_again_156 : decode cX4_again 156 = .ok (.iload_n 2, 1) := by decide +kernel
theorem dX4_again_157 : decode cX4_again 157 = .ok (.irem, 1) := by decide +kernel
theorem dX4_again_158 : decode cX4_again 158 = .ok (.iadd, 1) := by decide +kernel
theorem dX4_again_159 : decode cX4_again 159 = .ok (.iaload, 1) := by decide +kernel
theorem dX4_again_160 : decode cX4_again 160 = .ok (.invokevirtual 68, 3) := by decide +kernel
theorem dX4_again_163 : decode cX4_again 163 = .ok (.iinc 7 1, 3) := by decide +kernel
theorem dX4_again_166 : decode cX4_again 166 = .ok (.goto (-33), 3) := by decide +kernel
theorem dX4_again_169 : decode cX4_again 169 = .ok (.aload_n 0, 1) := by decide +kernel
theorem dX4_again_170 : decode cX4_again 170 = .ok (.iload_n 1, 1) := by decide +kernel
theorem dX4_again_171 : decode cX4_again 171 = .ok (.invokevirtual 51, 3) := by decide +kernel
theorem dX4_again_174 : decode cX4_again 174 = .ok (.ireturn, 1) := by decide +kernel
theorem dX4_clear_0 : decode cX4_clear 0 = .ok (.aload_n 0, 1) := by decide +kernel
theorem dX4_clear_1 : decode cX4_clear 1 = .ok (.iload_n 1, 1) := by decide +kernel
theorem dX4_clear_2 : decode cX4_clear 2 = .ok (.ifCond .eq 14, 3) := by decide +kernel
theorem dX4_clear_5 : decode cX4_clear 5 = .ok (.aload_n 0, 1) := by decide +kernel
theorem dX4_clear_6 : decode cX4_clear 6 = .ok (.getfield 57, 3) := by decide +kernel
theorem dX4_clear_9 : decode cX4_clear 9 = .ok (.ifCond .le 7, 3) := by decide +kernel
theorem dX4_clear_12 : decode cX4_clear 12 = .ok (.iconst 1, 1) := by decide +kernel
theorem dX4_clear_13 : decode cX4_clear 13 = .ok (.goto 4, 3) := by decide +kernel
theorem dX4_clear_16 : decode cX4_clear 16 = .ok (.iconst 0, 1) := by decide +kernel
theorem dX4_clear_17 : decode cX4_clear 17 = .ok (.putfield 42, 3) := by decide +kernel
theorem dX4_clear_20 : decode cX4_clear 20 = .ok (.aload_n 0, 1) := by decide +kernel
theorem dX4_clear_21 : decode cX4_clear 21 = .ok (.getfield 42, 3) := by decide +kernel
theorem dX4_clear_24 : decode cX4_clear 24 = .ok (.ifCond .eq 5, 3) := by decide +kernel
theorem dX4_clear_27 : decode cX4_clear 27 = .ok (.iconst 0, 1) := by decide +kernel
theorem dX4_clear_28 : decode cX4_clear 28 = .ok (.ireturn, 1) := by decide +kernel
theorem dX4_clear_29 : decode cX4_clear 29 = .ok (.iload_n 1, 1) := by decide +kernel
theorem dX4_clear_30 : decode cX4_clear 30 = .ok (.ifCond .eq 11, 3) := by decide +kernel
theorem dX4_clear_33 : decode cX4_clear 33 = .ok (.aload_n 0, 1) := by decide +kernel
theorem dX4_clear_34 : decode cX4_clear 34 = .ok (.iconst 0, 1) := by decide +kernel
theorem dX4_clear_35 : decode cX4_clear 35 = .ok (.putfield 45, 3) := by decide +kernel
theorem dX4_clear_38 : decode cX4_clear 38 = .ok (.goto 11, 3) := by decide +kernel
theorem dX4_clear_41 : decode cX4_clear 41 = .ok (.aload_n 0, 1) := by decide +kernel
theorem dX4_clear_42 : decode cX4_clear 42 = .ok (.aload_n 0, 1) := by decide +kernel
theorem dX4_clear_43 : decode cX4_clear 43 = .ok (.getfield 57, 3) := by decide +kernel
theorem dX4_clear_46 : decode cX4_clear 46 = .ok (.putfield 48, 3) := by decide +kernel
theorem dX4_clear_49 : decode cX4_clear 49 = .ok (.aload_n 0, 1) := by decide +kernel
theorem dX4_clear_50 : decode cX4_clear 50 = .ok (.iload_n 1, 1) := by decide +kernel
theorem dX4_clear_51 : decode cX4_clear 51 = .ok (.invokevirtual 51, 3) := by decide +kernel
theorem dX4_clear_54 : decode cX4_clear 54 = .ok (.ireturn, 1) := by decide +kernel
theorem dX4_tie_0 : decode cX4_tie 0 = .ok (.aload_n 0, 1) := by decide +kernel
theorem dX4_tie_1 : decode cX4_tie 1 = .ok (.iload_n 1, 1) := by decide +kernel
theorem dX4_tie_2 : decode cX4_tie 2 = .ok (.invokestatic 60, 3) := by decide +kernel
theorem dX4_tie_5 : decode cX4_tie 5 = .ok (.ifCond .eq 14, 3) := by decide +kernel
theorem dX4_tie_8 : decode cX4_tie 8 = .ok (.iload_n 2, 1) := by decide +kernel
theorem dX4_tie_9 : decode cX4_tie 9 = .ok (.invokestatic 60, 3) := by decide +kernel
theorem dX4_tie_12 : decode cX4_tie 12 = .ok (.ifCond .eq 7, 3) := by decide +kernel
theorem dX4_tie_15 : decode cX4_tie 15 = .ok (.iconst 0, 1) := by decide +kernel
theorem dX4_tie_16 : decode cX4_tie 16 = .ok (.goto 4, 3) := by decide +kernel
theorem dX4_tie_19 : decode cX4_tie 19 = .ok (.iconst 1, 1) := by decide +kernel
theorem dX4_tie_20 : decode cX4_tie 20 = .ok (.putfield 42, 3) := by decide +kernel
theorem dX4_tie_23 : decode cX4_tie 23 = .ok (.aload_n 0, 1) := by decide +kernel
theorem dX4_tie_24 : decode cX4_tie 24 = .ok (.getfield 42, 3) := by decide +kernel
theorem dX4_tie_27 : decode cX4_tie 27 = .ok (.ifCond .eq 5, 3) := by decide +kernel
theorem dX4_tie_30 : decode cX4_tie 30 = .ok (.iconst 0, 1) := by decide +kernel
theorem dX4_tie_31 : decode cX4_tie 31 = .ok (.ireturn, 1) := by decide +kernel
theorem dX4_tie_32 : decode cX4_tie 32 = .ok (.aload_n 0, 1) := by decide +kernel
theorem dX4_tie_33 : decode cX4_tie 33 = .ok (.getfield 13, 3) := by decide +kernel
theorem dX4_tie_36 : decode cX4_tie 36 = .ok (.bipush 12, 2) := by decide +kernel
theorem dX4_tie_38 : decode cX4_tie 38 = .ok (.iload_n 1, 1) := by decide +kernel
theorem dX4_tie_39 : decode cX4_tie 39 = .ok (.imul, 1) := by decide +kernel
theorem dX4_tie_40 : decode cX4_tie 40 = .ok (.iload_n 2, 1) := by decide +kernel
theorem dX4_tie_41 : decode cX4_tie 41 = .ok (.iadd, 1) := by decide +kernel
theorem dX4_tie_42 : decode cX4_tie 42 = .ok (.baload, 1) := by decide +kernel
theorem dX4_tie_43 : decode cX4_tie 43 = .ok (.istore 4, 2) := by decide +kernel
theorem dX4_tie_45 : decode cX4_tie 45 = .ok (.aload_n 0, 1) := by decide +kernel
theorem dX4_tie_46 : decode cX4_tie 46 = .ok (.getfield 13, 3) := by decide +kernel
theorem dX4_tie_49 : decode cX4_tie 49 = .ok (.bipush 12, 2) := by decide +kernel
theorem dX4_tie_51 : decode cX4_tie 51 = .ok (.iload_n 1, 1) := by decide +kernel
theorem dX4_tie_52 : decode cX4_tie 52 = .ok (.imul, 1) := by decide +kernel
theorem dX4_tie_53 : decode cX4_tie 53 = .ok (.iload_n 2, 1) := by decide +kernel
theorem dX4_tie_54 : decode cX4_tie 54 = .ok (.iadd, 1) := by decide +kernel
theorem dX4_tie_55 : decode cX4_tie 55 = .ok (.iload_n 3, 1) := by decide +kernel
theorem dX4_tie_56 : decode cX4_tie 56 = .ok (.bastore, 1) := by decide +kernel
theorem dX4_tie_57 : decode cX4_tie 57 = .ok (.iload 4, 2) := by decide +kernel
theorem dX4_tie_59 : decode cX4_tie 59 = .ok (.ireturn, 1) := by decide +kernel
theorem dX4_draft_0 : decode cX4_draft 0 = .ok (.aload_n 0, 1) := by decide +kernel
theorem dX4_draft_1 : decode cX4_draft 1 = .ok (.iload_n 1, 1) := by decide +kernel
theorem dX4_draft_2 : decode cX4_draft 2 = .ok (.ifCond .lt 8, 3) := by decide +kernel
theorem dX4_draft_5 : decode cX4_draft 5 = .ok (.iload_n 1, 1) := by decide +kernel
theorem dX4_draft_6 : decode cX4_draft 6 = .ok (.iconst 5, 1) := by decide +kernel
theorem dX4_draft_7 : decode cX4_draft 7 = .ok (.if_icmp .le 7, 3) := by decide +kernel
theorem dX4_draft_10 : decode cX4_draft 10 = .ok (.iconst 1, 1) := by decide +kernel
theorem dX4_draft_11 : decode cX4_draft 11 = .ok (.goto 4, 3) := by decide +kernel
theorem dX4_draft_14 : decode cX4_draft 14 = .ok (.iconst 0, 1) := by decide +kernel
theorem dX4_draft_15 : decode cX4_draft 15 = .ok (.putfield 42, 3) := by decide +kernel
theorem dX4_draft_18 : decode cX4_draft 18 = .ok (.aload_n 0, 1) := by decide +kernel
theorem dX4_draft_19 : decode cX4_draft 19 = .ok (.getfield 42, 3) := by decide +kernel
theorem dX4_draft_22 : decode cX4_draft 22 = .ok (.ifCond .eq 5, 3) := by decide +kernel
theorem dX4_draft_25 : decode cX4_draft 25 = .ok (.iconst 0, 1) := by decide +kernel
theorem dX4_draft_26 : decode cX4_draft 26 = .ok (.ireturn, 1) := by decide +kernel
theorem dX4_draft_27 : decode cX4_draft 27 = .ok (.iload_n 1, 1) := by decide +kernel
theorem dX4_draft_28 : decode cX4_draft 28 = .ok (.ifCond .ne 26, 3) := by decide +kernel
theorem dX4_draft_31 : decode cX4_draft 31 = .ok (.iload_n 2, 1) := by decide +kernel
theorem dX4_draft_32 : decode cX4_draft 32 = .ok (.ifCond .lt 11, 3) := by decide +kernel
theorem dX4_draft_35 : decode cX4_draft 35 = .ok (.iload_n 2, 1) := by decide +kernel
theorem dX4_draft_36 : decode cX4_draft 36 = .ok (.aload_n 0, 1) := by decide +kernel
theorem dX4_draft_37 : decode cX4_draft 37 = .ok (.getfield 45, 3) := by decide +kernel
theorem dX4_draft_40 : decode cX4_draft 40 = .ok (.if_icmp .lt 7, 3) := by decide +kernel
theorem dX4_draft_43 : decode cX4_draft 43 = .ok (.iconst (-1), 1) := by decide +kernel
theorem dX4_draft_44 : decode cX4_draft 44 = .ok (.goto 9, 3) := by decide +kernel
theorem dX4_draft_47 : decode cX4_draft 47 = .ok (.aload_n 0, 1) := by decide +kernel
theorem dX4_draft_48 : decode cX4_draft 48 = .ok (.getfield 7, 3) := by decide +kernel
theorem dX4_draft_51 : decode cX4_draft 51 = .ok (.iload_n 2, 1) := by decide +kernel
theorem dX4_draft_52 : decode cX4_draft 52 = .ok (.iaload, 1) := by decide +kernel
theorem dX4_draft_53 : decode cX4_draft 53 = .ok (.ireturn, 1) := by decide +kernel
theorem dX4_draft_54 : decode cX4_draft 54 = .ok (.iload_n 1, 1) := by decide +kernel
theorem dX4_draft_55 : decode cX4_draft 55 = .ok (.iconst 1, 1) := by decide +kernel
theorem dX4_draft_56 : decode cX4_draft 56 = .ok (.if_icmp .ne 29, 3) := by decide +kernel
theorem dX4_draft_59 : decode cX4_draft 59 = .ok (.iload_n 2, 1) := by decide +kernel
theorem dX4_draft_60 : decode cX4_draft 60 = .ok (.ifCond .lt 11, 3) := by decide +kernel
theorem dX4_draft_63 : decode cX4_draft 63 = .ok (.iload_n 2, 1) := by decide +kernel
theorem dX4_draft_64 : decode cX4_draft 64 = .ok (.aload_n 0, 1) := by decide +kernel
theorem dX4_draft_65 : decode cX4_draft 65 = .ok (.getfield 48, 3) := by decide +kernel
theorem dX4_draft_68 : decode cX4_draft 68 = .ok (.if_icmp .lt 7, 3) := by decide +kernel
theorem dX4_draft_71 : decode cX4_draft 71 = .ok (.iconst (-1), 1) := by decide +kernel
theorem dX4_draft_72 : decode cX4_draft 72 = .ok (.goto 12, 3) := by decide +kernel
theorem dX4_draft_75 : decode cX4_draft 75 = .ok (.aload_n 0, 1) := by decide +kernel
theorem dX4_draft_76 : decode cX4_draft 76 = .ok (.getfield 7, 3) := by decide +kernel
theorem dX4_draft_79 : decode cX4_draft 79 = .ok (.bipush 30, 2) := by decide +kernel
theorem dX4_draft_81 : decode cX4_draft 81 = .ok (.iload_n 2, 1) := by decide +kernel
theorem dX4_draft_82 : decode cX4_draft 82 = .ok (.iadd, 1) := by decide +kernel
theorem dX4_draft_83 : decode cX4_draft 83 = .ok (.iaload, 1) := by decide +kernel
theorem dX4_draft_84 : decode cX4_draft 84 = .ok (.ireturn, 1) := by decide +kernel
theorem dX4_draft_85 : decode cX4_draft 85 = .ok (.iload_n 1, 1) := by decide +kernel
theorem dX4_draft_86 : decode cX4_draft 86 = .ok (.iconst 2, 1) := by decide +kernel
theorem dX4_draft_87 : decode cX4_draft 87 = .ok (.if_icmp .ne 41, 3) := by decide +kernel
theorem dX4_draft_90 : decode cX4_draft 90 = .ok (.iload_n 2, 1) := by decide +kernel
theorem dX4_draft_91 : decode cX4_draft 91 = .ok (.invokestatic 60, 3) := by decide +kernel
theorem dX4_draft_94 : decode cX4_draft 94 = .ok (.ifCond .eq 10, 3) := by decide +kernel
theorem dX4_draft_97 : decode cX4_draft 97 = .ok (.iload_n 3, 1) := by decide +kernel
theorem dX4_draft_98 : decode cX4_draft 98 = .ok (.invokestatic 60, 3) := by decide +kernel
end
section
theorem dX4_draft_101 : decode cX4_draft 101 = .ok (.ifCond .ne 7, 3) := by decide +kernel
theorem dX4_draft_104 : decode cX4_draft 104 = .ok (.iconst (-1), 1) := by decide +kernel
theorem dX4_draft_105 : decode cX4_draft 105 = .ok (.goto 22, 3) := by decide +kernel
theorem dX4_draft_108 : decode cX4_draft 108 = .ok (.aload_n 0, 1) := by decide +kernel
theorem dX4_draft_109 : decode cX4_draft 109 = .ok (.getfield 13, 3) := by decide +kernel
theorem dX4_draft_112 : decode cX4_draft 112 = .ok (.bipush 12, 2) := by decide +kernel
theorem dX4_draft_114 : decode cX4_draft 114 = .ok (.iload_n 2, 1) := by decide +kernel
theorem dX4_draft_115 : decode cX4_draft 115 = .ok (.imul, 1) := by decide +kernel
theorem dX4_draft_116 : decode cX4_draft 116 = .ok (.iload_n 3, 1) := by decide +kernel
theorem dX4_draft_117 : decode cX4_draft 117 = .ok (.iadd, 1) := by decide +kernel
theorem dX4_draft_118 : decode cX4_draft 118 = .ok (.baload, 1) := by decide +kernel
theorem dX4_draft_119 : decode cX4_draft 119 = .ok (.ifCond .eq 7, 3) := by decide +kernel
theorem dX4_draft_122 : decode cX4_draft 122 = .ok (.iconst 1, 1) := by decide +kernel
theorem dX4_draft_123 : decode cX4_draft 123 = .ok (.goto 4, 3) := by decide +kernel
theorem dX4_draft_126 : decode cX4_draft 126 = .ok (.iconst 0, 1) := by decide +kernel
theorem dX4_draft_127 : decode cX4_draft 127 = .ok (.ireturn, 1) := by decide +kernel
theorem dX4_draft_128 : decode cX4_draft 128 = .ok (.iload_n 1, 1) := by decide +kernel
theorem dX4_draft_129 : decode cX4_draft 129 = .ok (.iconst 3, 1) := by decide +kernel
theorem dX4_draft_130 : decode cX4_draft 130 = .ok (.if_icmp .ne 10, 3) := by decide +kernel
theorem dX4_draft_133 : decode cX4_draft 133 = .ok (.aload_n 0, 1) := by decide +kernel
theorem dX4_draft_134 : decode cX4_draft 134 = .ok (.getfield 45, 3) := by decide +kernel
theorem dX4_draft_137 : decode cX4_draft 137 = .ok (.goto 19, 3) := by decide +kernel
theorem dX4_draft_140 : decode cX4_draft 140 = .ok (.iload_n 1, 1) := by decide +kernel
theorem dX4_draft_141 : decode cX4_draft 141 = .ok (.iconst 4, 1) := by decide +kernel
theorem dX4_draft_142 : decode cX4_draft 142 = .ok (.if_icmp .ne 10, 3) := by decide +kernel
theorem dX4_draft_145 : decode cX4_draft 145 = .ok (.aload_n 0, 1) := by decide +kernel
theorem dX4_draft_146 : decode cX4_draft 146 = .ok (.getfield 48, 3) := by decide +kernel
theorem dX4_draft_149 : decode cX4_draft 149 = .ok (.goto 7, 3) := by decide +kernel
theorem dX4_draft_152 : decode cX4_draft 152 = .ok (.aload_n 0, 1) := by decide +kernel
theorem dX4_draft_153 : decode cX4_draft 153 = .ok (.getfield 57, 3) := by decide +kernel
theorem dX4_draft_156 : decode cX4_draft 156 = .ok (.ireturn, 1) := by decide +kernel
theorem dX4_colour_0 : decode cX4_colour 0 = .ok (.aload_n 0, 1) := by decide +kernel
theorem dX4_colour_1 : decode cX4_colour 1 = .ok (.iload_n 2, 1) := by decide +kernel
theorem dX4_colour_2 : decode cX4_colour 2 = .ok (.ifCond .lt 19, 3) := by decide +kernel
theorem dX4_colour_5 : decode cX4_colour 5 = .ok (.iload_n 2, 1) := by decide +kernel
theorem dX4_colour_6 : decode cX4_colour 6 = .ok (.bipush 29, 2) := by decide +kernel
theorem dX4_colour_8 : decode cX4_colour 8 = .ok (.if_icmp .gt 13, 3) := by decide +kernel
theorem dX4_colour_11 : decode cX4_colour 11 = .ok (.iload_n 3, 1) := by decide +kernel
theorem dX4_colour_12 : decode cX4_colour 12 = .ok (.ifCond .lt 9, 3) := by decide +kernel
theorem dX4_colour_15 : decode cX4_colour 15 = .ok (.iload_n 3, 1) := by decide +kernel
theorem dX4_colour_16 : decode cX4_colour 16 = .ok (.bipush 9, 2) := by decide +kernel
theorem dX4_colour_18 : decode cX4_colour 18 = .ok (.if_icmp .le 7, 3) := by decide +kernel
theorem dX4_colour_21 : decode cX4_colour 21 = .ok (.iconst 1, 1) := by decide +kernel
theorem dX4_colour_22 : decode cX4_colour 22 = .ok (.goto 4, 3) := by decide +kernel
theorem dX4_colour_25 : decode cX4_colour 25 = .ok (.iconst 0, 1) := by decide +kernel
theorem dX4_colour_26 : decode cX4_colour 26 = .ok (.putfield 42, 3) := by decide +kernel
theorem dX4_colour_29 : decode cX4_colour 29 = .ok (.aload_n 0, 1) := by decide +kernel
theorem dX4_colour_30 : decode cX4_colour 30 = .ok (.getfield 42, 3) := by decide +kernel
theorem dX4_colour_33 : decode cX4_colour 33 = .ok (.ifCond .eq 5, 3) := by decide +kernel
theorem dX4_colour_36 : decode cX4_colour 36 = .ok (.iconst 0, 1) := by decide +kernel
theorem dX4_colour_37 : decode cX4_colour 37 = .ok (.ireturn, 1) := by decide +kernel
theorem dX4_colour_38 : decode cX4_colour 38 = .ok (.iload_n 1, 1) := by decide +kernel
theorem dX4_colour_39 : decode cX4_colour 39 = .ok (.ifCond .eq 7, 3) := by decide +kernel
theorem dX4_colour_42 : decode cX4_colour 42 = .ok (.iload_n 2, 1) := by decide +kernel
theorem dX4_colour_43 : decode cX4_colour 43 = .ok (.goto 7, 3) := by decide +kernel
theorem dX4_colour_46 : decode cX4_colour 46 = .ok (.bipush 30, 2) := by decide +kernel
theorem dX4_colour_48 : decode cX4_colour 48 = .ok (.iload_n 2, 1) := by decide +kernel
theorem dX4_colour_49 : decode cX4_colour 49 = .ok (.iadd, 1) := by decide +kernel
theorem dX4_colour_50 : decode cX4_colour 50 = .ok (.istore 4, 2) := by decide +kernel
theorem dX4_colour_52 : decode cX4_colour 52 = .ok (.aload_n 0, 1) := by decide +kernel
theorem dX4_colour_53 : decode cX4_colour 53 = .ok (.getfield 17, 3) := by decide +kernel
theorem dX4_colour_56 : decode cX4_colour 56 = .ok (.iload 4, 2) := by decide +kernel
theorem dX4_colour_58 : decode cX4_colour 58 = .ok (.iaload, 1) := by decide +kernel
theorem dX4_colour_59 : decode cX4_colour 59 = .ok (.istore 5, 2) := by decide +kernel
theorem dX4_colour_61 : decode cX4_colour 61 = .ok (.aload_n 0, 1) := by decide +kernel
theorem dX4_colour_62 : decode cX4_colour 62 = .ok (.getfield 17, 3) := by decide +kernel
theorem dX4_colour_65 : decode cX4_colour 65 = .ok (.iload 4, 2) := by decide +kernel
theorem dX4_colour_67 : decode cX4_colour 67 = .ok (.iload_n 3, 1) := by decide +kernel
theorem dX4_colour_68 : decode cX4_colour 68 = .ok (.iastore, 1) := by decide +kernel
theorem dX4_colour_69 : decode cX4_colour 69 = .ok (.iload 5, 2) := by decide +kernel
theorem dX4_colour_71 : decode cX4_colour 71 = .ok (.ireturn, 1) := by decide +kernel
theorem dX4_weave_0 : decode cX4_weave 0 = .ok (.aload_n 0, 1) := by decide +kernel
theorem dX4_weave_1 : decode cX4_weave 1 = .ok (.iload_n 1, 1) := by decide +kernel
theorem dX4_weave_2 : decode cX4_weave 2 = .ok (.ifCond .ge 7, 3) := by decide +kernel
theorem dX4_weave_5 : decode cX4_weave 5 = .ok (.iconst 1, 1) := by decide +kernel
theorem dX4_weave_6 : decode cX4_weave 6 = .ok (.goto 15, 3) := by decide +kernel
theorem dX4_weave_9 : decode cX4_weave 9 = .ok (.aload_n 0, 1) := by decide +kernel
theorem dX4_weave_10 : decode cX4_weave 10 = .ok (.getfield 45, 3) := by decide +kernel
theorem dX4_weave_13 : decode cX4_weave 13 = .ok (.ifCond .ne 7, 3) := by decide +kernel
theorem dX4_weave_16 : decode cX4_weave 16 = .ok (.iconst 2, 1) := by decide +kernel
theorem dX4_weave_17 : decode cX4_weave 17 = .ok (.goto 4, 3) := by decide +kernel
theorem dX4_weave_20 : decode cX4_weave 20 = .ok (.iconst 0, 1) := by decide +kernel
theorem dX4_weave_21 : decode cX4_weave 21 = .ok (.putfield 42, 3) := by decide +kernel
theorem dX4_weave_24 : decode cX4_weave 24 = .ok (.aload_n 0, 1) := by decide +kernel
theorem dX4_weave_25 : decode cX4_weave 25 = .ok (.getfield 42, 3) := by decide +kernel
theorem dX4_weave_28 : decode cX4_weave 28 = .ok (.ifCond .eq 5, 3) := by decide +kernel
theorem dX4_weave_31 : decode cX4_weave 31 = .ok (.iconst 0, 1) := by decide +kernel
theorem dX4_weave_32 : decode cX4_weave 32 = .ok (.ireturn, 1) := by decide +kernel
theorem dX4_weave_33 : decode cX4_weave 33 = .ok (.iconst 0, 1) := by decide +kernel
theorem dX4_weave_34 : decode cX4_weave 34 = .ok (.istore_n 2, 1) := by decide +kernel
theorem dX4_weave_35 : decode cX4_weave 35 = .ok (.iload_n 2, 1) := by decide +kernel
theorem dX4_weave_36 : decode cX4_weave 36 = .ok (.iload_n 1, 1) := by decide +kernel
theorem dX4_weave_37 : decode cX4_weave 37 = .ok (.if_icmp .ge 87, 3) := by decide +kernel
theorem dX4_weave_40 : decode cX4_weave 40 = .ok (.aload_n 0, 1) := by decide +kernel
theorem dX4_weave_41 : decode cX4_weave 41 = .ok (.getfield 57, 3) := by decide +kernel
theorem dX4_weave_44 : decode cX4_weave 44 = .ok (.aload_n 0, 1) := by decide +kernel
theorem dX4_weave_45 : decode cX4_weave 45 = .ok (.getfield 48, 3) := by decide +kernel
theorem dX4_weave_48 : decode cX4_weave 48 = .ok (.if_icmp .ge 76, 3) := by decide +kernel
theorem dX4_weave_51 : decode cX4_weave 51 = .ok (.iconst 0, 1) := by decide +kernel
theorem dX4_weave_52 : decode cX4_weave 52 = .ok (.istore_n 3, 1) := by decide +kernel
theorem dX4_weave_53 : decode cX4_weave 53 = .ok (.iload_n 3, 1) := by decide +kernel
theorem dX4_weave_54 : decode cX4_weave 54 = .ok (.aload_n 0, 1) := by decide +kernel
theorem dX4_weave_55 : decode cX4_weave 55 = .ok (.getfield 45, 3) := by decide +kernel
theorem dX4_weave_58 : decode cX4_weave 58 = .ok (.if_icmp .ge 50, 3) := by decide +kernel
theorem dX4_weave_61 : decode cX4_weave 61 = .ok (.aload_n 0, 1) := by decide +kernel
theorem dX4_weave_62 : decode cX4_weave 62 = .ok (.getfield 20, 3) := by decide +kernel
theorem dX4_weave_65 : decode cX4_weave 65 = .ok (.bipush 30, 2) := by decide +kernel
theorem dX4_weave_67 : decode cX4_weave 67 = .ok (.aload_n 0, 1) := by decide +kernel
theorem dX4_weave_68 : decode cX4_weave 68 = .ok (.getfield 57, 3) := by decide +kernel
theorem dX4_weave_71 : decode cX4_weave 71 = .ok (.imul, 1) := by decide +kernel
theorem dX4_weave_72 : decode cX4_weave 72 = .ok (.iload_n 3, 1) := by decide +kernel
theorem dX4_weave_73 : decode cX4_weave 73 = .ok (.iadd, 1) := by decide +kernel
theorem dX4_weave_74 : decode cX4_weave 74 = .ok (.aload_n 0, 1) := by decide +kernel
theorem dX4_weave_75 : decode cX4_weave 75 = .ok (.getfield 13, 3) := by decide +kernel
theorem dX4_weave_78 : decode cX4_weave 78 = .ok (.bipush 12, 2) := by decide +kernel
theorem dX4_weave_80 : decode cX4_weave 80 = .ok (.aload_n 0, 1) := by decide +kernel
theorem dX4_weave_81 : decode cX4_weave 81 = .ok (.getfield 7, 3) := by decide +kernel
theorem dX4_weave_84 : decode cX4_weave 84 = .ok (.iload_n 3, 1) := by decide +kernel
theorem dX4_weave_85 : decode cX4_weave 85 = .ok (.iaload, 1) := by decide +kernel
theorem dX4_weave_86 : decode cX4_weave 86 = .ok (.imul, 1) := by decide +kernel
theorem dX4_weave_87 : decode cX4_weave 87 = .ok (.aload_n 0, 1) := by decide +kernel
theorem dX4_weave_88 : decode cX4_weave 88 = .ok (.getfield 7, 3) := by decide +kernel
theorem dX4_weave_91 : decode cX4_weave 91 = .ok (.bipush 30, 2) := by decide +kernel
theorem dX4_weave_93 : decode cX4_weave 93 = .ok (.aload_n 0, 1) := by decide +kernel
theorem dX4_weave_94 : decode cX4_weave 94 = .ok (.getfield 57, 3) := by decide +kernel
theorem dX4_weave_97 : decode cX4_weave 97 = .ok (.iadd, 1) := by decide +kernel
theorem dX4_weave_98 : decode cX4_weave 98 = .ok (.iaload, 1) := by decide +kernel
theorem dX4_weave_99 : decode cX4_weave 99 = .ok (.iadd, 1) := by decide +kernel
theorem dX4_weave_100 : decode cX4_weave 100 = .ok (.baload, 1) := by decide +kernel
theorem dX4_weave_101 : decode cX4_weave 101 = .ok (.bastore, 1) := by decide +kernel
theorem dX4_weave_102 : decode cX4_weave 102 = .ok (.iinc 3 1, 3) := by decide +kernel
theorem dX4_weave_105 : decode cX4_weave 105 = .ok (.goto (-52), 3) := by decide +kernel
theorem dX4_weave_108 : decode cX4_weave 108 = .ok (.aload_n 0, 1) := by decide +kernel
theorem dX4_weave_109 : decode cX4_weave 109 = .ok (.dup, 1) := by decide +kernel
theorem dX4_weave_110 : decode cX4_weave 110 = .ok (.getfield 57, 3) := by decide +kernel
theorem dX4_weave_113 : decode cX4_weave 113 = .ok (.iconst 1, 1) := by decide +kernel
theorem dX4_weave_114 : decode cX4_weave 114 = .ok (.iadd, 1) := by decide +kernel
theorem dX4_weave_115 : decode cX4_weave 115 = .ok (.putfield 57, 3) := by decide +kernel
theorem dX4_weave_118 : decode cX4_weave 118 = .ok (.iinc 2 1, 3) := by decide +kernel
theorem dX4_weave_121 : decode cX4_weave 121 = .ok (.goto (-86), 3) := by decide +kernel
theorem dX4_weave_124 : decode cX4_weave 124 = .ok (.iload_n 2, 1) := by decide +kernel
theorem dX4_weave_125 : decode cX4_weave 125 = .ok (.ireturn, 1) := by decide +kernel
theorem dX4_unweave_0 : decode cX4_unweave 0 = .ok (.aload_n 0, 1) := by decide +kernel
theorem dX4_unweave_1 : decode cX4_unweave 1 = .ok (.iload_n 1, 1) := by decide +kernel
theorem dX4_unweave_2 : decode cX4_unweave 2 = .ok (.ifCond .lt 11, 3) := by decide +kernel
theorem dX4_unweave_5 : decode cX4_unweave 5 = .ok (.iload_n 1, 1) := by decide +kernel
theorem dX4_unweave_6 : decode cX4_unweave 6 = .ok (.aload_n 0, 1) := by decide +kernel
theorem dX4_unweave_7 : decode cX4_unweave 7 = .ok (.getfield 57, 3) := by decide +kernel
theorem dX4_unweave_10 : decode cX4_unweave 10 = .ok (.if_icmp .le 7, 3) := by decide +kernel
theorem dX4_unweave_13 : decode cX4_unweave 13 = .ok (.iconst 1, 1) := by decide +kernel
theorem dX4_unweave_14 : decode cX4_unweave 14 = .ok (.goto 4, 3) := by decide +kernel
theorem dX4_unweave_17 : decode cX4_unweave 17 = .ok (.iconst 0, 1) := by decide +kernel
theorem dX4_unweave_18 : decode cX4_unweave 18 = .ok (.putfield 42, 3) := by decide +kernel
theorem dX4_unweave_21 : decode cX4_unweave 21 = .ok (.aload_n 0, 1) := by decide +kernel
theorem dX4_unweave_22 : decode cX4_unweave 22 = .ok (.getfield 42, 3) := by decide +kernel
theorem dX4_unweave_25 : decode cX4_unweave 25 = .ok (.ifCond .ne 13, 3) := by decide +kernel
theorem dX4_unweave_28 : decode cX4_unweave 28 = .ok (.aload_n 0, 1) := by decide +kernel
theorem dX4_unweave_29 : decode cX4_unweave 29 = .ok (.dup, 1) := by decide +kernel
theorem dX4_unweave_30 : decode cX4_unweave 30 = .ok (.getfield 57, 3) := by decide +kernel
theorem dX4_unweave_33 : decode cX4_unweave 33 = .ok (.iload_n 1, 1) := by decide +kernel
theorem dX4_unweave_34 : decode cX4_unweave 34 = .ok (.isub, 1) := by decide +kernel
theorem dX4_unweave_35 : decode cX4_unweave 35 = .ok (.putfield 57, 3) := by decide +kernel
theorem dX4_unweave_38 : decode cX4_unweave 38 = .ok (.return_, 1) := by decide +kernel
theorem dX4_isCrossing_0 : decode cX4_isCrossing 0 = .ok (.iload_n 1, 1) := by decide +kernel
theorem dX4_isCrossing_1 : decode cX4_isCrossing 1 = .ok (.ifCond .lt 27, 3) := by decide +kernel
theorem dX4_isCrossing_4 : decode cX4_isCrossing 4 = .ok (.iload_n 1, 1) := by decide +kernel
theorem dX4_isCrossing_5 : decode cX4_isCrossing 5 = .ok (.aload_n 0, 1) := by decide +kernel
theorem dX4_isCrossing_6 : decode cX4_isCrossing 6 = .ok (.getfield 45, 3) := by decide +kernel
theorem dX4_isCrossing_9 : decode cX4_isCrossing 9 = .ok (.if_icmp .ge 19, 3) := by decide +kernel
theorem dX4_isCrossing_12 : decode cX4_isCrossing 12 = .ok (.iload_n 2, 1) := by decide +kernel
theorem dX4_isCrossing_13 : decode cX4_isCrossing 13 = .ok (.ifCond .lt 15, 3) := by decide +kernel
theorem dX4_isCrossing_16 : decode cX4_isCrossing 16 = .ok (.iload_n 2, 1) := by decide +kernel
theorem dX4_isCrossing_17 : decode cX4_isCrossing 17 = .ok (.aload_n 0, 1) := by decide +kernel
theorem dX4_isCrossing_18 : decode cX4_isCrossing 18 = .ok (.getfield 57, 3) := by decide +kernel
theorem dX4_isCrossing_21 : decode cX4_isCrossing 21 = .ok (.if_icmp .ge 7, 3) := by decide +kernel
theorem dX4_isCrossing_24 : decode cX4_isCrossing 24 = .ok (.iconst 1, 1) := by decide +kernel
theorem dX4_isCrossing_25 : decode cX4_isCrossing 25 = .ok (.goto 4, 3) := by decide +kernel
theorem dX4_isCrossing_28 : decode cX4_isCrossing 28 = .ok (.iconst 0, 1) := by decide +kernel
theorem dX4_isCrossing_29 : decode cX4_isCrossing 29 = .ok (.istore_n 3, 1) := by decide +kernel
theorem dX4_isCrossing_30 : decode cX4_isCrossing 30 = .ok (.aload_n 0, 1) := by decide +kernel
theorem dX4_isCrossing_31 : decode cX4_isCrossing 31 = .ok (.iload_n 3, 1) := by decide +kernel
theorem dX4_isCrossing_32 : decode cX4_isCrossing 32 = .ok (.ifCond .eq 7, 3) := by decide +kernel
theorem dX4_isCrossing_35 : decode cX4_isCrossing 35 = .ok (.iconst 0, 1) := by decide +kernel
theorem dX4_isCrossing_36 : decode cX4_isCrossing 36 = .ok (.goto 4, 3) := by decide +kernel
theorem dX4_isCrossing_39 : decode cX4_isCrossing 39 = .ok (.iconst 1, 1) := by decide +kernel
theorem dX4_isCrossing_40 : decode cX4_isCrossing 40 = .ok (.putfield 42, 3) := by decide +kernel
theorem dX4_isCrossing_43 : decode cX4_isCrossing 43 = .ok (.iload_n 3, 1) := by decide +kernel
theorem dX4_isCrossing_44 : decode cX4_isCrossing 44 = .ok (.ireturn, 1) := by decide +kernel
theorem dX4_over_0 : decode cX4_over 0 = .ok (.aload_n 0, 1) := by decide +kernel
theorem dX4_over_1 : decode cX4_over 1 = .ok (.iload_n 1, 1) := by decide +kernel
theorem dX4_over_2 : decode cX4_over 2 = .ok (.iload_n 2, 1) := by decide +kernel
theorem dX4_over_3 : decode cX4_over 3 = .ok (.invokevirtual 72, 3) := by decide +kernel
theorem dX4_over_6 : decode cX4_over 6 = .ok (.ifCond .eq 21, 3) := by decide +kernel
theorem dX4_over_9 : decode cX4_over 9 = .ok (.aload_n 0, 1) := by decide +kernel
theorem dX4_over_10 : decode cX4_over 10 = .ok (.getfield 20, 3) := by decide +kernel
theorem dX4_over_13 : decode cX4_over 13 = .ok (.bipush 30, 2) := by decide +kernel
theorem dX4_over_15 : decode cX4_over 15 = .ok (.iload_n 2, 1) := by decide +kernel
theorem dX4_over_16 : decode cX4_over 16 = .ok (.imul, 1) := by decide +kernel
theorem dX4_over_17 : decode cX4_over 17 = .ok (.iload_n 1, 1) := by decide +kernel
theorem dX4_over_18 : decode cX4_over 18 = .ok (.iadd, 1) := by decide +kernel
theorem dX4_over_19 : decode cX4_over 19 = .ok (.baload, 1) := by decide +kernel
theorem dX4_over_20 : decode cX4_over 20 = .ok (.ifCond .eq 7, 3) := by decide +kernel
theorem dX4_over_23 : decode cX4_over 23 = .ok (.iconst 1, 1) := by decide +kernel
theorem dX4_over_24 : decode cX4_over 24 = .ok (.goto 4, 3) := by decide +kernel
theorem dX4_over_27 : decode cX4_over 27 = .ok (.iconst 0, 1) := by decide +kernel
theorem dX4_over_28 : decode cX4_over 28 = .ok (.ireturn, 1) := by decide +kernel
theorem dX4_seen_0 : decode cX4_seen 0 = .ok (.aload_n 0, 1) := by decide +kernel
theorem dX4_seen_1 : decode cX4_seen 1 = .ok (.iload_n 1, 1) := by decide +kernel
theorem dX4_seen_2 : decode cX4_seen 2 = .ok (.iload_n 2, 1) := by decide +kernel
theorem dX4_seen_3 : decode cX4_seen 3 = .ok (.invokevirtual 72, 3) := by decide +kernel
theorem dX4_seen_6 : decode cX4_seen 6 = .ok (.ifCond .ne 5, 3) := by decide +kernel
theorem dX4_seen_9 : decode cX4_seen 9 = .ok (.iconst 0, 1) := by decide +kernel
theorem dX4_seen_10 : decode cX4_seen 10 = .ok (.ireturn, 1) := by decide +kernel
theorem dX4_seen_11 : decode cX4_seen 11 = .ok (.aload_n 0, 1) := by decide +kernel
theorem dX4_seen_12 : decode cX4_seen 12 = .ok (.getfield 20, 3) := by decide +kernel
theorem dX4_seen_15 : decode cX4_seen 15 = .ok (.bipush 30, 2) := by decide +kernel
theorem dX4_seen_17 : decode cX4_seen 17 = .ok (.iload_n 2, 1) := by decide +kernel
theorem dX4_seen_18 : decode cX4_seen 18 = .ok (.imul, 1) := by decide +kernel
theorem dX4_seen_19 : decode cX4_seen 19 = .ok (.iload_n 1, 1) := by decide +kernel
theorem dX4_seen_20 : decode cX4_seen 20 = .ok (.iadd, 1) := by decide +kernel
theorem dX4_seen_21 : decode cX4_seen 21 = .ok (.baload, 1) := by decide +kernel
theorem dX4_seen_22 : decode cX4_seen 22 = .ok (.iload_n 3, 1) := by decide +kernel
theorem dX4_seen_23 : decode cX4_seen 23 = .ok (.if_icmp .ne 15, 3) := by decide +kernel
theorem dX4_seen_26 : decode cX4_seen 26 = .ok (.aload_n 0, 1) := by decide +kernel
theorem dX4_seen_27 : decode cX4_seen 27 = .ok (.getfield 17, 3) := by decide +kernel
theorem dX4_seen_30 : decode cX4_seen 30 = .ok (.bipush 30, 2) := by decide +kernel
theorem dX4_seen_32 : decode cX4_seen 32 = .ok (.iload_n 2, 1) := by decide +kernel
theorem dX4_seen_33 : decode cX4_seen 33 = .ok (.iadd, 1) := by decide +kernel
theorem dX4_seen_34 : decode cX4_seen 34 = .ok (.iaload, 1) := by decide +kernel
theorem dX4_seen_35 : decode cX4_seen 35 = .ok (.goto 9, 3) := by decide +kernel
theorem dX4_seen_38 : decode cX4_seen 38 = .ok (.aload_n 0, 1) := by decide +kernel
theorem dX4_seen_39 : decode cX4_seen 39 = .ok (.getfield 17, 3) := by decide +kernel
theorem dX4_seen_42 : decode cX4_seen 42 = .ok (.iload_n 1, 1) := by decide +kernel
theorem dX4_seen_43 : decode cX4_seen 43 = .ok (.iaload, 1) := by decide +kernel
theorem dX4_seen_44 : decode cX4_seen 44 = .ok (.ireturn, 1) := by decide +kernel
theorem dX4_threadOf_0 : decode cX4_threadOf 0 = .ok (.iload_n 1, 1) := by decide +kernel
theorem dX4_threadOf_1 : decode cX4_threadOf 1 = .ok (.ifCond .lt 13, 3) := by decide +kernel
theorem dX4_threadOf_4 : decode cX4_threadOf 4 = .ok (.iload_n 1, 1) := by decide +kernel
theorem dX4_threadOf_5 : decode cX4_threadOf 5 = .ok (.aload_n 0, 1) := by decide +kernel
theorem dX4_threadOf_6 : decode cX4_threadOf 6 = .ok (.getfield 45, 3) := by decide +kernel
theorem dX4_threadOf_9 : decode cX4_threadOf 9 = .ok (.if_icmp .ge 5, 3) := by decide +kernel
theorem dX4_threadOf_12 : decode cX4_threadOf 12 = .ok (.iload_n 1, 1) := by decide +kernel
theorem dX4_threadOf_13 : decode cX4_threadOf 13 = .ok (.ireturn, 1) := by decide +kernel
theorem dX4_threadOf_14 : decode cX4_threadOf 14 = .ok (.iload_n 1, 1) := by decide +kernel
theorem dX4_threadOf_15 : decode cX4_threadOf 15 = .ok (.bipush 100, 2) := by decide +kernel
theorem dX4_threadOf_17 : decode cX4_threadOf 17 = .ok (.if_icmp .lt 26, 3) := by decide +kernel
theorem dX4_threadOf_20 : decode cX4_threadOf 20 = .ok (.iload_n 1, 1) := by decide +kernel
theorem dX4_threadOf_21 : decode cX4_threadOf 21 = .ok (.bipush 100, 2) := by decide +kernel
theorem dX4_threadOf_23 : decode cX4_threadOf 23 = .ok (.aload_n 0, 1) := by decide +kernel
theorem dX4_threadOf_24 : decode cX4_threadOf 24 = .ok (.getfield 57, 3) := by decide +kernel
theorem dX4_threadOf_27 : decode cX4_threadOf 27 = .ok (.iadd, 1) := by decide +kernel
theorem dX4_threadOf_28 : decode cX4_threadOf 28 = .ok (.if_icmp .ge 15, 3) := by decide +kernel
theorem dX4_threadOf_31 : decode cX4_threadOf 31 = .ok (.aload_n 0, 1) := by decide +kernel
theorem dX4_threadOf_32 : decode cX4_threadOf 32 = .ok (.getfield 45, 3) := by decide +kernel
theorem dX4_threadOf_35 : decode cX4_threadOf 35 = .ok (.iload_n 1, 1) := by decide +kernel
theorem dX4_threadOf_36 : decode cX4_threadOf 36 = .ok (.iadd, 1) := by decide +kernel
theorem dX4_threadOf_37 : decode cX4_threadOf 37 = .ok (.bipush 100, 2) := by decide +kernel
theorem dX4_threadOf_39 : decode cX4_threadOf 39 = .ok (.isub, 1) := by decide +kernel
theorem dX4_threadOf_40 : decode cX4_threadOf 40 = .ok (.goto 4, 3) := by decide +kernel
theorem dX4_threadOf_43 : decode cX4_threadOf 43 = .ok (.iconst (-1), 1) := by decide +kernel
theorem dX4_threadOf_44 : decode cX4_threadOf 44 = .ok (.ireturn, 1) := by decide +kernel
theorem dX4_longest_0 : decode cX4_longest 0 = .ok (.aload_n 0, 1) := by decide +kernel
theorem dX4_longest_1 : decode cX4_longest 1 = .ok (.iload_n 1, 1) := by decide +kernel
theorem dX4_longest_2 : decode cX4_longest 2 = .ok (.invokevirtual 76, 3) := by decide +kernel
theorem dX4_longest_5 : decode cX4_longest 5 = .ok (.istore_n 3, 1) := by decide +kernel
theorem dX4_longest_6 : decode cX4_longest 6 = .ok (.aload_n 0, 1) := by decide +kernel
theorem dX4_longest_7 : decode cX4_longest 7 = .ok (.iload_n 3, 1) := by decide +kernel
theorem dX4_longest_8 : decode cX4_longest 8 = .ok (.ifCond .ge 7, 3) := by decide +kernel
theorem dX4_longest_11 : decode cX4_longest 11 = .ok (.iconst 1, 1) := by decide +kernel
theorem dX4_longest_12 : decode cX4_longest 12 = .ok (.goto 4, 3) := by decide +kernel
theorem dX4_longest_15 : decode cX4_longest 15 = .ok (.iconst 0, 1) := by decide +kernel
theorem dX4_longest_16 : decode cX4_longest 16 = .ok (.putfield 42, 3) := by decide +kernel
theorem dX4_longest_19 : decode cX4_longest 19 = .ok (.aload_n 0, 1) := by decide +kernel
theorem dX4_longest_20 : decode cX4_longest 20 = .ok (.getfield 42, 3) := by decide +kernel
theorem dX4_longest_23 : decode cX4_longest 23 = .ok (.ifCond .eq 5, 3) := by decide +kernel
theorem dX4_longest_26 : decode cX4_longest 26 = .ok (.iconst 0, 1) := by decide +kernel
theorem dX4_longest_27 : decode cX4_longest 27 = .ok (.ireturn, 1) := by decide +kernel
theorem dX4_longest_28 : decode cX4_longest 28 = .ok (.iload_n 3, 1) := by decide +kernel
theorem dX4_longest_29 : decode cX4_longest 29 = .ok (.aload_n 0, 1) := by decide +kernel
theorem dX4_longest_30 : decode cX4_longest 30 = .ok (.getfield 45, 3) := by decide +kernel
theorem dX4_longest_33 : decode cX4_longest 33 = .ok (.if_icmp .ge 10, 3) := by decide +kernel
theorem dX4_longest_36 : decode cX4_longest 36 = .ok (.aload_n 0, 1) := by decide +kernel
theorem dX4_longest_37 : decode cX4_longest 37 = .ok (.getfield 57, 3) := by decide +kernel
theorem dX4_longest_40 : decode cX4_longest 40 = .ok (.goto 7, 3) := by decide +kernel
theorem dX4_longest_43 : decode cX4_longest 43 = .ok (.aload_n 0, 1) := by decide +kernel
theorem dX4_longest_44 : decode cX4_longest 44 = .ok (.getfield 45, 3) := by decide +kernel
theorem dX4_longest_47 : decode cX4_longest 47 = .ok (.istore 4, 2) := by decide +kernel
theorem dX4_longest_49 : decode cX4_longest 49 = .ok (.iconst 0, 1) := by decide +kernel
theorem dX4_longest_50 : decode cX4_longest 50 = .ok (.istore 5, 2) := by decide +kernel
theorem dX4_longest_52 : decode cX4_longest 52 = .ok (.iconst 0, 1) := by decide +kernel
theorem dX4_longest_53 : decode cX4_longest 53 = .ok (.istore 6, 2) := by decide +kernel
theorem dX4_longest_55 : decode cX4_longest 55 = .ok (.iload 6, 2) := by decide +kernel
theorem dX4_longest_57 : decode cX4_longest 57 = .ok (.iload 4, 2) := by decide +kernel
theorem dX4_longest_59 : decode cX4_longest 59 = .ok (.if_icmp .ge 59, 3) := by decide +kernel
theorem dX4_longest_62 : decode cX4_longest 62 = .ok (.iload 6, 2) := by decide +kernel
theorem dX4_longest_64 : decode cX4_longest 64 = .ok (.istore 7, 2) := by decide +kernel
theorem dX4_longest_66 : decode cX4_longest 66 = .ok (.iload 7, 2) := by decide +kernel
theorem dX4_longest_68 : decode cX4_longest 68 = .ok (.iload 4, 2) := by decide +kernel
theorem dX4_longest_70 : decode cX4_longest 70 = .ok (.if_icmp .ge 20, 3) := by decide +kernel
theorem dX4_longest_73 : decode cX4_longest 73 = .ok (.aload_n 0, 1) := by decide +kernel
theorem dX4_longest_74 : decode cX4_longest 74 = .ok (.iload_n 3, 1) := by decide +kernel
theorem dX4_longest_75 : decode cX4_longest 75 = .ok (.iload 7, 2) := by decide +kernel
theorem dX4_longest_77 : decode cX4_longest 77 = .ok (.iload_n 2, 1) := by decide +kernel
theorem dX4_longest_78 : decode cX4_longest 78 = .ok (.invokevirtual 80, 3) := by decide +kernel
theorem dX4_longest_81 : decode cX4_longest 81 = .ok (.ifCond .eq 9, 3) := by decide +kernel
theorem dX4_longest_84 : decode cX4_longest 84 = .ok (.iinc 7 1, 3) := by decide +kernel
theorem dX4_longest_87 : decode cX4_longest 87 = .ok (.goto (-21), 3) := by decide +kernel
theorem dX4_longest_90 : decode cX4_longest 90 = .ok (.iload 7, 2) := by decide +kernel
theorem dX4_longest_92 : decode cX4_longest 92 = .ok (.iload 6, 2) := by decide +kernel
theorem dX4_longest_94 : decode cX4_longest 94 = .ok (.isub, 1) := by decide +kernel
theorem dX4_longest_95 : decode cX4_longest 95 = .ok (.iload 5, 2) := by decide +kernel
theorem dX4_longest_97 : decode cX4_longest 97 = .ok (.if_icmp .le 11, 3) := by decide +kernel
theorem dX4_longest_100 : decode cX4_longest 100 = .ok (.iload 7, 2) := by decide +kernel
theorem dX4_longest_102 : decode cX4_longest 102 = .ok (.iload 6, 2) := by decide +kernel
theorem dX4_longest_104 : decode cX4_longest 104 = .ok (.isub, 1) := by decide +kernel
theorem dX4_longest_105 : decode cX4_longest 105 = .ok (.goto 5, 3) := by decide +kernel
theorem dX4_longest_108 : decode cX4_longest 108 = .ok (.iload 5, 2) := by decide +kernel
theorem dX4_longest_110 : decode cX4_longest 110 = .ok (.istore 5, 2) := by decide +kernel
theorem dX4_longest_112 : decode cX4_longest 112 = .ok (.iinc 6 1, 3) := by decide +kernel
theorem dX4_longest_115 : decode cX4_longest 115 = .ok (.goto (-60), 3) := by decide +kernel
theorem dX4_longest_118 : decode cX4_longest 118 = .ok (.iload 5, 2) := by decide +kernel
theorem dX4_longest_120 : decode cX4_longest 120 = .ok (.ireturn, 1) := by decide +kernel
theorem dX4_isSeen_0 : decode cX4_isSeen 0 = .ok (.iload_n 1, 1) := by decide +kernel
theorem dX4_isSeen_1 : decode cX4_isSeen 1 = .ok (.aload_n 0, 1) := by decide +kernel
theorem dX4_isSeen_2 : decode cX4_isSeen 2 = .ok (.getfield 45, 3) := by decide +kernel
theorem dX4_isSeen_5 : decode cX4_isSeen 5 = .ok (.if_icmp .ge 7, 3) := by decide +kernel
theorem dX4_isSeen_8 : decode cX4_isSeen 8 = .ok (.iconst 1, 1) := by decide +kernel
theorem dX4_isSeen_9 : decode cX4_isSeen 9 = .ok (.goto 4, 3) := by decide +kernel
theorem dX4_isSeen_12 : decode cX4_isSeen 12 = .ok (.iconst 0, 1) := by decide +kernel
theorem dX4_isSeen_13 : decode cX4_isSeen 13 = .ok (.istore 4, 2) := by decide +kernel
theorem dX4_isSeen_15 : decode cX4_isSeen 15 = .ok (.iload 4, 2) := by decide +kernel
theorem dX4_isSeen_17 : decode cX4_isSeen 17 = .ok (.ifCond .eq 17, 3) := by decide +kernel
theorem dX4_isSeen_20 : decode cX4_isSeen 20 = .ok (.aload_n 0, 1) := by decide +kernel
theorem dX4_isSeen_21 : decode cX4_isSeen 21 = .ok (.getfield 20, 3) := by decide +kernel
theorem dX4_isSeen_24 : decode cX4_isSeen 24 = .ok (.bipush 30, 2) := by decide +kernel
theorem dX4_isSeen_26 : decode cX4_isSeen 26 = .ok (.iload_n 2, 1) := by decide +kernel
theorem dX4_isSeen_27 : decode cX4_isSeen 27 = .ok (.imul, 1) := by decide +kernel
theorem dX4_isSeen_28 : decode cX4_isSeen 28 = .ok (.iload_n 1, 1) := by decide +kernel
theorem dX4_isSeen_29 : decode cX4_isSeen 29 = .ok (.iadd, 1) := by decide +kernel
theorem dX4_isSeen_30 : decode cX4_isSeen 30 = .ok (.baload, 1) := by decide +kernel
theorem dX4_isSeen_31 : decode cX4_isSeen 31 = .ok (.goto 19, 3) := by decide +kernel
theorem dX4_isSeen_34 : decode cX4_isSeen 34 = .ok (.aload_n 0, 1) := by decide +kernel
theorem dX4_isSeen_35 : decode cX4_isSeen 35 = .ok (.getfield 20, 3) := by decide +kernel
theorem dX4_isSeen_38 : decode cX4_isSeen 38 = .ok (.bipush 30, 2) := by decide +kernel
theorem dX4_isSeen_40 : decode cX4_isSeen 40 = .ok (.iload_n 1, 1) := by decide +kernel
theorem dX4_isSeen_41 : decode cX4_isSeen 41 = .ok (.aload_n 0, 1) := by decide +kernel
theorem dX4_isSeen_42 : decode cX4_isSeen 42 = .ok (.getfield 45, 3) := by decide +kernel
theorem dX4_isSeen_45 : decode cX4_isSeen 45 = .ok (.isub, 1) := by decide +kernel
theorem dX4_isSeen_46 : decode cX4_isSeen 46 = .ok (.imul, 1) := by decide +kernel
theorem dX4_isSeen_47 : decode cX4_isSeen 47 = .ok (.iload_n 2, 1) := by decide +kernel
theorem dX4_isSeen_48 : decode cX4_isSeen 48 = .ok (.iadd, 1) := by decide +kernel
theorem dX4_isSeen_49 : decode cX4_isSeen 49 = .ok (.baload, 1) := by decide +kernel
theorem dX4_isSeen_50 : decode cX4_isSeen 50 = .ok (.istore 5, 2) := by decide +kernel
theorem dX4_isSeen_52 : decode cX4_isSeen 52 = .ok (.iload 5, 2) := by decide +kernel
theorem dX4_isSeen_54 : decode cX4_isSeen 54 = .ok (.iload 4, 2) := by decide +kernel
theorem dX4_isSeen_56 : decode cX4_isSeen 56 = .ok (.iload_n 3, 1) := by decide +kernel
theorem dX4_isSeen_57 : decode cX4_isSeen 57 = .ok (.if_icmp .eq 7, 3) := by decide +kernel
theorem dX4_isSeen_60 : decode cX4_isSeen 60 = .ok (.iconst 1, 1) := by decide +kernel
theorem dX4_isSeen_61 : decode cX4_isSeen 61 = .ok (.goto 4, 3) := by decide +kernel
theorem dX4_isSeen_64 : decode cX4_isSeen 64 = .ok (.iconst 0, 1) := by decide +kernel
theorem dX4_isSeen_65 : decode cX4_isSeen 65 = .ok (.if_icmp .ne 7, 3) := by decide +kernel
theorem dX4_isSeen_68 : decode cX4_isSeen 68 = .ok (.iconst 1, 1) := by decide +kernel
theorem dX4_isSeen_69 : decode cX4_isSeen 69 = .ok (.goto 4, 3) := by decide +kernel
theorem dX4_isSeen_72 : decode cX4_isSeen 72 = .ok (.iconst 0, 1) := by decide +kernel
theorem dX4_isSeen_73 : decode cX4_isSeen 73 = .ok (.ireturn, 1) := by decide +kernel
theorem dX4_spread_0 : decode cX4_spread 0 = .ok (.aload_n 0, 1) := by decide +kernel
theorem dX4_spread_1 : decode cX4_spread 1 = .ok (.getfield 45, 3) := by decide +kernel
theorem dX4_spread_4 : decode cX4_spread 4 = .ok (.aload_n 0, 1) := by decide +kernel
theorem dX4_spread_5 : decode cX4_spread 5 = .ok (.getfield 57, 3) := by decide +kernel
theorem dX4_spread_8 : decode cX4_spread 8 = .ok (.iadd, 1) := by decide +kernel
theorem dX4_spread_9 : decode cX4_spread 9 = .ok (.istore_n 1, 1) := by decide +kernel
theorem dX4_spread_10 : decode cX4_spread 10 = .ok (.iconst 0, 1) := by decide +kernel
theorem dX4_spread_11 : decode cX4_spread 11 = .ok (.istore_n 2, 1) := by decide +kernel
theorem dX4_spread_12 : decode cX4_spread 12 = .ok (.iload_n 2, 1) := by decide +kernel
theorem dX4_spread_13 : decode cX4_spread 13 = .ok (.iload_n 1, 1) := by decide +kernel
theorem dX4_spread_14 : decode cX4_spread 14 = .ok (.if_icmp .ge 43, 3) := by decide +kernel
theorem dX4_spread_17 : decode cX4_spread 17 = .ok (.iconst 0, 1) := by decide +kernel
theorem dX4_spread_18 : decode cX4_spread 18 = .ok (.istore_n 3, 1) := by decide +kernel
theorem dX4_spread_19 : decode cX4_spread 19 = .ok (.iload_n 3, 1) := by decide +kernel
theorem dX4_spread_20 : decode cX4_spread 20 = .ok (.iload_n 1, 1) := by decide +kernel
theorem dX4_spread_21 : decode cX4_spread 21 = .ok (.if_icmp .ge 30, 3) := by decide +kernel
theorem dX4_spread_24 : decode cX4_spread 24 = .ok (.aload_n 0, 1) := by decide +kernel
theorem dX4_spread_25 : decode cX4_spread 25 = .ok (.getfield 23, 3) := by decide +kernel
theorem dX4_spread_28 : decode cX4_spread 28 = .ok (.bipush 60, 2) := by decide +kernel
theorem dX4_spread_30 : decode cX4_spread 30 = .ok (.iload_n 2, 1) := by decide +kernel
theorem dX4_spread_31 : decode cX4_spread 31 = .ok (.imul, 1) := by decide +kernel
theorem dX4_spread_32 : decode cX4_spread 32 = .ok (.iload_n 3, 1) := by decide +kernel
theorem dX4_spread_33 : decode cX4_spread 33 = .ok (.iadd, 1) := by decide +kernel
theorem dX4_spread_34 : decode cX4_spread 34 = .ok (.iload_n 2, 1) := by decide +kernel
theorem dX4_spread_35 : decode cX4_spread 35 = .ok (.iload_n 3, 1) := by decide +kernel
theorem dX4_spread_36 : decode cX4_spread 36 = .ok (.if_icmp .ne 7, 3) := by decide +kernel
theorem dX4_spread_39 : decode cX4_spread 39 = .ok (.iconst 1, 1) := by decide +kernel
theorem dX4_spread_40 : decode cX4_spread 40 = .ok (.goto 4, 3) := by decide +kernel
theorem dX4_spread_43 : decode cX4_spread 43 = .ok (.iconst 0, 1) := by decide +kernel
theorem dX4_spread_44 : decode cX4_spread 44 = .ok (.bastore, 1) := by decide +kernel
theorem dX4_spread_45 : decode cX4_spread 45 = .ok (.iinc 3 1, 3) := by decide +kernel
theorem dX4_spread_48 : decode cX4_spread 48 = .ok (.goto (-29), 3) := by decide +kernel
theorem dX4_spread_51 : decode cX4_spread 51 = .ok (.iinc 2 1, 3) := by decide +kernel
theorem dX4_spread_54 : decode cX4_spread 54 = .ok (.goto (-42), 3) := by decide +kernel
theorem dX4_spread_57 : decode cX4_spread 57 = .ok (.iconst 0, 1) := by decide +kernel
theorem dX4_spread_58 : decode cX4_spread 58 = .ok (.istore_n 2, 1) := by decide +kernel
theorem dX4_spread_59 : decode cX4_spread 59 = .ok (.iload_n 2, 1) := by decide +kernel
theorem dX4_spread_60 : decode cX4_spread 60 = .ok (.aload_n 0, 1) := by decide +kernel
theorem dX4_spread_61 : decode cX4_spread 61 = .ok (.getfield 57, 3) := by decide +kernel
theorem dX4_spread_64 : decode cX4_spread 64 = .ok (.if_icmp .ge 74, 3) := by decide +kernel
theorem dX4_spread_67 : decode cX4_spread 67 = .ok (.iconst 0, 1) := by decide +kernel
theorem dX4_spread_68 : decode cX4_spread 68 = .ok (.istore_n 3, 1) := by decide +kernel
theorem dX4_spread_69 : decode cX4_spread 69 = .ok (.iload_n 3, 1) := by decide +kernel
theorem dX4_spread_70 : decode cX4_spread 70 = .ok (.aload_n 0, 1) := by decide +kernel
theorem dX4_spread_71 : decode cX4_spread 71 = .ok (.getfield 45, 3) := by decide +kernel
theorem dX4_spread_74 : decode cX4_spread 74 = .ok (.if_icmp .ge 58, 3) := by decide +kernel
theorem dX4_spread_77 : decode cX4_spread 77 = .ok (.aload_n 0, 1) := by decide +kernel
theorem dX4_spread_78 : decode cX4_spread 78 = .ok (.getfield 20, 3) := by decide +kernel
theorem dX4_spread_81 : decode cX4_spread 81 = .ok (.bipush 30, 2) := by decide +kernel
theorem dX4_spread_83 : decode cX4_spread 83 = .ok (.iload_n 2, 1) := by decide +kernel
theorem dX4_spread_84 : decode cX4_spread 84 = .ok (.imul, 1) := by decide +kernel
theorem dX4_spread_85 : decode cX4_spread 85 = .ok (.iload_n 3, 1) := by decide +kernel
theorem dX4_spread_86 : decode cX4_spread 86 = .ok (.iadd, 1) := by decide +kernel
theorem dX4_spread_87 : decode cX4_spread 87 = .ok (.baload, 1) := by decide +kernel
theorem dX4_spread_88 : decode cX4_spread 88 = .ok (.istore 4, 2) := by decide +kernel
theorem dX4_spread_90 : decode cX4_spread 90 = .ok (.aload_n 0, 1) := by decide +kernel
theorem dX4_spread_91 : decode cX4_spread 91 = .ok (.getfield 23, 3) := by decide +kernel
theorem dX4_spread_94 : decode cX4_spread 94 = .ok (.iload 4, 2) := by decide +kernel
theorem dX4_spread_96 : decode cX4_spread 96 = .ok (.ifCond .eq 17, 3) := by decide +kernel
theorem dX4_spread_99 : decode cX4_spread 99 = .ok (.bipush 60, 2) := by decide +kernel
theorem dX4_spread_101 : decode cX4_spread 101 = .ok (.iload_n 3, 1) := by decide +kernel
theorem dX4_spread_102 : decode cX4_spread 102 = .ok (.imul, 1) := by decide +kernel
theorem dX4_spread_103 : decode cX4_spread 103 = .ok (.aload_n 0, 1) := by decide +kernel
theorem dX4_spread_104 : decode cX4_spread 104 = .ok (.getfield 45, 3) := by decide +kernel
theorem dX4_spread_107 : decode cX4_spread 107 = .ok (.iadd, 1) := by decide +kernel
theorem dX4_spread_108 : decode cX4_spread 108 = .ok (.iload_n 2, 1) := by decide +kernel
theorem dX4_spread_109 : decode cX4_spread 109 = .ok (.iadd, 1) := by decide +kernel
theorem dX4_spread_110 : decode cX4_spread 110 = .ok (.goto 14, 3) := by decide +kernel
theorem dX4_spread_113 : decode cX4_spread 113 = .ok (.bipush 60, 2) := by decide +kernel
theorem dX4_spread_115 : decode cX4_spread 115 = .ok (.aload_n 0, 1) := by decide +kernel
theorem dX4_spread_116 : decode cX4_spread 116 = .ok (.getfield 45, 3) := by decide +kernel
theorem dX4_spread_119 : decode cX4_spread 119 = .ok (.iload_n 2, 1) := by decide +kernel
theorem dX4_spread_120 : decode cX4_spread 120 = .ok (.iadd, 1) := by decide +kernel
theorem dX4_spread_121 : decode cX4_spread 121 = .ok (.imul, 1) := by decide +kernel
theorem dX4_spread_122 : decode cX4_spread 122 = .ok (.iload_n 3, 1) := by decide +kernel
theorem dX4_spread_123 : decode cX4_spread 123 = .ok (.iadd, 1) := by decide +kernel
theorem dX4_spread_124 : decode cX4_spread 124 = .ok (.iconst 1, 1) := by decide +kernel
theorem dX4_spread_125 : decode cX4_spread 125 = .ok (.bastore, 1) := by decide +kernel
theorem dX4_spread_126 : decode cX4_spread 126 = .ok (.iinc 3 1, 3) := by decide +kernel
theorem dX4_spread_129 : decode cX4_spread 129 = .ok (.goto (-60), 3) := by decide +kernel
theorem dX4_spread_132 : decode cX4_spread 132 = .ok (.iinc 2 1, 3) := by decide +kernel
theorem dX4_spread_135 : decode cX4_spread 135 = .ok (.goto (-76), 3) := by decide +kernel
theorem dX4_spread_138 : decode cX4_spread 138 = .ok (.iconst 0, 1) := by decide +kernel
theorem dX4_spread_139 : decode cX4_spread 139 = .ok (.istore_n 2, 1) := by decide +kernel
theorem dX4_spread_140 : decode cX4_spread 140 = .ok (.iload_n 2, 1) := by decide +kernel
theorem dX4_spread_141 : decode cX4_spread 141 = .ok (.iload_n 1, 1) := by decide +kernel
theorem dX4_spread_142 : decode cX4_spread 142 = .ok (.if_icmp .ge 98, 3) := by decide +kernel
theorem dX4_spread_145 : decode cX4_spread 145 = .ok (.iconst 0, 1) := by decide +kernel
theorem dX4_spread_146 : decode cX4_spread 146 = .ok (.istore_n 3, 1) := by decide +kernel
theorem dX4_spread_147 : decode cX4_spread 147 = .ok (.iload_n 3, 1) := by decide +kernel
theorem dX4_spread_148 : decode cX4_spread 148 = .ok (.iload_n 1, 1) := by decide +kernel
theorem dX4_spread_149 : decode cX4_spread 149 = .ok (.if_icmp .ge 85, 3) := by decide +kernel
theorem dX4_spread_152 : decode cX4_spread 152 = .ok (.iconst 0, 1) := by decide +kernel
theorem dX4_spread_153 : decode cX4_spread 153 = .ok (.istore 4, 2) := by decide +kernel
theorem dX4_spread_155 : decode cX4_spread 155 = .ok (.iload 4, 2) := by decide +kernel
theorem dX4_spread_157 : decode cX4_spread 157 = .ok (.iload_n 1, 1) := by decide +kernel
theorem dX4_spread_158 : decode cX4_spread 158 = .ok (.if_icmp .ge 70, 3) := by decide +kernel
theorem dX4_spread_161 : decode cX4_spread 161 = .ok (.aload_n 0, 1) := by decide +kernel
theorem dX4_spread_162 : decode cX4_spread 162 = .ok (.getfield 23, 3) := by decide +kernel
theorem dX4_spread_165 : decode cX4_spread 165 = .ok (.bipush 60, 2) := by decide +kernel
theorem dX4_spread_167 : decode cX4_spread 167 = .ok (.iload_n 3, 1) := by decide +kernel
theorem dX4_spread_168 : decode cX4_spread 168 = .ok (.imul, 1) := by decide +kernel
theorem dX4_spread_169 : decode cX4_spread 169 = .ok (.iload_n 2, 1) := by decide +kernel
theorem dX4_spread_170 : decode cX4_spread 170 = .ok (.iadd, 1) := by decide +kernel
theorem dX4_spread_171 : decode cX4_spread 171 = .ok (.baload, 1) := by decide +kernel
theorem dX4_spread_172 : decode cX4_spread 172 = .ok (.ifCond .eq 56, 3) := by decide +kernel
theorem dX4_spread_175 : decode cX4_spread 175 = .ok (.aload_n 0, 1) := by decide +kernel
theorem dX4_spread_176 : decode cX4_spread 176 = .ok (.getfield 23, 3) := by decide +kernel
theorem dX4_spread_179 : decode cX4_spread 179 = .ok (.bipush 60, 2) := by decide +kernel
theorem dX4_spread_181 : decode cX4_spread 181 = .ok (.iload_n 3, 1) := by decide +kernel
theorem dX4_spread_182 : decode cX4_spread 182 = .ok (.imul, 1) := by decide +kernel
theorem dX4_spread_183 : decode cX4_spread 183 = .ok (.iload 4, 2) := by decide +kernel
theorem dX4_spread_185 : decode cX4_spread 185 = .ok (.iadd, 1) := by decide +kernel
theorem dX4_spread_186 : decode cX4_spread 186 = .ok (.aload_n 0, 1) := by decide +kernel
theorem dX4_spread_187 : decode cX4_spread 187 = .ok (.getfield 23, 3) := by decide +kernel
theorem dX4_spread_190 : decode cX4_spread 190 = .ok (.bipush 60, 2) := by decide +kernel
theorem dX4_spread_192 : decode cX4_spread 192 = .ok (.iload_n 3, 1) := by decide +kernel
theorem dX4_spread_193 : decode cX4_spread 193 = .ok (.imul, 1) := by decide +kernel
theorem dX4_spread_194 : decode cX4_spread 194 = .ok (.iload 4, 2) := by decide +kernel
theorem dX4_spread_196 : decode cX4_spread 196 = .ok (.iadd, 1) := by decide +kernel
theorem dX4_spread_197 : decode cX4_spread 197 = .ok (.baload, 1) := by decide +kernel
theorem dX4_spread_198 : decode cX4_spread 198 = .ok (.ifCond .ne 18, 3) := by decide +kernel
theorem dX4_spread_201 : decode cX4_spread 201 = .ok (.aload_n 0, 1) := by decide +kernel
theorem dX4_spread_202 : decode cX4_spread 202 = .ok (.getfield 23, 3) := by decide +kernel
theorem dX4_spread_205 : decode cX4_spread 205 = .ok (.bipush 60, 2) := by decide +kernel
theorem dX4_spread_207 : decode cX4_spread 207 = .ok (.iload_n 2, 1) := by decide +kernel
theorem dX4_spread_208 : decode cX4_spread 208 = .ok (.imul, 1) := by decide +kernel
theorem dX4_spread_209 : decode cX4_spread 209 = .ok (.iload 4, 2) := by decide +kernel
theorem dX4_spread_211 : decode cX4_spread 211 = .ok (.iadd, 1) := by decide +kernel
theorem dX4_spread_212 : decode cX4_spread 212 = .ok (.baload, 1) := by decide +kernel
theorem dX4_spread_213 : decode cX4_spread 213 = .ok (.ifCond .eq 7, 3) := by decide +kernel
theorem dX4_spread_216 : decode cX4_spread 216 = .ok (.iconst 1, 1) := by decide +kernel
theorem dX4_spread_217 : decode cX4_spread 217 = .ok (.goto 4, 3) := by decide +kernel
theorem dX4_spread_220 : decode cX4_spread 220 = .ok (.iconst 0, 1) := by decide +kernel
theorem dX4_spread_221 : decode cX4_spread 221 = .ok (.bastore, 1) := by decide +kernel
theorem dX4_spread_222 : decode cX4_spread 222 = .ok (.iinc 4 1, 3) := by decide +kernel
theorem dX4_spread_225 : decode cX4_spread 225 = .ok (.goto (-70), 3) := by decide +kernel
theorem dX4_spread_228 : decode cX4_spread 228 = .ok (.iinc 3 1, 3) := by decide +kernel
theorem dX4_spread_231 : decode cX4_spread 231 = .ok (.goto (-84), 3) := by decide +kernel
theorem dX4_spread_234 : decode cX4_spread 234 = .ok (.iinc 2 1, 3) := by decide +kernel
theorem dX4_spread_237 : decode cX4_spread 237 = .ok (.goto (-97), 3) := by decide +kernel
theorem dX4_spread_240 : decode cX4_spread 240 = .ok (.return_, 1) := by decide +kernel
theorem dX4_together_0 : decode cX4_together 0 = .ok (.aload_n 0, 1) := by decide +kernel
theorem dX4_together_1 : decode cX4_together 1 = .ok (.getfield 23, 3) := by decide +kernel
theorem dX4_together_4 : decode cX4_together 4 = .ok (.bipush 60, 2) := by decide +kernel
theorem dX4_together_6 : decode cX4_together 6 = .ok (.iload_n 1, 1) := by decide +kernel
theorem dX4_together_7 : decode cX4_together 7 = .ok (.imul, 1) := by decide +kernel
theorem dX4_together_8 : decode cX4_together 8 = .ok (.iload_n 2, 1) := by decide +kernel
theorem dX4_together_9 : decode cX4_together 9 = .ok (.iadd, 1) := by decide +kernel
theorem dX4_together_10 : decode cX4_together 10 = .ok (.baload, 1) := by decide +kernel
theorem dX4_together_11 : decode cX4_together 11 = .ok (.ifCond .eq 21, 3) := by decide +kernel
theorem dX4_together_14 : decode cX4_together 14 = .ok (.aload_n 0, 1) := by decide +kernel
theorem dX4_together_15 : decode cX4_together 15 = .ok (.getfield 23, 3) := by decide +kernel
theorem dX4_together_18 : decode cX4_together 18 = .ok (.bipush 60, 2) := by decide +kernel
theorem dX4_together_20 : decode cX4_together 20 = .ok (.iload_n 2, 1) := by decide +kernel
theorem dX4_together_21 : decode cX4_together 21 = .ok (.imul, 1) := by decide +kernel
theorem dX4_together_22 : decode cX4_together 22 = .ok (.iload_n 1, 1) := by decide +kernel
theorem dX4_together_23 : decode cX4_together 23 = .ok (.iadd, 1) := by decide +kernel
theorem dX4_together_24 : decode cX4_together 24 = .ok (.baload, 1) := by decide +kernel
theorem dX4_together_25 : decode cX4_together 25 = .ok (.ifCond .eq 7, 3) := by decide +kernel
theorem dX4_together_28 : decode cX4_together 28 = .ok (.iconst 1, 1) := by decide +kernel
theorem dX4_together_29 : decode cX4_together 29 = .ok (.goto 4, 3) := by decide +kernel
theorem dX4_together_32 : decode cX4_together 32 = .ok (.iconst 0, 1) := by decide +kernel
theorem dX4_together_33 : decode cX4_together 33 = .ok (.ireturn, 1) := by decide +kernel
theorem dX4_isFree_0 : decode cX4_isFree 0 = .ok (.iconst 0, 1) := by decide +kernel
theorem dX4_isFree_1 : decode cX4_isFree 1 = .ok (.istore_n 3, 1) := by decide +kernel
theorem dX4_isFree_2 : decode cX4_isFree 2 = .ok (.iload_n 3, 1) := by decide +kernel
theorem dX4_isFree_3 : decode cX4_isFree 3 = .ok (.iload_n 2, 1) := by decide +kernel
theorem dX4_isFree_4 : decode cX4_isFree 4 = .ok (.if_icmp .ge 48, 3) := by decide +kernel
theorem dX4_isFree_7 : decode cX4_isFree 7 = .ok (.aload_n 0, 1) := by decide +kernel
theorem dX4_isFree_8 : decode cX4_isFree 8 = .ok (.getfield 26, 3) := by decide +kernel
theorem dX4_isFree_11 : decode cX4_isFree 11 = .ok (.iload_n 3, 1) := by decide +kernel
theorem dX4_isFree_12 : decode cX4_isFree 12 = .ok (.iaload, 1) := by decide +kernel
theorem dX4_isFree_13 : decode cX4_isFree 13 = .ok (.ifCond .ge 33, 3) := by decide +kernel
theorem dX4_isFree_16 : decode cX4_isFree 16 = .ok (.aload_n 0, 1) := by decide +kernel
theorem dX4_isFree_17 : decode cX4_isFree 17 = .ok (.getfield 23, 3) := by decide +kernel
theorem dX4_isFree_20 : decode cX4_isFree 20 = .ok (.bipush 60, 2) := by decide +kernel
theorem dX4_isFree_22 : decode cX4_isFree 22 = .ok (.iload_n 1, 1) := by decide +kernel
theorem dX4_isFree_23 : decode cX4_isFree 23 = .ok (.imul, 1) := by decide +kernel
theorem dX4_isFree_24 : decode cX4_isFree 24 = .ok (.iload_n 3, 1) := by decide +kernel
theorem dX4_isFree_25 : decode cX4_isFree 25 = .ok (.iadd, 1) := by decide +kernel
theorem dX4_isFree_26 : decode cX4_isFree 26 = .ok (.baload, 1) := by decide +kernel
theorem dX4_isFree_27 : decode cX4_isFree 27 = .ok (.ifCond .eq 19, 3) := by decide +kernel
theorem dX4_isFree_30 : decode cX4_isFree 30 = .ok (.aload_n 0, 1) := by decide +kernel
theorem dX4_isFree_31 : decode cX4_isFree 31 = .ok (.getfield 23, 3) := by decide +kernel
theorem dX4_isFree_34 : decode cX4_isFree 34 = .ok (.bipush 60, 2) := by decide +kernel
theorem dX4_isFree_36 : decode cX4_isFree 36 = .ok (.iload_n 3, 1) := by decide +kernel
theorem dX4_isFree_37 : decode cX4_isFree 37 = .ok (.imul, 1) := by decide +kernel
theorem dX4_isFree_38 : decode cX4_isFree 38 = .ok (.iload_n 1, 1) := by decide +kernel
theorem dX4_isFree_39 : decode cX4_isFree 39 = .ok (.iadd, 1) := by decide +kernel
theorem dX4_isFree_40 : decode cX4_isFree 40 = .ok (.baload, 1) := by decide +kernel
theorem dX4_isFree_41 : decode cX4_isFree 41 = .ok (.ifCond .ne 5, 3) := by decide +kernel
theorem dX4_isFree_44 : decode cX4_isFree 44 = .ok (.iconst 0, 1) := by decide +kernel
theorem dX4_isFree_45 : decode cX4_isFree 45 = .ok (.ireturn, 1) := by decide +kernel
theorem dX4_isFree_46 : decode cX4_isFree 46 = .ok (.iinc 3 1, 3) := by decide +kernel
theorem dX4_isFree_49 : decode cX4_isFree 49 = .ok (.goto (-47), 3) := by decide +kernel
theorem dX4_isFree_52 : decode cX4_isFree 52 = .ok (.iconst 1, 1) := by decide +kernel
theorem dX4_isFree_53 : decode cX4_isFree 53 = .ok (.ireturn, 1) := by decide +kernel
theorem dX4_number_0 : decode cX4_number 0 = .ok (.aload_n 0, 1) := by decide +kernel
theorem dX4_number_1 : decode cX4_number 1 = .ok (.getfield 45, 3) := by decide +kernel
theorem dX4_number_4 : decode cX4_number 4 = .ok (.aload_n 0, 1) := by decide +kernel
theorem dX4_number_5 : decode cX4_number 5 = .ok (.getfield 57, 3) := by decide +kernel
theorem dX4_number_8 : decode cX4_number 8 = .ok (.iadd, 1) := by decide +kernel
theorem dX4_number_9 : decode cX4_number 9 = .ok (.istore_n 1, 1) := by decide +kernel
theorem dX4_number_10 : decode cX4_number 10 = .ok (.aload_n 0, 1) := by decide +kernel
theorem dX4_number_11 : decode cX4_number 11 = .ok (.invokevirtual 84, 3) := by decide +kernel
theorem dX4_number_14 : decode cX4_number 14 = .ok (.iconst 0, 1) := by decide +kernel
theorem dX4_number_15 : decode cX4_number 15 = .ok (.istore_n 2, 1) := by decide +kernel
theorem dX4_number_16 : decode cX4_number 16 = .ok (.iload_n 2, 1) := by decide +kernel
theorem dX4_number_17 : decode cX4_number 17 = .ok (.iload_n 1, 1) := by decide +kernel
theorem dX4_number_18 : decode cX4_number 18 = .ok (.if_icmp .ge 16, 3) := by decide +kernel
theorem dX4_number_21 : decode cX4_number 21 = .ok (.aload_n 0, 1) := by decide +kernel
theorem dX4_number_22 : decode cX4_number 22 = .ok (.getfield 26, 3) := by decide +kernel
theorem dX4_number_25 : decode cX4_number 25 = .ok (.iload_n 2, 1) := by decide +kernel
theorem dX4_number_26 : decode cX4_number 26 = .ok (.iconst (-1), 1) := by decide +kernel
theorem dX4_number_27 : decode cX4_number 27 = .ok (.iastore, 1) := by decide +kernel
theorem dX4_number_28 : decode cX4_number 28 = .ok (.iinc 2 1, 3) := by decide +kernel
theorem dX4_number_31 : decode cX4_number 31 = .ok (.goto (-15), 3) := by decide +kernel
theorem dX4_number_34 : decode cX4_number 34 = .ok (.aload_n 0, 1) := by decide +kernel
theorem dX4_number_35 : decode cX4_number 35 = .ok (.iconst 0, 1) := by decide +kernel
theorem dX4_number_36 : decode cX4_number 36 = .ok (.putfield 87, 3) := by decide +kernel
theorem dX4_number_39 : decode cX4_number 39 = .ok (.iconst 0, 1) := by decide +kernel
theorem dX4_number_40 : decode cX4_number 40 = .ok (.istore_n 2, 1) := by decide +kernel
theorem dX4_number_41 : decode cX4_number 41 = .ok (.iload_n 2, 1) := by decide +kernel
theorem dX4_number_42 : decode cX4_number 42 = .ok (.ifCond .lt 113, 3) := by decide +kernel
theorem dX4_number_45 : decode cX4_number 45 = .ok (.iconst (-1), 1) := by decide +kernel
theorem dX4_number_46 : decode cX4_number 46 = .ok (.istore_n 2, 1) := by decide +kernel
theorem dX4_number_47 : decode cX4_number 47 = .ok (.iload_n 1, 1) := by decide +kernel
theorem dX4_number_48 : decode cX4_number 48 = .ok (.iconst 1, 1) := by decide +kernel
theorem dX4_number_49 : decode cX4_number 49 = .ok (.isub, 1) := by decide +kernel
theorem dX4_number_50 : decode cX4_number 50 = .ok (.istore_n 3, 1) := by decide +kernel
theorem dX4_number_51 : decode cX4_number 51 = .ok (.iload_n 3, 1) := by decide +kernel
theorem dX4_number_52 : decode cX4_number 52 = .ok (.ifCond .lt 33, 3) := by decide +kernel
theorem dX4_number_55 : decode cX4_number 55 = .ok (.aload_n 0, 1) := by decide +kernel
theorem dX4_number_56 : decode cX4_number 56 = .ok (.getfield 26, 3) := by decide +kernel
theorem dX4_number_59 : decode cX4_number 59 = .ok (.iload_n 3, 1) := by decide +kernel
theorem dX4_number_60 : decode cX4_number 60 = .ok (.iaload, 1) := by decide +kernel
theorem dX4_number_61 : decode cX4_number 61 = .ok (.ifCond .ge 16, 3) := by decide +kernel
theorem dX4_number_64 : decode cX4_number 64 = .ok (.aload_n 0, 1) := by decide +kernel
theorem dX4_number_65 : decode cX4_number 65 = .ok (.iload_n 3, 1) := by decide +kernel
theorem dX4_number_66 : decode cX4_number 66 = .ok (.iload_n 1, 1) := by decide +kernel
theorem dX4_number_67 : decode cX4_number 67 = .ok (.invokevirtual 90, 3) := by decide +kernel
theorem dX4_number_70 : decode cX4_number 70 = .ok (.ifCond .eq 7, 3) := by decide +kernel
theorem dX4_number_73 : decode cX4_number 73 = .ok (.iload_n 3, 1) := by decide +kernel
theorem dX4_number_74 : decode cX4_number 74 = .ok (.goto 4, 3) := by decide +kernel
theorem dX4_number_77 : decode cX4_number 77 = .ok (.iload_n 2, 1) := by decide +kernel
theorem dX4_number_78 : decode cX4_number 78 = .ok (.istore_n 2, 1) := by decide +kernel
theorem dX4_number_79 : decode cX4_number 79 = .ok (.iinc 3 (-1), 3) := by decide +kernel
theorem dX4_number_82 : decode cX4_number 82 = .ok (.goto (-31), 3) := by decide +kernel
theorem dX4_number_85 : decode cX4_number 85 = .ok (.iload_n 2, 1) := by decide +kernel
theorem dX4_number_86 : decode cX4_number 86 = .ok (.ifCond .ge 6, 3) := by decide +kernel
theorem dX4_number_89 : decode cX4_number 89 = .ok (.goto (-48), 3) := by decide +kernel
theorem dX4_number_92 : decode cX4_number 92 = .ok (.iconst 0, 1) := by decide +kernel
theorem dX4_number_93 : decode cX4_number 93 = .ok (.istore_n 3, 1) := by decide +kernel
theorem dX4_number_94 : decode cX4_number 94 = .ok (.iload_n 3, 1) := by decide +kernel
theorem dX4_number_95 : decode cX4_number 95 = .ok (.iload_n 1, 1) := by decide +kernel
theorem dX4_number_96 : decode cX4_number 96 = .ok (.if_icmp .ge 46, 3) := by decide +kernel
theorem dX4_number_99 : decode cX4_number 99 = .ok (.aload_n 0, 1) := by decide +kernel
theorem dX4_number_100 : decode cX4_number 100 = .ok (.getfield 26, 3) := by decide +kernel
theorem dX4_number_103 : decode cX4_number 103 = .ok (.iload_n 3, 1) := by decide +kernel
theorem dX4_number_104 : decode cX4_number 104 = .ok (.aload_n 0, 1) := by decide +kernel
theorem dX4_number_105 : decode cX4_number 105 = .ok (.getfield 26, 3) := by decide +kernel
theorem dX4_number_108 : decode cX4_number 108 = .ok (.iload_n 3, 1) := by decide +kernel
theorem dX4_number_109 : decode cX4_number 109 = .ok (.iaload, 1) := by decide +kernel
theorem dX4_number_110 : decode cX4_number 110 = .ok (.ifCond .ge 19, 3) := by decide +kernel
theorem dX4_number_113 : decode cX4_number 113 = .ok (.aload_n 0, 1) := by decide +kernel
theorem dX4_number_114 : decode cX4_number 114 = .ok (.iload_n 2, 1) := by decide +kernel
theorem dX4_number_115 : decode cX4_number 115 = .ok (.iload_n 3, 1) := by decide +kernel
theorem dX4_number_116 : decode cX4_number 116 = .ok (.invokevirtual 93, 3) := by decide +kernel
theorem dX4_number_119 : decode cX4_number 119 = .ok (.ifCond .eq 10, 3) := by decide +kernel
theorem dX4_number_122 : decode cX4_number 122 = .ok (.aload_n 0, 1) := by decide +kernel
theorem dX4_number_123 : decode cX4_number 123 = .ok (.getfield 87, 3) := by decide +kernel
theorem dX4_number_126 : decode cX4_number 126 = .ok (.goto 9, 3) := by decide +kernel
theorem dX4_number_129 : decode cX4_number 129 = .ok (.aload_n 0, 1) := by decide +kernel
theorem dX4_number_130 : decode cX4_number 130 = .ok (.getfield 26, 3) := by decide +kernel
theorem dX4_number_133 : decode cX4_number 133 = .ok (.iload_n 3, 1) := by decide +kernel
theorem dX4_number_134 : decode cX4_number 134 = .ok (.iaload, 1) := by decide +kernel
theorem dX4_number_135 : decode cX4_number 135 = .ok (.iastore, 1) := by decide +kernel
theorem dX4_number_136 : decode cX4_number 136 = .ok (.iinc 3 1, 3) := by decide +kernel
theorem dX4_number_139 : decode cX4_number 139 = .ok (.goto (-45), 3) := by decide +kernel
theorem dX4_number_142 : decode cX4_number 142 = .ok (.aload_n 0, 1) := by decide +kernel
theorem dX4_number_143 : decode cX4_number 143 = .ok (.dup, 1) := by decide +kernel
theorem dX4_number_144 : decode cX4_number 144 = .ok (.getfield 87, 3) := by decide +kernel
theorem dX4_number_147 : decode cX4_number 147 = .ok (.iconst 1, 1) := by decide +kernel
theorem dX4_number_148 : decode cX4_number 148 = .ok (.iadd, 1) := by decide +kernel
theorem dX4_number_149 : decode cX4_number 149 = .ok (.putfield 87, 3) := by decide +kernel
theorem dX4_number_152 : decode cX4_number 152 = .ok (.goto (-111), 3) := by decide +kernel
theorem dX4_number_155 : decode cX4_number 155 = .ok (.return_, 1) := by decide +kernel
theorem dX4_layers_0 : decode cX4_layers 0 = .ok (.aload_n 0, 1) := by decide +kernel
theorem dX4_layers_1 : decode cX4_layers 1 = .ok (.aload_n 0, 1) := by decide +kernel
theorem dX4_layers_2 : decode cX4_layers 2 = .ok (.getfield 57, 3) := by decide +kernel
theorem dX4_layers_5 : decode cX4_layers 5 = .ok (.ifCond .ne 7, 3) := by decide +kernel
theorem dX4_layers_8 : decode cX4_layers 8 = .ok (.iconst 1, 1) := by decide +kernel
theorem dX4_layers_9 : decode cX4_layers 9 = .ok (.goto 4, 3) := by decide +kernel
theorem dX4_layers_12 : decode cX4_layers 12 = .ok (.iconst 0, 1) := by decide +kernel
theorem dX4_layers_13 : decode cX4_layers 13 = .ok (.putfield 42, 3) := by decide +kernel
theorem dX4_layers_16 : decode cX4_layers 16 = .ok (.aload_n 0, 1) := by decide +kernel
theorem dX4_layers_17 : decode cX4_layers 17 = .ok (.getfield 42, 3) := by decide +kernel
theorem dX4_layers_20 : decode cX4_layers 20 = .ok (.ifCond .eq 5, 3) := by decide +kernel
theorem dX4_layers_23 : decode cX4_layers 23 = .ok (.iconst 0, 1) := by decide +kernel
theorem dX4_layers_24 : decode cX4_layers 24 = .ok (.ireturn, 1) := by decide +kernel
theorem dX4_layers_25 : decode cX4_layers 25 = .ok (.aload_n 0, 1) := by decide +kernel
theorem dX4_layers_26 : decode cX4_layers 26 = .ok (.invokevirtual 96, 3) := by decide +kernel
theorem dX4_layers_29 : decode cX4_layers 29 = .ok (.aload_n 0, 1) := by decide +kernel
theorem dX4_layers_30 : decode cX4_layers 30 = .ok (.getfield 87, 3) := by decide +kernel
theorem dX4_layers_33 : decode cX4_layers 33 = .ok (.ireturn, 1) := by decide +kernel
theorem dX4_layer_0 : decode cX4_layer 0 = .ok (.aload_n 0, 1) := by decide +kernel
theorem dX4_layer_1 : decode cX4_layer 1 = .ok (.iload_n 1, 1) := by decide +kernel
theorem dX4_layer_2 : decode cX4_layer 2 = .ok (.invokevirtual 76, 3) := by decide +kernel
theorem dX4_layer_5 : decode cX4_layer 5 = .ok (.istore_n 2, 1) := by decide +kernel
theorem dX4_layer_6 : decode cX4_layer 6 = .ok (.aload_n 0, 1) := by decide +kernel
theorem dX4_layer_7 : decode cX4_layer 7 = .ok (.aload_n 0, 1) := by decide +kernel
theorem dX4_layer_8 : decode cX4_layer 8 = .ok (.getfield 57, 3) := by decide +kernel
theorem dX4_layer_11 : decode cX4_layer 11 = .ok (.ifCond .ne 7, 3) := by decide +kernel
theorem dX4_layer_14 : decode cX4_layer 14 = .ok (.iconst 1, 1) := by decide +kernel
theorem dX4_layer_15 : decode cX4_layer 15 = .ok (.goto 12, 3) := by decide +kernel
theorem dX4_layer_18 : decode cX4_layer 18 = .ok (.iload_n 2, 1) := by decide +kernel
theorem dX4_layer_19 : decode cX4_layer 19 = .ok (.ifCond .ge 7, 3) := by decide +kernel
theorem dX4_layer_22 : decode cX4_layer 22 = .ok (.iconst 2, 1) := by decide +kernel
theorem dX4_layer_23 : decode cX4_layer 23 = .ok (.goto 4, 3) := by decide +kernel
theorem dX4_layer_26 : decode cX4_layer 26 = .ok (.iconst 0, 1) := by decide +kernel
theorem dX4_layer_27 : decode cX4_layer 27 = .ok (.putfield 42, 3) := by decide +kernel
theorem dX4_layer_30 : decode cX4_layer 30 = .ok (.aload_n 0, 1) := by decide +kernel
theorem dX4_layer_31 : decode cX4_layer 31 = .ok (.getfield 42, 3) := by decide +kernel
theorem dX4_layer_34 : decode cX4_layer 34 = .ok (.ifCond .eq 5, 3) := by decide +kernel
theorem dX4_layer_37 : decode cX4_layer 37 = .ok (.iconst 0, 1) := by decide +kernel
theorem dX4_layer_38 : decode cX4_layer 38 = .ok (.ireturn, 1) := by decide +kernel
theorem dX4_layer_39 : decode cX4_layer 39 = .ok (.aload_n 0, 1) := by decide +kernel
theorem dX4_layer_40 : decode cX4_layer 40 = .ok (.invokevirtual 96, 3) := by decide +kernel
theorem dX4_layer_43 : decode cX4_layer 43 = .ok (.aload_n 0, 1) := by decide +kernel
theorem dX4_layer_44 : decode cX4_layer 44 = .ok (.getfield 26, 3) := by decide +kernel
theorem dX4_layer_47 : decode cX4_layer 47 = .ok (.iload_n 2, 1) := by decide +kernel
theorem dX4_layer_48 : decode cX4_layer 48 = .ok (.iaload, 1) := by decide +kernel
theorem dX4_layer_49 : decode cX4_layer 49 = .ok (.ireturn, 1) := by decide +kernel
theorem dX4_sameEnds_0 : decode cX4_sameEnds 0 = .ok (.iconst 1, 1) := by decide +kernel
theorem dX4_sameEnds_1 : decode cX4_sameEnds 1 = .ok (.istore_n 3, 1) := by decide +kernel
theorem dX4_sameEnds_2 : decode cX4_sameEnds 2 = .ok (.iconst 0, 1) := by decide +kernel
theorem dX4_sameEnds_3 : decode cX4_sameEnds 3 = .ok (.istore 4, 2) := by decide +kernel
theorem dX4_sameEnds_5 : decode cX4_sameEnds 5 = .ok (.iload 4, 2) := by decide +kernel
theorem dX4_sameEnds_7 : decode cX4_sameEnds 7 = .ok (.aload_n 0, 1) := by decide +kernel
theorem dX4_sameEnds_8 : decode cX4_sameEnds 8 = .ok (.getfield 57, 3) := by decide +kernel
theorem dX4_sameEnds_11 : decode cX4_sameEnds 11 = .ok (.if_icmp .ge 46, 3) := by decide +kernel
theorem dX4_sameEnds_14 : decode cX4_sameEnds 14 = .ok (.iload_n 3, 1) := by decide +kernel
theorem dX4_sameEnds_15 : decode cX4_sameEnds 15 = .ok (.ifCond .eq 34, 3) := by decide +kernel
theorem dX4_sameEnds_18 : decode cX4_sameEnds 18 = .ok (.aload_n 0, 1) := by decide +kernel
theorem dX4_sameEnds_19 : decode cX4_sameEnds 19 = .ok (.getfield 20, 3) := by decide +kernel
theorem dX4_sameEnds_22 : decode cX4_sameEnds 22 = .ok (.bipush 30, 2) := by decide +kernel
theorem dX4_sameEnds_24 : decode cX4_sameEnds 24 = .ok (.iload 4, 2) := by decide +kernel
theorem dX4_sameEnds_26 : decode cX4_sameEnds 26 = .ok (.imul, 1) := by decide +kernel
theorem dX4_sameEnds_27 : decode cX4_sameEnds 27 = .ok (.iload_n 1, 1) := by decide +kernel
theorem dX4_sameEnds_28 : decode cX4_sameEnds 28 = .ok (.iadd, 1) := by decide +kernel
theorem dX4_sameEnds_29 : decode cX4_sameEnds 29 = .ok (.baload, 1) := by decide +kernel
theorem dX4_sameEnds_30 : decode cX4_sameEnds 30 = .ok (.aload_n 0, 1) := by decide +kernel
theorem dX4_sameEnds_31 : decode cX4_sameEnds 31 = .ok (.getfield 20, 3) := by decide +kernel
theorem dX4_sameEnds_34 : decode cX4_sameEnds 34 = .ok (.bipush 30, 2) := by decide +kernel
theorem dX4_sameEnds_36 : decode cX4_sameEnds 36 = .ok (.iload 4, 2) := by decide +kernel
theorem dX4_sameEnds_38 : decode cX4_sameEnds 38 = .ok (.imul, 1) := by decide +kernel
theorem dX4_sameEnds_39 : decode cX4_sameEnds 39 = .ok (.iload_n 2, 1) := by decide +kernel
theorem dX4_sameEnds_40 : decode cX4_sameEnds 40 = .ok (.iadd, 1) := by decide +kernel
theorem dX4_sameEnds_41 : decode cX4_sameEnds 41 = .ok (.baload, 1) := by decide +kernel
theorem dX4_sameEnds_42 : decode cX4_sameEnds 42 = .ok (.if_icmp .ne 7, 3) := by decide +kernel
theorem dX4_sameEnds_45 : decode cX4_sameEnds 45 = .ok (.iconst 1, 1) := by decide +kernel
theorem dX4_sameEnds_46 : decode cX4_sameEnds 46 = .ok (.goto 4, 3) := by decide +kernel
theorem dX4_sameEnds_49 : decode cX4_sameEnds 49 = .ok (.iconst 0, 1) := by decide +kernel
theorem dX4_sameEnds_50 : decode cX4_sameEnds 50 = .ok (.istore_n 3, 1) := by decide +kernel
theorem dX4_sameEnds_51 : decode cX4_sameEnds 51 = .ok (.iinc 4 1, 3) := by decide +kernel
theorem dX4_sameEnds_54 : decode cX4_sameEnds 54 = .ok (.goto (-49), 3) := by decide +kernel
theorem dX4_sameEnds_57 : decode cX4_sameEnds 57 = .ok (.iload_n 3, 1) := by decide +kernel
theorem dX4_sameEnds_58 : decode cX4_sameEnds 58 = .ok (.ireturn, 1) := by decide +kernel
theorem dX4_samePicks_0 : decode cX4_samePicks 0 = .ok (.iconst 1, 1) := by decide +kernel
theorem dX4_samePicks_1 : decode cX4_samePicks 1 = .ok (.istore_n 3, 1) := by decide +kernel
theorem dX4_samePicks_2 : decode cX4_samePicks 2 = .ok (.iconst 0, 1) := by decide +kernel
theorem dX4_samePicks_3 : decode cX4_samePicks 3 = .ok (.istore 4, 2) := by decide +kernel
theorem dX4_samePicks_5 : decode cX4_samePicks 5 = .ok (.iload 4, 2) := by decide +kernel
theorem dX4_samePicks_7 : decode cX4_samePicks 7 = .ok (.aload_n 0, 1) := by decide +kernel
theorem dX4_samePicks_8 : decode cX4_samePicks 8 = .ok (.getfield 45, 3) := by decide +kernel
theorem dX4_samePicks_11 : decode cX4_samePicks 11 = .ok (.if_icmp .ge 46, 3) := by decide +kernel
theorem dX4_samePicks_14 : decode cX4_samePicks 14 = .ok (.iload_n 3, 1) := by decide +kernel
theorem dX4_samePicks_15 : decode cX4_samePicks 15 = .ok (.ifCond .eq 34, 3) := by decide +kernel
theorem dX4_samePicks_18 : decode cX4_samePicks 18 = .ok (.aload_n 0, 1) := by decide +kernel
theorem dX4_samePicks_19 : decode cX4_samePicks 19 = .ok (.getfield 20, 3) := by decide +kernel
theorem dX4_samePicks_22 : decode cX4_samePicks 22 = .ok (.bipush 30, 2) := by decide +kernel
theorem dX4_samePicks_24 : decode cX4_samePicks 24 = .ok (.iload_n 1, 1) := by decide +kernel
theorem dX4_samePicks_25 : decode cX4_samePicks 25 = .ok (.imul, 1) := by decide +kernel
theorem dX4_samePicks_26 : decode cX4_samePicks 26 = .ok (.iload 4, 2) := by decide +kernel
theorem dX4_samePicks_28 : decode cX4_samePicks 28 = .ok (.iadd, 1) := by decide +kernel
theorem dX4_samePicks_29 : decode cX4_samePicks 29 = .ok (.baload, 1) := by decide +kernel
theorem dX4_samePicks_30 : decode cX4_samePicks 30 = .ok (.aload_n 0, 1) := by decide +kernel
theorem dX4_samePicks_31 : decode cX4_samePicks 31 = .ok (.getfield 20, 3) := by decide +kernel
theorem dX4_samePicks_34 : decode cX4_samePicks 34 = .ok (.bipush 30, 2) := by decide +kernel
theorem dX4_samePicks_36 : decode cX4_samePicks 36 = .ok (.iload_n 2, 1) := by decide +kernel
theorem dX4_samePicks_37 : decode cX4_samePicks 37 = .ok (.imul, 1) := by decide +kernel
theorem dX4_samePicks_38 : decode cX4_samePicks 38 = .ok (.iload 4, 2) := by decide +kernel
theorem dX4_samePicks_40 : decode cX4_samePicks 40 = .ok (.iadd, 1) := by decide +kernel
theorem dX4_samePicks_41 : decode cX4_samePicks 41 = .ok (.baload, 1) := by decide +kernel
theorem dX4_samePicks_42 : decode cX4_samePicks 42 = .ok (.if_icmp .ne 7, 3) := by decide +kernel
theorem dX4_samePicks_45 : decode cX4_samePicks 45 = .ok (.iconst 1, 1) := by decide +kernel
theorem dX4_samePicks_46 : decode cX4_samePicks 46 = .ok (.goto 4, 3) := by decide +kernel
theorem dX4_samePicks_49 : decode cX4_samePicks 49 = .ok (.iconst 0, 1) := by decide +kernel
theorem dX4_samePicks_50 : decode cX4_samePicks 50 = .ok (.istore_n 3, 1) := by decide +kernel
theorem dX4_samePicks_51 : decode cX4_samePicks 51 = .ok (.iinc 4 1, 3) := by decide +kernel
theorem dX4_samePicks_54 : decode cX4_samePicks 54 = .ok (.goto (-49), 3) := by decide +kernel
theorem dX4_samePicks_57 : decode cX4_samePicks 57 = .ok (.iload_n 3, 1) := by decide +kernel
theorem dX4_samePicks_58 : decode cX4_samePicks 58 = .ok (.ireturn, 1) := by decide +kernel
theorem dX4_period_0 : decode cX4_period 0 = .ok (.aload_n 0, 1) := by decide +kernel
theorem dX4_period_1 : decode cX4_period 1 = .ok (.aload_n 0, 1) := by decide +kernel
theorem dX4_period_2 : decode cX4_period 2 = .ok (.getfield 57, 3) := by decide +kernel
theorem dX4_period_5 : decode cX4_period 5 = .ok (.ifCond .ne 7, 3) := by decide +kernel
theorem dX4_period_8 : decode cX4_period 8 = .ok (.iconst 1, 1) := by decide +kernel
theorem dX4_period_9 : decode cX4_period 9 = .ok (.goto 4, 3) := by decide +kernel
theorem dX4_period_12 : decode cX4_period 12 = .ok (.iconst 0, 1) := by decide +kernel
theorem dX4_period_13 : decode cX4_period 13 = .ok (.putfield 42, 3) := by decide +kernel
theorem dX4_period_16 : decode cX4_period 16 = .ok (.aload_n 0, 1) := by decide +kernel
theorem dX4_period_17 : decode cX4_period 17 = .ok (.getfield 42, 3) := by decide +kernel
theorem dX4_period_20 : decode cX4_period 20 = .ok (.ifCond .eq 5, 3) := by decide +kernel
theorem dX4_period_23 : decode cX4_period 23 = .ok (.iconst 0, 1) := by decide +kernel
theorem dX4_period_24 : decode cX4_period 24 = .ok (.ireturn, 1) := by decide +kernel
theorem dX4_period_25 : decode cX4_period 25 = .ok (.iload_n 1, 1) := by decide +kernel
theorem dX4_period_26 : decode cX4_period 26 = .ok (.ifCond .eq 10, 3) := by decide +kernel
theorem dX4_period_29 : decode cX4_period 29 = .ok (.aload_n 0, 1) := by decide +kernel
theorem dX4_period_30 : decode cX4_period 30 = .ok (.getfield 57, 3) := by decide +kernel
theorem dX4_period_33 : decode cX4_period 33 = .ok (.goto 7, 3) := by decide +kernel
theorem dX4_period_36 : decode cX4_period 36 = .ok (.aload_n 0, 1) := by decide +kernel
theorem dX4_period_37 : decode cX4_period 37 = .ok (.getfield 45, 3) := by decide +kernel
theorem dX4_period_40 : decode cX4_period 40 = .ok (.istore_n 2, 1) := by decide +kernel
theorem dX4_period_41 : decode cX4_period 41 = .ok (.iconst 1, 1) := by decide +kernel
theorem dX4_period_42 : decode cX4_period 42 = .ok (.istore_n 3, 1) := by decide +kernel
theorem dX4_period_43 : decode cX4_period 43 = .ok (.iconst 0, 1) := by decide +kernel
theorem dX4_period_44 : decode cX4_period 44 = .ok (.istore 4, 2) := by decide +kernel
theorem dX4_period_46 : decode cX4_period 46 = .ok (.iload 4, 2) := by decide +kernel
theorem dX4_period_48 : decode cX4_period 48 = .ok (.ifCond .ne 89, 3) := by decide +kernel
theorem dX4_period_51 : decode cX4_period 51 = .ok (.iload_n 3, 1) := by decide +kernel
theorem dX4_period_52 : decode cX4_period 52 = .ok (.iload_n 2, 1) := by decide +kernel
theorem dX4_period_53 : decode cX4_period 53 = .ok (.if_icmp .ge 84, 3) := by decide +kernel
theorem dX4_period_56 : decode cX4_period 56 = .ok (.iconst 1, 1) := by decide +kernel
theorem dX4_period_57 : decode cX4_period 57 = .ok (.istore 4, 2) := by decide +kernel
theorem dX4_period_59 : decode cX4_period 59 = .ok (.iconst 0, 1) := by decide +kernel
theorem dX4_period_60 : decode cX4_period 60 = .ok (.istore 5, 2) := by decide +kernel
theorem dX4_period_62 : decode cX4_period 62 = .ok (.iload 5, 2) := by decide +kernel
theorem dX4_period_64 : decode cX4_period 64 = .ok (.iload_n 3, 1) := by decide +kernel
theorem dX4_period_65 : decode cX4_period 65 = .ok (.iadd, 1) := by decide +kernel
theorem dX4_period_66 : decode cX4_period 66 = .ok (.iload_n 2, 1) := by decide +kernel
theorem dX4_period_67 : decode cX4_period 67 = .ok (.if_icmp .ge 54, 3) := by decide +kernel
theorem dX4_period_70 : decode cX4_period 70 = .ok (.iload 4, 2) := by decide +kernel
theorem dX4_period_72 : decode cX4_period 72 = .ok (.ifCond .eq 40, 3) := by decide +kernel
theorem dX4_period_75 : decode cX4_period 75 = .ok (.iload_n 1, 1) := by decide +kernel
theorem dX4_period_76 : decode cX4_period 76 = .ok (.ifCond .eq 19, 3) := by decide +kernel
theorem dX4_period_79 : decode cX4_period 79 = .ok (.aload_n 0, 1) := by decide +kernel
theorem dX4_period_80 : decode cX4_period 80 = .ok (.iload 5, 2) := by decide +kernel
theorem dX4_period_82 : decode cX4_period 82 = .ok (.iload 5, 2) := by decide +kernel
theorem dX4_period_84 : decode cX4_period 84 = .ok (.iload_n 3, 1) := by decide +kernel
theorem dX4_period_85 : decode cX4_period 85 = .ok (.iadd, 1) := by decide +kernel
theorem dX4_period_86 : decode cX4_period 86 = .ok (.invokevirtual 99, 3) := by decide +kernel
theorem dX4_period_89 : decode cX4_period 89 = .ok (.ifCond .eq 23, 3) := by decide +kernel
theorem dX4_period_92 : decode cX4_period 92 = .ok (.goto 16, 3) := by decide +kernel
theorem dX4_period_95 : decode cX4_period 95 = .ok (.aload_n 0, 1) := by decide +kernel
theorem dX4_period_96 : decode cX4_period 96 = .ok (.iload 5, 2) := by decide +kernel
theorem dX4_period_98 : decode cX4_period 98 = .ok (.iload 5, 2) := by decide +kernel
theorem dX4_period_100 : decode cX4_period 100 = .ok (.iload_n 3, 1) := by decide +kernel
theorem dX4_period_101 : decode cX4_period 101 = .ok (.iadd, 1) := by decide +kernel
theorem dX4_period_102 : decode cX4_period 102 = .ok (.invokevirtual 102, 3) := by decide +kernel
theorem dX4_period_105 : decode cX4_period 105 = .ok (.ifCond .eq 7, 3) := by decide +kernel
theorem dX4_period_108 : decode cX4_period 108 = .ok (.iconst 1, 1) := by decide +kernel
theorem dX4_period_109 : decode cX4_period 109 = .ok (.goto 4, 3) := by decide +kernel
theorem dX4_period_112 : decode cX4_period 112 = .ok (.iconst 0, 1) := by decide +kernel
theorem dX4_period_113 : decode cX4_period 113 = .ok (.istore 4, 2) := by decide +kernel
theorem dX4_period_115 : decode cX4_period 115 = .ok (.iinc 5 1, 3) := by decide +kernel
theorem dX4_period_118 : decode cX4_period 118 = .ok (.goto (-56), 3) := by decide +kernel
theorem dX4_period_121 : decode cX4_period 121 = .ok (.iload 4, 2) := by decide +kernel
theorem dX4_period_123 : decode cX4_period 123 = .ok (.ifCond .eq 7, 3) := by decide +kernel
theorem dX4_period_126 : decode cX4_period 126 = .ok (.iload_n 3, 1) := by decide +kernel
theorem dX4_period_127 : decode cX4_period 127 = .ok (.goto 6, 3) := by decide +kernel
theorem dX4_period_130 : decode cX4_period 130 = .ok (.iload_n 3, 1) := by decide +kernel
theorem dX4_period_131 : decode cX4_period 131 = .ok (.iconst 1, 1) := by decide +kernel
theorem dX4_period_132 : decode cX4_period 132 = .ok (.iadd, 1) := by decide +kernel
theorem dX4_period_133 : decode cX4_period 133 = .ok (.istore_n 3, 1) := by decide +kernel
theorem dX4_period_134 : decode cX4_period 134 = .ok (.goto (-88), 3) := by decide +kernel
theorem dX4_period_137 : decode cX4_period 137 = .ok (.iload_n 3, 1) := by decide +kernel
theorem dX4_period_138 : decode cX4_period 138 = .ok (.ireturn, 1) := by decide +kernel
theorem dX4_picture_0 : decode cX4_picture 0 = .ok (.aload_n 0, 1) := by decide +kernel
theorem dX4_picture_1 : decode cX4_picture 1 = .ok (.iload_n 1, 1) := by decide +kernel
theorem dX4_picture_2 : decode cX4_picture 2 = .ok (.iconst 1, 1) := by decide +kernel
theorem dX4_picture_3 : decode cX4_picture 3 = .ok (.if_icmp .lt 20, 3) := by decide +kernel
theorem dX4_picture_6 : decode cX4_picture 6 = .ok (.iload_n 1, 1) := by decide +kernel
theorem dX4_picture_7 : decode cX4_picture 7 = .ok (.bipush 30, 2) := by decide +kernel
theorem dX4_picture_9 : decode cX4_picture 9 = .ok (.if_icmp .gt 14, 3) := by decide +kernel
theorem dX4_picture_12 : decode cX4_picture 12 = .ok (.iload_n 2, 1) := by decide +kernel
theorem dX4_picture_13 : decode cX4_picture 13 = .ok (.iconst 1, 1) := by decide +kernel
theorem dX4_picture_14 : decode cX4_picture 14 = .ok (.if_icmp .lt 9, 3) := by decide +kernel
theorem dX4_picture_17 : decode cX4_picture 17 = .ok (.iload_n 2, 1) := by decide +kernel
theorem dX4_picture_18 : decode cX4_picture 18 = .ok (.bipush 30, 2) := by decide +kernel
theorem dX4_picture_20 : decode cX4_picture 20 = .ok (.if_icmp .le 7, 3) := by decide +kernel
theorem dX4_picture_23 : decode cX4_picture 23 = .ok (.iconst 1, 1) := by decide +kernel
theorem dX4_picture_24 : decode cX4_picture 24 = .ok (.goto 4, 3) := by decide +kernel
theorem dX4_picture_27 : decode cX4_picture 27 = .ok (.iconst 0, 1) := by decide +kernel
theorem dX4_picture_28 : decode cX4_picture 28 = .ok (.putfield 42, 3) := by decide +kernel
theorem dX4_picture_31 : decode cX4_picture 31 = .ok (.aload_n 0, 1) := by decide +kernel
theorem dX4_picture_32 : decode cX4_picture 32 = .ok (.getfield 42, 3) := by decide +kernel
theorem dX4_picture_35 : decode cX4_picture 35 = .ok (.ifCond .eq 4, 3) := by decide +kernel
theorem dX4_picture_38 : decode cX4_picture 38 = .ok (.return_, 1) := by decide +kernel
theorem dX4_picture_39 : decode cX4_picture 39 = .ok (.aload_n 0, 1) := by decide +kernel
theorem dX4_picture_40 : decode cX4_picture 40 = .ok (.iload_n 1, 1) := by decide +kernel
theorem dX4_picture_41 : decode cX4_picture 41 = .ok (.putfield 29, 3) := by decide +kernel
theorem dX4_picture_44 : decode cX4_picture 44 = .ok (.aload_n 0, 1) := by decide +kernel
theorem dX4_picture_45 : decode cX4_picture 45 = .ok (.iload_n 2, 1) := by decide +kernel
theorem dX4_picture_46 : decode cX4_picture 46 = .ok (.putfield 33, 3) := by decide +kernel
theorem dX4_picture_49 : decode cX4_picture 49 = .ok (.iconst 0, 1) := by decide +kernel
theorem dX4_picture_50 : decode cX4_picture 50 = .ok (.istore_n 3, 1) := by decide +kernel
theorem dX4_picture_51 : decode cX4_picture 51 = .ok (.iload_n 3, 1) := by decide +kernel
theorem dX4_picture_52 : decode cX4_picture 52 = .ok (.sipush 900, 3) := by decide +kernel
theorem dX4_picture_55 : decode cX4_picture 55 = .ok (.if_icmp .ge 16, 3) := by decide +kernel
theorem dX4_picture_58 : decode cX4_picture 58 = .ok (.aload_n 0, 1) := by decide +kernel
theorem dX4_picture_59 : decode cX4_picture 59 = .ok (.getfield 36, 3) := by decide +kernel
theorem dX4_picture_62 : decode cX4_picture 62 = .ok (.iload_n 3, 1) := by decide +kernel
theorem dX4_picture_63 : decode cX4_picture 63 = .ok (.iconst 0, 1) := by decide +kernel
theorem dX4_picture_64 : decode cX4_picture 64 = .ok (.bastore, 1) := by decide +kernel
theorem dX4_picture_65 : decode cX4_picture 65 = .ok (.iinc 3 1, 3) := by decide +kernel
theorem dX4_picture_68 : decode cX4_picture 68 = .ok (.goto (-17), 3) := by decide +kernel
theorem dX4_picture_71 : decode cX4_picture 71 = .ok (.return_, 1) := by decide +kernel
theorem dX4_paint_0 : decode cX4_paint 0 = .ok (.aload_n 0, 1) := by decide +kernel
theorem dX4_paint_1 : decode cX4_paint 1 = .ok (.iload_n 1, 1) := by decide +kernel
theorem dX4_paint_2 : decode cX4_paint 2 = .ok (.ifCond .lt 23, 3) := by decide +kernel
theorem dX4_paint_5 : decode cX4_paint 5 = .ok (.iload_n 1, 1) := by decide +kernel
theorem dX4_paint_6 : decode cX4_paint 6 = .ok (.aload_n 0, 1) := by decide +kernel
theorem dX4_paint_7 : decode cX4_paint 7 = .ok (.getfield 29, 3) := by decide +kernel
theorem dX4_paint_10 : decode cX4_paint 10 = .ok (.if_icmp .ge 15, 3) := by decide +kernel
theorem dX4_paint_13 : decode cX4_paint 13 = .ok (.iload_n 2, 1) := by decide +kernel
theorem dX4_paint_14 : decode cX4_paint 14 = .ok (.ifCond .lt 11, 3) := by decide +kernel
theorem dX4_paint_17 : decode cX4_paint 17 = .ok (.iload_n 2, 1) := by decide +kernel
theorem dX4_paint_18 : decode cX4_paint 18 = .ok (.aload_n 0, 1) := by decide +kernel
theorem dX4_paint_19 : decode cX4_paint 19 = .ok (.getfield 33, 3) := by decide +kernel
theorem dX4_paint_22 : decode cX4_paint 22 = .ok (.if_icmp .lt 7, 3) := by decide +kernel
theorem dX4_paint_25 : decode cX4_paint 25 = .ok (.iconst 1, 1) := by decide +kernel
theorem dX4_paint_26 : decode cX4_paint 26 = .ok (.goto 4, 3) := by decide +kernel
theorem dX4_paint_29 : decode cX4_paint 29 = .ok (.iconst 0, 1) := by decide +kernel
end
section
theorem dX4_paint_30 : decode cX4_paint 30 = .ok (.putfield 42, 3) := by decide +kernel
theorem dX4_paint_33 : decode cX4_paint 33 = .ok (.aload_n 0, 1) := by decide +kernel
theorem dX4_paint_34 : decode cX4_paint 34 = .ok (.getfield 42, 3) := by decide +kernel
theorem dX4_paint_37 : decode cX4_paint 37 = .ok (.ifCond .eq 5, 3) := by decide +kernel
theorem dX4_paint_40 : decode cX4_paint 40 = .ok (.iconst 0, 1) := by decide +kernel
theorem dX4_paint_41 : decode cX4_paint 41 = .ok (.ireturn, 1) := by decide +kernel
theorem dX4_paint_42 : decode cX4_paint 42 = .ok (.aload_n 0, 1) := by decide +kernel
theorem dX4_paint_43 : decode cX4_paint 43 = .ok (.getfield 36, 3) := by decide +kernel
theorem dX4_paint_46 : decode cX4_paint 46 = .ok (.bipush 30, 2) := by decide +kernel
theorem dX4_paint_48 : decode cX4_paint 48 = .ok (.iload_n 2, 1) := by decide +kernel
theorem dX4_paint_49 : decode cX4_paint 49 = .ok (.imul, 1) := by decide +kernel
theorem dX4_paint_50 : decode cX4_paint 50 = .ok (.iload_n 1, 1) := by decide +kernel
theorem dX4_paint_51 : decode cX4_paint 51 = .ok (.iadd, 1) := by decide +kernel
theorem dX4_paint_52 : decode cX4_paint 52 = .ok (.baload, 1) := by decide +kernel
theorem dX4_paint_53 : decode cX4_paint 53 = .ok (.istore 4, 2) := by decide +kernel
theorem dX4_paint_55 : decode cX4_paint 55 = .ok (.aload_n 0, 1) := by decide +kernel
theorem dX4_paint_56 : decode cX4_paint 56 = .ok (.getfield 36, 3) := by decide +kernel
theorem dX4_paint_59 : decode cX4_paint 59 = .ok (.bipush 30, 2) := by decide +kernel
theorem dX4_paint_61 : decode cX4_paint 61 = .ok (.iload_n 2, 1) := by decide +kernel
theorem dX4_paint_62 : decode cX4_paint 62 = .ok (.imul, 1) := by decide +kernel
theorem dX4_paint_63 : decode cX4_paint 63 = .ok (.iload_n 1, 1) := by decide +kernel
theorem dX4_paint_64 : decode cX4_paint 64 = .ok (.iadd, 1) := by decide +kernel
theorem dX4_paint_65 : decode cX4_paint 65 = .ok (.iload_n 3, 1) := by decide +kernel
theorem dX4_paint_66 : decode cX4_paint 66 = .ok (.bastore, 1) := by decide +kernel
theorem dX4_paint_67 : decode cX4_paint 67 = .ok (.iload 4, 2) := by decide +kernel
theorem dX4_paint_69 : decode cX4_paint 69 = .ok (.ireturn, 1) := by decide +kernel
theorem dX4_samePainted_0 : decode cX4_samePainted 0 = .ok (.iconst 1, 1) := by decide +kernel
theorem dX4_samePainted_1 : decode cX4_samePainted 1 = .ok (.istore 4, 2) := by decide +kernel
theorem dX4_samePainted_3 : decode cX4_samePainted 3 = .ok (.iload_n 1, 1) := by decide +kernel
theorem dX4_samePainted_4 : decode cX4_samePainted 4 = .ok (.ifCond .eq 10, 3) := by decide +kernel
theorem dX4_samePainted_7 : decode cX4_samePainted 7 = .ok (.aload_n 0, 1) := by decide +kernel
theorem dX4_samePainted_8 : decode cX4_samePainted 8 = .ok (.getfield 33, 3) := by decide +kernel
theorem dX4_samePainted_11 : decode cX4_samePainted 11 = .ok (.goto 7, 3) := by decide +kernel
theorem dX4_samePainted_14 : decode cX4_samePainted 14 = .ok (.aload_n 0, 1) := by decide +kernel
theorem dX4_samePainted_15 : decode cX4_samePainted 15 = .ok (.getfield 29, 3) := by decide +kernel
theorem dX4_samePainted_18 : decode cX4_samePainted 18 = .ok (.istore 5, 2) := by decide +kernel
theorem dX4_samePainted_20 : decode cX4_samePainted 20 = .ok (.iconst 0, 1) := by decide +kernel
theorem dX4_samePainted_21 : decode cX4_samePainted 21 = .ok (.istore 6, 2) := by decide +kernel
theorem dX4_samePainted_23 : decode cX4_samePainted 23 = .ok (.iload 6, 2) := by decide +kernel
theorem dX4_samePainted_25 : decode cX4_samePainted 25 = .ok (.iload 5, 2) := by decide +kernel
theorem dX4_samePainted_27 : decode cX4_samePainted 27 = .ok (.if_icmp .ge 82, 3) := by decide +kernel
theorem dX4_samePainted_30 : decode cX4_samePainted 30 = .ok (.iload 4, 2) := by decide +kernel
theorem dX4_samePainted_32 : decode cX4_samePainted 32 = .ok (.ifCond .eq 68, 3) := by decide +kernel
theorem dX4_samePainted_35 : decode cX4_samePainted 35 = .ok (.iload_n 1, 1) := by decide +kernel
theorem dX4_samePainted_36 : decode cX4_samePainted 36 = .ok (.ifCond .eq 33, 3) := by decide +kernel
theorem dX4_samePainted_39 : decode cX4_samePainted 39 = .ok (.aload_n 0, 1) := by decide +kernel
theorem dX4_samePainted_40 : decode cX4_samePainted 40 = .ok (.getfield 36, 3) := by decide +kernel
theorem dX4_samePainted_43 : decode cX4_samePainted 43 = .ok (.bipush 30, 2) := by decide +kernel
theorem dX4_samePainted_45 : decode cX4_samePainted 45 = .ok (.iload 6, 2) := by decide +kernel
theorem dX4_samePainted_47 : decode cX4_samePainted 47 = .ok (.imul, 1) := by decide +kernel
theorem dX4_samePainted_48 : decode cX4_samePainted 48 = .ok (.iload_n 2, 1) := by decide +kernel
theorem dX4_samePainted_49 : decode cX4_samePainted 49 = .ok (.iadd, 1) := by decide +kernel
theorem dX4_samePainted_50 : decode cX4_samePainted 50 = .ok (.baload, 1) := by decide +kernel
theorem dX4_samePainted_51 : decode cX4_samePainted 51 = .ok (.aload_n 0, 1) := by decide +kernel
theorem dX4_samePainted_52 : decode cX4_samePainted 52 = .ok (.getfield 36, 3) := by decide +kernel
theorem dX4_samePainted_55 : decode cX4_samePainted 55 = .ok (.bipush 30, 2) := by decide +kernel
theorem dX4_samePainted_57 : decode cX4_samePainted 57 = .ok (.iload 6, 2) := by decide +kernel
theorem dX4_samePainted_59 : decode cX4_samePainted 59 = .ok (.imul, 1) := by decide +kernel
theorem dX4_samePainted_60 : decode cX4_samePainted 60 = .ok (.iload_n 3, 1) := by decide +kernel
theorem dX4_samePainted_61 : decode cX4_samePainted 61 = .ok (.iadd, 1) := by decide +kernel
theorem dX4_samePainted_62 : decode cX4_samePainted 62 = .ok (.baload, 1) := by decide +kernel
theorem dX4_samePainted_63 : decode cX4_samePainted 63 = .ok (.if_icmp .ne 37, 3) := by decide +kernel
theorem dX4_samePainted_66 : decode cX4_samePainted 66 = .ok (.goto 30, 3) := by decide +kernel
theorem dX4_samePainted_69 : decode cX4_samePainted 69 = .ok (.aload_n 0, 1) := by decide +kernel
theorem dX4_samePainted_70 : decode cX4_samePainted 70 = .ok (.getfield 36, 3) := by decide +kernel
theorem dX4_samePainted_73 : decode cX4_samePainted 73 = .ok (.bipush 30, 2) := by decide +kernel
theorem dX4_samePainted_75 : decode cX4_samePainted 75 = .ok (.iload_n 2, 1) := by decide +kernel
theorem dX4_samePainted_76 : decode cX4_samePainted 76 = .ok (.imul, 1) := by decide +kernel
theorem dX4_samePainted_77 : decode cX4_samePainted 77 = .ok (.iload 6, 2) := by decide +kernel
theorem dX4_samePainted_79 : decode cX4_samePainted 79 = .ok (.iadd, 1) := by decide +kernel
theorem dX4_samePainted_80 : decode cX4_samePainted 80 = .ok (.baload, 1) := by decide +kernel
theorem dX4_samePainted_81 : decode cX4_samePainted 81 = .ok (.aload_n 0, 1) := by decide +kernel
theorem dX4_samePainted_82 : decode cX4_samePainted 82 = .ok (.getfield 36, 3) := by decide +kernel
theorem dX4_samePainted_85 : decode cX4_samePainted 85 = .ok (.bipush 30, 2) := by decide +kernel
theorem dX4_samePainted_87 : decode cX4_samePainted 87 = .ok (.iload_n 3, 1) := by decide +kernel
theorem dX4_samePainted_88 : decode cX4_samePainted 88 = .ok (.imul, 1) := by decide +kernel
theorem dX4_samePainted_89 : decode cX4_samePainted 89 = .ok (.iload 6, 2) := by decide +kernel
theorem dX4_samePainted_91 : decode cX4_samePainted 91 = .ok (.iadd, 1) := by decide +kernel
theorem dX4_samePainted_92 : decode cX4_samePainted 92 = .ok (.baload, 1) := by decide +kernel
theorem dX4_samePainted_93 : decode cX4_samePainted 93 = .ok (.if_icmp .ne 7, 3) := by decide +kernel
theorem dX4_samePainted_96 : decode cX4_samePainted 96 = .ok (.iconst 1, 1) := by decide +kernel
theorem dX4_samePainted_97 : decode cX4_samePainted 97 = .ok (.goto 4, 3) := by decide +kernel
theorem dX4_samePainted_100 : decode cX4_samePainted 100 = .ok (.iconst 0, 1) := by decide +kernel
theorem dX4_samePainted_101 : decode cX4_samePainted 101 = .ok (.istore 4, 2) := by decide +kernel
theorem dX4_samePainted_103 : decode cX4_samePainted 103 = .ok (.iinc 6 1, 3) := by decide +kernel
theorem dX4_samePainted_106 : decode cX4_samePainted 106 = .ok (.goto (-83), 3) := by decide +kernel
theorem dX4_samePainted_109 : decode cX4_samePainted 109 = .ok (.iload 4, 2) := by decide +kernel
theorem dX4_samePainted_111 : decode cX4_samePainted 111 = .ok (.ireturn, 1) := by decide +kernel
theorem dX4_sort_0 : decode cX4_sort 0 = .ok (.iload_n 1, 1) := by decide +kernel
theorem dX4_sort_1 : decode cX4_sort 1 = .ok (.ifCond .eq 10, 3) := by decide +kernel
theorem dX4_sort_4 : decode cX4_sort 4 = .ok (.aload_n 0, 1) := by decide +kernel
theorem dX4_sort_5 : decode cX4_sort 5 = .ok (.getfield 29, 3) := by decide +kernel
theorem dX4_sort_8 : decode cX4_sort 8 = .ok (.goto 7, 3) := by decide +kernel
theorem dX4_sort_11 : decode cX4_sort 11 = .ok (.aload_n 0, 1) := by decide +kernel
theorem dX4_sort_12 : decode cX4_sort 12 = .ok (.getfield 33, 3) := by decide +kernel
theorem dX4_sort_15 : decode cX4_sort 15 = .ok (.istore_n 2, 1) := by decide +kernel
theorem dX4_sort_16 : decode cX4_sort 16 = .ok (.iload_n 1, 1) := by decide +kernel
theorem dX4_sort_17 : decode cX4_sort 17 = .ok (.ifCond .eq 7, 3) := by decide +kernel
theorem dX4_sort_20 : decode cX4_sort 20 = .ok (.iconst 0, 1) := by decide +kernel
theorem dX4_sort_21 : decode cX4_sort 21 = .ok (.goto 5, 3) := by decide +kernel
theorem dX4_sort_24 : decode cX4_sort 24 = .ok (.bipush 30, 2) := by decide +kernel
theorem dX4_sort_26 : decode cX4_sort 26 = .ok (.istore_n 3, 1) := by decide +kernel
theorem dX4_sort_27 : decode cX4_sort 27 = .ok (.iconst 0, 1) := by decide +kernel
theorem dX4_sort_28 : decode cX4_sort 28 = .ok (.istore 4, 2) := by decide +kernel
theorem dX4_sort_30 : decode cX4_sort 30 = .ok (.iconst 0, 1) := by decide +kernel
theorem dX4_sort_31 : decode cX4_sort 31 = .ok (.istore 5, 2) := by decide +kernel
theorem dX4_sort_33 : decode cX4_sort 33 = .ok (.iload 5, 2) := by decide +kernel
theorem dX4_sort_35 : decode cX4_sort 35 = .ok (.iload_n 2, 1) := by decide +kernel
theorem dX4_sort_36 : decode cX4_sort 36 = .ok (.if_icmp .ge 107, 3) := by decide +kernel
theorem dX4_sort_39 : decode cX4_sort 39 = .ok (.aload_n 0, 1) := by decide +kernel
theorem dX4_sort_40 : decode cX4_sort 40 = .ok (.getfield 39, 3) := by decide +kernel
theorem dX4_sort_43 : decode cX4_sort 43 = .ok (.iload_n 3, 1) := by decide +kernel
theorem dX4_sort_44 : decode cX4_sort 44 = .ok (.iload 5, 2) := by decide +kernel
theorem dX4_sort_46 : decode cX4_sort 46 = .ok (.iadd, 1) := by decide +kernel
theorem dX4_sort_47 : decode cX4_sort 47 = .ok (.iconst (-1), 1) := by decide +kernel
theorem dX4_sort_48 : decode cX4_sort 48 = .ok (.iastore, 1) := by decide +kernel
theorem dX4_sort_49 : decode cX4_sort 49 = .ok (.iload 5, 2) := by decide +kernel
theorem dX4_sort_51 : decode cX4_sort 51 = .ok (.iconst 1, 1) := by decide +kernel
theorem dX4_sort_52 : decode cX4_sort 52 = .ok (.isub, 1) := by decide +kernel
theorem dX4_sort_53 : decode cX4_sort 53 = .ok (.istore 6, 2) := by decide +kernel
theorem dX4_sort_55 : decode cX4_sort 55 = .ok (.iload 6, 2) := by decide +kernel
theorem dX4_sort_57 : decode cX4_sort 57 = .ok (.ifCond .lt 51, 3) := by decide +kernel
theorem dX4_sort_60 : decode cX4_sort 60 = .ok (.aload_n 0, 1) := by decide +kernel
theorem dX4_sort_61 : decode cX4_sort 61 = .ok (.getfield 39, 3) := by decide +kernel
theorem dX4_sort_64 : decode cX4_sort 64 = .ok (.iload_n 3, 1) := by decide +kernel
theorem dX4_sort_65 : decode cX4_sort 65 = .ok (.iload 5, 2) := by decide +kernel
theorem dX4_sort_67 : decode cX4_sort 67 = .ok (.iadd, 1) := by decide +kernel
theorem dX4_sort_68 : decode cX4_sort 68 = .ok (.aload_n 0, 1) := by decide +kernel
theorem dX4_sort_69 : decode cX4_sort 69 = .ok (.iload_n 1, 1) := by decide +kernel
theorem dX4_sort_70 : decode cX4_sort 70 = .ok (.iload 5, 2) := by decide +kernel
theorem dX4_sort_72 : decode cX4_sort 72 = .ok (.iload 6, 2) := by decide +kernel
theorem dX4_sort_74 : decode cX4_sort 74 = .ok (.invokevirtual 105, 3) := by decide +kernel
theorem dX4_sort_77 : decode cX4_sort 77 = .ok (.ifCond .eq 15, 3) := by decide +kernel
theorem dX4_sort_80 : decode cX4_sort 80 = .ok (.aload_n 0, 1) := by decide +kernel
theorem dX4_sort_81 : decode cX4_sort 81 = .ok (.getfield 39, 3) := by decide +kernel
theorem dX4_sort_84 : decode cX4_sort 84 = .ok (.iload_n 3, 1) := by decide +kernel
theorem dX4_sort_85 : decode cX4_sort 85 = .ok (.iload 6, 2) := by decide +kernel
theorem dX4_sort_87 : decode cX4_sort 87 = .ok (.iadd, 1) := by decide +kernel
theorem dX4_sort_88 : decode cX4_sort 88 = .ok (.iaload, 1) := by decide +kernel
theorem dX4_sort_89 : decode cX4_sort 89 = .ok (.goto 12, 3) := by decide +kernel
theorem dX4_sort_92 : decode cX4_sort 92 = .ok (.aload_n 0, 1) := by decide +kernel
theorem dX4_sort_93 : decode cX4_sort 93 = .ok (.getfield 39, 3) := by decide +kernel
theorem dX4_sort_96 : decode cX4_sort 96 = .ok (.iload_n 3, 1) := by decide +kernel
theorem dX4_sort_97 : decode cX4_sort 97 = .ok (.iload 5, 2) := by decide +kernel
theorem dX4_sort_99 : decode cX4_sort 99 = .ok (.iadd, 1) := by decide +kernel
theorem dX4_sort_100 : decode cX4_sort 100 = .ok (.iaload, 1) := by decide +kernel
theorem dX4_sort_101 : decode cX4_sort 101 = .ok (.iastore, 1) := by decide +kernel
theorem dX4_sort_102 : decode cX4_sort 102 = .ok (.iinc 6 (-1), 3) := by decide +kernel
theorem dX4_sort_105 : decode cX4_sort 105 = .ok (.goto (-50), 3) := by decide +kernel
theorem dX4_sort_108 : decode cX4_sort 108 = .ok (.aload_n 0, 1) := by decide +kernel
theorem dX4_sort_109 : decode cX4_sort 109 = .ok (.getfield 39, 3) := by decide +kernel
theorem dX4_sort_112 : decode cX4_sort 112 = .ok (.iload_n 3, 1) := by decide +kernel
theorem dX4_sort_113 : decode cX4_sort 113 = .ok (.iload 5, 2) := by decide +kernel
theorem dX4_sort_115 : decode cX4_sort 115 = .ok (.iadd, 1) := by decide +kernel
theorem dX4_sort_116 : decode cX4_sort 116 = .ok (.iaload, 1) := by decide +kernel
theorem dX4_sort_117 : decode cX4_sort 117 = .ok (.ifCond .lt 6, 3) := by decide +kernel
theorem dX4_sort_120 : decode cX4_sort 120 = .ok (.goto 17, 3) := by decide +kernel
theorem dX4_sort_123 : decode cX4_sort 123 = .ok (.aload_n 0, 1) := by decide +kernel
theorem dX4_sort_124 : decode cX4_sort 124 = .ok (.getfield 39, 3) := by decide +kernel
theorem dX4_sort_127 : decode cX4_sort 127 = .ok (.iload_n 3, 1) := by decide +kernel
theorem dX4_sort_128 : decode cX4_sort 128 = .ok (.iload 5, 2) := by decide +kernel
theorem dX4_sort_130 : decode cX4_sort 130 = .ok (.iadd, 1) := by decide +kernel
theorem dX4_sort_131 : decode cX4_sort 131 = .ok (.iload 4, 2) := by decide +kernel
theorem dX4_sort_133 : decode cX4_sort 133 = .ok (.iastore, 1) := by decide +kernel
theorem dX4_sort_134 : decode cX4_sort 134 = .ok (.iinc 4 1, 3) := by decide +kernel
theorem dX4_sort_137 : decode cX4_sort 137 = .ok (.iinc 5 1, 3) := by decide +kernel
theorem dX4_sort_140 : decode cX4_sort 140 = .ok (.goto (-107), 3) := by decide +kernel
theorem dX4_sort_143 : decode cX4_sort 143 = .ok (.iload 4, 2) := by decide +kernel
theorem dX4_sort_145 : decode cX4_sort 145 = .ok (.ireturn, 1) := by decide +kernel
theorem dX4_factor_0 : decode cX4_factor 0 = .ok (.aload_n 0, 1) := by decide +kernel
theorem dX4_factor_1 : decode cX4_factor 1 = .ok (.iconst 1, 1) := by decide +kernel
theorem dX4_factor_2 : decode cX4_factor 2 = .ok (.invokevirtual 109, 3) := by decide +kernel
theorem dX4_factor_5 : decode cX4_factor 5 = .ok (.istore_n 2, 1) := by decide +kernel
theorem dX4_factor_6 : decode cX4_factor 6 = .ok (.aload_n 0, 1) := by decide +kernel
theorem dX4_factor_7 : decode cX4_factor 7 = .ok (.iconst 0, 1) := by decide +kernel
theorem dX4_factor_8 : decode cX4_factor 8 = .ok (.invokevirtual 109, 3) := by decide +kernel
theorem dX4_factor_11 : decode cX4_factor 11 = .ok (.istore_n 3, 1) := by decide +kernel
theorem dX4_factor_12 : decode cX4_factor 12 = .ok (.aload_n 0, 1) := by decide +kernel
theorem dX4_factor_13 : decode cX4_factor 13 = .ok (.iload_n 1, 1) := by decide +kernel
theorem dX4_factor_14 : decode cX4_factor 14 = .ok (.ifCond .eq 19, 3) := by decide +kernel
theorem dX4_factor_17 : decode cX4_factor 17 = .ok (.iload_n 2, 1) := by decide +kernel
theorem dX4_factor_18 : decode cX4_factor 18 = .ok (.bipush 12, 2) := by decide +kernel
theorem dX4_factor_20 : decode cX4_factor 20 = .ok (.if_icmp .gt 9, 3) := by decide +kernel
theorem dX4_factor_23 : decode cX4_factor 23 = .ok (.iload_n 3, 1) := by decide +kernel
theorem dX4_factor_24 : decode cX4_factor 24 = .ok (.bipush 12, 2) := by decide +kernel
theorem dX4_factor_26 : decode cX4_factor 26 = .ok (.if_icmp .le 7, 3) := by decide +kernel
theorem dX4_factor_29 : decode cX4_factor 29 = .ok (.iconst 1, 1) := by decide +kernel
theorem dX4_factor_30 : decode cX4_factor 30 = .ok (.goto 4, 3) := by decide +kernel
theorem dX4_factor_33 : decode cX4_factor 33 = .ok (.iconst 0, 1) := by decide +kernel
theorem dX4_factor_34 : decode cX4_factor 34 = .ok (.putfield 42, 3) := by decide +kernel
theorem dX4_factor_37 : decode cX4_factor 37 = .ok (.aload_n 0, 1) := by decide +kernel
theorem dX4_factor_38 : decode cX4_factor 38 = .ok (.getfield 42, 3) := by decide +kernel
theorem dX4_factor_41 : decode cX4_factor 41 = .ok (.ifCond .eq 5, 3) := by decide +kernel
theorem dX4_factor_44 : decode cX4_factor 44 = .ok (.iconst 0, 1) := by decide +kernel
theorem dX4_factor_45 : decode cX4_factor 45 = .ok (.ireturn, 1) := by decide +kernel
theorem dX4_factor_46 : decode cX4_factor 46 = .ok (.iload_n 1, 1) := by decide +kernel
theorem dX4_factor_47 : decode cX4_factor 47 = .ok (.ifCond .ne 10, 3) := by decide +kernel
theorem dX4_factor_50 : decode cX4_factor 50 = .ok (.bipush 100, 2) := by decide +kernel
theorem dX4_factor_52 : decode cX4_factor 52 = .ok (.iload_n 2, 1) := by decide +kernel
theorem dX4_factor_53 : decode cX4_factor 53 = .ok (.imul, 1) := by decide +kernel
theorem dX4_factor_54 : decode cX4_factor 54 = .ok (.iload_n 3, 1) := by decide +kernel
theorem dX4_factor_55 : decode cX4_factor 55 = .ok (.iadd, 1) := by decide +kernel
theorem dX4_factor_56 : decode cX4_factor 56 = .ok (.ireturn, 1) := by decide +kernel
theorem dX4_factor_57 : decode cX4_factor 57 = .ok (.aload_n 0, 1) := by decide +kernel
theorem dX4_factor_58 : decode cX4_factor 58 = .ok (.iconst 0, 1) := by decide +kernel
theorem dX4_factor_59 : decode cX4_factor 59 = .ok (.putfield 57, 3) := by decide +kernel
theorem dX4_factor_62 : decode cX4_factor 62 = .ok (.aload_n 0, 1) := by decide +kernel
theorem dX4_factor_63 : decode cX4_factor 63 = .ok (.iconst 0, 1) := by decide +kernel
theorem dX4_factor_64 : decode cX4_factor 64 = .ok (.putfield 45, 3) := by decide +kernel
theorem dX4_factor_67 : decode cX4_factor 67 = .ok (.aload_n 0, 1) := by decide +kernel
theorem dX4_factor_68 : decode cX4_factor 68 = .ok (.iconst 0, 1) := by decide +kernel
theorem dX4_factor_69 : decode cX4_factor 69 = .ok (.putfield 48, 3) := by decide +kernel
theorem dX4_factor_72 : decode cX4_factor 72 = .ok (.iconst 0, 1) := by decide +kernel
theorem dX4_factor_73 : decode cX4_factor 73 = .ok (.istore 4, 2) := by decide +kernel
theorem dX4_factor_75 : decode cX4_factor 75 = .ok (.iload 4, 2) := by decide +kernel
theorem dX4_factor_77 : decode cX4_factor 77 = .ok (.sipush 144, 3) := by decide +kernel
theorem dX4_factor_80 : decode cX4_factor 80 = .ok (.if_icmp .ge 17, 3) := by decide +kernel
theorem dX4_factor_83 : decode cX4_factor 83 = .ok (.aload_n 0, 1) := by decide +kernel
theorem dX4_factor_84 : decode cX4_factor 84 = .ok (.getfield 13, 3) := by decide +kernel
theorem dX4_factor_87 : decode cX4_factor 87 = .ok (.iload 4, 2) := by decide +kernel
theorem dX4_factor_89 : decode cX4_factor 89 = .ok (.iconst 0, 1) := by decide +kernel
theorem dX4_factor_90 : decode cX4_factor 90 = .ok (.bastore, 1) := by decide +kernel
theorem dX4_factor_91 : decode cX4_factor 91 = .ok (.iinc 4 1, 3) := by decide +kernel
theorem dX4_factor_94 : decode cX4_factor 94 = .ok (.goto (-19), 3) := by decide +kernel
theorem dX4_factor_97 : decode cX4_factor 97 = .ok (.iconst 0, 1) := by decide +kernel
theorem dX4_factor_98 : decode cX4_factor 98 = .ok (.istore 4, 2) := by decide +kernel
theorem dX4_factor_100 : decode cX4_factor 100 = .ok (.iload 4, 2) := by decide +kernel
theorem dX4_factor_102 : decode cX4_factor 102 = .ok (.aload_n 0, 1) := by decide +kernel
theorem dX4_factor_103 : decode cX4_factor 103 = .ok (.getfield 29, 3) := by decide +kernel
theorem dX4_factor_106 : decode cX4_factor 106 = .ok (.if_icmp .ge 21, 3) := by decide +kernel
theorem dX4_factor_109 : decode cX4_factor 109 = .ok (.aload_n 0, 1) := by decide +kernel
theorem dX4_factor_110 : decode cX4_factor 110 = .ok (.iconst 1, 1) := by decide +kernel
theorem dX4_factor_111 : decode cX4_factor 111 = .ok (.aload_n 0, 1) := by decide +kernel
theorem dX4_factor_112 : decode cX4_factor 112 = .ok (.getfield 39, 3) := by decide +kernel
theorem dX4_factor_115 : decode cX4_factor 115 = .ok (.iload 4, 2) := by decide +kernel
theorem dX4_factor_117 : decode cX4_factor 117 = .ok (.iaload, 1) := by decide +kernel
theorem dX4_factor_118 : decode cX4_factor 118 = .ok (.invokevirtual 68, 3) := by decide +kernel
theorem dX4_factor_121 : decode cX4_factor 121 = .ok (.iinc 4 1, 3) := by decide +kernel
theorem dX4_factor_124 : decode cX4_factor 124 = .ok (.goto (-24), 3) := by decide +kernel
theorem dX4_factor_127 : decode cX4_factor 127 = .ok (.iconst 0, 1) := by decide +kernel
theorem dX4_factor_128 : decode cX4_factor 128 = .ok (.istore 4, 2) := by decide +kernel
theorem dX4_factor_130 : decode cX4_factor 130 = .ok (.iload 4, 2) := by decide +kernel
theorem dX4_factor_132 : decode cX4_factor 132 = .ok (.aload_n 0, 1) := by decide +kernel
theorem dX4_factor_133 : decode cX4_factor 133 = .ok (.getfield 33, 3) := by decide +kernel
theorem dX4_factor_136 : decode cX4_factor 136 = .ok (.if_icmp .ge 24, 3) := by decide +kernel
theorem dX4_factor_139 : decode cX4_factor 139 = .ok (.aload_n 0, 1) := by decide +kernel
theorem dX4_factor_140 : decode cX4_factor 140 = .ok (.iconst 0, 1) := by decide +kernel
theorem dX4_factor_141 : decode cX4_factor 141 = .ok (.aload_n 0, 1) := by decide +kernel
theorem dX4_factor_142 : decode cX4_factor 142 = .ok (.getfield 39, 3) := by decide +kernel
theorem dX4_factor_145 : decode cX4_factor 145 = .ok (.bipush 30, 2) := by decide +kernel
theorem dX4_factor_147 : decode cX4_factor 147 = .ok (.iload 4, 2) := by decide +kernel
theorem dX4_factor_149 : decode cX4_factor 149 = .ok (.iadd, 1) := by decide +kernel
theorem dX4_factor_150 : decode cX4_factor 150 = .ok (.iaload, 1) := by decide +kernel
theorem dX4_factor_151 : decode cX4_factor 151 = .ok (.invokevirtual 68, 3) := by decide +kernel
theorem dX4_factor_154 : decode cX4_factor 154 = .ok (.iinc 4 1, 3) := by decide +kernel
theorem dX4_factor_157 : decode cX4_factor 157 = .ok (.goto (-27), 3) := by decide +kernel
theorem dX4_factor_160 : decode cX4_factor 160 = .ok (.iconst 0, 1) := by decide +kernel
theorem dX4_factor_161 : decode cX4_factor 161 = .ok (.istore 4, 2) := by decide +kernel
theorem dX4_factor_163 : decode cX4_factor 163 = .ok (.iload 4, 2) := by decide +kernel
theorem dX4_factor_165 : decode cX4_factor 165 = .ok (.aload_n 0, 1) := by decide +kernel
theorem dX4_factor_166 : decode cX4_factor 166 = .ok (.getfield 29, 3) := by decide +kernel
theorem dX4_factor_169 : decode cX4_factor 169 = .ok (.if_icmp .ge 70, 3) := by decide +kernel
theorem dX4_factor_172 : decode cX4_factor 172 = .ok (.iconst 0, 1) := by decide +kernel
theorem dX4_factor_173 : decode cX4_factor 173 = .ok (.istore 5, 2) := by decide +kernel
theorem dX4_factor_175 : decode cX4_factor 175 = .ok (.iload 5, 2) := by decide +kernel
theorem dX4_factor_177 : decode cX4_factor 177 = .ok (.aload_n 0, 1) := by decide +kernel
theorem dX4_factor_178 : decode cX4_factor 178 = .ok (.getfield 33, 3) := by decide +kernel
theorem dX4_factor_181 : decode cX4_factor 181 = .ok (.if_icmp .ge 52, 3) := by decide +kernel
theorem dX4_factor_184 : decode cX4_factor 184 = .ok (.aload_n 0, 1) := by decide +kernel
theorem dX4_factor_185 : decode cX4_factor 185 = .ok (.getfield 36, 3) := by decide +kernel
theorem dX4_factor_188 : decode cX4_factor 188 = .ok (.bipush 30, 2) := by decide +kernel
theorem dX4_factor_190 : decode cX4_factor 190 = .ok (.iload 5, 2) := by decide +kernel
theorem dX4_factor_192 : decode cX4_factor 192 = .ok (.imul, 1) := by decide +kernel
theorem dX4_factor_193 : decode cX4_factor 193 = .ok (.iload 4, 2) := by decide +kernel
theorem dX4_factor_195 : decode cX4_factor 195 = .ok (.iadd, 1) := by decide +kernel
theorem dX4_factor_196 : decode cX4_factor 196 = .ok (.baload, 1) := by decide +kernel
theorem dX4_factor_197 : decode cX4_factor 197 = .ok (.ifCond .eq 30, 3) := by decide +kernel
theorem dX4_factor_200 : decode cX4_factor 200 = .ok (.aload_n 0, 1) := by decide +kernel
theorem dX4_factor_201 : decode cX4_factor 201 = .ok (.getfield 13, 3) := by decide +kernel
theorem dX4_factor_204 : decode cX4_factor 204 = .ok (.bipush 12, 2) := by decide +kernel
theorem dX4_factor_206 : decode cX4_factor 206 = .ok (.aload_n 0, 1) := by decide +kernel
theorem dX4_factor_207 : decode cX4_factor 207 = .ok (.getfield 39, 3) := by decide +kernel
theorem dX4_factor_210 : decode cX4_factor 210 = .ok (.iload 4, 2) := by decide +kernel
theorem dX4_factor_212 : decode cX4_factor 212 = .ok (.iaload, 1) := by decide +kernel
theorem dX4_factor_213 : decode cX4_factor 213 = .ok (.imul, 1) := by decide +kernel
theorem dX4_factor_214 : decode cX4_factor 214 = .ok (.aload_n 0, 1) := by decide +kernel
theorem dX4_factor_215 : decode cX4_factor 215 = .ok (.getfield 39, 3) := by decide +kernel
theorem dX4_factor_218 : decode cX4_factor 218 = .ok (.bipush 30, 2) := by decide +kernel
theorem dX4_factor_220 : decode cX4_factor 220 = .ok (.iload 5, 2) := by decide +kernel
theorem dX4_factor_222 : decode cX4_factor 222 = .ok (.iadd, 1) := by decide +kernel
theorem dX4_factor_223 : decode cX4_factor 223 = .ok (.iaload, 1) := by decide +kernel
theorem dX4_factor_224 : decode cX4_factor 224 = .ok (.iadd, 1) := by decide +kernel
theorem dX4_factor_225 : decode cX4_factor 225 = .ok (.iconst 1, 1) := by decide +kernel
theorem dX4_factor_226 : decode cX4_factor 226 = .ok (.bastore, 1) := by decide +kernel
theorem dX4_factor_227 : decode cX4_factor 227 = .ok (.iinc 5 1, 3) := by decide +kernel
theorem dX4_factor_230 : decode cX4_factor 230 = .ok (.goto (-55), 3) := by decide +kernel
theorem dX4_factor_233 : decode cX4_factor 233 = .ok (.iinc 4 1, 3) := by decide +kernel
theorem dX4_factor_236 : decode cX4_factor 236 = .ok (.goto (-73), 3) := by decide +kernel
theorem dX4_factor_239 : decode cX4_factor 239 = .ok (.bipush 100, 2) := by decide +kernel
theorem dX4_factor_241 : decode cX4_factor 241 = .ok (.iload_n 2, 1) := by decide +kernel
theorem dX4_factor_242 : decode cX4_factor 242 = .ok (.imul, 1) := by decide +kernel
theorem dX4_factor_243 : decode cX4_factor 243 = .ok (.iload_n 3, 1) := by decide +kernel
theorem dX4_factor_244 : decode cX4_factor 244 = .ok (.iadd, 1) := by decide +kernel
theorem dX4_factor_245 : decode cX4_factor 245 = .ok (.ireturn, 1) := by decide +kernel
theorem dJ9_abs_0f7a4_0 : decode cJ9_abs_0f7a4 0 = .ok (.iload_n 0, 1) := by decide +kernel
theorem dJ9_abs_0f7a4_1 : decode cJ9_abs_0f7a4 1 = .ok (.ifCond .ge 8, 3) := by decide +kernel
theorem dJ9_abs_0f7a4_4 : decode cJ9_abs_0f7a4 4 = .ok (.iload_n 0, 1) := by decide +kernel
theorem dJ9_abs_0f7a4_5 : decode cJ9_abs_0f7a4 5 = .ok (.ineg, 1) := by decide +kernel
theorem dJ9_abs_0f7a4_6 : decode cJ9_abs_0f7a4 6 = .ok (.goto 4, 3) := by decide +kernel
theorem dJ9_abs_0f7a4_9 : decode cJ9_abs_0f7a4 9 = .ok (.iload_n 0, 1) := by decide +kernel
theorem dJ9_abs_0f7a4_10 : decode cJ9_abs_0f7a4 10 = .ok (.ireturn, 1) := by decide +kernel
theorem dJ9_max_7cf53_0 : decode cJ9_max_7cf53 0 = .ok (.iload_n 0, 1) := by decide +kernel
theorem dJ9_max_7cf53_1 : decode cJ9_max_7cf53 1 = .ok (.iload_n 1, 1) := by decide +kernel
theorem dJ9_max_7cf53_2 : decode cJ9_max_7cf53 2 = .ok (.if_icmp .lt 7, 3) := by decide +kernel
theorem dJ9_max_7cf53_5 : decode cJ9_max_7cf53 5 = .ok (.iload_n 0, 1) := by decide +kernel
theorem dJ9_max_7cf53_6 : decode cJ9_max_7cf53 6 = .ok (.goto 4, 3) := by decide +kernel
theorem dJ9_max_7cf53_9 : decode cJ9_max_7cf53 9 = .ok (.iload_n 1, 1) := by decide +kernel
theorem dJ9_max_7cf53_10 : decode cJ9_max_7cf53 10 = .ok (.ireturn, 1) := by decide +kernel
theorem dJ9_min_7cf53_0 : decode cJ9_min_7cf53 0 = .ok (.iload_n 0, 1) := by decide +kernel
theorem dJ9_min_7cf53_1 : decode cJ9_min_7cf53 1 = .ok (.iload_n 1, 1) := by decide +kernel
theorem dJ9_min_7cf53_2 : decode cJ9_min_7cf53 2 = .ok (.if_icmp .gt 7, 3) := by decide +kernel
theorem dJ9_min_7cf53_5 : decode cJ9_min_7cf53 5 = .ok (.iload_n 0, 1) := by decide +kernel
theorem dJ9_min_7cf53_6 : decode cJ9_min_7cf53 6 = .ok (.goto 4, 3) := by decide +kernel
theorem dJ9_min_7cf53_9 : decode cJ9_min_7cf53 9 = .ok (.iload_n 1, 1) := by decide +kernel
theorem dJ9_min_7cf53_10 : decode cJ9_min_7cf53 10 = .ok (.ireturn, 1) := by decide +kernel
theorem dJ7_fill_53178_0 : decode cJ7_fill_53178 0 = .ok (.iconst 0, 1) := by decide +kernel
theorem dJ7_fill_53178_1 : decode cJ7_fill_53178 1 = .ok (.istore_n 2, 1) := by decide +kernel
theorem dJ7_fill_53178_2 : decode cJ7_fill_53178 2 = .ok (.aload_n 0, 1) := by decide +kernel
theorem dJ7_fill_53178_3 : decode cJ7_fill_53178 3 = .ok (.arraylength, 1) := by decide +kernel
theorem dJ7_fill_53178_4 : decode cJ7_fill_53178 4 = .ok (.istore_n 3, 1) := by decide +kernel
theorem dJ7_fill_53178_5 : decode cJ7_fill_53178 5 = .ok (.iload_n 2, 1) := by decide +kernel
theorem dJ7_fill_53178_6 : decode cJ7_fill_53178 6 = .ok (.iload_n 3, 1) := by decide +kernel
theorem dJ7_fill_53178_7 : decode cJ7_fill_53178 7 = .ok (.if_icmp .ge 13, 3) := by decide +kernel
theorem dJ7_fill_53178_10 : decode cJ7_fill_53178 10 = .ok (.aload_n 0, 1) := by decide +kernel
theorem dJ7_fill_53178_11 : decode cJ7_fill_53178 11 = .ok (.iload_n 2, 1) := by decide +kernel
theorem dJ7_fill_53178_12 : decode cJ7_fill_53178 12 = .ok (.iload_n 1, 1) := by decide +kernel
theorem dJ7_fill_53178_13 : decode cJ7_fill_53178 13 = .ok (.iastore, 1) := by decide +kernel
theorem dJ7_fill_53178_14 : decode cJ7_fill_53178 14 = .ok (.iinc 2 1, 3) := by decide +kernel
theorem dJ7_fill_53178_17 : decode cJ7_fill_53178 17 = .ok (.goto (-12), 3) := by decide +kernel
theorem dJ7_fill_53178_20 : decode cJ7_fill_53178 20 = .ok (.return_, 1) := by decide +kernel
theorem dL_run_0 : decode cL_run 0 = .ok (.aload 4, 2) := by decide +kernel
theorem dL_run_2 : decode cL_run 2 = .ok (.iconst 0, 1) := by decide +kernel
theorem dL_run_3 : decode cL_run 3 = .ok (.aload_n 0, 1) := by decide +kernel
theorem dL_run_4 : decode cL_run 4 = .ok (.iload_n 1, 1) := by decide +kernel
theorem dL_run_5 : decode cL_run 5 = .ok (.iload_n 2, 1) := by decide +kernel
theorem dL_run_6 : decode cL_run 6 = .ok (.iload_n 3, 1) := by decide +kernel
theorem dL_run_7 : decode cL_run 7 = .ok (.invokevirtual 7, 3) := by decide +kernel
theorem dL_run_10 : decode cL_run 10 = .ok (.i2l, 1) := by decide +kernel
theorem dL_run_11 : decode cL_run 11 = .ok (.lastore, 1) := by decide +kernel
theorem dL_run_12 : decode cL_run 12 = .ok (.goto 11, 3) := by decide +kernel
theorem dL_run_15 : decode cL_run 15 = .ok (.astore 5, 2) := by decide +kernel
theorem dL_run_17 : decode cL_run 17 = .ok (.iconst 1, 1) := by decide +kernel
theorem dL_run_18 : decode cL_run 18 = .ok (.ireturn, 1) := by decide +kernel
theorem dL_run_19 : decode cL_run 19 = .ok (.astore 5, 2) := by decide +kernel
theorem dL_run_21 : decode cL_run 21 = .ok (.iconst 2, 1) := by decide +kernel
theorem dL_run_22 : decode cL_run 22 = .ok (.ireturn, 1) := by decide +kernel
theorem dL_run_23 : decode cL_run 23 = .ok (.iconst 0, 1) := by decide +kernel
theorem dL_run_24 : decode cL_run 24 = .ok (.ireturn, 1) := by decide +kernel
theorem dL_again_0 : decode cL_again 0 = .ok (.aload 5, 2) := by decide +kernel
theorem dL_again_2 : decode cL_again 2 = .ok (.iconst 0, 1) := by decide +kernel
theorem dL_again_3 : decode cL_again 3 = .ok (.aload_n 0, 1) := by decide +kernel
theorem dL_again_4 : decode cL_again 4 = .ok (.iload_n 1, 1) := by decide +kernel
theorem dL_again_5 : decode cL_again 5 = .ok (.iload_n 2, 1) := by decide +kernel
theorem dL_again_6 : decode cL_again 6 = .ok (.iload_n 3, 1) := by decide +kernel
theorem dL_again_7 : decode cL_again 7 = .ok (.iload 4, 2) := by decide +kernel
theorem dL_again_9 : decode cL_again 9 = .ok (.invokevirtual 17, 3) := by decide +kernel
theorem dL_again_12 : decode cL_again 12 = .ok (.i2l, 1) := by decide +kernel
theorem dL_again_13 : decode cL_again 13 = .ok (.lastore, 1) := by decide +kernel
theorem dL_again_14 : decode cL_again 14 = .ok (.goto 11, 3) := by decide +kernel
theorem dL_again_17 : decode cL_again 17 = .ok (.astore 6, 2) := by decide +kernel
theorem dL_again_19 : decode cL_again 19 = .ok (.iconst 1, 1) := by decide +kernel
theorem dL_again_20 : decode cL_again 20 = .ok (.ireturn, 1) := by decide +kernel
theorem dL_again_21 : decode cL_again 21 = .ok (.astore 6, 2) := by decide +kernel
theorem dL_again_23 : decode cL_again 23 = .ok (.iconst 2, 1) := by decide +kernel
theorem dL_again_24 : decode cL_again 24 = .ok (.ireturn, 1) := by decide +kernel
theorem dL_again_25 : decode cL_again 25 = .ok (.iconst 0, 1) := by decide +kernel
theorem dL_again_26 : decode cL_again 26 = .ok (.ireturn, 1) := by decide +kernel
theorem dL_clear_0 : decode cL_clear 0 = .ok (.aload_n 2, 1) := by decide +kernel
theorem dL_clear_1 : decode cL_clear 1 = .ok (.iconst 0, 1) := by decide +kernel
theorem dL_clear_2 : decode cL_clear 2 = .ok (.aload_n 0, 1) := by decide +kernel
theorem dL_clear_3 : decode cL_clear 3 = .ok (.iload_n 1, 1) := by decide +kernel
theorem dL_clear_4 : decode cL_clear 4 = .ok (.invokevirtual 21, 3) := by decide +kernel
theorem dL_clear_7 : decode cL_clear 7 = .ok (.i2l, 1) := by decide +kernel
theorem dL_clear_8 : decode cL_clear 8 = .ok (.lastore, 1) := by decide +kernel
theorem dL_clear_9 : decode cL_clear 9 = .ok (.goto 6, 3) := by decide +kernel
theorem dL_clear_12 : decode cL_clear 12 = .ok (.astore_n 3, 1) := by decide +kernel
theorem dL_clear_13 : decode cL_clear 13 = .ok (.iconst 1, 1) := by decide +kernel
theorem dL_clear_14 : decode cL_clear 14 = .ok (.ireturn, 1) := by decide +kernel
theorem dL_clear_15 : decode cL_clear 15 = .ok (.iconst 0, 1) := by decide +kernel
theorem dL_clear_16 : decode cL_clear 16 = .ok (.ireturn, 1) := by decide +kernel
theorem dL_tie_0 : decode cL_tie 0 = .ok (.aload 4, 2) := by decide +kernel
theorem dL_tie_2 : decode cL_tie 2 = .ok (.iconst 0, 1) := by decide +kernel
theorem dL_tie_3 : decode cL_tie 3 = .ok (.aload_n 0, 1) := by decide +kernel
theorem dL_tie_4 : decode cL_tie 4 = .ok (.iload_n 1, 1) := by decide +kernel
theorem dL_tie_5 : decode cL_tie 5 = .ok (.iload_n 2, 1) := by decide +kernel
theorem dL_tie_6 : decode cL_tie 6 = .ok (.iload_n 3, 1) := by decide +kernel
theorem dL_tie_7 : decode cL_tie 7 = .ok (.invokevirtual 25, 3) := by decide +kernel
theorem dL_tie_10 : decode cL_tie 10 = .ok (.ifCond .eq 7, 3) := by decide +kernel
theorem dL_tie_13 : decode cL_tie 13 = .ok (.lconst 1, 1) := by decide +kernel
theorem dL_tie_14 : decode cL_tie 14 = .ok (.goto 4, 3) := by decide +kernel
theorem dL_tie_17 : decode cL_tie 17 = .ok (.lconst 0, 1) := by decide +kernel
theorem dL_tie_18 : decode cL_tie 18 = .ok (.lastore, 1) := by decide +kernel
theorem dL_tie_19 : decode cL_tie 19 = .ok (.goto 7, 3) := by decide +kernel
theorem dL_tie_22 : decode cL_tie 22 = .ok (.astore 5, 2) := by decide +kernel
theorem dL_tie_24 : decode cL_tie 24 = .ok (.iconst 1, 1) := by decide +kernel
theorem dL_tie_25 : decode cL_tie 25 = .ok (.ireturn, 1) := by decide +kernel
theorem dL_tie_26 : decode cL_tie 26 = .ok (.iconst 0, 1) := by decide +kernel
theorem dL_tie_27 : decode cL_tie 27 = .ok (.ireturn, 1) := by decide +kernel
theorem dL_draft_0 : decode cL_draft 0 = .ok (.aload 4, 2) := by decide +kernel
theorem dL_draft_2 : decode cL_draft 2 = .ok (.iconst 0, 1) := by decide +kernel
theorem dL_draft_3 : decode cL_draft 3 = .ok (.aload_n 0, 1) := by decide +kernel
theorem dL_draft_4 : decode cL_draft 4 = .ok (.iload_n 1, 1) := by decide +kernel
theorem dL_draft_5 : decode cL_draft 5 = .ok (.iload_n 2, 1) := by decide +kernel
theorem dL_draft_6 : decode cL_draft 6 = .ok (.iload_n 3, 1) := by decide +kernel
theorem dL_draft_7 : decode cL_draft 7 = .ok (.invokevirtual 29, 3) := by decide +kernel
theorem dL_draft_10 : decode cL_draft 10 = .ok (.i2l, 1) := by decide +kernel
theorem dL_draft_11 : decode cL_draft 11 = .ok (.lastore, 1) := by decide +kernel
theorem dL_draft_12 : decode cL_draft 12 = .ok (.goto 7, 3) := by decide +kernel
theorem dL_draft_15 : decode cL_draft 15 = .ok (.astore 5, 2) := by decide +kernel
theorem dL_draft_17 : decode cL_draft 17 = .ok (.iconst 1, 1) := by decide +kernel
theorem dL_draft_18 : decode cL_draft 18 = .ok (.ireturn, 1) := by decide +kernel
theorem dL_draft_19 : decode cL_draft 19 = .ok (.iconst 0, 1) := by decide +kernel
theorem dL_draft_20 : decode cL_draft 20 = .ok (.ireturn, 1) := by decide +kernel
theorem dL_colour_0 : decode cL_colour 0 = .ok (.aload 4, 2) := by decide +kernel
theorem dL_colour_2 : decode cL_colour 2 = .ok (.iconst 0, 1) := by decide +kernel
theorem dL_colour_3 : decode cL_colour 3 = .ok (.aload_n 0, 1) := by decide +kernel
theorem dL_colour_4 : decode cL_colour 4 = .ok (.iload_n 1, 1) := by decide +kernel
theorem dL_colour_5 : decode cL_colour 5 = .ok (.iload_n 2, 1) := by decide +kernel
theorem dL_colour_6 : decode cL_colour 6 = .ok (.iload_n 3, 1) := by decide +kernel
theorem dL_colour_7 : decode cL_colour 7 = .ok (.invokevirtual 33, 3) := by decide +kernel
theorem dL_colour_10 : decode cL_colour 10 = .ok (.i2l, 1) := by decide +kernel
theorem dL_colour_11 : decode cL_colour 11 = .ok (.lastore, 1) := by decide +kernel
theorem dL_colour_12 : decode cL_colour 12 = .ok (.goto 7, 3) := by decide +kernel
theorem dL_colour_15 : decode cL_colour 15 = .ok (.astore 5, 2) := by decide +kernel
theorem dL_colour_17 : decode cL_colour 17 = .ok (.iconst 1, 1) := by decide +kernel
theorem dL_colour_18 : decode cL_colour 18 = .ok (.ireturn, 1) := by decide +kernel
theorem dL_colour_19 : decode cL_colour 19 = .ok (.iconst 0, 1) := by decide +kernel
theorem dL_colour_20 : decode cL_colour 20 = .ok (.ireturn, 1) := by decide +kernel
theorem dL_weave_0 : decode cL_weave 0 = .ok (.aload_n 2, 1) := by decide +kernel
theorem dL_weave_1 : decode cL_weave 1 = .ok (.iconst 0, 1) := by decide +kernel
theorem dL_weave_2 : decode cL_weave 2 = .ok (.aload_n 0, 1) := by decide +kernel
theorem dL_weave_3 : decode cL_weave 3 = .ok (.iload_n 1, 1) := by decide +kernel
theorem dL_weave_4 : decode cL_weave 4 = .ok (.invokevirtual 36, 3) := by decide +kernel
theorem dL_weave_7 : decode cL_weave 7 = .ok (.i2l, 1) := by decide +kernel
theorem dL_weave_8 : decode cL_weave 8 = .ok (.lastore, 1) := by decide +kernel
theorem dL_weave_9 : decode cL_weave 9 = .ok (.goto 9, 3) := by decide +kernel
theorem dL_weave_12 : decode cL_weave 12 = .ok (.astore_n 3, 1) := by decide +kernel
theorem dL_weave_13 : decode cL_weave 13 = .ok (.iconst 1, 1) := by decide +kernel
theorem dL_weave_14 : decode cL_weave 14 = .ok (.ireturn, 1) := by decide +kernel
theorem dL_weave_15 : decode cL_weave 15 = .ok (.astore_n 3, 1) := by decide +kernel
theorem dL_weave_16 : decode cL_weave 16 = .ok (.iconst 2, 1) := by decide +kernel
theorem dL_weave_17 : decode cL_weave 17 = .ok (.ireturn, 1) := by decide +kernel
theorem dL_weave_18 : decode cL_weave 18 = .ok (.iconst 0, 1) := by decide +kernel
theorem dL_weave_19 : decode cL_weave 19 = .ok (.ireturn, 1) := by decide +kernel
theorem dL_unweave_0 : decode cL_unweave 0 = .ok (.aload_n 0, 1) := by decide +kernel
theorem dL_unweave_1 : decode cL_unweave 1 = .ok (.iload_n 1, 1) := by decide +kernel
theorem dL_unweave_2 : decode cL_unweave 2 = .ok (.invokevirtual 40, 3) := by decide +kernel
theorem dL_unweave_5 : decode cL_unweave 5 = .ok (.goto 6, 3) := by decide +kernel
theorem dL_unweave_8 : decode cL_unweave 8 = .ok (.astore_n 2, 1) := by decide +kernel
theorem dL_unweave_9 : decode cL_unweave 9 = .ok (.iconst 1, 1) := by decide +kernel
theorem dL_unweave_10 : decode cL_unweave 10 = .ok (.ireturn, 1) := by decide +kernel
theorem dL_unweave_11 : decode cL_unweave 11 = .ok (.iconst 0, 1) := by decide +kernel
theorem dL_unweave_12 : decode cL_unweave 12 = .ok (.ireturn, 1) := by decide +kernel
theorem dL_over_0 : decode cL_over 0 = .ok (.aload_n 3, 1) := by decide +kernel
theorem dL_over_1 : decode cL_over 1 = .ok (.iconst 0, 1) := by decide +kernel
theorem dL_over_2 : decode cL_over 2 = .ok (.aload_n 0, 1) := by decide +kernel
theorem dL_over_3 : decode cL_over 3 = .ok (.iload_n 1, 1) := by decide +kernel
theorem dL_over_4 : decode cL_over 4 = .ok (.iload_n 2, 1) := by decide +kernel
theorem dL_over_5 : decode cL_over 5 = .ok (.invokevirtual 44, 3) := by decide +kernel
theorem dL_over_8 : decode cL_over 8 = .ok (.i2l, 1) := by decide +kernel
theorem dL_over_9 : decode cL_over 9 = .ok (.lastore, 1) := by decide +kernel
theorem dL_over_10 : decode cL_over 10 = .ok (.goto 7, 3) := by decide +kernel
theorem dL_over_13 : decode cL_over 13 = .ok (.astore 4, 2) := by decide +kernel
theorem dL_over_15 : decode cL_over 15 = .ok (.iconst 1, 1) := by decide +kernel
theorem dL_over_16 : decode cL_over 16 = .ok (.ireturn, 1) := by decide +kernel
theorem dL_over_17 : decode cL_over 17 = .ok (.iconst 0, 1) := by decide +kernel
theorem dL_over_18 : decode cL_over 18 = .ok (.ireturn, 1) := by decide +kernel
theorem dL_seen_0 : decode cL_seen 0 = .ok (.aload 4, 2) := by decide +kernel
theorem dL_seen_2 : decode cL_seen 2 = .ok (.iconst 0, 1) := by decide +kernel
theorem dL_seen_3 : decode cL_seen 3 = .ok (.aload_n 0, 1) := by decide +kernel
theorem dL_seen_4 : decode cL_seen 4 = .ok (.iload_n 1, 1) := by decide +kernel
theorem dL_seen_5 : decode cL_seen 5 = .ok (.iload_n 2, 1) := by decide +kernel
theorem dL_seen_6 : decode cL_seen 6 = .ok (.iload_n 3, 1) := by decide +kernel
theorem dL_seen_7 : decode cL_seen 7 = .ok (.invokevirtual 50, 3) := by decide +kernel
theorem dL_seen_10 : decode cL_seen 10 = .ok (.i2l, 1) := by decide +kernel
theorem dL_seen_11 : decode cL_seen 11 = .ok (.lastore, 1) := by decide +kernel
theorem dL_seen_12 : decode cL_seen 12 = .ok (.goto 7, 3) := by decide +kernel
theorem dL_seen_15 : decode cL_seen 15 = .ok (.astore 5, 2) := by decide +kernel
theorem dL_seen_17 : decode cL_seen 17 = .ok (.iconst 1, 1) := by decide +kernel
theorem dL_seen_18 : decode cL_seen 18 = .ok (.ireturn, 1) := by decide +kernel
theorem dL_seen_19 : decode cL_seen 19 = .ok (.iconst 0, 1) := by decide +kernel
theorem dL_seen_20 : decode cL_seen 20 = .ok (.ireturn, 1) := by decide +kernel
theorem dL_longest_0 : decode cL_longest 0 = .ok (.aload_n 3, 1) := by decide +kernel
theorem dL_longest_1 : decode cL_longest 1 = .ok (.iconst 0, 1) := by decide +kernel
theorem dL_longest_2 : decode cL_longest 2 = .ok (.aload_n 0, 1) := by decide +kernel
theorem dL_longest_3 : decode cL_longest 3 = .ok (.iload_n 1, 1) := by decide +kernel
theorem dL_longest_4 : decode cL_longest 4 = .ok (.iload_n 2, 1) := by decide +kernel
theorem dL_longest_5 : decode cL_longest 5 = .ok (.invokevirtual 54, 3) := by decide +kernel
theorem dL_longest_8 : decode cL_longest 8 = .ok (.i2l, 1) := by decide +kernel
theorem dL_longest_9 : decode cL_longest 9 = .ok (.lastore, 1) := by decide +kernel
theorem dL_longest_10 : decode cL_longest 10 = .ok (.goto 7, 3) := by decide +kernel
theorem dL_longest_13 : decode cL_longest 13 = .ok (.astore 4, 2) := by decide +kernel
theorem dL_longest_15 : decode cL_longest 15 = .ok (.iconst 1, 1) := by decide +kernel
theorem dL_longest_16 : decode cL_longest 16 = .ok (.ireturn, 1) := by decide +kernel
theorem dL_longest_17 : decode cL_longest 17 = .ok (.iconst 0, 1) := by decide +kernel
theorem dL_longest_18 : decode cL_longest 18 = .ok (.ireturn, 1) := by decide +kernel
theorem dL_layers_0 : decode cL_layers 0 = .ok (.aload_n 1, 1) := by decide +kernel
theorem dL_layers_1 : decode cL_layers 1 = .ok (.iconst 0, 1) := by decide +kernel
theorem dL_layers_2 : decode cL_layers 2 = .ok (.aload_n 0, 1) := by decide +kernel
theorem dL_layers_3 : decode cL_layers 3 = .ok (.invokevirtual 58, 3) := by decide +kernel
theorem dL_layers_6 : decode cL_layers 6 = .ok (.i2l, 1) := by decide +kernel
theorem dL_layers_7 : decode cL_layers 7 = .ok (.lastore, 1) := by decide +kernel
theorem dL_layers_8 : decode cL_layers 8 = .ok (.goto 6, 3) := by decide +kernel
theorem dL_layers_11 : decode cL_layers 11 = .ok (.astore_n 2, 1) := by decide +kernel
theorem dL_layers_12 : decode cL_layers 12 = .ok (.iconst 1, 1) := by decide +kernel
theorem dL_layers_13 : decode cL_layers 13 = .ok (.ireturn, 1) := by decide +kernel
theorem dL_layers_14 : decode cL_layers 14 = .ok (.iconst 0, 1) := by decide +kernel
theorem dL_layers_15 : decode cL_layers 15 = .ok (.ireturn, 1) := by decide +kernel
theorem dL_layer_0 : decode cL_layer 0 = .ok (.aload_n 2, 1) := by decide +kernel
theorem dL_layer_1 : decode cL_layer 1 = .ok (.iconst 0, 1) := by decide +kernel
theorem dL_layer_2 : decode cL_layer 2 = .ok (.aload_n 0, 1) := by decide +kernel
theorem dL_layer_3 : decode cL_layer 3 = .ok (.iload_n 1, 1) := by decide +kernel
theorem dL_layer_4 : decode cL_layer 4 = .ok (.invokevirtual 62, 3) := by decide +kernel
theorem dL_layer_7 : decode cL_layer 7 = .ok (.i2l, 1) := by decide +kernel
theorem dL_layer_8 : decode cL_layer 8 = .ok (.lastore, 1) := by decide +kernel
theorem dL_layer_9 : decode cL_layer 9 = .ok (.goto 9, 3) := by decide +kernel
theorem dL_layer_12 : decode cL_layer 12 = .ok (.astore_n 3, 1) := by decide +kernel
theorem dL_layer_13 : decode cL_layer 13 = .ok (.iconst 1, 1) := by decide +kernel
theorem dL_layer_14 : decode cL_layer 14 = .ok (.ireturn, 1) := by decide +kernel
theorem dL_layer_15 : decode cL_layer 15 = .ok (.astore_n 3, 1) := by decide +kernel
theorem dL_layer_16 : decode cL_layer 16 = .ok (.iconst 2, 1) := by decide +kernel
theorem dL_layer_17 : decode cL_layer 17 = .ok (.ireturn, 1) := by decide +kernel
theorem dL_layer_18 : decode cL_layer 18 = .ok (.iconst 0, 1) := by decide +kernel
theorem dL_layer_19 : decode cL_layer 19 = .ok (.ireturn, 1) := by decide +kernel
theorem dL_period_0 : decode cL_period 0 = .ok (.aload_n 2, 1) := by decide +kernel
theorem dL_period_1 : decode cL_period 1 = .ok (.iconst 0, 1) := by decide +kernel
theorem dL_period_2 : decode cL_period 2 = .ok (.aload_n 0, 1) := by decide +kernel
theorem dL_period_3 : decode cL_period 3 = .ok (.iload_n 1, 1) := by decide +kernel
theorem dL_period_4 : decode cL_period 4 = .ok (.invokevirtual 65, 3) := by decide +kernel
theorem dL_period_7 : decode cL_period 7 = .ok (.i2l, 1) := by decide +kernel
theorem dL_period_8 : decode cL_period 8 = .ok (.lastore, 1) := by decide +kernel
theorem dL_period_9 : decode cL_period 9 = .ok (.goto 6, 3) := by decide +kernel
theorem dL_period_12 : decode cL_period 12 = .ok (.astore_n 3, 1) := by decide +kernel
theorem dL_period_13 : decode cL_period 13 = .ok (.iconst 1, 1) := by decide +kernel
theorem dL_period_14 : decode cL_period 14 = .ok (.ireturn, 1) := by decide +kernel
theorem dL_period_15 : decode cL_period 15 = .ok (.iconst 0, 1) := by decide +kernel
theorem dL_period_16 : decode cL_period 16 = .ok (.ireturn, 1) := by decide +kernel
theorem dL_picture_0 : decode cL_picture 0 = .ok (.aload_n 0, 1) := by decide +kernel
theorem dL_picture_1 : decode cL_picture 1 = .ok (.iload_n 1, 1) := by decide +kernel
theorem dL_picture_2 : decode cL_picture 2 = .ok (.iload_n 2, 1) := by decide +kernel
theorem dL_picture_3 : decode cL_picture 3 = .ok (.invokevirtual 68, 3) := by decide +kernel
theorem dL_picture_6 : decode cL_picture 6 = .ok (.goto 6, 3) := by decide +kernel
theorem dL_picture_9 : decode cL_picture 9 = .ok (.astore_n 3, 1) := by decide +kernel
theorem dL_picture_10 : decode cL_picture 10 = .ok (.iconst 1, 1) := by decide +kernel
theorem dL_picture_11 : decode cL_picture 11 = .ok (.ireturn, 1) := by decide +kernel
theorem dL_picture_12 : decode cL_picture 12 = .ok (.iconst 0, 1) := by decide +kernel
theorem dL_picture_13 : decode cL_picture 13 = .ok (.ireturn, 1) := by decide +kernel
theorem dL_paint_0 : decode cL_paint 0 = .ok (.aload 4, 2) := by decide +kernel
theorem dL_paint_2 : decode cL_paint 2 = .ok (.iconst 0, 1) := by decide +kernel
theorem dL_paint_3 : decode cL_paint 3 = .ok (.aload_n 0, 1) := by decide +kernel
theorem dL_paint_4 : decode cL_paint 4 = .ok (.iload_n 1, 1) := by decide +kernel
theorem dL_paint_5 : decode cL_paint 5 = .ok (.iload_n 2, 1) := by decide +kernel
theorem dL_paint_6 : decode cL_paint 6 = .ok (.iload_n 3, 1) := by decide +kernel
theorem dL_paint_7 : decode cL_paint 7 = .ok (.invokevirtual 72, 3) := by decide +kernel
theorem dL_paint_10 : decode cL_paint 10 = .ok (.ifCond .eq 7, 3) := by decide +kernel
theorem dL_paint_13 : decode cL_paint 13 = .ok (.lconst 1, 1) := by decide +kernel
theorem dL_paint_14 : decode cL_paint 14 = .ok (.goto 4, 3) := by decide +kernel
theorem dL_paint_17 : decode cL_paint 17 = .ok (.lconst 0, 1) := by decide +kernel
theorem dL_paint_18 : decode cL_paint 18 = .ok (.lastore, 1) := by decide +kernel
theorem dL_paint_19 : decode cL_paint 19 = .ok (.goto 7, 3) := by decide +kernel
theorem dL_paint_22 : decode cL_paint 22 = .ok (.astore 5, 2) := by decide +kernel
theorem dL_paint_24 : decode cL_paint 24 = .ok (.iconst 1, 1) := by decide +kernel
theorem dL_paint_25 : decode cL_paint 25 = .ok (.ireturn, 1) := by decide +kernel
theorem dL_paint_26 : decode cL_paint 26 = .ok (.iconst 0, 1) := by decide +kernel
theorem dL_paint_27 : decode cL_paint 27 = .ok (.ireturn, 1) := by decide +kernel
theorem dL_factor_0 : decode cL_factor 0 = .ok (.aload_n 2, 1) := by decide +kernel
theorem dL_factor_1 : decode cL_factor 1 = .ok (.iconst 0, 1) := by decide +kernel
theorem dL_factor_2 : decode cL_factor 2 = .ok (.aload_n 0, 1) := by decide +kernel
theorem dL_factor_3 : decode cL_factor 3 = .ok (.iload_n 1, 1) := by decide +kernel
theorem dL_factor_4 : decode cL_factor 4 = .ok (.invokevirtual 75, 3) := by decide +kernel
theorem dL_factor_7 : decode cL_factor 7 = .ok (.i2l, 1) := by decide +kernel
theorem dL_factor_8 : decode cL_factor 8 = .ok (.lastore, 1) := by decide +kernel
theorem dL_factor_9 : decode cL_factor 9 = .ok (.goto 6, 3) := by decide +kernel
theorem dL_factor_12 : decode cL_factor 12 = .ok (.astore_n 3, 1) := by decide +kernel
theorem dL_factor_13 : decode cL_factor 13 = .ok (.iconst 1, 1) := by decide +kernel
theorem dL_factor_14 : decode cL_factor 14 = .ok (.ireturn, 1) := by decide +kernel
theorem dL_factor_15 : decode cL_factor 15 = .ok (.iconst 0, 1) := by decide +kernel
theorem dL_factor_16 : decode cL_factor 16 = .ok (.ireturn, 1) := by decide +kernel
theorem dL_law_0 : decode cL_law 0 = .ok (.new 8, 3) := by decide +kernel
theorem dL_law_3 : decode cL_law 3 = .ok (.dup, 1) := by decide +kernel
theorem dL_law_4 : decode cL_law 4 = .ok (.invokespecial 78, 3) := by decide +kernel
theorem dL_law_7 : decode cL_law 7 = .ok (.astore_n 1, 1) := by decide +kernel
theorem dL_law_8 : decode cL_law 8 = .ok (.new 79, 3) := by decide +kernel
theorem dL_law_11 : decode cL_law 11 = .ok (.dup, 1) := by decide +kernel
theorem dL_law_12 : decode cL_law 12 = .ok (.invokespecial 81, 3) := by decide +kernel
theorem dL_law_15 : decode cL_law 15 = .ok (.astore_n 2, 1) := by decide +kernel
theorem dL_law_16 : decode cL_law 16 = .ok (.iconst 1, 1) := by decide +kernel
theorem dL_law_17 : decode cL_law 17 = .ok (.newarray .long, 2) := by decide +kernel
theorem dL_law_19 : decode cL_law 19 = .ok (.astore_n 3, 1) := by decide +kernel
theorem dL_law_20 : decode cL_law 20 = .ok (.iconst 0, 1) := by decide +kernel
theorem dL_law_21 : decode cL_law 21 = .ok (.istore 4, 2) := by decide +kernel
theorem dL_law_23 : decode cL_law 23 = .ok (.iload 4, 2) := by decide +kernel
theorem dL_law_25 : decode cL_law 25 = .ok (.aload_n 0, 1) := by decide +kernel
theorem dL_law_26 : decode cL_law 26 = .ok (.arraylength, 1) := by decide +kernel
theorem dL_law_27 : decode cL_law 27 = .ok (.iconst 5, 1) := by decide +kernel
theorem dL_law_28 : decode cL_law 28 = .ok (.isub, 1) := by decide +kernel
theorem dL_law_29 : decode cL_law 29 = .ok (.if_icmp .gt 1403, 3) := by decide +kernel
theorem dL_law_32 : decode cL_law 32 = .ok (.aload_n 0, 1) := by decide +kernel
theorem dL_law_33 : decode cL_law 33 = .ok (.iload 4, 2) := by decide +kernel
theorem dL_law_35 : decode cL_law 35 = .ok (.iaload, 1) := by decide +kernel
theorem dL_law_36 : decode cL_law 36 = .ok (.bipush 31, 2) := by decide +kernel
theorem dL_law_38 : decode cL_law 38 = .ok (.iand, 1) := by decide +kernel
theorem dL_law_39 : decode cL_law 39 = .ok (.tableswitch 1387 0 16 #[81, 177, 301, 373, 476, 556, 652, 708, 744, 812, 908, 992, 1036, 1092, 1164, 1212, 1315], 81) := by decide +kernel
theorem dL_law_120 : decode cL_law 120 = .ok (.aload_n 1, 1) := by decide +kernel
theorem dL_law_121 : decode cL_law 121 = .ok (.aload_n 0, 1) := by decide +kernel
theorem dL_law_122 : decode cL_law 122 = .ok (.iload 4, 2) := by decide +kernel
theorem dL_law_124 : decode cL_law 124 = .ok (.iconst 1, 1) := by decide +kernel
theorem dL_law_125 : decode cL_law 125 = .ok (.iadd, 1) := by decide +kernel
theorem dL_law_126 : decode cL_law 126 = .ok (.iaload, 1) := by decide +kernel
theorem dL_law_127 : decode cL_law 127 = .ok (.ifCond .eq 7, 3) := by decide +kernel
theorem dL_law_130 : decode cL_law 130 = .ok (.iconst 1, 1) := by decide +kernel
theorem dL_law_131 : decode cL_law 131 = .ok (.goto 4, 3) := by decide +kernel
theorem dL_law_134 : decode cL_law 134 = .ok (.iconst 0, 1) := by decide +kernel
theorem dL_law_135 : decode cL_law 135 = .ok (.aload_n 0, 1) := by decide +kernel
theorem dL_law_136 : decode cL_law 136 = .ok (.iload 4, 2) := by decide +kernel
theorem dL_law_138 : decode cL_law 138 = .ok (.iconst 2, 1) := by decide +kernel
theorem dL_law_139 : decode cL_law 139 = .ok (.iadd, 1) := by decide +kernel
theorem dL_law_140 : decode cL_law 140 = .ok (.iaload, 1) := by decide +kernel
theorem dL_law_141 : decode cL_law 141 = .ok (.aload_n 0, 1) := by decide +kernel
theorem dL_law_142 : decode cL_law 142 = .ok (.iload 4, 2) := by decide +kernel
theorem dL_law_144 : decode cL_law 144 = .ok (.iconst 3, 1) := by decide +kernel
theorem dL_law_145 : decode cL_law 145 = .ok (.iadd, 1) := by decide +kernel
theorem dL_law_146 : decode cL_law 146 = .ok (.iaload, 1) := by decide +kernel
theorem dL_law_147 : decode cL_law 147 = .ok (.aload_n 3, 1) := by decide +kernel
theorem dL_law_148 : decode cL_law 148 = .ok (.invokestatic 82, 3) := by decide +kernel
theorem dL_law_151 : decode cL_law 151 = .ok (.istore 5, 2) := by decide +kernel
theorem dL_law_153 : decode cL_law 153 = .ok (.aload_n 2, 1) := by decide +kernel
theorem dL_law_154 : decode cL_law 154 = .ok (.aload_n 0, 1) := by decide +kernel
theorem dL_law_155 : decode cL_law 155 = .ok (.iload 4, 2) := by decide +kernel
theorem dL_law_157 : decode cL_law 157 = .ok (.iconst 1, 1) := by decide +kernel
theorem dL_law_158 : decode cL_law 158 = .ok (.iadd, 1) := by decide +kernel
theorem dL_law_159 : decode cL_law 159 = .ok (.iaload, 1) := by decide +kernel
theorem dL_law_160 : decode cL_law 160 = .ok (.ifCond .eq 7, 3) := by decide +kernel
theorem dL_law_163 : decode cL_law 163 = .ok (.iconst 1, 1) := by decide +kernel
theorem dL_law_164 : decode cL_law 164 = .ok (.goto 4, 3) := by decide +kernel
theorem dL_law_167 : decode cL_law 167 = .ok (.iconst 0, 1) := by decide +kernel
theorem dL_law_168 : decode cL_law 168 = .ok (.aload_n 0, 1) := by decide +kernel
theorem dL_law_169 : decode cL_law 169 = .ok (.iload 4, 2) := by decide +kernel
theorem dL_law_171 : decode cL_law 171 = .ok (.iconst 2, 1) := by decide +kernel
theorem dL_law_172 : decode cL_law 172 = .ok (.iadd, 1) := by decide +kernel
theorem dL_law_173 : decode cL_law 173 = .ok (.iaload, 1) := by decide +kernel
theorem dL_law_174 : decode cL_law 174 = .ok (.aload_n 0, 1) := by decide +kernel
theorem dL_law_175 : decode cL_law 175 = .ok (.iload 4, 2) := by decide +kernel
theorem dL_law_177 : decode cL_law 177 = .ok (.iconst 3, 1) := by decide +kernel
theorem dL_law_178 : decode cL_law 178 = .ok (.iadd, 1) := by decide +kernel
theorem dL_law_179 : decode cL_law 179 = .ok (.iaload, 1) := by decide +kernel
theorem dL_law_180 : decode cL_law 180 = .ok (.invokevirtual 87, 3) := by decide +kernel
theorem dL_law_183 : decode cL_law 183 = .ok (.istore 6, 2) := by decide +kernel
theorem dL_law_185 : decode cL_law 185 = .ok (.aload_n 2, 1) := by decide +kernel
theorem dL_law_186 : decode cL_law 186 = .ok (.invokevirtual 88, 3) := by decide +kernel
theorem dL_law_189 : decode cL_law 189 = .ok (.iload 5, 2) := by decide +kernel
theorem dL_law_191 : decode cL_law 191 = .ok (.if_icmp .eq 5, 3) := by decide +kernel
theorem dL_law_194 : decode cL_law 194 = .ok (.iconst 0, 1) := by decide +kernel
theorem dL_law_195 : decode cL_law 195 = .ok (.ireturn, 1) := by decide +kernel
theorem dL_law_196 : decode cL_law 196 = .ok (.iload 5, 2) := by decide +kernel
theorem dL_law_198 : decode cL_law 198 = .ok (.ifCond .ne 15, 3) := by decide +kernel
theorem dL_law_201 : decode cL_law 201 = .ok (.aload_n 3, 1) := by decide +kernel
theorem dL_law_202 : decode cL_law 202 = .ok (.iconst 0, 1) := by decide +kernel
theorem dL_law_203 : decode cL_law 203 = .ok (.laload, 1) := by decide +kernel
theorem dL_law_204 : decode cL_law 204 = .ok (.iload 6, 2) := by decide +kernel
theorem dL_law_206 : decode cL_law 206 = .ok (.i2l, 1) := by decide +kernel
theorem dL_law_207 : decode cL_law 207 = .ok (.lcmp, 1) := by decide +kernel
theorem dL_law_208 : decode cL_law 208 = .ok (.ifCond .eq 5, 3) := by decide +kernel
theorem dL_law_211 : decode cL_law 211 = .ok (.iconst 0, 1) := by decide +kernel
theorem dL_law_212 : decode cL_law 212 = .ok (.ireturn, 1) := by decide +kernel
theorem dL_law_213 : decode cL_law 213 = .ok (.goto 1213, 3) := by decide +kernel
theorem dL_law_216 : decode cL_law 216 = .ok (.aload_n 1, 1) := by decide +kernel
theorem dL_law_217 : decode cL_law 217 = .ok (.aload_n 0, 1) := by decide +kernel
theorem dL_law_218 : decode cL_law 218 = .ok (.iload 4, 2) := by decide +kernel
theorem dL_law_220 : decode cL_law 220 = .ok (.iconst 1, 1) := by decide +kernel
theorem dL_law_221 : decode cL_law 221 = .ok (.iadd, 1) := by decide +kernel
theorem dL_law_222 : decode cL_law 222 = .ok (.iaload, 1) := by decide +kernel
theorem dL_law_223 : decode cL_law 223 = .ok (.ifCond .eq 7, 3) := by decide +kernel
theorem dL_law_226 : decode cL_law 226 = .ok (.iconst 1, 1) := by decide +kernel
theorem dL_law_227 : decode cL_law 227 = .ok (.goto 4, 3) := by decide +kernel
theorem dL_law_230 : decode cL_law 230 = .ok (.iconst 0, 1) := by decide +kernel
theorem dL_law_231 : decode cL_law 231 = .ok (.aload_n 0, 1) := by decide +kernel
theorem dL_law_232 : decode cL_law 232 = .ok (.iload 4, 2) := by decide +kernel
theorem dL_law_234 : decode cL_law 234 = .ok (.iconst 2, 1) := by decide +kernel
theorem dL_law_235 : decode cL_law 235 = .ok (.iadd, 1) := by decide +kernel
theorem dL_law_236 : decode cL_law 236 = .ok (.iaload, 1) := by decide +kernel
theorem dL_law_237 : decode cL_law 237 = .ok (.aload_n 0, 1) := by decide +kernel
theorem dL_law_238 : decode cL_law 238 = .ok (.iload 4, 2) := by decide +kernel
theorem dL_law_240 : decode cL_law 240 = .ok (.iconst 3, 1) := by decide +kernel
theorem dL_law_241 : decode cL_law 241 = .ok (.iadd, 1) := by decide +kernel
theorem dL_law_242 : decode cL_law 242 = .ok (.iaload, 1) := by decide +kernel
theorem dL_law_243 : decode cL_law 243 = .ok (.aload_n 0, 1) := by decide +kernel
theorem dL_law_244 : decode cL_law 244 = .ok (.iload 4, 2) := by decide +kernel
theorem dL_law_246 : decode cL_law 246 = .ok (.iconst 4, 1) := by decide +kernel
theorem dL_law_247 : decode cL_law 247 = .ok (.iadd, 1) := by decide +kernel
theorem dL_law_248 : decode cL_law 248 = .ok (.iaload, 1) := by decide +kernel
theorem dL_law_249 : decode cL_law 249 = .ok (.ifCond .eq 7, 3) := by decide +kernel
theorem dL_law_252 : decode cL_law 252 = .ok (.iconst 1, 1) := by decide +kernel
theorem dL_law_253 : decode cL_law 253 = .ok (.goto 4, 3) := by decide +kernel
theorem dL_law_256 : decode cL_law 256 = .ok (.iconst 0, 1) := by decide +kernel
theorem dL_law_257 : decode cL_law 257 = .ok (.aload_n 3, 1) := by decide +kernel
theorem dL_law_258 : decode cL_law 258 = .ok (.invokestatic 91, 3) := by decide +kernel
theorem dL_law_261 : decode cL_law 261 = .ok (.istore 5, 2) := by decide +kernel
theorem dL_law_263 : decode cL_law 263 = .ok (.aload_n 2, 1) := by decide +kernel
theorem dL_law_264 : decode cL_law 264 = .ok (.aload_n 0, 1) := by decide +kernel
theorem dL_law_265 : decode cL_law 265 = .ok (.iload 4, 2) := by decide +kernel
theorem dL_law_267 : decode cL_law 267 = .ok (.iconst 1, 1) := by decide +kernel
theorem dL_law_268 : decode cL_law 268 = .ok (.iadd, 1) := by decide +kernel
theorem dL_law_269 : decode cL_law 269 = .ok (.iaload, 1) := by decide +kernel
theorem dL_law_270 : decode cL_law 270 = .ok (.ifCond .eq 7, 3) := by decide +kernel
theorem dL_law_273 : decode cL_law 273 = .ok (.iconst 1, 1) := by decide +kernel
theorem dL_law_274 : decode cL_law 274 = .ok (.goto 4, 3) := by decide +kernel
theorem dL_law_277 : decode cL_law 277 = .ok (.iconst 0, 1) := by decide +kernel
theorem dL_law_278 : decode cL_law 278 = .ok (.aload_n 0, 1) := by decide +kernel
theorem dL_law_279 : decode cL_law 279 = .ok (.iload 4, 2) := by decide +kernel
theorem dL_law_281 : decode cL_law 281 = .ok (.iconst 2, 1) := by decide +kernel
theorem dL_law_282 : decode cL_law 282 = .ok (.iadd, 1) := by decide +kernel
theorem dL_law_283 : decode cL_law 283 = .ok (.iaload, 1) := by decide +kernel
theorem dL_law_284 : decode cL_law 284 = .ok (.aload_n 0, 1) := by decide +kernel
theorem dL_law_285 : decode cL_law 285 = .ok (.iload 4, 2) := by decide +kernel
theorem dL_law_287 : decode cL_law 287 = .ok (.iconst 3, 1) := by decide +kernel
theorem dL_law_288 : decode cL_law 288 = .ok (.iadd, 1) := by decide +kernel
theorem dL_law_289 : decode cL_law 289 = .ok (.iaload, 1) := by decide +kernel
theorem dL_law_290 : decode cL_law 290 = .ok (.aload_n 0, 1) := by decide +kernel
theorem dL_law_291 : decode cL_law 291 = .ok (.iload 4, 2) := by decide +kernel
theorem dL_law_293 : decode cL_law 293 = .ok (.iconst 4, 1) := by decide +kernel
theorem dL_law_294 : decode cL_law 294 = .ok (.iadd, 1) := by decide +kernel
theorem dL_law_295 : decode cL_law 295 = .ok (.iaload, 1) := by decide +kernel
theorem dL_law_296 : decode cL_law 296 = .ok (.ifCond .eq 7, 3) := by decide +kernel
theorem dL_law_299 : decode cL_law 299 = .ok (.iconst 1, 1) := by decide +kernel
theorem dL_law_300 : decode cL_law 300 = .ok (.goto 4, 3) := by decide +kernel
theorem dL_law_303 : decode cL_law 303 = .ok (.iconst 0, 1) := by decide +kernel
theorem dL_law_304 : decode cL_law 304 = .ok (.invokevirtual 94, 3) := by decide +kernel
theorem dL_law_307 : decode cL_law 307 = .ok (.istore 6, 2) := by decide +kernel
theorem dL_law_309 : decode cL_law 309 = .ok (.aload_n 2, 1) := by decide +kernel
theorem dL_law_310 : decode cL_law 310 = .ok (.invokevirtual 88, 3) := by decide +kernel
theorem dL_law_313 : decode cL_law 313 = .ok (.iload 5, 2) := by decide +kernel
theorem dL_law_315 : decode cL_law 315 = .ok (.if_icmp .eq 5, 3) := by decide +kernel
theorem dL_law_318 : decode cL_law 318 = .ok (.iconst 0, 1) := by decide +kernel
theorem dL_law_319 : decode cL_law 319 = .ok (.ireturn, 1) := by decide +kernel
theorem dL_law_320 : decode cL_law 320 = .ok (.iload 5, 2) := by decide +kernel
theorem dL_law_322 : decode cL_law 322 = .ok (.ifCond .ne 15, 3) := by decide +kernel
theorem dL_law_325 : decode cL_law 325 = .ok (.aload_n 3, 1) := by decide +kernel
theorem dL_law_326 : decode cL_law 326 = .ok (.iconst 0, 1) := by decide +kernel
theorem dL_law_327 : decode cL_law 327 = .ok (.laload, 1) := by decide +kernel
theorem dL_law_328 : decode cL_law 328 = .ok (.iload 6, 2) := by decide +kernel
theorem dL_law_330 : decode cL_law 330 = .ok (.i2l, 1) := by decide +kernel
theorem dL_law_331 : decode cL_law 331 = .ok (.lcmp, 1) := by decide +kernel
theorem dL_law_332 : decode cL_law 332 = .ok (.ifCond .eq 5, 3) := by decide +kernel
theorem dL_law_335 : decode cL_law 335 = .ok (.iconst 0, 1) := by decide +kernel
theorem dL_law_336 : decode cL_law 336 = .ok (.ireturn, 1) := by decide +kernel
theorem dL_law_337 : decode cL_law 337 = .ok (.goto 1089, 3) := by decide +kernel
theorem dL_law_340 : decode cL_law 340 = .ok (.aload_n 1, 1) := by decide +kernel
theorem dL_law_341 : decode cL_law 341 = .ok (.aload_n 0, 1) := by decide +kernel
theorem dL_law_342 : decode cL_law 342 = .ok (.iload 4, 2) := by decide +kernel
theorem dL_law_344 : decode cL_law 344 = .ok (.iconst 1, 1) := by decide +kernel
theorem dL_law_345 : decode cL_law 345 = .ok (.iadd, 1) := by decide +kernel
theorem dL_law_346 : decode cL_law 346 = .ok (.iaload, 1) := by decide +kernel
theorem dL_law_347 : decode cL_law 347 = .ok (.ifCond .eq 7, 3) := by decide +kernel
theorem dL_law_350 : decode cL_law 350 = .ok (.iconst 1, 1) := by decide +kernel
theorem dL_law_351 : decode cL_law 351 = .ok (.goto 4, 3) := by decide +kernel
theorem dL_law_354 : decode cL_law 354 = .ok (.iconst 0, 1) := by decide +kernel
theorem dL_law_355 : decode cL_law 355 = .ok (.aload_n 3, 1) := by decide +kernel
theorem dL_law_356 : decode cL_law 356 = .ok (.invokestatic 95, 3) := by decide +kernel
theorem dL_law_359 : decode cL_law 359 = .ok (.istore 5, 2) := by decide +kernel
theorem dL_law_361 : decode cL_law 361 = .ok (.aload_n 2, 1) := by decide +kernel
theorem dL_law_362 : decode cL_law 362 = .ok (.aload_n 0, 1) := by decide +kernel
theorem dL_law_363 : decode cL_law 363 = .ok (.iload 4, 2) := by decide +kernel
theorem dL_law_365 : decode cL_law 365 = .ok (.iconst 1, 1) := by decide +kernel
theorem dL_law_366 : decode cL_law 366 = .ok (.iadd, 1) := by decide +kernel
theorem dL_law_367 : decode cL_law 367 = .ok (.iaload, 1) := by decide +kernel
theorem dL_law_368 : decode cL_law 368 = .ok (.ifCond .eq 7, 3) := by decide +kernel
theorem dL_law_371 : decode cL_law 371 = .ok (.iconst 1, 1) := by decide +kernel
theorem dL_law_372 : decode cL_law 372 = .ok (.goto 4, 3) := by decide +kernel
theorem dL_law_375 : decode cL_law 375 = .ok (.iconst 0, 1) := by decide +kernel
theorem dL_law_376 : decode cL_law 376 = .ok (.invokevirtual 98, 3) := by decide +kernel
theorem dL_law_379 : decode cL_law 379 = .ok (.istore 6, 2) := by decide +kernel
theorem dL_law_381 : decode cL_law 381 = .ok (.aload_n 2, 1) := by decide +kernel
theorem dL_law_382 : decode cL_law 382 = .ok (.invokevirtual 88, 3) := by decide +kernel
theorem dL_law_385 : decode cL_law 385 = .ok (.iload 5, 2) := by decide +kernel
theorem dL_law_387 : decode cL_law 387 = .ok (.if_icmp .eq 5, 3) := by decide +kernel
theorem dL_law_390 : decode cL_law 390 = .ok (.iconst 0, 1) := by decide +kernel
theorem dL_law_391 : decode cL_law 391 = .ok (.ireturn, 1) := by decide +kernel
theorem dL_law_392 : decode cL_law 392 = .ok (.iload 5, 2) := by decide +kernel
theorem dL_law_394 : decode cL_law 394 = .ok (.ifCond .ne 15, 3) := by decide +kernel
theorem dL_law_397 : decode cL_law 397 = .ok (.aload_n 3, 1) := by decide +kernel
theorem dL_law_398 : decode cL_law 398 = .ok (.iconst 0, 1) := by decide +kernel
theorem dL_law_399 : decode cL_law 399 = .ok (.laload, 1) := by decide +kernel
theorem dL_law_400 : decode cL_law 400 = .ok (.iload 6, 2) := by decide +kernel
theorem dL_law_402 : decode cL_law 402 = .ok (.i2l, 1) := by decide +kernel
theorem dL_law_403 : decode cL_law 403 = .ok (.lcmp, 1) := by decide +kernel
theorem dL_law_404 : decode cL_law 404 = .ok (.ifCond .eq 5, 3) := by decide +kernel
theorem dL_law_407 : decode cL_law 407 = .ok (.iconst 0, 1) := by decide +kernel
theorem dL_law_408 : decode cL_law 408 = .ok (.ireturn, 1) := by decide +kernel
theorem dL_law_409 : decode cL_law 409 = .ok (.goto 1017, 3) := by decide +kernel
theorem dL_law_412 : decode cL_law 412 = .ok (.aload_n 1, 1) := by decide +kernel
theorem dL_law_413 : decode cL_law 413 = .ok (.aload_n 0, 1) := by decide +kernel
theorem dL_law_414 : decode cL_law 414 = .ok (.iload 4, 2) := by decide +kernel
theorem dL_law_416 : decode cL_law 416 = .ok (.iconst 1, 1) := by decide +kernel
theorem dL_law_417 : decode cL_law 417 = .ok (.iadd, 1) := by decide +kernel
theorem dL_law_418 : decode cL_law 418 = .ok (.iaload, 1) := by decide +kernel
theorem dL_law_419 : decode cL_law 419 = .ok (.aload_n 0, 1) := by decide +kernel
theorem dL_law_420 : decode cL_law 420 = .ok (.iload 4, 2) := by decide +kernel
theorem dL_law_422 : decode cL_law 422 = .ok (.iconst 2, 1) := by decide +kernel
theorem dL_law_423 : decode cL_law 423 = .ok (.iadd, 1) := by decide +kernel
theorem dL_law_424 : decode cL_law 424 = .ok (.iaload, 1) := by decide +kernel
theorem dL_law_425 : decode cL_law 425 = .ok (.aload_n 0, 1) := by decide +kernel
theorem dL_law_426 : decode cL_law 426 = .ok (.iload 4, 2) := by decide +kernel
theorem dL_law_428 : decode cL_law 428 = .ok (.iconst 3, 1) := by decide +kernel
theorem dL_law_429 : decode cL_law 429 = .ok (.iadd, 1) := by decide +kernel
theorem dL_law_430 : decode cL_law 430 = .ok (.iaload, 1) := by decide +kernel
theorem dL_law_431 : decode cL_law 431 = .ok (.ifCond .eq 7, 3) := by decide +kernel
theorem dL_law_434 : decode cL_law 434 = .ok (.iconst 1, 1) := by decide +kernel
theorem dL_law_435 : decode cL_law 435 = .ok (.goto 4, 3) := by decide +kernel
theorem dL_law_438 : decode cL_law 438 = .ok (.iconst 0, 1) := by decide +kernel
theorem dL_law_439 : decode cL_law 439 = .ok (.aload_n 3, 1) := by decide +kernel
theorem dL_law_440 : decode cL_law 440 = .ok (.invokestatic 99, 3) := by decide +kernel
theorem dL_law_443 : decode cL_law 443 = .ok (.istore 5, 2) := by decide +kernel
theorem dL_law_445 : decode cL_law 445 = .ok (.aload_n 2, 1) := by decide +kernel
theorem dL_law_446 : decode cL_law 446 = .ok (.aload_n 0, 1) := by decide +kernel
theorem dL_law_447 : decode cL_law 447 = .ok (.iload 4, 2) := by decide +kernel
theorem dL_law_449 : decode cL_law 449 = .ok (.iconst 1, 1) := by decide +kernel
theorem dL_law_450 : decode cL_law 450 = .ok (.iadd, 1) := by decide +kernel
theorem dL_law_451 : decode cL_law 451 = .ok (.iaload, 1) := by decide +kernel
theorem dL_law_452 : decode cL_law 452 = .ok (.aload_n 0, 1) := by decide +kernel
theorem dL_law_453 : decode cL_law 453 = .ok (.iload 4, 2) := by decide +kernel
theorem dL_law_455 : decode cL_law 455 = .ok (.iconst 2, 1) := by decide +kernel
theorem dL_law_456 : decode cL_law 456 = .ok (.iadd, 1) := by decide +kernel
theorem dL_law_457 : decode cL_law 457 = .ok (.iaload, 1) := by decide +kernel
theorem dL_law_458 : decode cL_law 458 = .ok (.aload_n 0, 1) := by decide +kernel
theorem dL_law_459 : decode cL_law 459 = .ok (.iload 4, 2) := by decide +kernel
theorem dL_law_461 : decode cL_law 461 = .ok (.iconst 3, 1) := by decide +kernel
theorem dL_law_462 : decode cL_law 462 = .ok (.iadd, 1) := by decide +kernel
theorem dL_law_463 : decode cL_law 463 = .ok (.iaload, 1) := by decide +kernel
theorem dL_law_464 : decode cL_law 464 = .ok (.ifCond .eq 7, 3) := by decide +kernel
theorem dL_law_467 : decode cL_law 467 = .ok (.iconst 1, 1) := by decide +kernel
theorem dL_law_468 : decode cL_law 468 = .ok (.goto 4, 3) := by decide +kernel
theorem dL_law_471 : decode cL_law 471 = .ok (.iconst 0, 1) := by decide +kernel
theorem dL_law_472 : decode cL_law 472 = .ok (.invokevirtual 102, 3) := by decide +kernel
theorem dL_law_475 : decode cL_law 475 = .ok (.istore 6, 2) := by decide +kernel
theorem dL_law_477 : decode cL_law 477 = .ok (.aload_n 2, 1) := by decide +kernel
theorem dL_law_478 : decode cL_law 478 = .ok (.invokevirtual 88, 3) := by decide +kernel
theorem dL_law_481 : decode cL_law 481 = .ok (.iload 5, 2) := by decide +kernel
theorem dL_law_483 : decode cL_law 483 = .ok (.if_icmp .eq 5, 3) := by decide +kernel
theorem dL_law_486 : decode cL_law 486 = .ok (.iconst 0, 1) := by decide +kernel
theorem dL_law_487 : decode cL_law 487 = .ok (.ireturn, 1) := by decide +kernel
theorem dL_law_488 : decode cL_law 488 = .ok (.iload 5, 2) := by decide +kernel
theorem dL_law_490 : decode cL_law 490 = .ok (.ifCond .ne 22, 3) := by decide +kernel
theorem dL_law_493 : decode cL_law 493 = .ok (.aload_n 3, 1) := by decide +kernel
theorem dL_law_494 : decode cL_law 494 = .ok (.iconst 0, 1) := by decide +kernel
theorem dL_law_495 : decode cL_law 495 = .ok (.laload, 1) := by decide +kernel
theorem dL_law_496 : decode cL_law 496 = .ok (.iload 6, 2) := by decide +kernel
theorem dL_law_498 : decode cL_law 498 = .ok (.ifCond .eq 7, 3) := by decide +kernel
theorem dL_law_501 : decode cL_law 501 = .ok (.lconst 1, 1) := by decide +kernel
theorem dL_law_502 : decode cL_law 502 = .ok (.goto 4, 3) := by decide +kernel
theorem dL_law_505 : decode cL_law 505 = .ok (.lconst 0, 1) := by decide +kernel
theorem dL_law_506 : decode cL_law 506 = .ok (.lcmp, 1) := by decide +kernel
theorem dL_law_507 : decode cL_law 507 = .ok (.ifCond .eq 5, 3) := by decide +kernel
theorem dL_law_510 : decode cL_law 510 = .ok (.iconst 0, 1) := by decide +kernel
theorem dL_law_511 : decode cL_law 511 = .ok (.ireturn, 1) := by decide +kernel
theorem dL_law_512 : decode cL_law 512 = .ok (.goto 914, 3) := by decide +kernel
theorem dL_law_515 : decode cL_law 515 = .ok (.aload_n 1, 1) := by decide +kernel
theorem dL_law_516 : decode cL_law 516 = .ok (.aload_n 0, 1) := by decide +kernel
theorem dL_law_517 : decode cL_law 517 = .ok (.iload 4, 2) := by decide +kernel
theorem dL_law_519 : decode cL_law 519 = .ok (.iconst 1, 1) := by decide +kernel
theorem dL_law_520 : decode cL_law 520 = .ok (.iadd, 1) := by decide +kernel
theorem dL_law_521 : decode cL_law 521 = .ok (.iaload, 1) := by decide +kernel
theorem dL_law_522 : decode cL_law 522 = .ok (.aload_n 0, 1) := by decide +kernel
theorem dL_law_523 : decode cL_law 523 = .ok (.iload 4, 2) := by decide +kernel
theorem dL_law_525 : decode cL_law 525 = .ok (.iconst 2, 1) := by decide +kernel
theorem dL_law_526 : decode cL_law 526 = .ok (.iadd, 1) := by decide +kernel
theorem dL_law_527 : decode cL_law 527 = .ok (.iaload, 1) := by decide +kernel
theorem dL_law_528 : decode cL_law 528 = .ok (.aload_n 0, 1) := by decide +kernel
theorem dL_law_529 : decode cL_law 529 = .ok (.iload 4, 2) := by decide +kernel
theorem dL_law_531 : decode cL_law 531 = .ok (.iconst 3, 1) := by decide +kernel
theorem dL_law_532 : decode cL_law 532 = .ok (.iadd, 1) := by decide +kernel
theorem dL_law_533 : decode cL_law 533 = .ok (.iaload, 1) := by decide +kernel
theorem dL_law_534 : decode cL_law 534 = .ok (.aload_n 3, 1) := by decide +kernel
theorem dL_law_535 : decode cL_law 535 = .ok (.invokestatic 103, 3) := by decide +kernel
theorem dL_law_538 : decode cL_law 538 = .ok (.istore 5, 2) := by decide +kernel
theorem dL_law_540 : decode cL_law 540 = .ok (.aload_n 2, 1) := by decide +kernel
theorem dL_law_541 : decode cL_law 541 = .ok (.aload_n 0, 1) := by decide +kernel
theorem dL_law_542 : decode cL_law 542 = .ok (.iload 4, 2) := by decide +kernel
theorem dL_law_544 : decode cL_law 544 = .ok (.iconst 1, 1) := by decide +kernel
theorem dL_law_545 : decode cL_law 545 = .ok (.iadd, 1) := by decide +kernel
theorem dL_law_546 : decode cL_law 546 = .ok (.iaload, 1) := by decide +kernel
theorem dL_law_547 : decode cL_law 547 = .ok (.aload_n 0, 1) := by decide +kernel
theorem dL_law_548 : decode cL_law 548 = .ok (.iload 4, 2) := by decide +kernel
theorem dL_law_550 : decode cL_law 550 = .ok (.iconst 2, 1) := by decide +kernel
theorem dL_law_551 : decode cL_law 551 = .ok (.iadd, 1) := by decide +kernel
theorem dL_law_552 : decode cL_law 552 = .ok (.iaload, 1) := by decide +kernel
theorem dL_law_553 : decode cL_law 553 = .ok (.aload_n 0, 1) := by decide +kernel
theorem dL_law_554 : decode cL_law 554 = .ok (.iload 4, 2) := by decide +kernel
theorem dL_law_556 : decode cL_law 556 = .ok (.iconst 3, 1) := by decide +kernel
theorem dL_law_557 : decode cL_law 557 = .ok (.iadd, 1) := by decide +kernel
end
section
theorem dL_law_558 : decode cL_law 558 = .ok (.iaload, 1) := by decide +kernel
theorem dL_law_559 : decode cL_law 559 = .ok (.invokevirtual 106, 3) := by decide +kernel
theorem dL_law_562 : decode cL_law 562 = .ok (.istore 6, 2) := by decide +kernel
theorem dL_law_564 : decode cL_law 564 = .ok (.aload_n 2, 1) := by decide +kernel
theorem dL_law_565 : decode cL_law 565 = .ok (.invokevirtual 88, 3) := by decide +kernel
theorem dL_law_568 : decode cL_law 568 = .ok (.iload 5, 2) := by decide +kernel
theorem dL_law_570 : decode cL_law 570 = .ok (.if_icmp .eq 5, 3) := by decide +kernel
theorem dL_law_573 : decode cL_law 573 = .ok (.iconst 0, 1) := by decide +kernel
theorem dL_law_574 : decode cL_law 574 = .ok (.ireturn, 1) := by decide +kernel
theorem dL_law_575 : decode cL_law 575 = .ok (.iload 5, 2) := by decide +kernel
theorem dL_law_577 : decode cL_law 577 = .ok (.ifCond .ne 15, 3) := by decide +kernel
theorem dL_law_580 : decode cL_law 580 = .ok (.aload_n 3, 1) := by decide +kernel
theorem dL_law_581 : decode cL_law 581 = .ok (.iconst 0, 1) := by decide +kernel
theorem dL_law_582 : decode cL_law 582 = .ok (.laload, 1) := by decide +kernel
theorem dL_law_583 : decode cL_law 583 = .ok (.iload 6, 2) := by decide +kernel
theorem dL_law_585 : decode cL_law 585 = .ok (.i2l, 1) := by decide +kernel
theorem dL_law_586 : decode cL_law 586 = .ok (.lcmp, 1) := by decide +kernel
theorem dL_law_587 : decode cL_law 587 = .ok (.ifCond .eq 5, 3) := by decide +kernel
theorem dL_law_590 : decode cL_law 590 = .ok (.iconst 0, 1) := by decide +kernel
theorem dL_law_591 : decode cL_law 591 = .ok (.ireturn, 1) := by decide +kernel
theorem dL_law_592 : decode cL_law 592 = .ok (.goto 834, 3) := by decide +kernel
theorem dL_law_595 : decode cL_law 595 = .ok (.aload_n 1, 1) := by decide +kernel
theorem dL_law_596 : decode cL_law 596 = .ok (.aload_n 0, 1) := by decide +kernel
theorem dL_law_597 : decode cL_law 597 = .ok (.iload 4, 2) := by decide +kernel
theorem dL_law_599 : decode cL_law 599 = .ok (.iconst 1, 1) := by decide +kernel
theorem dL_law_600 : decode cL_law 600 = .ok (.iadd, 1) := by decide +kernel
theorem dL_law_601 : decode cL_law 601 = .ok (.iaload, 1) := by decide +kernel
theorem dL_law_602 : decode cL_law 602 = .ok (.ifCond .eq 7, 3) := by decide +kernel
theorem dL_law_605 : decode cL_law 605 = .ok (.iconst 1, 1) := by decide +kernel
theorem dL_law_606 : decode cL_law 606 = .ok (.goto 4, 3) := by decide +kernel
theorem dL_law_609 : decode cL_law 609 = .ok (.iconst 0, 1) := by decide +kernel
theorem dL_law_610 : decode cL_law 610 = .ok (.aload_n 0, 1) := by decide +kernel
theorem dL_law_611 : decode cL_law 611 = .ok (.iload 4, 2) := by decide +kernel
theorem dL_law_613 : decode cL_law 613 = .ok (.iconst 2, 1) := by decide +kernel
theorem dL_law_614 : decode cL_law 614 = .ok (.iadd, 1) := by decide +kernel
theorem dL_law_615 : decode cL_law 615 = .ok (.iaload, 1) := by decide +kernel
theorem dL_law_616 : decode cL_law 616 = .ok (.aload_n 0, 1) := by decide +kernel
theorem dL_law_617 : decode cL_law 617 = .ok (.iload 4, 2) := by decide +kernel
theorem dL_law_619 : decode cL_law 619 = .ok (.iconst 3, 1) := by decide +kernel
theorem dL_law_620 : decode cL_law 620 = .ok (.iadd, 1) := by decide +kernel
theorem dL_law_621 : decode cL_law 621 = .ok (.iaload, 1) := by decide +kernel
theorem dL_law_622 : decode cL_law 622 = .ok (.aload_n 3, 1) := by decide +kernel
theorem dL_law_623 : decode cL_law 623 = .ok (.invokestatic 107, 3) := by decide +kernel
theorem dL_law_626 : decode cL_law 626 = .ok (.istore 5, 2) := by decide +kernel
theorem dL_law_628 : decode cL_law 628 = .ok (.aload_n 2, 1) := by decide +kernel
theorem dL_law_629 : decode cL_law 629 = .ok (.aload_n 0, 1) := by decide +kernel
theorem dL_law_630 : decode cL_law 630 = .ok (.iload 4, 2) := by decide +kernel
theorem dL_law_632 : decode cL_law 632 = .ok (.iconst 1, 1) := by decide +kernel
theorem dL_law_633 : decode cL_law 633 = .ok (.iadd, 1) := by decide +kernel
theorem dL_law_634 : decode cL_law 634 = .ok (.iaload, 1) := by decide +kernel
theorem dL_law_635 : decode cL_law 635 = .ok (.ifCond .eq 7, 3) := by decide +kernel
theorem dL_law_638 : decode cL_law 638 = .ok (.iconst 1, 1) := by decide +kernel
theorem dL_law_639 : decode cL_law 639 = .ok (.goto 4, 3) := by decide +kernel
theorem dL_law_642 : decode cL_law 642 = .ok (.iconst 0, 1) := by decide +kernel
theorem dL_law_643 : decode cL_law 643 = .ok (.aload_n 0, 1) := by decide +kernel
theorem dL_law_644 : decode cL_law 644 = .ok (.iload 4, 2) := by decide +kernel
theorem dL_law_646 : decode cL_law 646 = .ok (.iconst 2, 1) := by decide +kernel
theorem dL_law_647 : decode cL_law 647 = .ok (.iadd, 1) := by decide +kernel
theorem dL_law_648 : decode cL_law 648 = .ok (.iaload, 1) := by decide +kernel
theorem dL_law_649 : decode cL_law 649 = .ok (.aload_n 0, 1) := by decide +kernel
theorem dL_law_650 : decode cL_law 650 = .ok (.iload 4, 2) := by decide +kernel
theorem dL_law_652 : decode cL_law 652 = .ok (.iconst 3, 1) := by decide +kernel
theorem dL_law_653 : decode cL_law 653 = .ok (.iadd, 1) := by decide +kernel
theorem dL_law_654 : decode cL_law 654 = .ok (.iaload, 1) := by decide +kernel
theorem dL_law_655 : decode cL_law 655 = .ok (.invokevirtual 109, 3) := by decide +kernel
theorem dL_law_658 : decode cL_law 658 = .ok (.istore 6, 2) := by decide +kernel
theorem dL_law_660 : decode cL_law 660 = .ok (.aload_n 2, 1) := by decide +kernel
theorem dL_law_661 : decode cL_law 661 = .ok (.invokevirtual 88, 3) := by decide +kernel
theorem dL_law_664 : decode cL_law 664 = .ok (.iload 5, 2) := by decide +kernel
theorem dL_law_666 : decode cL_law 666 = .ok (.if_icmp .eq 5, 3) := by decide +kernel
theorem dL_law_669 : decode cL_law 669 = .ok (.iconst 0, 1) := by decide +kernel
theorem dL_law_670 : decode cL_law 670 = .ok (.ireturn, 1) := by decide +kernel
theorem dL_law_671 : decode cL_law 671 = .ok (.iload 5, 2) := by decide +kernel
theorem dL_law_673 : decode cL_law 673 = .ok (.ifCond .ne 15, 3) := by decide +kernel
theorem dL_law_676 : decode cL_law 676 = .ok (.aload_n 3, 1) := by decide +kernel
theorem dL_law_677 : decode cL_law 677 = .ok (.iconst 0, 1) := by decide +kernel
theorem dL_law_678 : decode cL_law 678 = .ok (.laload, 1) := by decide +kernel
theorem dL_law_679 : decode cL_law 679 = .ok (.iload 6, 2) := by decide +kernel
theorem dL_law_681 : decode cL_law 681 = .ok (.i2l, 1) := by decide +kernel
theorem dL_law_682 : decode cL_law 682 = .ok (.lcmp, 1) := by decide +kernel
theorem dL_law_683 : decode cL_law 683 = .ok (.ifCond .eq 5, 3) := by decide +kernel
theorem dL_law_686 : decode cL_law 686 = .ok (.iconst 0, 1) := by decide +kernel
theorem dL_law_687 : decode cL_law 687 = .ok (.ireturn, 1) := by decide +kernel
theorem dL_law_688 : decode cL_law 688 = .ok (.goto 738, 3) := by decide +kernel
theorem dL_law_691 : decode cL_law 691 = .ok (.aload_n 1, 1) := by decide +kernel
theorem dL_law_692 : decode cL_law 692 = .ok (.aload_n 0, 1) := by decide +kernel
theorem dL_law_693 : decode cL_law 693 = .ok (.iload 4, 2) := by decide +kernel
theorem dL_law_695 : decode cL_law 695 = .ok (.iconst 1, 1) := by decide +kernel
theorem dL_law_696 : decode cL_law 696 = .ok (.iadd, 1) := by decide +kernel
theorem dL_law_697 : decode cL_law 697 = .ok (.iaload, 1) := by decide +kernel
theorem dL_law_698 : decode cL_law 698 = .ok (.aload_n 3, 1) := by decide +kernel
theorem dL_law_699 : decode cL_law 699 = .ok (.invokestatic 110, 3) := by decide +kernel
theorem dL_law_702 : decode cL_law 702 = .ok (.istore 5, 2) := by decide +kernel
theorem dL_law_704 : decode cL_law 704 = .ok (.aload_n 2, 1) := by decide +kernel
theorem dL_law_705 : decode cL_law 705 = .ok (.aload_n 0, 1) := by decide +kernel
theorem dL_law_706 : decode cL_law 706 = .ok (.iload 4, 2) := by decide +kernel
theorem dL_law_708 : decode cL_law 708 = .ok (.iconst 1, 1) := by decide +kernel
theorem dL_law_709 : decode cL_law 709 = .ok (.iadd, 1) := by decide +kernel
theorem dL_law_710 : decode cL_law 710 = .ok (.iaload, 1) := by decide +kernel
theorem dL_law_711 : decode cL_law 711 = .ok (.invokevirtual 113, 3) := by decide +kernel
theorem dL_law_714 : decode cL_law 714 = .ok (.istore 6, 2) := by decide +kernel
theorem dL_law_716 : decode cL_law 716 = .ok (.aload_n 2, 1) := by decide +kernel
theorem dL_law_717 : decode cL_law 717 = .ok (.invokevirtual 88, 3) := by decide +kernel
theorem dL_law_720 : decode cL_law 720 = .ok (.iload 5, 2) := by decide +kernel
theorem dL_law_722 : decode cL_law 722 = .ok (.if_icmp .eq 5, 3) := by decide +kernel
theorem dL_law_725 : decode cL_law 725 = .ok (.iconst 0, 1) := by decide +kernel
theorem dL_law_726 : decode cL_law 726 = .ok (.ireturn, 1) := by decide +kernel
theorem dL_law_727 : decode cL_law 727 = .ok (.iload 5, 2) := by decide +kernel
theorem dL_law_729 : decode cL_law 729 = .ok (.ifCond .ne 15, 3) := by decide +kernel
theorem dL_law_732 : decode cL_law 732 = .ok (.aload_n 3, 1) := by decide +kernel
theorem dL_law_733 : decode cL_law 733 = .ok (.iconst 0, 1) := by decide +kernel
theorem dL_law_734 : decode cL_law 734 = .ok (.laload, 1) := by decide +kernel
theorem dL_law_735 : decode cL_law 735 = .ok (.iload 6, 2) := by decide +kernel
theorem dL_law_737 : decode cL_law 737 = .ok (.i2l, 1) := by decide +kernel
theorem dL_law_738 : decode cL_law 738 = .ok (.lcmp, 1) := by decide +kernel
theorem dL_law_739 : decode cL_law 739 = .ok (.ifCond .eq 5, 3) := by decide +kernel
theorem dL_law_742 : decode cL_law 742 = .ok (.iconst 0, 1) := by decide +kernel
theorem dL_law_743 : decode cL_law 743 = .ok (.ireturn, 1) := by decide +kernel
theorem dL_law_744 : decode cL_law 744 = .ok (.goto 682, 3) := by decide +kernel
theorem dL_law_747 : decode cL_law 747 = .ok (.aload_n 1, 1) := by decide +kernel
theorem dL_law_748 : decode cL_law 748 = .ok (.aload_n 0, 1) := by decide +kernel
theorem dL_law_749 : decode cL_law 749 = .ok (.iload 4, 2) := by decide +kernel
theorem dL_law_751 : decode cL_law 751 = .ok (.iconst 1, 1) := by decide +kernel
theorem dL_law_752 : decode cL_law 752 = .ok (.iadd, 1) := by decide +kernel
theorem dL_law_753 : decode cL_law 753 = .ok (.iaload, 1) := by decide +kernel
theorem dL_law_754 : decode cL_law 754 = .ok (.invokestatic 114, 3) := by decide +kernel
theorem dL_law_757 : decode cL_law 757 = .ok (.istore 5, 2) := by decide +kernel
theorem dL_law_759 : decode cL_law 759 = .ok (.aload_n 2, 1) := by decide +kernel
theorem dL_law_760 : decode cL_law 760 = .ok (.aload_n 0, 1) := by decide +kernel
theorem dL_law_761 : decode cL_law 761 = .ok (.iload 4, 2) := by decide +kernel
theorem dL_law_763 : decode cL_law 763 = .ok (.iconst 1, 1) := by decide +kernel
theorem dL_law_764 : decode cL_law 764 = .ok (.iadd, 1) := by decide +kernel
theorem dL_law_765 : decode cL_law 765 = .ok (.iaload, 1) := by decide +kernel
theorem dL_law_766 : decode cL_law 766 = .ok (.invokevirtual 117, 3) := by decide +kernel
theorem dL_law_769 : decode cL_law 769 = .ok (.aload_n 2, 1) := by decide +kernel
theorem dL_law_770 : decode cL_law 770 = .ok (.invokevirtual 88, 3) := by decide +kernel
theorem dL_law_773 : decode cL_law 773 = .ok (.iload 5, 2) := by decide +kernel
theorem dL_law_775 : decode cL_law 775 = .ok (.if_icmp .eq 5, 3) := by decide +kernel
theorem dL_law_778 : decode cL_law 778 = .ok (.iconst 0, 1) := by decide +kernel
theorem dL_law_779 : decode cL_law 779 = .ok (.ireturn, 1) := by decide +kernel
theorem dL_law_780 : decode cL_law 780 = .ok (.goto 646, 3) := by decide +kernel
theorem dL_law_783 : decode cL_law 783 = .ok (.aload_n 1, 1) := by decide +kernel
theorem dL_law_784 : decode cL_law 784 = .ok (.aload_n 0, 1) := by decide +kernel
theorem dL_law_785 : decode cL_law 785 = .ok (.iload 4, 2) := by decide +kernel
theorem dL_law_787 : decode cL_law 787 = .ok (.iconst 1, 1) := by decide +kernel
theorem dL_law_788 : decode cL_law 788 = .ok (.iadd, 1) := by decide +kernel
theorem dL_law_789 : decode cL_law 789 = .ok (.iaload, 1) := by decide +kernel
theorem dL_law_790 : decode cL_law 790 = .ok (.aload_n 0, 1) := by decide +kernel
theorem dL_law_791 : decode cL_law 791 = .ok (.iload 4, 2) := by decide +kernel
theorem dL_law_793 : decode cL_law 793 = .ok (.iconst 2, 1) := by decide +kernel
theorem dL_law_794 : decode cL_law 794 = .ok (.iadd, 1) := by decide +kernel
theorem dL_law_795 : decode cL_law 795 = .ok (.iaload, 1) := by decide +kernel
theorem dL_law_796 : decode cL_law 796 = .ok (.aload_n 3, 1) := by decide +kernel
theorem dL_law_797 : decode cL_law 797 = .ok (.invokestatic 118, 3) := by decide +kernel
theorem dL_law_800 : decode cL_law 800 = .ok (.istore 5, 2) := by decide +kernel
theorem dL_law_802 : decode cL_law 802 = .ok (.aload_n 2, 1) := by decide +kernel
theorem dL_law_803 : decode cL_law 803 = .ok (.aload_n 0, 1) := by decide +kernel
theorem dL_law_804 : decode cL_law 804 = .ok (.iload 4, 2) := by decide +kernel
theorem dL_law_806 : decode cL_law 806 = .ok (.iconst 1, 1) := by decide +kernel
theorem dL_law_807 : decode cL_law 807 = .ok (.iadd, 1) := by decide +kernel
theorem dL_law_808 : decode cL_law 808 = .ok (.iaload, 1) := by decide +kernel
theorem dL_law_809 : decode cL_law 809 = .ok (.aload_n 0, 1) := by decide +kernel
theorem dL_law_810 : decode cL_law 810 = .ok (.iload 4, 2) := by decide +kernel
theorem dL_law_812 : decode cL_law 812 = .ok (.iconst 2, 1) := by decide +kernel
theorem dL_law_813 : decode cL_law 813 = .ok (.iadd, 1) := by decide +kernel
theorem dL_law_814 : decode cL_law 814 = .ok (.iaload, 1) := by decide +kernel
theorem dL_law_815 : decode cL_law 815 = .ok (.invokevirtual 121, 3) := by decide +kernel
theorem dL_law_818 : decode cL_law 818 = .ok (.istore 6, 2) := by decide +kernel
theorem dL_law_820 : decode cL_law 820 = .ok (.aload_n 2, 1) := by decide +kernel
theorem dL_law_821 : decode cL_law 821 = .ok (.invokevirtual 88, 3) := by decide +kernel
theorem dL_law_824 : decode cL_law 824 = .ok (.iload 5, 2) := by decide +kernel
theorem dL_law_826 : decode cL_law 826 = .ok (.if_icmp .eq 5, 3) := by decide +kernel
theorem dL_law_829 : decode cL_law 829 = .ok (.iconst 0, 1) := by decide +kernel
theorem dL_law_830 : decode cL_law 830 = .ok (.ireturn, 1) := by decide +kernel
theorem dL_law_831 : decode cL_law 831 = .ok (.iload 5, 2) := by decide +kernel
theorem dL_law_833 : decode cL_law 833 = .ok (.ifCond .ne 15, 3) := by decide +kernel
theorem dL_law_836 : decode cL_law 836 = .ok (.aload_n 3, 1) := by decide +kernel
theorem dL_law_837 : decode cL_law 837 = .ok (.iconst 0, 1) := by decide +kernel
theorem dL_law_838 : decode cL_law 838 = .ok (.laload, 1) := by decide +kernel
theorem dL_law_839 : decode cL_law 839 = .ok (.iload 6, 2) := by decide +kernel
theorem dL_law_841 : decode cL_law 841 = .ok (.i2l, 1) := by decide +kernel
theorem dL_law_842 : decode cL_law 842 = .ok (.lcmp, 1) := by decide +kernel
theorem dL_law_843 : decode cL_law 843 = .ok (.ifCond .eq 5, 3) := by decide +kernel
theorem dL_law_846 : decode cL_law 846 = .ok (.iconst 0, 1) := by decide +kernel
theorem dL_law_847 : decode cL_law 847 = .ok (.ireturn, 1) := by decide +kernel
theorem dL_law_848 : decode cL_law 848 = .ok (.goto 578, 3) := by decide +kernel
theorem dL_law_851 : decode cL_law 851 = .ok (.aload_n 1, 1) := by decide +kernel
theorem dL_law_852 : decode cL_law 852 = .ok (.aload_n 0, 1) := by decide +kernel
theorem dL_law_853 : decode cL_law 853 = .ok (.iload 4, 2) := by decide +kernel
theorem dL_law_855 : decode cL_law 855 = .ok (.iconst 1, 1) := by decide +kernel
theorem dL_law_856 : decode cL_law 856 = .ok (.iadd, 1) := by decide +kernel
theorem dL_law_857 : decode cL_law 857 = .ok (.iaload, 1) := by decide +kernel
theorem dL_law_858 : decode cL_law 858 = .ok (.aload_n 0, 1) := by decide +kernel
theorem dL_law_859 : decode cL_law 859 = .ok (.iload 4, 2) := by decide +kernel
theorem dL_law_861 : decode cL_law 861 = .ok (.iconst 2, 1) := by decide +kernel
theorem dL_law_862 : decode cL_law 862 = .ok (.iadd, 1) := by decide +kernel
theorem dL_law_863 : decode cL_law 863 = .ok (.iaload, 1) := by decide +kernel
theorem dL_law_864 : decode cL_law 864 = .ok (.aload_n 0, 1) := by decide +kernel
theorem dL_law_865 : decode cL_law 865 = .ok (.iload 4, 2) := by decide +kernel
theorem dL_law_867 : decode cL_law 867 = .ok (.iconst 3, 1) := by decide +kernel
theorem dL_law_868 : decode cL_law 868 = .ok (.iadd, 1) := by decide +kernel
theorem dL_law_869 : decode cL_law 869 = .ok (.iaload, 1) := by decide +kernel
theorem dL_law_870 : decode cL_law 870 = .ok (.ifCond .eq 7, 3) := by decide +kernel
theorem dL_law_873 : decode cL_law 873 = .ok (.iconst 1, 1) := by decide +kernel
theorem dL_law_874 : decode cL_law 874 = .ok (.goto 4, 3) := by decide +kernel
theorem dL_law_877 : decode cL_law 877 = .ok (.iconst 0, 1) := by decide +kernel
theorem dL_law_878 : decode cL_law 878 = .ok (.aload_n 3, 1) := by decide +kernel
theorem dL_law_879 : decode cL_law 879 = .ok (.invokestatic 122, 3) := by decide +kernel
theorem dL_law_882 : decode cL_law 882 = .ok (.istore 5, 2) := by decide +kernel
theorem dL_law_884 : decode cL_law 884 = .ok (.aload_n 2, 1) := by decide +kernel
theorem dL_law_885 : decode cL_law 885 = .ok (.aload_n 0, 1) := by decide +kernel
theorem dL_law_886 : decode cL_law 886 = .ok (.iload 4, 2) := by decide +kernel
theorem dL_law_888 : decode cL_law 888 = .ok (.iconst 1, 1) := by decide +kernel
theorem dL_law_889 : decode cL_law 889 = .ok (.iadd, 1) := by decide +kernel
theorem dL_law_890 : decode cL_law 890 = .ok (.iaload, 1) := by decide +kernel
theorem dL_law_891 : decode cL_law 891 = .ok (.aload_n 0, 1) := by decide +kernel
theorem dL_law_892 : decode cL_law 892 = .ok (.iload 4, 2) := by decide +kernel
theorem dL_law_894 : decode cL_law 894 = .ok (.iconst 2, 1) := by decide +kernel
theorem dL_law_895 : decode cL_law 895 = .ok (.iadd, 1) := by decide +kernel
theorem dL_law_896 : decode cL_law 896 = .ok (.iaload, 1) := by decide +kernel
theorem dL_law_897 : decode cL_law 897 = .ok (.aload_n 0, 1) := by decide +kernel
theorem dL_law_898 : decode cL_law 898 = .ok (.iload 4, 2) := by decide +kernel
theorem dL_law_900 : decode cL_law 900 = .ok (.iconst 3, 1) := by decide +kernel
theorem dL_law_901 : decode cL_law 901 = .ok (.iadd, 1) := by decide +kernel
theorem dL_law_902 : decode cL_law 902 = .ok (.iaload, 1) := by decide +kernel
theorem dL_law_903 : decode cL_law 903 = .ok (.ifCond .eq 7, 3) := by decide +kernel
theorem dL_law_906 : decode cL_law 906 = .ok (.iconst 1, 1) := by decide +kernel
theorem dL_law_907 : decode cL_law 907 = .ok (.goto 4, 3) := by decide +kernel
theorem dL_law_910 : decode cL_law 910 = .ok (.iconst 0, 1) := by decide +kernel
theorem dL_law_911 : decode cL_law 911 = .ok (.invokevirtual 124, 3) := by decide +kernel
theorem dL_law_914 : decode cL_law 914 = .ok (.istore 6, 2) := by decide +kernel
theorem dL_law_916 : decode cL_law 916 = .ok (.aload_n 2, 1) := by decide +kernel
theorem dL_law_917 : decode cL_law 917 = .ok (.invokevirtual 88, 3) := by decide +kernel
theorem dL_law_920 : decode cL_law 920 = .ok (.iload 5, 2) := by decide +kernel
theorem dL_law_922 : decode cL_law 922 = .ok (.if_icmp .eq 5, 3) := by decide +kernel
theorem dL_law_925 : decode cL_law 925 = .ok (.iconst 0, 1) := by decide +kernel
theorem dL_law_926 : decode cL_law 926 = .ok (.ireturn, 1) := by decide +kernel
theorem dL_law_927 : decode cL_law 927 = .ok (.iload 5, 2) := by decide +kernel
theorem dL_law_929 : decode cL_law 929 = .ok (.ifCond .ne 15, 3) := by decide +kernel
theorem dL_law_932 : decode cL_law 932 = .ok (.aload_n 3, 1) := by decide +kernel
theorem dL_law_933 : decode cL_law 933 = .ok (.iconst 0, 1) := by decide +kernel
theorem dL_law_934 : decode cL_law 934 = .ok (.laload, 1) := by decide +kernel
theorem dL_law_935 : decode cL_law 935 = .ok (.iload 6, 2) := by decide +kernel
theorem dL_law_937 : decode cL_law 937 = .ok (.i2l, 1) := by decide +kernel
theorem dL_law_938 : decode cL_law 938 = .ok (.lcmp, 1) := by decide +kernel
theorem dL_law_939 : decode cL_law 939 = .ok (.ifCond .eq 5, 3) := by decide +kernel
theorem dL_law_942 : decode cL_law 942 = .ok (.iconst 0, 1) := by decide +kernel
theorem dL_law_943 : decode cL_law 943 = .ok (.ireturn, 1) := by decide +kernel
theorem dL_law_944 : decode cL_law 944 = .ok (.goto 482, 3) := by decide +kernel
theorem dL_law_947 : decode cL_law 947 = .ok (.aload_n 1, 1) := by decide +kernel
theorem dL_law_948 : decode cL_law 948 = .ok (.aload_n 0, 1) := by decide +kernel
theorem dL_law_949 : decode cL_law 949 = .ok (.iload 4, 2) := by decide +kernel
theorem dL_law_951 : decode cL_law 951 = .ok (.iconst 1, 1) := by decide +kernel
theorem dL_law_952 : decode cL_law 952 = .ok (.iadd, 1) := by decide +kernel
theorem dL_law_953 : decode cL_law 953 = .ok (.iaload, 1) := by decide +kernel
theorem dL_law_954 : decode cL_law 954 = .ok (.aload_n 0, 1) := by decide +kernel
theorem dL_law_955 : decode cL_law 955 = .ok (.iload 4, 2) := by decide +kernel
theorem dL_law_957 : decode cL_law 957 = .ok (.iconst 2, 1) := by decide +kernel
theorem dL_law_958 : decode cL_law 958 = .ok (.iadd, 1) := by decide +kernel
theorem dL_law_959 : decode cL_law 959 = .ok (.iaload, 1) := by decide +kernel
theorem dL_law_960 : decode cL_law 960 = .ok (.ifCond .eq 7, 3) := by decide +kernel
theorem dL_law_963 : decode cL_law 963 = .ok (.iconst 1, 1) := by decide +kernel
theorem dL_law_964 : decode cL_law 964 = .ok (.goto 4, 3) := by decide +kernel
theorem dL_law_967 : decode cL_law 967 = .ok (.iconst 0, 1) := by decide +kernel
theorem dL_law_968 : decode cL_law 968 = .ok (.aload_n 3, 1) := by decide +kernel
theorem dL_law_969 : decode cL_law 969 = .ok (.invokestatic 125, 3) := by decide +kernel
theorem dL_law_972 : decode cL_law 972 = .ok (.istore 5, 2) := by decide +kernel
theorem dL_law_974 : decode cL_law 974 = .ok (.aload_n 2, 1) := by decide +kernel
theorem dL_law_975 : decode cL_law 975 = .ok (.aload_n 0, 1) := by decide +kernel
theorem dL_law_976 : decode cL_law 976 = .ok (.iload 4, 2) := by decide +kernel
theorem dL_law_978 : decode cL_law 978 = .ok (.iconst 1, 1) := by decide +kernel
theorem dL_law_979 : decode cL_law 979 = .ok (.iadd, 1) := by decide +kernel
theorem dL_law_980 : decode cL_law 980 = .ok (.iaload, 1) := by decide +kernel
theorem dL_law_981 : decode cL_law 981 = .ok (.aload_n 0, 1) := by decide +kernel
theorem dL_law_982 : decode cL_law 982 = .ok (.iload 4, 2) := by decide +kernel
theorem dL_law_984 : decode cL_law 984 = .ok (.iconst 2, 1) := by decide +kernel
theorem dL_law_985 : decode cL_law 985 = .ok (.iadd, 1) := by decide +kernel
theorem dL_law_986 : decode cL_law 986 = .ok (.iaload, 1) := by decide +kernel
theorem dL_law_987 : decode cL_law 987 = .ok (.ifCond .eq 7, 3) := by decide +kernel
theorem dL_law_990 : decode cL_law 990 = .ok (.iconst 1, 1) := by decide +kernel
theorem dL_law_991 : decode cL_law 991 = .ok (.goto 4, 3) := by decide +kernel
theorem dL_law_994 : decode cL_law 994 = .ok (.iconst 0, 1) := by decide +kernel
theorem dL_law_995 : decode cL_law 995 = .ok (.invokevirtual 128, 3) := by decide +kernel
theorem dL_law_998 : decode cL_law 998 = .ok (.istore 6, 2) := by decide +kernel
theorem dL_law_1000 : decode cL_law 1000 = .ok (.aload_n 2, 1) := by decide +kernel
theorem dL_law_1001 : decode cL_law 1001 = .ok (.invokevirtual 88, 3) := by decide +kernel
theorem dL_law_1004 : decode cL_law 1004 = .ok (.iload 5, 2) := by decide +kernel
theorem dL_law_1006 : decode cL_law 1006 = .ok (.if_icmp .eq 5, 3) := by decide +kernel
theorem dL_law_1009 : decode cL_law 1009 = .ok (.iconst 0, 1) := by decide +kernel
theorem dL_law_1010 : decode cL_law 1010 = .ok (.ireturn, 1) := by decide +kernel
theorem dL_law_1011 : decode cL_law 1011 = .ok (.iload 5, 2) := by decide +kernel
theorem dL_law_1013 : decode cL_law 1013 = .ok (.ifCond .ne 15, 3) := by decide +kernel
theorem dL_law_1016 : decode cL_law 1016 = .ok (.aload_n 3, 1) := by decide +kernel
theorem dL_law_1017 : decode cL_law 1017 = .ok (.iconst 0, 1) := by decide +kernel
theorem dL_law_1018 : decode cL_law 1018 = .ok (.laload, 1) := by decide +kernel
theorem dL_law_1019 : decode cL_law 1019 = .ok (.iload 6, 2) := by decide +kernel
theorem dL_law_1021 : decode cL_law 1021 = .ok (.i2l, 1) := by decide +kernel
theorem dL_law_1022 : decode cL_law 1022 = .ok (.lcmp, 1) := by decide +kernel
theorem dL_law_1023 : decode cL_law 1023 = .ok (.ifCond .eq 5, 3) := by decide +kernel
theorem dL_law_1026 : decode cL_law 1026 = .ok (.iconst 0, 1) := by decide +kernel
theorem dL_law_1027 : decode cL_law 1027 = .ok (.ireturn, 1) := by decide +kernel
theorem dL_law_1028 : decode cL_law 1028 = .ok (.goto 398, 3) := by decide +kernel
theorem dL_law_1031 : decode cL_law 1031 = .ok (.aload_n 1, 1) := by decide +kernel
theorem dL_law_1032 : decode cL_law 1032 = .ok (.aload_n 3, 1) := by decide +kernel
theorem dL_law_1033 : decode cL_law 1033 = .ok (.invokestatic 129, 3) := by decide +kernel
theorem dL_law_1036 : decode cL_law 1036 = .ok (.istore 5, 2) := by decide +kernel
theorem dL_law_1038 : decode cL_law 1038 = .ok (.aload_n 2, 1) := by decide +kernel
theorem dL_law_1039 : decode cL_law 1039 = .ok (.invokevirtual 132, 3) := by decide +kernel
theorem dL_law_1042 : decode cL_law 1042 = .ok (.istore 6, 2) := by decide +kernel
theorem dL_law_1044 : decode cL_law 1044 = .ok (.aload_n 2, 1) := by decide +kernel
theorem dL_law_1045 : decode cL_law 1045 = .ok (.invokevirtual 88, 3) := by decide +kernel
theorem dL_law_1048 : decode cL_law 1048 = .ok (.iload 5, 2) := by decide +kernel
theorem dL_law_1050 : decode cL_law 1050 = .ok (.if_icmp .eq 5, 3) := by decide +kernel
theorem dL_law_1053 : decode cL_law 1053 = .ok (.iconst 0, 1) := by decide +kernel
theorem dL_law_1054 : decode cL_law 1054 = .ok (.ireturn, 1) := by decide +kernel
theorem dL_law_1055 : decode cL_law 1055 = .ok (.iload 5, 2) := by decide +kernel
theorem dL_law_1057 : decode cL_law 1057 = .ok (.ifCond .ne 15, 3) := by decide +kernel
theorem dL_law_1060 : decode cL_law 1060 = .ok (.aload_n 3, 1) := by decide +kernel
theorem dL_law_1061 : decode cL_law 1061 = .ok (.iconst 0, 1) := by decide +kernel
theorem dL_law_1062 : decode cL_law 1062 = .ok (.laload, 1) := by decide +kernel
theorem dL_law_1063 : decode cL_law 1063 = .ok (.iload 6, 2) := by decide +kernel
theorem dL_law_1065 : decode cL_law 1065 = .ok (.i2l, 1) := by decide +kernel
theorem dL_law_1066 : decode cL_law 1066 = .ok (.lcmp, 1) := by decide +kernel
theorem dL_law_1067 : decode cL_law 1067 = .ok (.ifCond .eq 5, 3) := by decide +kernel
theorem dL_law_1070 : decode cL_law 1070 = .ok (.iconst 0, 1) := by decide +kernel
theorem dL_law_1071 : decode cL_law 1071 = .ok (.ireturn, 1) := by decide +kernel
theorem dL_law_1072 : decode cL_law 1072 = .ok (.goto 354, 3) := by decide +kernel
theorem dL_law_1075 : decode cL_law 1075 = .ok (.aload_n 1, 1) := by decide +kernel
theorem dL_law_1076 : decode cL_law 1076 = .ok (.aload_n 0, 1) := by decide +kernel
theorem dL_law_1077 : decode cL_law 1077 = .ok (.iload 4, 2) := by decide +kernel
theorem dL_law_1079 : decode cL_law 1079 = .ok (.iconst 1, 1) := by decide +kernel
theorem dL_law_1080 : decode cL_law 1080 = .ok (.iadd, 1) := by decide +kernel
theorem dL_law_1081 : decode cL_law 1081 = .ok (.iaload, 1) := by decide +kernel
theorem dL_law_1082 : decode cL_law 1082 = .ok (.aload_n 3, 1) := by decide +kernel
theorem dL_law_1083 : decode cL_law 1083 = .ok (.invokestatic 133, 3) := by decide +kernel
theorem dL_law_1086 : decode cL_law 1086 = .ok (.istore 5, 2) := by decide +kernel
theorem dL_law_1088 : decode cL_law 1088 = .ok (.aload_n 2, 1) := by decide +kernel
theorem dL_law_1089 : decode cL_law 1089 = .ok (.aload_n 0, 1) := by decide +kernel
theorem dL_law_1090 : decode cL_law 1090 = .ok (.iload 4, 2) := by decide +kernel
theorem dL_law_1092 : decode cL_law 1092 = .ok (.iconst 1, 1) := by decide +kernel
theorem dL_law_1093 : decode cL_law 1093 = .ok (.iadd, 1) := by decide +kernel
theorem dL_law_1094 : decode cL_law 1094 = .ok (.iaload, 1) := by decide +kernel
theorem dL_law_1095 : decode cL_law 1095 = .ok (.invokevirtual 135, 3) := by decide +kernel
theorem dL_law_1098 : decode cL_law 1098 = .ok (.istore 6, 2) := by decide +kernel
theorem dL_law_1100 : decode cL_law 1100 = .ok (.aload_n 2, 1) := by decide +kernel
theorem dL_law_1101 : decode cL_law 1101 = .ok (.invokevirtual 88, 3) := by decide +kernel
theorem dL_law_1104 : decode cL_law 1104 = .ok (.iload 5, 2) := by decide +kernel
theorem dL_law_1106 : decode cL_law 1106 = .ok (.if_icmp .eq 5, 3) := by decide +kernel
theorem dL_law_1109 : decode cL_law 1109 = .ok (.iconst 0, 1) := by decide +kernel
theorem dL_law_1110 : decode cL_law 1110 = .ok (.ireturn, 1) := by decide +kernel
theorem dL_law_1111 : decode cL_law 1111 = .ok (.iload 5, 2) := by decide +kernel
theorem dL_law_1113 : decode cL_law 1113 = .ok (.ifCond .ne 15, 3) := by decide +kernel
theorem dL_law_1116 : decode cL_law 1116 = .ok (.aload_n 3, 1) := by decide +kernel
theorem dL_law_1117 : decode cL_law 1117 = .ok (.iconst 0, 1) := by decide +kernel
theorem dL_law_1118 : decode cL_law 1118 = .ok (.laload, 1) := by decide +kernel
theorem dL_law_1119 : decode cL_law 1119 = .ok (.iload 6, 2) := by decide +kernel
theorem dL_law_1121 : decode cL_law 1121 = .ok (.i2l, 1) := by decide +kernel
theorem dL_law_1122 : decode cL_law 1122 = .ok (.lcmp, 1) := by decide +kernel
theorem dL_law_1123 : decode cL_law 1123 = .ok (.ifCond .eq 5, 3) := by decide +kernel
theorem dL_law_1126 : decode cL_law 1126 = .ok (.iconst 0, 1) := by decide +kernel
theorem dL_law_1127 : decode cL_law 1127 = .ok (.ireturn, 1) := by decide +kernel
theorem dL_law_1128 : decode cL_law 1128 = .ok (.goto 298, 3) := by decide +kernel
theorem dL_law_1131 : decode cL_law 1131 = .ok (.aload_n 1, 1) := by decide +kernel
theorem dL_law_1132 : decode cL_law 1132 = .ok (.aload_n 0, 1) := by decide +kernel
theorem dL_law_1133 : decode cL_law 1133 = .ok (.iload 4, 2) := by decide +kernel
theorem dL_law_1135 : decode cL_law 1135 = .ok (.iconst 1, 1) := by decide +kernel
theorem dL_law_1136 : decode cL_law 1136 = .ok (.iadd, 1) := by decide +kernel
theorem dL_law_1137 : decode cL_law 1137 = .ok (.iaload, 1) := by decide +kernel
theorem dL_law_1138 : decode cL_law 1138 = .ok (.ifCond .eq 7, 3) := by decide +kernel
theorem dL_law_1141 : decode cL_law 1141 = .ok (.iconst 1, 1) := by decide +kernel
theorem dL_law_1142 : decode cL_law 1142 = .ok (.goto 4, 3) := by decide +kernel
theorem dL_law_1145 : decode cL_law 1145 = .ok (.iconst 0, 1) := by decide +kernel
theorem dL_law_1146 : decode cL_law 1146 = .ok (.aload_n 3, 1) := by decide +kernel
theorem dL_law_1147 : decode cL_law 1147 = .ok (.invokestatic 136, 3) := by decide +kernel
theorem dL_law_1150 : decode cL_law 1150 = .ok (.istore 5, 2) := by decide +kernel
theorem dL_law_1152 : decode cL_law 1152 = .ok (.aload_n 2, 1) := by decide +kernel
theorem dL_law_1153 : decode cL_law 1153 = .ok (.aload_n 0, 1) := by decide +kernel
theorem dL_law_1154 : decode cL_law 1154 = .ok (.iload 4, 2) := by decide +kernel
theorem dL_law_1156 : decode cL_law 1156 = .ok (.iconst 1, 1) := by decide +kernel
theorem dL_law_1157 : decode cL_law 1157 = .ok (.iadd, 1) := by decide +kernel
theorem dL_law_1158 : decode cL_law 1158 = .ok (.iaload, 1) := by decide +kernel
theorem dL_law_1159 : decode cL_law 1159 = .ok (.ifCond .eq 7, 3) := by decide +kernel
theorem dL_law_1162 : decode cL_law 1162 = .ok (.iconst 1, 1) := by decide +kernel
theorem dL_law_1163 : decode cL_law 1163 = .ok (.goto 4, 3) := by decide +kernel
theorem dL_law_1166 : decode cL_law 1166 = .ok (.iconst 0, 1) := by decide +kernel
theorem dL_law_1167 : decode cL_law 1167 = .ok (.invokevirtual 138, 3) := by decide +kernel
theorem dL_law_1170 : decode cL_law 1170 = .ok (.istore 6, 2) := by decide +kernel
theorem dL_law_1172 : decode cL_law 1172 = .ok (.aload_n 2, 1) := by decide +kernel
theorem dL_law_1173 : decode cL_law 1173 = .ok (.invokevirtual 88, 3) := by decide +kernel
theorem dL_law_1176 : decode cL_law 1176 = .ok (.iload 5, 2) := by decide +kernel
theorem dL_law_1178 : decode cL_law 1178 = .ok (.if_icmp .eq 5, 3) := by decide +kernel
theorem dL_law_1181 : decode cL_law 1181 = .ok (.iconst 0, 1) := by decide +kernel
theorem dL_law_1182 : decode cL_law 1182 = .ok (.ireturn, 1) := by decide +kernel
theorem dL_law_1183 : decode cL_law 1183 = .ok (.iload 5, 2) := by decide +kernel
theorem dL_law_1185 : decode cL_law 1185 = .ok (.ifCond .ne 15, 3) := by decide +kernel
theorem dL_law_1188 : decode cL_law 1188 = .ok (.aload_n 3, 1) := by decide +kernel
theorem dL_law_1189 : decode cL_law 1189 = .ok (.iconst 0, 1) := by decide +kernel
theorem dL_law_1190 : decode cL_law 1190 = .ok (.laload, 1) := by decide +kernel
theorem dL_law_1191 : decode cL_law 1191 = .ok (.iload 6, 2) := by decide +kernel
theorem dL_law_1193 : decode cL_law 1193 = .ok (.i2l, 1) := by decide +kernel
theorem dL_law_1194 : decode cL_law 1194 = .ok (.lcmp, 1) := by decide +kernel
theorem dL_law_1195 : decode cL_law 1195 = .ok (.ifCond .eq 5, 3) := by decide +kernel
theorem dL_law_1198 : decode cL_law 1198 = .ok (.iconst 0, 1) := by decide +kernel
theorem dL_law_1199 : decode cL_law 1199 = .ok (.ireturn, 1) := by decide +kernel
theorem dL_law_1200 : decode cL_law 1200 = .ok (.goto 226, 3) := by decide +kernel
theorem dL_law_1203 : decode cL_law 1203 = .ok (.aload_n 1, 1) := by decide +kernel
theorem dL_law_1204 : decode cL_law 1204 = .ok (.aload_n 0, 1) := by decide +kernel
theorem dL_law_1205 : decode cL_law 1205 = .ok (.iload 4, 2) := by decide +kernel
theorem dL_law_1207 : decode cL_law 1207 = .ok (.iconst 1, 1) := by decide +kernel
theorem dL_law_1208 : decode cL_law 1208 = .ok (.iadd, 1) := by decide +kernel
theorem dL_law_1209 : decode cL_law 1209 = .ok (.iaload, 1) := by decide +kernel
theorem dL_law_1210 : decode cL_law 1210 = .ok (.aload_n 0, 1) := by decide +kernel
theorem dL_law_1211 : decode cL_law 1211 = .ok (.iload 4, 2) := by decide +kernel
theorem dL_law_1213 : decode cL_law 1213 = .ok (.iconst 2, 1) := by decide +kernel
theorem dL_law_1214 : decode cL_law 1214 = .ok (.iadd, 1) := by decide +kernel
theorem dL_law_1215 : decode cL_law 1215 = .ok (.iaload, 1) := by decide +kernel
theorem dL_law_1216 : decode cL_law 1216 = .ok (.invokestatic 139, 3) := by decide +kernel
theorem dL_law_1219 : decode cL_law 1219 = .ok (.istore 5, 2) := by decide +kernel
theorem dL_law_1221 : decode cL_law 1221 = .ok (.aload_n 2, 1) := by decide +kernel
theorem dL_law_1222 : decode cL_law 1222 = .ok (.aload_n 0, 1) := by decide +kernel
theorem dL_law_1223 : decode cL_law 1223 = .ok (.iload 4, 2) := by decide +kernel
theorem dL_law_1225 : decode cL_law 1225 = .ok (.iconst 1, 1) := by decide +kernel
theorem dL_law_1226 : decode cL_law 1226 = .ok (.iadd, 1) := by decide +kernel
theorem dL_law_1227 : decode cL_law 1227 = .ok (.iaload, 1) := by decide +kernel
theorem dL_law_1228 : decode cL_law 1228 = .ok (.aload_n 0, 1) := by decide +kernel
theorem dL_law_1229 : decode cL_law 1229 = .ok (.iload 4, 2) := by decide +kernel
theorem dL_law_1231 : decode cL_law 1231 = .ok (.iconst 2, 1) := by decide +kernel
theorem dL_law_1232 : decode cL_law 1232 = .ok (.iadd, 1) := by decide +kernel
theorem dL_law_1233 : decode cL_law 1233 = .ok (.iaload, 1) := by decide +kernel
theorem dL_law_1234 : decode cL_law 1234 = .ok (.invokevirtual 142, 3) := by decide +kernel
theorem dL_law_1237 : decode cL_law 1237 = .ok (.aload_n 2, 1) := by decide +kernel
theorem dL_law_1238 : decode cL_law 1238 = .ok (.invokevirtual 88, 3) := by decide +kernel
theorem dL_law_1241 : decode cL_law 1241 = .ok (.iload 5, 2) := by decide +kernel
theorem dL_law_1243 : decode cL_law 1243 = .ok (.if_icmp .eq 5, 3) := by decide +kernel
theorem dL_law_1246 : decode cL_law 1246 = .ok (.iconst 0, 1) := by decide +kernel
theorem dL_law_1247 : decode cL_law 1247 = .ok (.ireturn, 1) := by decide +kernel
theorem dL_law_1248 : decode cL_law 1248 = .ok (.goto 178, 3) := by decide +kernel
theorem dL_law_1251 : decode cL_law 1251 = .ok (.aload_n 1, 1) := by decide +kernel
theorem dL_law_1252 : decode cL_law 1252 = .ok (.aload_n 0, 1) := by decide +kernel
theorem dL_law_1253 : decode cL_law 1253 = .ok (.iload 4, 2) := by decide +kernel
theorem dL_law_1255 : decode cL_law 1255 = .ok (.iconst 1, 1) := by decide +kernel
theorem dL_law_1256 : decode cL_law 1256 = .ok (.iadd, 1) := by decide +kernel
theorem dL_law_1257 : decode cL_law 1257 = .ok (.iaload, 1) := by decide +kernel
theorem dL_law_1258 : decode cL_law 1258 = .ok (.aload_n 0, 1) := by decide +kernel
theorem dL_law_1259 : decode cL_law 1259 = .ok (.iload 4, 2) := by decide +kernel
theorem dL_law_1261 : decode cL_law 1261 = .ok (.iconst 2, 1) := by decide +kernel
theorem dL_law_1262 : decode cL_law 1262 = .ok (.iadd, 1) := by decide +kernel
theorem dL_law_1263 : decode cL_law 1263 = .ok (.iaload, 1) := by decide +kernel
theorem dL_law_1264 : decode cL_law 1264 = .ok (.aload_n 0, 1) := by decide +kernel
theorem dL_law_1265 : decode cL_law 1265 = .ok (.iload 4, 2) := by decide +kernel
theorem dL_law_1267 : decode cL_law 1267 = .ok (.iconst 3, 1) := by decide +kernel
theorem dL_law_1268 : decode cL_law 1268 = .ok (.iadd, 1) := by decide +kernel
theorem dL_law_1269 : decode cL_law 1269 = .ok (.iaload, 1) := by decide +kernel
theorem dL_law_1270 : decode cL_law 1270 = .ok (.ifCond .eq 7, 3) := by decide +kernel
theorem dL_law_1273 : decode cL_law 1273 = .ok (.iconst 1, 1) := by decide +kernel
theorem dL_law_1274 : decode cL_law 1274 = .ok (.goto 4, 3) := by decide +kernel
theorem dL_law_1277 : decode cL_law 1277 = .ok (.iconst 0, 1) := by decide +kernel
theorem dL_law_1278 : decode cL_law 1278 = .ok (.aload_n 3, 1) := by decide +kernel
theorem dL_law_1279 : decode cL_law 1279 = .ok (.invokestatic 143, 3) := by decide +kernel
theorem dL_law_1282 : decode cL_law 1282 = .ok (.istore 5, 2) := by decide +kernel
theorem dL_law_1284 : decode cL_law 1284 = .ok (.aload_n 2, 1) := by decide +kernel
theorem dL_law_1285 : decode cL_law 1285 = .ok (.aload_n 0, 1) := by decide +kernel
theorem dL_law_1286 : decode cL_law 1286 = .ok (.iload 4, 2) := by decide +kernel
theorem dL_law_1288 : decode cL_law 1288 = .ok (.iconst 1, 1) := by decide +kernel
theorem dL_law_1289 : decode cL_law 1289 = .ok (.iadd, 1) := by decide +kernel
theorem dL_law_1290 : decode cL_law 1290 = .ok (.iaload, 1) := by decide +kernel
theorem dL_law_1291 : decode cL_law 1291 = .ok (.aload_n 0, 1) := by decide +kernel
theorem dL_law_1292 : decode cL_law 1292 = .ok (.iload 4, 2) := by decide +kernel
theorem dL_law_1294 : decode cL_law 1294 = .ok (.iconst 2, 1) := by decide +kernel
theorem dL_law_1295 : decode cL_law 1295 = .ok (.iadd, 1) := by decide +kernel
theorem dL_law_1296 : decode cL_law 1296 = .ok (.iaload, 1) := by decide +kernel
theorem dL_law_1297 : decode cL_law 1297 = .ok (.aload_n 0, 1) := by decide +kernel
theorem dL_law_1298 : decode cL_law 1298 = .ok (.iload 4, 2) := by decide +kernel
theorem dL_law_1300 : decode cL_law 1300 = .ok (.iconst 3, 1) := by decide +kernel
theorem dL_law_1301 : decode cL_law 1301 = .ok (.iadd, 1) := by decide +kernel
theorem dL_law_1302 : decode cL_law 1302 = .ok (.iaload, 1) := by decide +kernel
theorem dL_law_1303 : decode cL_law 1303 = .ok (.ifCond .eq 7, 3) := by decide +kernel
theorem dL_law_1306 : decode cL_law 1306 = .ok (.iconst 1, 1) := by decide +kernel
theorem dL_law_1307 : decode cL_law 1307 = .ok (.goto 4, 3) := by decide +kernel
theorem dL_law_1310 : decode cL_law 1310 = .ok (.iconst 0, 1) := by decide +kernel
theorem dL_law_1311 : decode cL_law 1311 = .ok (.invokevirtual 145, 3) := by decide +kernel
theorem dL_law_1314 : decode cL_law 1314 = .ok (.istore 6, 2) := by decide +kernel
theorem dL_law_1316 : decode cL_law 1316 = .ok (.aload_n 2, 1) := by decide +kernel
theorem dL_law_1317 : decode cL_law 1317 = .ok (.invokevirtual 88, 3) := by decide +kernel
theorem dL_law_1320 : decode cL_law 1320 = .ok (.iload 5, 2) := by decide +kernel
theorem dL_law_1322 : decode cL_law 1322 = .ok (.if_icmp .eq 5, 3) := by decide +kernel
theorem dL_law_1325 : decode cL_law 1325 = .ok (.iconst 0, 1) := by decide +kernel
theorem dL_law_1326 : decode cL_law 1326 = .ok (.ireturn, 1) := by decide +kernel
theorem dL_law_1327 : decode cL_law 1327 = .ok (.iload 5, 2) := by decide +kernel
theorem dL_law_1329 : decode cL_law 1329 = .ok (.ifCond .ne 22, 3) := by decide +kernel
theorem dL_law_1332 : decode cL_law 1332 = .ok (.aload_n 3, 1) := by decide +kernel
theorem dL_law_1333 : decode cL_law 1333 = .ok (.iconst 0, 1) := by decide +kernel
theorem dL_law_1334 : decode cL_law 1334 = .ok (.laload, 1) := by decide +kernel
theorem dL_law_1335 : decode cL_law 1335 = .ok (.iload 6, 2) := by decide +kernel
theorem dL_law_1337 : decode cL_law 1337 = .ok (.ifCond .eq 7, 3) := by decide +kernel
theorem dL_law_1340 : decode cL_law 1340 = .ok (.lconst 1, 1) := by decide +kernel
theorem dL_law_1341 : decode cL_law 1341 = .ok (.goto 4, 3) := by decide +kernel
theorem dL_law_1344 : decode cL_law 1344 = .ok (.lconst 0, 1) := by decide +kernel
theorem dL_law_1345 : decode cL_law 1345 = .ok (.lcmp, 1) := by decide +kernel
theorem dL_law_1346 : decode cL_law 1346 = .ok (.ifCond .eq 5, 3) := by decide +kernel
theorem dL_law_1349 : decode cL_law 1349 = .ok (.iconst 0, 1) := by decide +kernel
theorem dL_law_1350 : decode cL_law 1350 = .ok (.ireturn, 1) := by decide +kernel
theorem dL_law_1351 : decode cL_law 1351 = .ok (.goto 75, 3) := by decide +kernel
theorem dL_law_1354 : decode cL_law 1354 = .ok (.aload_n 1, 1) := by decide +kernel
theorem dL_law_1355 : decode cL_law 1355 = .ok (.aload_n 0, 1) := by decide +kernel
theorem dL_law_1356 : decode cL_law 1356 = .ok (.iload 4, 2) := by decide +kernel
theorem dL_law_1358 : decode cL_law 1358 = .ok (.iconst 1, 1) := by decide +kernel
theorem dL_law_1359 : decode cL_law 1359 = .ok (.iadd, 1) := by decide +kernel
theorem dL_law_1360 : decode cL_law 1360 = .ok (.iaload, 1) := by decide +kernel
theorem dL_law_1361 : decode cL_law 1361 = .ok (.ifCond .eq 7, 3) := by decide +kernel
theorem dL_law_1364 : decode cL_law 1364 = .ok (.iconst 1, 1) := by decide +kernel
theorem dL_law_1365 : decode cL_law 1365 = .ok (.goto 4, 3) := by decide +kernel
theorem dL_law_1368 : decode cL_law 1368 = .ok (.iconst 0, 1) := by decide +kernel
theorem dL_law_1369 : decode cL_law 1369 = .ok (.aload_n 3, 1) := by decide +kernel
theorem dL_law_1370 : decode cL_law 1370 = .ok (.invokestatic 146, 3) := by decide +kernel
theorem dL_law_1373 : decode cL_law 1373 = .ok (.istore 5, 2) := by decide +kernel
theorem dL_law_1375 : decode cL_law 1375 = .ok (.aload_n 2, 1) := by decide +kernel
theorem dL_law_1376 : decode cL_law 1376 = .ok (.aload_n 0, 1) := by decide +kernel
theorem dL_law_1377 : decode cL_law 1377 = .ok (.iload 4, 2) := by decide +kernel
theorem dL_law_1379 : decode cL_law 1379 = .ok (.iconst 1, 1) := by decide +kernel
theorem dL_law_1380 : decode cL_law 1380 = .ok (.iadd, 1) := by decide +kernel
theorem dL_law_1381 : decode cL_law 1381 = .ok (.iaload, 1) := by decide +kernel
theorem dL_law_1382 : decode cL_law 1382 = .ok (.ifCond .eq 7, 3) := by decide +kernel
theorem dL_law_1385 : decode cL_law 1385 = .ok (.iconst 1, 1) := by decide +kernel
theorem dL_law_1386 : decode cL_law 1386 = .ok (.goto 4, 3) := by decide +kernel
theorem dL_law_1389 : decode cL_law 1389 = .ok (.iconst 0, 1) := by decide +kernel
theorem dL_law_1390 : decode cL_law 1390 = .ok (.invokevirtual 148, 3) := by decide +kernel
theorem dL_law_1393 : decode cL_law 1393 = .ok (.istore 6, 2) := by decide +kernel
theorem dL_law_1395 : decode cL_law 1395 = .ok (.aload_n 2, 1) := by decide +kernel
theorem dL_law_1396 : decode cL_law 1396 = .ok (.invokevirtual 88, 3) := by decide +kernel
theorem dL_law_1399 : decode cL_law 1399 = .ok (.iload 5, 2) := by decide +kernel
theorem dL_law_1401 : decode cL_law 1401 = .ok (.if_icmp .eq 5, 3) := by decide +kernel
theorem dL_law_1404 : decode cL_law 1404 = .ok (.iconst 0, 1) := by decide +kernel
theorem dL_law_1405 : decode cL_law 1405 = .ok (.ireturn, 1) := by decide +kernel
theorem dL_law_1406 : decode cL_law 1406 = .ok (.iload 5, 2) := by decide +kernel
theorem dL_law_1408 : decode cL_law 1408 = .ok (.ifCond .ne 15, 3) := by decide +kernel
theorem dL_law_1411 : decode cL_law 1411 = .ok (.aload_n 3, 1) := by decide +kernel
theorem dL_law_1412 : decode cL_law 1412 = .ok (.iconst 0, 1) := by decide +kernel
theorem dL_law_1413 : decode cL_law 1413 = .ok (.laload, 1) := by decide +kernel
theorem dL_law_1414 : decode cL_law 1414 = .ok (.iload 6, 2) := by decide +kernel
theorem dL_law_1416 : decode cL_law 1416 = .ok (.i2l, 1) := by decide +kernel
theorem dL_law_1417 : decode cL_law 1417 = .ok (.lcmp, 1) := by decide +kernel
theorem dL_law_1418 : decode cL_law 1418 = .ok (.ifCond .eq 5, 3) := by decide +kernel
theorem dL_law_1421 : decode cL_law 1421 = .ok (.iconst 0, 1) := by decide +kernel
theorem dL_law_1422 : decode cL_law 1422 = .ok (.ireturn, 1) := by decide +kernel
theorem dL_law_1423 : decode cL_law 1423 = .ok (.goto 3, 3) := by decide +kernel
theorem dL_law_1426 : decode cL_law 1426 = .ok (.iinc 4 5, 3) := by decide +kernel
theorem dL_law_1429 : decode cL_law 1429 = .ok (.goto (-1406), 3) := by decide +kernel
theorem dL_law_1432 : decode cL_law 1432 = .ok (.iconst 1, 1) := by decide +kernel
theorem dL_law_1433 : decode cL_law 1433 = .ok (.ireturn, 1) := by decide +kernel
end
