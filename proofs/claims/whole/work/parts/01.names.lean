-- ===== PART A: goes FIRST, ahead of the names: the tables' words, and 'selects' of the private methods out of them =====
/-- a private method of a class that the tables say can be made, by its rows of tables_1 -/
def lw_okq (q : MethodName × Nat) : Prop := (q.1.cls ≠ "java/lang/invoke/MethodHandle" ∧ q.1.cls ≠ "java/lang/invoke/VarHandle") ∧ Cond.instantiable q.1.cls q.2 ∈ tables_1 ∧ Cond.privateMethod q.1 ∈ tables_1 ∧ Cond.instanceMethod q.1 ∈ tables_1
theorem lw_p0 : lw_okq (⟨"TalkBus", "beginWith", "([II)V"⟩, 10) := ⟨⟨by decide +kernel, by decide +kernel⟩, List.mem_of_getElem? (i := 9) (by decide +kernel), List.mem_of_getElem? (i := 159) (by decide +kernel), List.mem_of_getElem? (i := 160) (by decide +kernel)⟩
theorem lw_p1 : lw_okq (⟨"TalkBus$Text", "readItem", "(II)I"⟩, 4) := ⟨⟨by decide +kernel, by decide +kernel⟩, List.mem_of_getElem? (i := 17) (by decide +kernel), List.mem_of_getElem? (i := 234) (by decide +kernel), List.mem_of_getElem? (i := 235) (by decide +kernel)⟩
theorem lw_p2 : lw_okq (⟨"TalkBus$Text", "letterAt", "(I)C"⟩, 4) := ⟨⟨by decide +kernel, by decide +kernel⟩, List.mem_of_getElem? (i := 17) (by decide +kernel), List.mem_of_getElem? (i := 238) (by decide +kernel), List.mem_of_getElem? (i := 239) (by decide +kernel)⟩
theorem lw_p3 : lw_okq (⟨"TalkBus$Text", "figuresAt", "(I)I"⟩, 4) := ⟨⟨by decide +kernel, by decide +kernel⟩, List.mem_of_getElem? (i := 17) (by decide +kernel), List.mem_of_getElem? (i := 242) (by decide +kernel), List.mem_of_getElem? (i := 243) (by decide +kernel)⟩
theorem lw_p4 : lw_okq (⟨"TalkBus$Text", "isFigure", "(I)Z"⟩, 4) := ⟨⟨by decide +kernel, by decide +kernel⟩, List.mem_of_getElem? (i := 17) (by decide +kernel), List.mem_of_getElem? (i := 246) (by decide +kernel), List.mem_of_getElem? (i := 247) (by decide +kernel)⟩
theorem lw_p5 : lw_okq (⟨"TalkBus$Text", "numberAt", "(II)I"⟩, 4) := ⟨⟨by decide +kernel, by decide +kernel⟩, List.mem_of_getElem? (i := 17) (by decide +kernel), List.mem_of_getElem? (i := 250) (by decide +kernel), List.mem_of_getElem? (i := 251) (by decide +kernel)⟩
theorem lw_p6 : lw_okq (⟨"TalkBus$Text", "hasTakenAddress", "(I)Z"⟩, 4) := ⟨⟨by decide +kernel, by decide +kernel⟩, List.mem_of_getElem? (i := 17) (by decide +kernel), List.mem_of_getElem? (i := 258) (by decide +kernel), List.mem_of_getElem? (i := 259) (by decide +kernel)⟩
theorem lw_p7 : lw_okq (⟨"TalkBus", "send", "(I)V"⟩, 10) := ⟨⟨by decide +kernel, by decide +kernel⟩, List.mem_of_getElem? (i := 9) (by decide +kernel), List.mem_of_getElem? (i := 274) (by decide +kernel), List.mem_of_getElem? (i := 275) (by decide +kernel)⟩
theorem lw_p8 : lw_okq (⟨"TalkBus", "greatestPace", "()I"⟩, 10) := ⟨⟨by decide +kernel, by decide +kernel⟩, List.mem_of_getElem? (i := 9) (by decide +kernel), List.mem_of_getElem? (i := 285) (by decide +kernel), List.mem_of_getElem? (i := 286) (by decide +kernel)⟩
theorem lw_p9 : lw_okq (⟨"TalkBus", "passTicks", "(I)V"⟩, 10) := ⟨⟨by decide +kernel, by decide +kernel⟩, List.mem_of_getElem? (i := 9) (by decide +kernel), List.mem_of_getElem? (i := 292) (by decide +kernel), List.mem_of_getElem? (i := 293) (by decide +kernel)⟩
theorem lw_p10 : lw_okq (⟨"TalkBus", "obeySecond", "(I)V"⟩, 10) := ⟨⟨by decide +kernel, by decide +kernel⟩, List.mem_of_getElem? (i := 9) (by decide +kernel), List.mem_of_getElem? (i := 308) (by decide +kernel), List.mem_of_getElem? (i := 309) (by decide +kernel)⟩
theorem lw_p11 : lw_okq (⟨"TalkBus", "setLines", "(I)V"⟩, 10) := ⟨⟨by decide +kernel, by decide +kernel⟩, List.mem_of_getElem? (i := 9) (by decide +kernel), List.mem_of_getElem? (i := 312) (by decide +kernel), List.mem_of_getElem? (i := 313) (by decide +kernel)⟩
theorem lw_p12 : lw_okq (⟨"TalkBus", "answerSecond", "(I)V"⟩, 10) := ⟨⟨by decide +kernel, by decide +kernel⟩, List.mem_of_getElem? (i := 9) (by decide +kernel), List.mem_of_getElem? (i := 316) (by decide +kernel), List.mem_of_getElem? (i := 317) (by decide +kernel)⟩
theorem lw_p13 : lw_okq (⟨"TalkBus", "endNamedAndPrepared", "()V"⟩, 10) := ⟨⟨by decide +kernel, by decide +kernel⟩, List.mem_of_getElem? (i := 9) (by decide +kernel), List.mem_of_getElem? (i := 324) (by decide +kernel), List.mem_of_getElem? (i := 325) (by decide +kernel)⟩
theorem lw_p14 : lw_okq (⟨"TalkBus", "obeyPlain", "(I)V"⟩, 10) := ⟨⟨by decide +kernel, by decide +kernel⟩, List.mem_of_getElem? (i := 9) (by decide +kernel), List.mem_of_getElem? (i := 328) (by decide +kernel), List.mem_of_getElem? (i := 329) (by decide +kernel)⟩
theorem lw_p15 : lw_okq (⟨"TalkBus", "passCharge", "()V"⟩, 10) := ⟨⟨by decide +kernel, by decide +kernel⟩, List.mem_of_getElem? (i := 9) (by decide +kernel), List.mem_of_getElem? (i := 332) (by decide +kernel), List.mem_of_getElem? (i := 333) (by decide +kernel)⟩
def lw_privs_1 : List (MethodName × Nat) := [(⟨"TalkBus", "beginWith", "([II)V"⟩, 10), (⟨"TalkBus$Text", "readItem", "(II)I"⟩, 4), (⟨"TalkBus$Text", "letterAt", "(I)C"⟩, 4), (⟨"TalkBus$Text", "figuresAt", "(I)I"⟩, 4), (⟨"TalkBus$Text", "isFigure", "(I)Z"⟩, 4), (⟨"TalkBus$Text", "numberAt", "(II)I"⟩, 4), (⟨"TalkBus$Text", "hasTakenAddress", "(I)Z"⟩, 4), (⟨"TalkBus", "send", "(I)V"⟩, 10), (⟨"TalkBus", "greatestPace", "()I"⟩, 10), (⟨"TalkBus", "passTicks", "(I)V"⟩, 10), (⟨"TalkBus", "obeySecond", "(I)V"⟩, 10), (⟨"TalkBus", "setLines", "(I)V"⟩, 10), (⟨"TalkBus", "answerSecond", "(I)V"⟩, 10), (⟨"TalkBus", "endNamedAndPrepared", "()V"⟩, 10), (⟨"TalkBus", "obeyPlain", "(I)V"⟩, 10), (⟨"TalkBus", "passCharge", "()V"⟩, 10)]
theorem lw_r1 : ∀ q ∈ lw_privs_1, lw_okq q := List.forall_mem_cons.mpr ⟨lw_p0, List.forall_mem_cons.mpr ⟨lw_p1, List.forall_mem_cons.mpr ⟨lw_p2, List.forall_mem_cons.mpr ⟨lw_p3, List.forall_mem_cons.mpr ⟨lw_p4, List.forall_mem_cons.mpr ⟨lw_p5, List.forall_mem_cons.mpr ⟨lw_p6, List.forall_mem_cons.mpr ⟨lw_p7, List.forall_mem_cons.mpr ⟨lw_p8, List.forall_mem_cons.mpr ⟨lw_p9, List.forall_mem_cons.mpr ⟨lw_p10, List.forall_mem_cons.mpr ⟨lw_p11, List.forall_mem_cons.mpr ⟨lw_p12, List.forall_mem_cons.mpr ⟨lw_p13, List.forall_mem_cons.mpr ⟨lw_p14, List.forall_mem_cons.mpr ⟨lw_p15, fun _ h => absurd h List.not_mem_nil⟩⟩⟩⟩⟩⟩⟩⟩⟩⟩⟩⟩⟩⟩⟩⟩
theorem lw_p16 : lw_okq (⟨"TalkBus", "isDevice", "(I)Z"⟩, 10) := ⟨⟨by decide +kernel, by decide +kernel⟩, List.mem_of_getElem? (i := 9) (by decide +kernel), List.mem_of_getElem? (i := 336) (by decide +kernel), List.mem_of_getElem? (i := 337) (by decide +kernel)⟩
theorem lw_p17 : lw_okq (⟨"TalkBus", "obeyAsOneOfAll", "(ILTalkBus$Device;)V"⟩, 10) := ⟨⟨by decide +kernel, by decide +kernel⟩, List.mem_of_getElem? (i := 9) (by decide +kernel), List.mem_of_getElem? (i := 340) (by decide +kernel), List.mem_of_getElem? (i := 341) (by decide +kernel)⟩
theorem lw_p18 : lw_okq (⟨"TalkBus", "obeyAsListener", "(ILTalkBus$Device;)V"⟩, 10) := ⟨⟨by decide +kernel, by decide +kernel⟩, List.mem_of_getElem? (i := 9) (by decide +kernel), List.mem_of_getElem? (i := 345) (by decide +kernel), List.mem_of_getElem? (i := 346) (by decide +kernel)⟩
theorem lw_p19 : lw_okq (⟨"TalkBus", "triggerOne", "(LTalkBus$Device;)V"⟩, 10) := ⟨⟨by decide +kernel, by decide +kernel⟩, List.mem_of_getElem? (i := 9) (by decide +kernel), List.mem_of_getElem? (i := 349) (by decide +kernel), List.mem_of_getElem? (i := 350) (by decide +kernel)⟩
theorem lw_p20 : lw_okq (⟨"TalkBus", "callListener", "(I)V"⟩, 10) := ⟨⟨by decide +kernel, by decide +kernel⟩, List.mem_of_getElem? (i := 9) (by decide +kernel), List.mem_of_getElem? (i := 358) (by decide +kernel), List.mem_of_getElem? (i := 359) (by decide +kernel)⟩
theorem lw_p21 : lw_okq (⟨"TalkBus", "endListening", "()V"⟩, 10) := ⟨⟨by decide +kernel, by decide +kernel⟩, List.mem_of_getElem? (i := 9) (by decide +kernel), List.mem_of_getElem? (i := 362) (by decide +kernel), List.mem_of_getElem? (i := 363) (by decide +kernel)⟩
theorem lw_p22 : lw_okq (⟨"TalkBus", "callTalker", "(I)V"⟩, 10) := ⟨⟨by decide +kernel, by decide +kernel⟩, List.mem_of_getElem? (i := 9) (by decide +kernel), List.mem_of_getElem? (i := 366) (by decide +kernel), List.mem_of_getElem? (i := 367) (by decide +kernel)⟩
theorem lw_p23 : lw_okq (⟨"TalkBus", "giveByte", "()I"⟩, 10) := ⟨⟨by decide +kernel, by decide +kernel⟩, List.mem_of_getElem? (i := 9) (by decide +kernel), List.mem_of_getElem? (i := 374) (by decide +kernel), List.mem_of_getElem? (i := 375) (by decide +kernel)⟩
theorem lw_p24 : lw_okq (⟨"TalkBus", "ticksOfNextByte", "()I"⟩, 10) := ⟨⟨by decide +kernel, by decide +kernel⟩, List.mem_of_getElem? (i := 9) (by decide +kernel), List.mem_of_getElem? (i := 378) (by decide +kernel), List.mem_of_getElem? (i := 379) (by decide +kernel)⟩
theorem lw_p25 : lw_okq (⟨"TalkBus", "takesBytes", "(I)Z"⟩, 10) := ⟨⟨by decide +kernel, by decide +kernel⟩, List.mem_of_getElem? (i := 9) (by decide +kernel), List.mem_of_getElem? (i := 382) (by decide +kernel), List.mem_of_getElem? (i := 383) (by decide +kernel)⟩
theorem lw_p26 : lw_okq (⟨"TalkBus", "sendAddress", "(II)V"⟩, 10) := ⟨⟨by decide +kernel, by decide +kernel⟩, List.mem_of_getElem? (i := 9) (by decide +kernel), List.mem_of_getElem? (i := 403) (by decide +kernel), List.mem_of_getElem? (i := 404) (by decide +kernel)⟩
theorem lw_p27 : lw_okq (⟨"TalkBus", "listenerBits", "()I"⟩, 10) := ⟨⟨by decide +kernel, by decide +kernel⟩, List.mem_of_getElem? (i := 9) (by decide +kernel), List.mem_of_getElem? (i := 469) (by decide +kernel), List.mem_of_getElem? (i := 470) (by decide +kernel)⟩
theorem lw_p28 : lw_okq (⟨"TalkBus", "someoneAsks", "()Z"⟩, 10) := ⟨⟨by decide +kernel, by decide +kernel⟩, List.mem_of_getElem? (i := 9) (by decide +kernel), List.mem_of_getElem? (i := 473) (by decide +kernel), List.mem_of_getElem? (i := 474) (by decide +kernel)⟩
theorem lw_p29 : lw_okq (⟨"TalkBusModel", "begins", "()V"⟩, 20) := ⟨⟨by decide +kernel, by decide +kernel⟩, List.mem_of_getElem? (i := 489) (by decide +kernel), List.mem_of_getElem? (i := 495) (by decide +kernel), List.mem_of_getElem? (i := 496) (by decide +kernel)⟩
theorem lw_p30 : lw_okq (⟨"TalkBusModel", "puts", "(III)V"⟩, 20) := ⟨⟨by decide +kernel, by decide +kernel⟩, List.mem_of_getElem? (i := 489) (by decide +kernel), List.mem_of_getElem? (i := 499) (by decide +kernel), List.mem_of_getElem? (i := 500) (by decide +kernel)⟩
theorem lw_p31 : lw_okq (⟨"TalkBusModel", "reads", "()I"⟩, 20) := ⟨⟨by decide +kernel, by decide +kernel⟩, List.mem_of_getElem? (i := 489) (by decide +kernel), List.mem_of_getElem? (i := 576) (by decide +kernel), List.mem_of_getElem? (i := 577) (by decide +kernel)⟩
def lw_privs_2 : List (MethodName × Nat) := [(⟨"TalkBus", "isDevice", "(I)Z"⟩, 10), (⟨"TalkBus", "obeyAsOneOfAll", "(ILTalkBus$Device;)V"⟩, 10), (⟨"TalkBus", "obeyAsListener", "(ILTalkBus$Device;)V"⟩, 10), (⟨"TalkBus", "triggerOne", "(LTalkBus$Device;)V"⟩, 10), (⟨"TalkBus", "callListener", "(I)V"⟩, 10), (⟨"TalkBus", "endListening", "()V"⟩, 10), (⟨"TalkBus", "callTalker", "(I)V"⟩, 10), (⟨"TalkBus", "giveByte", "()I"⟩, 10), (⟨"TalkBus", "ticksOfNextByte", "()I"⟩, 10), (⟨"TalkBus", "takesBytes", "(I)Z"⟩, 10), (⟨"TalkBus", "sendAddress", "(II)V"⟩, 10), (⟨"TalkBus", "listenerBits", "()I"⟩, 10), (⟨"TalkBus", "someoneAsks", "()Z"⟩, 10), (⟨"TalkBusModel", "begins", "()V"⟩, 20), (⟨"TalkBusModel", "puts", "(III)V"⟩, 20), (⟨"TalkBusModel", "reads", "()I"⟩, 20)]
theorem lw_r2 : ∀ q ∈ lw_privs_2, lw_okq q := List.forall_mem_cons.mpr ⟨lw_p16, List.forall_mem_cons.mpr ⟨lw_p17, List.forall_mem_cons.mpr ⟨lw_p18, List.forall_mem_cons.mpr ⟨lw_p19, List.forall_mem_cons.mpr ⟨lw_p20, List.forall_mem_cons.mpr ⟨lw_p21, List.forall_mem_cons.mpr ⟨lw_p22, List.forall_mem_cons.mpr ⟨lw_p23, List.forall_mem_cons.mpr ⟨lw_p24, List.forall_mem_cons.mpr ⟨lw_p25, List.forall_mem_cons.mpr ⟨lw_p26, List.forall_mem_cons.mpr ⟨lw_p27, List.forall_mem_cons.mpr ⟨lw_p28, List.forall_mem_cons.mpr ⟨lw_p29, List.forall_mem_cons.mpr ⟨lw_p30, List.forall_mem_cons.mpr ⟨lw_p31, fun _ h => absurd h List.not_mem_nil⟩⟩⟩⟩⟩⟩⟩⟩⟩⟩⟩⟩⟩⟩⟩⟩
theorem lw_p32 : lw_okq (⟨"TalkBusModel", "readsItem", "(I)Z"⟩, 20) := ⟨⟨by decide +kernel, by decide +kernel⟩, List.mem_of_getElem? (i := 489) (by decide +kernel), List.mem_of_getElem? (i := 580) (by decide +kernel), List.mem_of_getElem? (i := 581) (by decide +kernel)⟩
theorem lw_p33 : lw_okq (⟨"TalkBusModel", "letterAt", "(I)I"⟩, 20) := ⟨⟨by decide +kernel, by decide +kernel⟩, List.mem_of_getElem? (i := 489) (by decide +kernel), List.mem_of_getElem? (i := 584) (by decide +kernel), List.mem_of_getElem? (i := 585) (by decide +kernel)⟩
theorem lw_p34 : lw_okq (⟨"TalkBusModel", "number", "(III)Z"⟩, 20) := ⟨⟨by decide +kernel, by decide +kernel⟩, List.mem_of_getElem? (i := 489) (by decide +kernel), List.mem_of_getElem? (i := 591) (by decide +kernel), List.mem_of_getElem? (i := 592) (by decide +kernel)⟩
theorem lw_p35 : lw_okq (⟨"TalkBusModel", "ticks", "(I)V"⟩, 20) := ⟨⟨by decide +kernel, by decide +kernel⟩, List.mem_of_getElem? (i := 489) (by decide +kernel), List.mem_of_getElem? (i := 606) (by decide +kernel), List.mem_of_getElem? (i := 607) (by decide +kernel)⟩
theorem lw_p36 : lw_okq (⟨"TalkBusModel", "comes", "()V"⟩, 20) := ⟨⟨by decide +kernel, by decide +kernel⟩, List.mem_of_getElem? (i := 489) (by decide +kernel), List.mem_of_getElem? (i := 610) (by decide +kernel), List.mem_of_getElem? (i := 611) (by decide +kernel)⟩
theorem lw_p37 : lw_okq (⟨"TalkBusModel", "of", "(II)I"⟩, 20) := ⟨⟨by decide +kernel, by decide +kernel⟩, List.mem_of_getElem? (i := 489) (by decide +kernel), List.mem_of_getElem? (i := 614) (by decide +kernel), List.mem_of_getElem? (i := 615) (by decide +kernel)⟩
theorem lw_p38 : lw_okq (⟨"TalkBusModel", "sends", "(I)V"⟩, 20) := ⟨⟨by decide +kernel, by decide +kernel⟩, List.mem_of_getElem? (i := 489) (by decide +kernel), List.mem_of_getElem? (i := 622) (by decide +kernel), List.mem_of_getElem? (i := 623) (by decide +kernel)⟩
theorem lw_p39 : lw_okq (⟨"TalkBusModel", "logs", "(I)V"⟩, 20) := ⟨⟨by decide +kernel, by decide +kernel⟩, List.mem_of_getElem? (i := 489) (by decide +kernel), List.mem_of_getElem? (i := 626) (by decide +kernel), List.mem_of_getElem? (i := 627) (by decide +kernel)⟩
theorem lw_p40 : lw_okq (⟨"TalkBusModel", "slowest", "(I)I"⟩, 20) := ⟨⟨by decide +kernel, by decide +kernel⟩, List.mem_of_getElem? (i := 489) (by decide +kernel), List.mem_of_getElem? (i := 630) (by decide +kernel), List.mem_of_getElem? (i := 631) (by decide +kernel)⟩
theorem lw_p41 : lw_okq (⟨"TalkBusModel", "listeners", "()I"⟩, 20) := ⟨⟨by decide +kernel, by decide +kernel⟩, List.mem_of_getElem? (i := 489) (by decide +kernel), List.mem_of_getElem? (i := 634) (by decide +kernel), List.mem_of_getElem? (i := 635) (by decide +kernel)⟩
theorem lw_p42 : lw_okq (⟨"TalkBusModel", "clears", "(I)V"⟩, 20) := ⟨⟨by decide +kernel, by decide +kernel⟩, List.mem_of_getElem? (i := 489) (by decide +kernel), List.mem_of_getElem? (i := 638) (by decide +kernel), List.mem_of_getElem? (i := 639) (by decide +kernel)⟩
theorem lw_p43 : lw_okq (⟨"TalkBusModel", "toListener", "(II)V"⟩, 20) := ⟨⟨by decide +kernel, by decide +kernel⟩, List.mem_of_getElem? (i := 489) (by decide +kernel), List.mem_of_getElem? (i := 642) (by decide +kernel), List.mem_of_getElem? (i := 643) (by decide +kernel)⟩
theorem lw_p44 : lw_okq (⟨"TalkBusModel", "triggers", "(I)V"⟩, 20) := ⟨⟨by decide +kernel, by decide +kernel⟩, List.mem_of_getElem? (i := 489) (by decide +kernel), List.mem_of_getElem? (i := 646) (by decide +kernel), List.mem_of_getElem? (i := 647) (by decide +kernel)⟩
theorem lw_p45 : lw_okq (⟨"TalkBusModel", "passes", "()V"⟩, 20) := ⟨⟨by decide +kernel, by decide +kernel⟩, List.mem_of_getElem? (i := 489) (by decide +kernel), List.mem_of_getElem? (i := 650) (by decide +kernel), List.mem_of_getElem? (i := 651) (by decide +kernel)⟩
theorem lw_p46 : lw_okq (⟨"TalkBusModel", "talker", "()I"⟩, 20) := ⟨⟨by decide +kernel, by decide +kernel⟩, List.mem_of_getElem? (i := 489) (by decide +kernel), List.mem_of_getElem? (i := 654) (by decide +kernel), List.mem_of_getElem? (i := 655) (by decide +kernel)⟩
theorem lw_p47 : lw_okq (⟨"TalkBusModel", "all", "(II)V"⟩, 20) := ⟨⟨by decide +kernel, by decide +kernel⟩, List.mem_of_getElem? (i := 489) (by decide +kernel), List.mem_of_getElem? (i := 658) (by decide +kernel), List.mem_of_getElem? (i := 659) (by decide +kernel)⟩
def lw_privs_3 : List (MethodName × Nat) := [(⟨"TalkBusModel", "readsItem", "(I)Z"⟩, 20), (⟨"TalkBusModel", "letterAt", "(I)I"⟩, 20), (⟨"TalkBusModel", "number", "(III)Z"⟩, 20), (⟨"TalkBusModel", "ticks", "(I)V"⟩, 20), (⟨"TalkBusModel", "comes", "()V"⟩, 20), (⟨"TalkBusModel", "of", "(II)I"⟩, 20), (⟨"TalkBusModel", "sends", "(I)V"⟩, 20), (⟨"TalkBusModel", "logs", "(I)V"⟩, 20), (⟨"TalkBusModel", "slowest", "(I)I"⟩, 20), (⟨"TalkBusModel", "listeners", "()I"⟩, 20), (⟨"TalkBusModel", "clears", "(I)V"⟩, 20), (⟨"TalkBusModel", "toListener", "(II)V"⟩, 20), (⟨"TalkBusModel", "triggers", "(I)V"⟩, 20), (⟨"TalkBusModel", "passes", "()V"⟩, 20), (⟨"TalkBusModel", "talker", "()I"⟩, 20), (⟨"TalkBusModel", "all", "(II)V"⟩, 20)]
theorem lw_r3 : ∀ q ∈ lw_privs_3, lw_okq q := List.forall_mem_cons.mpr ⟨lw_p32, List.forall_mem_cons.mpr ⟨lw_p33, List.forall_mem_cons.mpr ⟨lw_p34, List.forall_mem_cons.mpr ⟨lw_p35, List.forall_mem_cons.mpr ⟨lw_p36, List.forall_mem_cons.mpr ⟨lw_p37, List.forall_mem_cons.mpr ⟨lw_p38, List.forall_mem_cons.mpr ⟨lw_p39, List.forall_mem_cons.mpr ⟨lw_p40, List.forall_mem_cons.mpr ⟨lw_p41, List.forall_mem_cons.mpr ⟨lw_p42, List.forall_mem_cons.mpr ⟨lw_p43, List.forall_mem_cons.mpr ⟨lw_p44, List.forall_mem_cons.mpr ⟨lw_p45, List.forall_mem_cons.mpr ⟨lw_p46, List.forall_mem_cons.mpr ⟨lw_p47, fun _ h => absurd h List.not_mem_nil⟩⟩⟩⟩⟩⟩⟩⟩⟩⟩⟩⟩⟩⟩⟩⟩
theorem lw_p48 : lw_okq (⟨"TalkBusModel", "addresses", "(II)V"⟩, 20) := ⟨⟨by decide +kernel, by decide +kernel⟩, List.mem_of_getElem? (i := 489) (by decide +kernel), List.mem_of_getElem? (i := 662) (by decide +kernel), List.mem_of_getElem? (i := 663) (by decide +kernel)⟩
theorem lw_p49 : lw_okq (⟨"TalkBusModel", "listens", "(I)V"⟩, 20) := ⟨⟨by decide +kernel, by decide +kernel⟩, List.mem_of_getElem? (i := 489) (by decide +kernel), List.mem_of_getElem? (i := 666) (by decide +kernel), List.mem_of_getElem? (i := 667) (by decide +kernel)⟩
theorem lw_p50 : lw_okq (⟨"TalkBusModel", "silences", "()V"⟩, 20) := ⟨⟨by decide +kernel, by decide +kernel⟩, List.mem_of_getElem? (i := 489) (by decide +kernel), List.mem_of_getElem? (i := 670) (by decide +kernel), List.mem_of_getElem? (i := 671) (by decide +kernel)⟩
theorem lw_p51 : lw_okq (⟨"TalkBusModel", "prepares", "(I)V"⟩, 20) := ⟨⟨by decide +kernel, by decide +kernel⟩, List.mem_of_getElem? (i := 489) (by decide +kernel), List.mem_of_getElem? (i := 674) (by decide +kernel), List.mem_of_getElem? (i := 675) (by decide +kernel)⟩
theorem lw_p52 : lw_okq (⟨"TalkBusModel", "seconds", "(III)V"⟩, 20) := ⟨⟨by decide +kernel, by decide +kernel⟩, List.mem_of_getElem? (i := 489) (by decide +kernel), List.mem_of_getElem? (i := 678) (by decide +kernel), List.mem_of_getElem? (i := 679) (by decide +kernel)⟩
theorem lw_p53 : lw_okq (⟨"TalkBusModel", "gives", "()I"⟩, 20) := ⟨⟨by decide +kernel, by decide +kernel⟩, List.mem_of_getElem? (i := 489) (by decide +kernel), List.mem_of_getElem? (i := 686) (by decide +kernel), List.mem_of_getElem? (i := 687) (by decide +kernel)⟩
theorem lw_p54 : lw_okq (⟨"TalkBusModel", "takers", "()I"⟩, 20) := ⟨⟨by decide +kernel, by decide +kernel⟩, List.mem_of_getElem? (i := 489) (by decide +kernel), List.mem_of_getElem? (i := 690) (by decide +kernel), List.mem_of_getElem? (i := 691) (by decide +kernel)⟩
theorem lw_p55 : lw_okq (⟨"TalkBusModel", "firstOf", "(III)I"⟩, 20) := ⟨⟨by decide +kernel, by decide +kernel⟩, List.mem_of_getElem? (i := 489) (by decide +kernel), List.mem_of_getElem? (i := 694) (by decide +kernel), List.mem_of_getElem? (i := 695) (by decide +kernel)⟩
theorem lw_p56 : lw_okq (⟨"TalkBusModel", "sendsTo", "(II)V"⟩, 20) := ⟨⟨by decide +kernel, by decide +kernel⟩, List.mem_of_getElem? (i := 489) (by decide +kernel), List.mem_of_getElem? (i := 702) (by decide +kernel), List.mem_of_getElem? (i := 703) (by decide +kernel)⟩
theorem lw_p57 : lw_okq (⟨"TalkBusModel", "isDevice", "(I)Z"⟩, 20) := ⟨⟨by decide +kernel, by decide +kernel⟩, List.mem_of_getElem? (i := 489) (by decide +kernel), List.mem_of_getElem? (i := 718) (by decide +kernel), List.mem_of_getElem? (i := 719) (by decide +kernel)⟩
theorem lw_p58 : lw_okq (⟨"TalkBusModel", "anyAsks", "()I"⟩, 20) := ⟨⟨by decide +kernel, by decide +kernel⟩, List.mem_of_getElem? (i := 489) (by decide +kernel), List.mem_of_getElem? (i := 750) (by decide +kernel), List.mem_of_getElem? (i := 751) (by decide +kernel)⟩
def lw_privs_4 : List (MethodName × Nat) := [(⟨"TalkBusModel", "addresses", "(II)V"⟩, 20), (⟨"TalkBusModel", "listens", "(I)V"⟩, 20), (⟨"TalkBusModel", "silences", "()V"⟩, 20), (⟨"TalkBusModel", "prepares", "(I)V"⟩, 20), (⟨"TalkBusModel", "seconds", "(III)V"⟩, 20), (⟨"TalkBusModel", "gives", "()I"⟩, 20), (⟨"TalkBusModel", "takers", "()I"⟩, 20), (⟨"TalkBusModel", "firstOf", "(III)I"⟩, 20), (⟨"TalkBusModel", "sendsTo", "(II)V"⟩, 20), (⟨"TalkBusModel", "isDevice", "(I)Z"⟩, 20), (⟨"TalkBusModel", "anyAsks", "()I"⟩, 20)]
theorem lw_r4 : ∀ q ∈ lw_privs_4, lw_okq q := List.forall_mem_cons.mpr ⟨lw_p48, List.forall_mem_cons.mpr ⟨lw_p49, List.forall_mem_cons.mpr ⟨lw_p50, List.forall_mem_cons.mpr ⟨lw_p51, List.forall_mem_cons.mpr ⟨lw_p52, List.forall_mem_cons.mpr ⟨lw_p53, List.forall_mem_cons.mpr ⟨lw_p54, List.forall_mem_cons.mpr ⟨lw_p55, List.forall_mem_cons.mpr ⟨lw_p56, List.forall_mem_cons.mpr ⟨lw_p57, List.forall_mem_cons.mpr ⟨lw_p58, fun _ h => absurd h List.not_mem_nil⟩⟩⟩⟩⟩⟩⟩⟩⟩⟩⟩
def lw_privs : List (MethodName × Nat) := lw_privs_1 ++ (lw_privs_2 ++ (lw_privs_3 ++ (lw_privs_4)))
def lw_tbl : List Cond := k2_sels lw_privs ++ tables_1
theorem lw_privs_ok : ∀ q ∈ lw_privs, lw_okq q := by
  show ∀ q ∈ lw_privs_1 ++ (lw_privs_2 ++ (lw_privs_3 ++ (lw_privs_4))), lw_okq q
  exact List.forall_mem_append.mpr ⟨lw_r1, List.forall_mem_append.mpr ⟨lw_r2, List.forall_mem_append.mpr ⟨lw_r3, lw_r4⟩⟩⟩
def RX0 : String := "TalkBus$ByteRow"
def TX0 : u_T := fun k => match k with
  | 0 => ("TalkBus$ByteRow", "bytes", "[I", true)
  | _ => ("TalkBus$ByteRow", "size", "I", false)
def tyX0 : Nat → FieldType := fun k => match k with
  | 0 => .array .int
  | _ => .int
theorem nmX0 : ∀ a, a < 2 → ∀ b, b < 2 → a ≠ b → (TX0 a).2.1 ≠ (TX0 b).2.1 := by decide +kernel
theorem tyX0_ok : ∀ k, k < 2 → parseFieldDescriptor (TX0 k).2.2.1 = some (tyX0 k) := by decide +kernel
abbrev cX0_init : ByteArray := prog_2_method_1_code
def yX0_init : MethodName := ⟨RX0, "<init>", "()V"⟩
abbrev cX0_append : ByteArray := prog_2_method_2_code
def yX0_append : MethodName := ⟨RX0, "append", "(I)I"⟩
abbrev cX0_removeFirst : ByteArray := prog_2_method_3_code
def yX0_removeFirst : MethodName := ⟨RX0, "removeFirst", "()I"⟩
abbrev cX0_at : ByteArray := prog_2_method_4_code
def yX0_at : MethodName := ⟨RX0, "at", "(I)I"⟩
abbrev cX0_empty : ByteArray := prog_2_method_5_code
def yX0_empty : MethodName := ⟨RX0, "empty", "()V"⟩
def RX1 : String := "TalkBus$CommandLog"
def TX1 : u_T := fun k => match k with
  | 0 => ("TalkBus$CommandLog", "ticks", "[I", true)
  | 1 => ("TalkBus$CommandLog", "bytes", "[I", true)
  | 2 => ("TalkBus$CommandLog", "charges", "[I", true)
  | 3 => ("TalkBus$CommandLog", "size", "I", false)
  | _ => ("TalkBus$CommandLog", "next", "I", false)
def tyX1 : Nat → FieldType := fun k => match k with
  | 0 => .array .int
  | 1 => .array .int
  | 2 => .array .int
  | 3 => .int
  | _ => .int
theorem nmX1 : ∀ a, a < 5 → ∀ b, b < 5 → a ≠ b → (TX1 a).2.1 ≠ (TX1 b).2.1 := by decide +kernel
theorem tyX1_ok : ∀ k, k < 5 → parseFieldDescriptor (TX1 k).2.2.1 = some (tyX1 k) := by decide +kernel
abbrev cX1_init : ByteArray := prog_3_method_1_code
def yX1_init : MethodName := ⟨RX1, "<init>", "()V"⟩
abbrev cX1_empty : ByteArray := prog_3_method_2_code
def yX1_empty : MethodName := ⟨RX1, "empty", "()V"⟩
abbrev cX1_keep : ByteArray := prog_3_method_3_code
def yX1_keep : MethodName := ⟨RX1, "keep", "(III)V"⟩
abbrev cX1_tell : ByteArray := prog_3_method_4_code
def yX1_tell : MethodName := ⟨RX1, "tell", "(II)I"⟩
def RX2 : String := "TalkBus$Device"
def TX2 : u_T := fun k => match k with
  | 0 => ("TalkBus$Device", "out", "LTalkBus$ByteRow;", true)
  | 1 => ("TalkBus$Device", "in", "LTalkBus$ByteRow;", true)
  | 2 => ("TalkBus$Device", "kind", "I", false)
  | 3 => ("TalkBus$Device", "address", "I", false)
  | 4 => ("TalkBus$Device", "second", "I", false)
  | 5 => ("TalkBus$Device", "pace", "I", false)
  | 6 => ("TalkBus$Device", "delay", "I", false)
  | 7 => ("TalkBus$Device", "status", "I", false)
  | 8 => ("TalkBus$Device", "asks", "Z", false)
  | 9 => ("TalkBus$Device", "listens", "Z", false)
  | 10 => ("TalkBus$Device", "remote", "Z", false)
  | 11 => ("TalkBus$Device", "locked", "Z", false)
  | 12 => ("TalkBus$Device", "prepared", "Z", false)
  | 13 => ("TalkBus$Device", "named", "I", false)
  | 14 => ("TalkBus$Device", "line", "I", false)
  | 15 => ("TalkBus$Device", "sense", "I", false)
  | 16 => ("TalkBus$Device", "triggers", "I", false)
  | _ => ("TalkBus$Device", "due", "I", false)
def tyX2 : Nat → FieldType := fun k => match k with
  | 0 => .object "TalkBus$ByteRow"
  | 1 => .object "TalkBus$ByteRow"
  | 2 => .int
  | 3 => .int
  | 4 => .int
  | 5 => .int
  | 6 => .int
  | 7 => .int
  | 8 => .boolean
  | 9 => .boolean
  | 10 => .boolean
  | 11 => .boolean
  | 12 => .boolean
  | 13 => .int
  | 14 => .int
  | 15 => .int
  | 16 => .int
  | _ => .int
theorem nmX2 : ∀ a, a < 18 → ∀ b, b < 18 → a ≠ b → (TX2 a).2.1 ≠ (TX2 b).2.1 := by decide +kernel
theorem tyX2_ok : ∀ k, k < 18 → parseFieldDescriptor (TX2 k).2.2.1 = some (tyX2 k) := by decide +kernel
abbrev cX2_init : ByteArray := prog_4_method_1_code
def yX2_init : MethodName := ⟨RX2, "<init>", "()V"⟩
abbrev cX2_begin : ByteArray := prog_4_method_2_code
def yX2_begin : MethodName := ⟨RX2, "begin", "([II)V"⟩
abbrev cX2_clear : ByteArray := prog_4_method_3_code
def yX2_clear : MethodName := ⟨RX2, "clear", "()V"⟩
abbrev cX2_beginListening : ByteArray := prog_4_method_4_code
def yX2_beginListening : MethodName := ⟨RX2, "beginListening", "()V"⟩
abbrev cX2_beTriggered : ByteArray := prog_4_method_5_code
def yX2_beTriggered : MethodName := ⟨RX2, "beTriggered", "(I)V"⟩
abbrev cX2_isDueBy : ByteArray := prog_4_method_6_code
def yX2_isDueBy : MethodName := ⟨RX2, "isDueBy", "(I)Z"⟩
abbrev cX2_comeReading : ByteArray := prog_4_method_7_code
def yX2_comeReading : MethodName := ⟨RX2, "comeReading", "()V"⟩
abbrev cX2_pollByte : ByteArray := prog_4_method_8_code
def yX2_pollByte : MethodName := ⟨RX2, "pollByte", "()I"⟩
abbrev cX2_lineBit : ByteArray := prog_4_method_9_code
def yX2_lineBit : MethodName := ⟨RX2, "lineBit", "()I"⟩
abbrev cX2_tellSetting : ByteArray := prog_4_method_10_code
def yX2_tellSetting : MethodName := ⟨RX2, "tellSetting", "(I)I"⟩
abbrev cX2_tellState : ByteArray := prog_4_method_11_code
def yX2_tellState : MethodName := ⟨RX2, "tellState", "(II)I"⟩
def RX3 : String := "TalkBus$Text"
def TX3 : u_T := fun k => match k with
  | 0 => ("TalkBus$Text", "letters", "[C", true)
  | 1 => ("TalkBus$Text", "numbers", "[I", true)
  | 2 => ("TalkBus$Text", "length", "I", false)
  | _ => ("TalkBus$Text", "items", "I", false)
def tyX3 : Nat → FieldType := fun k => match k with
  | 0 => .array .char
  | 1 => .array .int
  | 2 => .int
  | _ => .int
theorem nmX3 : ∀ a, a < 4 → ∀ b, b < 4 → a ≠ b → (TX3 a).2.1 ≠ (TX3 b).2.1 := by decide +kernel
theorem tyX3_ok : ∀ k, k < 4 → parseFieldDescriptor (TX3 k).2.2.1 = some (tyX3 k) := by decide +kernel
abbrev cX3_init : ByteArray := prog_5_method_1_code
def yX3_init : MethodName := ⟨RX3, "<init>", "()V"⟩
abbrev cX3_append : ByteArray := prog_5_method_2_code
def yX3_append : MethodName := ⟨RX3, "append", "(I)I"⟩
abbrev cX3_empty : ByteArray := prog_5_method_3_code
def yX3_empty : MethodName := ⟨RX3, "empty", "()I"⟩
abbrev cX3_firstFault : ByteArray := prog_5_method_4_code
def yX3_firstFault : MethodName := ⟨RX3, "firstFault", "()I"⟩
abbrev cX3_beginsWithHost : ByteArray := prog_5_method_5_code
def yX3_beginsWithHost : MethodName := ⟨RX3, "beginsWithHost", "()Z"⟩
abbrev cX3_readItem : ByteArray := prog_5_method_6_code
def yX3_readItem : MethodName := ⟨RX3, "readItem", "(II)I"⟩
abbrev cX3_letterAt : ByteArray := prog_5_method_7_code
def yX3_letterAt : MethodName := ⟨RX3, "letterAt", "(I)C"⟩
abbrev cX3_isFigure : ByteArray := prog_5_method_8_code
def yX3_isFigure : MethodName := ⟨RX3, "isFigure", "(I)Z"⟩
abbrev cX3_figuresAt : ByteArray := prog_5_method_9_code
def yX3_figuresAt : MethodName := ⟨RX3, "figuresAt", "(I)I"⟩
abbrev cX3_numberAt : ByteArray := prog_5_method_10_code
def yX3_numberAt : MethodName := ⟨RX3, "numberAt", "(II)I"⟩
abbrev cX3_hasTakenAddress : ByteArray := prog_5_method_11_code
def yX3_hasTakenAddress : MethodName := ⟨RX3, "hasTakenAddress", "(I)Z"⟩
def RX4 : String := "TalkBus"
def TX4 : u_T := fun k => match k with
  | 0 => ("TalkBus", "text", "LTalkBus$Text;", true)
  | 1 => ("TalkBus", "devices", "[LTalkBus$Device;", true)
  | 2 => ("TalkBus", "sent", "LTalkBus$CommandLog;", true)
  | 3 => ("TalkBus", "sums", "[I", true)
  | 4 => ("TalkBus", "count", "I", false)
  | 5 => ("TalkBus", "now", "I", false)
  | 6 => ("TalkBus", "charge", "I", false)
  | 7 => ("TalkBus", "talker", "I", false)
  | 8 => ("TalkBus", "latest", "I", false)
  | _ => ("TalkBus", "polling", "Z", false)
def tyX4 : Nat → FieldType := fun k => match k with
  | 0 => .object "TalkBus$Text"
  | 1 => .array (.object "TalkBus$Device")
  | 2 => .object "TalkBus$CommandLog"
  | 3 => .array .int
  | 4 => .int
  | 5 => .int
  | 6 => .int
  | 7 => .int
  | 8 => .int
  | _ => .boolean
theorem nmX4 : ∀ a, a < 10 → ∀ b, b < 10 → a ≠ b → (TX4 a).2.1 ≠ (TX4 b).2.1 := by decide +kernel
theorem tyX4_ok : ∀ k, k < 10 → parseFieldDescriptor (TX4 k).2.2.1 = some (tyX4 k) := by decide +kernel
abbrev cX4_init : ByteArray := prog_1_method_1_code
def yX4_init : MethodName := ⟨RX4, "<init>", "()V"⟩
abbrev cX4_write : ByteArray := prog_1_method_2_code
def yX4_write : MethodName := ⟨RX4, "write", "(I)I"⟩
abbrev cX4_wipe : ByteArray := prog_1_method_3_code
def yX4_wipe : MethodName := ⟨RX4, "wipe", "()I"⟩
abbrev cX4_fault : ByteArray := prog_1_method_4_code
def yX4_fault : MethodName := ⟨RX4, "fault", "()I"⟩
abbrev cX4_lay : ByteArray := prog_1_method_5_code
def yX4_lay : MethodName := ⟨RX4, "lay", "()I"⟩
abbrev cX4_command : ByteArray := prog_1_method_6_code
def yX4_command : MethodName := ⟨RX4, "command", "(I)I"⟩
abbrev cX4_give : ByteArray := prog_1_method_7_code
def yX4_give : MethodName := ⟨RX4, "give", "()I"⟩
abbrev cX4_tick : ByteArray := prog_1_method_8_code
def yX4_tick : MethodName := ⟨RX4, "tick", "(I)I"⟩
abbrev cX4_poll : ByteArray := prog_1_method_9_code
def yX4_poll : MethodName := ⟨RX4, "poll", "()I"⟩
abbrev cX4_parallel : ByteArray := prog_1_method_10_code
def yX4_parallel : MethodName := ⟨RX4, "parallel", "()I"⟩
abbrev cX4_takeBack : ByteArray := prog_1_method_11_code
def yX4_takeBack : MethodName := ⟨RX4, "takeBack", "()I"⟩
abbrev cX4_put : ByteArray := prog_1_method_12_code
def yX4_put : MethodName := ⟨RX4, "put", "(II)I"⟩
abbrev cX4_take : ByteArray := prog_1_method_13_code
def yX4_take : MethodName := ⟨RX4, "take", "(I)I"⟩
abbrev cX4_ask : ByteArray := prog_1_method_14_code
def yX4_ask : MethodName := ⟨RX4, "ask", "(III)I"⟩
abbrev cX4_front : ByteArray := prog_1_method_15_code
def yX4_front : MethodName := ⟨RX4, "front", "(I)I"⟩
abbrev cX4_tune : ByteArray := prog_1_method_16_code
def yX4_tune : MethodName := ⟨RX4, "tune", "(III)I"⟩
abbrev cX4_device : ByteArray := prog_1_method_17_code
def yX4_device : MethodName := ⟨RX4, "device", "(II)I"⟩
abbrev cX4_row : ByteArray := prog_1_method_18_code
def yX4_row : MethodName := ⟨RX4, "row", "(III)I"⟩
abbrev cX4_bus : ByteArray := prog_1_method_19_code
def yX4_bus : MethodName := ⟨RX4, "bus", "(I)I"⟩
abbrev cX4_sum : ByteArray := prog_1_method_20_code
def yX4_sum : MethodName := ⟨RX4, "sum", "(I)I"⟩
abbrev cX4_log : ByteArray := prog_1_method_21_code
def yX4_log : MethodName := ⟨RX4, "log", "(II)I"⟩
abbrev cX4_beginWith : ByteArray := prog_1_method_22_code
def yX4_beginWith : MethodName := ⟨RX4, "beginWith", "([II)V"⟩
abbrev cX4_isDevice : ByteArray := prog_1_method_23_code
def yX4_isDevice : MethodName := ⟨RX4, "isDevice", "(I)Z"⟩
abbrev cX4_bit : ByteArray := prog_1_method_24_code
def yX4_bit : MethodName := ⟨RX4, "bit", "(Z)I"⟩
abbrev cX4_passTicks : ByteArray := prog_1_method_25_code
def yX4_passTicks : MethodName := ⟨RX4, "passTicks", "(I)V"⟩
abbrev cX4_greatestPace : ByteArray := prog_1_method_26_code
def yX4_greatestPace : MethodName := ⟨RX4, "greatestPace", "()I"⟩
abbrev cX4_sendAddress : ByteArray := prog_1_method_27_code
def yX4_sendAddress : MethodName := ⟨RX4, "sendAddress", "(II)V"⟩
abbrev cX4_send : ByteArray := prog_1_method_28_code
def yX4_send : MethodName := ⟨RX4, "send", "(I)V"⟩
abbrev cX4_obeyPlain : ByteArray := prog_1_method_29_code
def yX4_obeyPlain : MethodName := ⟨RX4, "obeyPlain", "(I)V"⟩
abbrev cX4_obeyAsOneOfAll : ByteArray := prog_1_method_30_code
def yX4_obeyAsOneOfAll : MethodName := ⟨RX4, "obeyAsOneOfAll", "(ILTalkBus$Device;)V"⟩
abbrev cX4_obeyAsListener : ByteArray := prog_1_method_31_code
def yX4_obeyAsListener : MethodName := ⟨RX4, "obeyAsListener", "(ILTalkBus$Device;)V"⟩
abbrev cX4_triggerOne : ByteArray := prog_1_method_32_code
def yX4_triggerOne : MethodName := ⟨RX4, "triggerOne", "(LTalkBus$Device;)V"⟩
abbrev cX4_passCharge : ByteArray := prog_1_method_33_code
def yX4_passCharge : MethodName := ⟨RX4, "passCharge", "()V"⟩
abbrev cX4_callListener : ByteArray := prog_1_method_34_code
def yX4_callListener : MethodName := ⟨RX4, "callListener", "(I)V"⟩
abbrev cX4_callTalker : ByteArray := prog_1_method_35_code
def yX4_callTalker : MethodName := ⟨RX4, "callTalker", "(I)V"⟩
abbrev cX4_obeySecond : ByteArray := prog_1_method_36_code
def yX4_obeySecond : MethodName := ⟨RX4, "obeySecond", "(I)V"⟩
abbrev cX4_setLines : ByteArray := prog_1_method_37_code
def yX4_setLines : MethodName := ⟨RX4, "setLines", "(I)V"⟩
abbrev cX4_answerSecond : ByteArray := prog_1_method_38_code
def yX4_answerSecond : MethodName := ⟨RX4, "answerSecond", "(I)V"⟩
abbrev cX4_endListening : ByteArray := prog_1_method_39_code
def yX4_endListening : MethodName := ⟨RX4, "endListening", "()V"⟩
abbrev cX4_endNamedAndPrepared : ByteArray := prog_1_method_40_code
def yX4_endNamedAndPrepared : MethodName := ⟨RX4, "endNamedAndPrepared", "()V"⟩
abbrev cX4_takesBytes : ByteArray := prog_1_method_41_code
def yX4_takesBytes : MethodName := ⟨RX4, "takesBytes", "(I)Z"⟩
abbrev cX4_ticksOfNextByte : ByteArray := prog_1_method_42_code
def yX4_ticksOfNextByte : MethodName := ⟨RX4, "ticksOfNextByte", "()I"⟩
abbrev cX4_giveByte : ByteArray := prog_1_method_43_code
def yX4_giveByte : MethodName := ⟨RX4, "giveByte", "()I"⟩
abbrev cX4_listenerBits : ByteArray := prog_1_method_44_code
def yX4_listenerBits : MethodName := ⟨RX4, "listenerBits", "()I"⟩
abbrev cX4_someoneAsks : ByteArray := prog_1_method_45_code
def yX4_someoneAsks : MethodName := ⟨RX4, "someoneAsks", "()Z"⟩
def RX5 : String := "TalkBusModel"
def TX5 : u_T := fun k => match k with
  | 0 => ("TalkBusModel", "length", "I", false)
  | 1 => ("TalkBusModel", "text", "[I", true)
  | 2 => ("TalkBusModel", "devices", "I", false)
  | 3 => ("TalkBusModel", "h", "[I", true)
  | 4 => ("TalkBusModel", "rows", "[I", true)
  | 5 => ("TalkBusModel", "charge", "I", false)
  | 6 => ("TalkBusModel", "polling", "I", false)
  | 7 => ("TalkBusModel", "now", "I", false)
  | 8 => ("TalkBusModel", "latest", "I", false)
  | 9 => ("TalkBusModel", "prepared", "I", false)
  | 10 => ("TalkBusModel", "sums", "[I", true)
  | 11 => ("TalkBusModel", "logged", "I", false)
  | 12 => ("TalkBusModel", "logTick", "[I", true)
  | 13 => ("TalkBusModel", "logByte", "[I", true)
  | 14 => ("TalkBusModel", "logCharge", "[I", true)
  | 15 => ("TalkBusModel", "readMany", "I", false)
  | 16 => ("TalkBusModel", "read", "[I", true)
  | 17 => ("TalkBusModel", "value", "I", false)
  | 18 => ("TalkBusModel", "ends", "I", false)
  | _ => ("TalkBusModel", "first", "[I", true)
def tyX5 : Nat → FieldType := fun k => match k with
  | 0 => .int
  | 1 => .array .int
  | 2 => .int
  | 3 => .array .int
  | 4 => .array .int
  | 5 => .int
  | 6 => .int
  | 7 => .int
  | 8 => .int
  | 9 => .int
  | 10 => .array .int
  | 11 => .int
  | 12 => .array .int
  | 13 => .array .int
  | 14 => .array .int
  | 15 => .int
  | 16 => .array .int
  | 17 => .int
  | 18 => .int
  | _ => .array .int
theorem nmX5 : ∀ a, a < 20 → ∀ b, b < 20 → a ≠ b → (TX5 a).2.1 ≠ (TX5 b).2.1 := by decide +kernel
theorem tyX5_ok : ∀ k, k < 20 → parseFieldDescriptor (TX5 k).2.2.1 = some (tyX5 k) := by decide +kernel
abbrev cX5_init : ByteArray := prog_7_method_1_code
def yX5_init : MethodName := ⟨RX5, "<init>", "()V"⟩
abbrev cX5_isIn : ByteArray := prog_7_method_2_code
def yX5_isIn : MethodName := ⟨RX5, "isIn", "(III)Z"⟩
abbrev cX5_of : ByteArray := prog_7_method_3_code
def yX5_of : MethodName := ⟨RX5, "of", "(II)I"⟩
abbrev cX5_puts : ByteArray := prog_7_method_4_code
def yX5_puts : MethodName := ⟨RX5, "puts", "(III)V"⟩
abbrev cX5_begins : ByteArray := prog_7_method_5_code
def yX5_begins : MethodName := ⟨RX5, "begins", "()V"⟩
abbrev cX5_letterAt : ByteArray := prog_7_method_6_code
def yX5_letterAt : MethodName := ⟨RX5, "letterAt", "(I)I"⟩
abbrev cX5_number : ByteArray := prog_7_method_7_code
def yX5_number : MethodName := ⟨RX5, "number", "(III)Z"⟩
abbrev cX5_highest : ByteArray := prog_7_method_8_code
def yX5_highest : MethodName := ⟨RX5, "highest", "(I)I"⟩
abbrev cX5_readsItem : ByteArray := prog_7_method_9_code
def yX5_readsItem : MethodName := ⟨RX5, "readsItem", "(I)Z"⟩
abbrev cX5_reads : ByteArray := prog_7_method_10_code
def yX5_reads : MethodName := ⟨RX5, "reads", "()I"⟩
abbrev cX5_write : ByteArray := prog_7_method_11_code
def yX5_write : MethodName := ⟨RX5, "write", "(I)I"⟩
abbrev cX5_wipe : ByteArray := prog_7_method_12_code
def yX5_wipe : MethodName := ⟨RX5, "wipe", "()I"⟩
abbrev cX5_fault : ByteArray := prog_7_method_13_code
def yX5_fault : MethodName := ⟨RX5, "fault", "()I"⟩
abbrev cX5_lay : ByteArray := prog_7_method_14_code
def yX5_lay : MethodName := ⟨RX5, "lay", "()I"⟩
abbrev cX5_comes : ByteArray := prog_7_method_15_code
def yX5_comes : MethodName := ⟨RX5, "comes", "()V"⟩
abbrev cX5_ticks : ByteArray := prog_7_method_16_code
def yX5_ticks : MethodName := ⟨RX5, "ticks", "(I)V"⟩
abbrev cX5_tick : ByteArray := prog_7_method_17_code
def yX5_tick : MethodName := ⟨RX5, "tick", "(I)I"⟩
abbrev cX5_clears : ByteArray := prog_7_method_18_code
def yX5_clears : MethodName := ⟨RX5, "clears", "(I)V"⟩
abbrev cX5_triggers : ByteArray := prog_7_method_19_code
def yX5_triggers : MethodName := ⟨RX5, "triggers", "(I)V"⟩
abbrev cX5_toListener : ByteArray := prog_7_method_20_code
def yX5_toListener : MethodName := ⟨RX5, "toListener", "(II)V"⟩
abbrev cX5_talker : ByteArray := prog_7_method_21_code
def yX5_talker : MethodName := ⟨RX5, "talker", "()I"⟩
abbrev cX5_silences : ByteArray := prog_7_method_22_code
def yX5_silences : MethodName := ⟨RX5, "silences", "()V"⟩
abbrev cX5_passes : ByteArray := prog_7_method_23_code
def yX5_passes : MethodName := ⟨RX5, "passes", "()V"⟩
abbrev cX5_listens : ByteArray := prog_7_method_24_code
def yX5_listens : MethodName := ⟨RX5, "listens", "(I)V"⟩
abbrev cX5_addresses : ByteArray := prog_7_method_25_code
def yX5_addresses : MethodName := ⟨RX5, "addresses", "(II)V"⟩
abbrev cX5_seconds : ByteArray := prog_7_method_26_code
def yX5_seconds : MethodName := ⟨RX5, "seconds", "(III)V"⟩
abbrev cX5_prepares : ByteArray := prog_7_method_27_code
def yX5_prepares : MethodName := ⟨RX5, "prepares", "(I)V"⟩
abbrev cX5_listeners : ByteArray := prog_7_method_28_code
def yX5_listeners : MethodName := ⟨RX5, "listeners", "()I"⟩
abbrev cX5_slowest : ByteArray := prog_7_method_29_code
def yX5_slowest : MethodName := ⟨RX5, "slowest", "(I)I"⟩
abbrev cX5_logs : ByteArray := prog_7_method_30_code
def yX5_logs : MethodName := ⟨RX5, "logs", "(I)V"⟩
abbrev cX5_all : ByteArray := prog_7_method_31_code
def yX5_all : MethodName := ⟨RX5, "all", "(II)V"⟩
abbrev cX5_sends : ByteArray := prog_7_method_32_code
def yX5_sends : MethodName := ⟨RX5, "sends", "(I)V"⟩
abbrev cX5_command : ByteArray := prog_7_method_33_code
def yX5_command : MethodName := ⟨RX5, "command", "(I)I"⟩
abbrev cX5_takers : ByteArray := prog_7_method_34_code
def yX5_takers : MethodName := ⟨RX5, "takers", "()I"⟩
abbrev cX5_firstOf : ByteArray := prog_7_method_35_code
def yX5_firstOf : MethodName := ⟨RX5, "firstOf", "(III)I"⟩
abbrev cX5_gives : ByteArray := prog_7_method_36_code
def yX5_gives : MethodName := ⟨RX5, "gives", "()I"⟩
abbrev cX5_give : ByteArray := prog_7_method_37_code
def yX5_give : MethodName := ⟨RX5, "give", "()I"⟩
abbrev cX5_sendsTo : ByteArray := prog_7_method_38_code
def yX5_sendsTo : MethodName := ⟨RX5, "sendsTo", "(II)V"⟩
abbrev cX5_poll : ByteArray := prog_7_method_39_code
def yX5_poll : MethodName := ⟨RX5, "poll", "()I"⟩
abbrev cX5_parallel : ByteArray := prog_7_method_40_code
def yX5_parallel : MethodName := ⟨RX5, "parallel", "()I"⟩
abbrev cX5_takeBack : ByteArray := prog_7_method_41_code
def yX5_takeBack : MethodName := ⟨RX5, "takeBack", "()I"⟩
abbrev cX5_isDevice : ByteArray := prog_7_method_42_code
def yX5_isDevice : MethodName := ⟨RX5, "isDevice", "(I)Z"⟩
abbrev cX5_put : ByteArray := prog_7_method_43_code
def yX5_put : MethodName := ⟨RX5, "put", "(II)I"⟩
abbrev cX5_take : ByteArray := prog_7_method_44_code
def yX5_take : MethodName := ⟨RX5, "take", "(I)I"⟩
abbrev cX5_ask : ByteArray := prog_7_method_45_code
def yX5_ask : MethodName := ⟨RX5, "ask", "(III)I"⟩
abbrev cX5_front : ByteArray := prog_7_method_46_code
def yX5_front : MethodName := ⟨RX5, "front", "(I)I"⟩
abbrev cX5_tune : ByteArray := prog_7_method_47_code
def yX5_tune : MethodName := ⟨RX5, "tune", "(III)I"⟩
abbrev cX5_device : ByteArray := prog_7_method_48_code
def yX5_device : MethodName := ⟨RX5, "device", "(II)I"⟩
abbrev cX5_row : ByteArray := prog_7_method_49_code
def yX5_row : MethodName := ⟨RX5, "row", "(III)I"⟩
abbrev cX5_anyAsks : ByteArray := prog_7_method_50_code
def yX5_anyAsks : MethodName := ⟨RX5, "anyAsks", "()I"⟩
abbrev cX5_bus : ByteArray := prog_7_method_51_code
def yX5_bus : MethodName := ⟨RX5, "bus", "(I)I"⟩
abbrev cX5_sum : ByteArray := prog_7_method_52_code
def yX5_sum : MethodName := ⟨RX5, "sum", "(I)I"⟩
abbrev cX5_log : ByteArray := prog_7_method_53_code
def yX5_log : MethodName := ⟨RX5, "log", "(II)I"⟩
def RL : String := "TalkBusLaw"
abbrev cL_law : ByteArray := code
def yL_law : MethodName := ⟨RL, "law", "([I)Z"⟩
abbrev vwCl : List vw_C := [(RX0, TX0, 2), (RX1, TX1, 5), (RX2, TX2, 18), (RX3, TX3, 4), (RX4, TX4, 10), (RX5, TX5, 20)]
