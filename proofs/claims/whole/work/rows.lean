section
-- ===== PART A: goes FIRST, ahead of the names: the tables' words, and 'selects' of the private methods out of them =====
/-- a private method of a class that the tables say can be made, by its rows of tables_1 -/
def lw_okq (q : MethodName × Nat) : Prop := (q.1.cls ≠ "java/lang/invoke/MethodHandle" ∧ q.1.cls ≠ "java/lang/invoke/VarHandle") ∧ Cond.instantiable q.1.cls q.2 ∈ tables_1 ∧ Cond.privateMethod q.1 ∈ tables_1 ∧ Cond.instanceMethod q.1 ∈ tables_1
theorem lw_p0 : lw_okq (⟨"TalkBus", "beginWith", "([II)V"⟩, 10) := ⟨⟨by decide +kernel, by decide +kernel⟩, List.mem_of_getElem? (i := 9) (by decide +kernel), List.mem_of_getElem? (i := 159) (by decide +kernel), List.mem_of_getElem? (i := 160) (by decide +kernel)⟩
theorem lw_p1 : lw_okq (⟨"TalkBus$Text", "readItem", "(II)I"⟩, 4) := ⟨⟨by decide +kernel, by decide +kernel⟩, List.mem_of_getElem? (i := 17) (by decide +kernel), List.mem_of_getElem? (i := 234) (by decide +kernel), List.mem_of_getElem? (i := 235) (by decide +kernel)⟩
theorem lw_p2 : lw_okq (⟨"TalkBus$Text", "letterAt", "(I)C"⟩, 4) := ⟨⟨by decide +kernel, by decide +kernel⟩, List.mem_of_getElem? (i := 17) (by decide +kernel), List.mem_of_getElem? (i := 238) (by decide +kernel), List.mem_of_getElem? (i := 239) (by decide +kernel)⟩
theorem lw_p3 : lw_okq (⟨"TalkBus$Text", "figuresAt", "(I)I"⟩, 4) := ⟨⟨by decide +kernel, by decide +kernel⟩, List.mem_of_getElem? (i := 17) (by decide +kernel), List.mem_of_getElem? (i := 242) (by decide +kernel), List.mem_of_getElem? (i := 243) (by decide +kernel)⟩
theorem lw_p4 : lw_okq (⟨"TalkBus$Text", "isFigure", "(I)Z"⟩, 4) := ⟨⟨by decide +kernel, by decide +kernel⟩, List.mem_of_getElem? (i := 17) (by decide +kernel), List.mem_of_getElem? (i := 246) (by decide +kernel), List.mem_of_getElem? (i := 247) (by decide +kernel)⟩
theorem lw_p5 : lw_okq (⟨"TalkBus$Text", "numberAt", "(II)I"⟩, 4) := ⟨⟨by decide +kernel, by decide +kernel⟩, List.mem_of_getElem? (i := 17) (by decide +kernel), List.mem_of_getElem? (i := 250) (by decide +kernel), List.mem_of_getElem? (i := 251) (by decide +kernel)⟩
theorem lw_p6 : lw_okq (⟨"TalkBus$Text", "hasTakenAddress", "(I)Z"⟩, 4) := ⟨⟨by decide +kernel, by decide +kernel⟩, List.mem_of_getElem? (i := 17) (by decide +kernel), List.mem_of_getElem? (i := 258) (by decide +kernel), List.mem_of_getElem? (i := 259) (by decide +kernel)⟩
theorem lw_p7 : lw_okq (⟨"TalkBus", "send", "(I)V"⟩, 10) := ⟨⟨by decide +kernel, by decide +kernel⟩, List.mem_of_getElem? (i := 9) (by decide +kernel), List.mem_of_getElem? (i := 274) (by decide +kernel), List.mem_of_getElem? (i := 275) (by decide +kernel)⟩
theorem lw_p8 : lw_okq (⟨"TalkBus", "greatestPace", "()I"⟩, 10) := ⟨⟨by decide +kernel, by decide +kernel⟩, List.mem_of_getElem? (i := 9) (by decide +kernel), List.mem_of_getElem? (i := 285) (by decide +kernel), List.mem_of_getElem? (i := 286) (by decide +kernel)⟩
theorem lw_p9 : lw_okq (⟨"TalkBus", "passTicks", "(I)V"⟩, 10) := ⟨⟨by decide +kernel, by decide +kernel⟩, List.mem_of_getElem? (i := 9) (by decide +kernel), List.mem_of_getElem? (i := 292) (by decide +kernel), List.mem_of_getElem? (i := 293) (by decide +kernel)⟩
theorem lw_p10 : lw_okq (⟨"TalkBus", "obeySecond", "(I)V"⟩, 10) := ⟨⟨by decide +kernel, by decide +kernel⟩, List.mem_of_getElem? (i := 9) (by decide +kernel), List.mem_of_getElem? (i := 308) (by decide +kernel), List.mem_of_getElem? (i := 309) (by decide +kernel)⟩
theorem lw_p11 : lw_okq (⟨"TalkBus", "setLines", "(I)V"⟩, 10) := ⟨⟨by decide +kernel, by decide +kernel⟩, List.mem_of_getElem? (i := 9) (by decide +kernel), List.mem_of_getElem? (i := 312) (by decide +kernel), List.mem_of_getElem? (i := 313) (by decide +kernel)⟩
theorem lw_p12 : lw_okq (⟨"TalkBus", "answerSecond", "(I)V"⟩, 10) := ⟨⟨by decide +kernel, by decide +kernel⟩, List.mem_of_getElem? (i := 9) (by decide +kernel), List.mem_of_getElem? (i := 316) (by decide +kernel), List.mem_of_getElem? (i := 317) (by decide +kernel)⟩
theorem lw_p13 : lw_okq (⟨"TalkBus", "endNamedAndPrepared", "()V"⟩, 10) := ⟨⟨by decide +kernel, by decide +kernel⟩, List.mem_of_getElem? (i := 9) (by decide +kernel), List.mem_of_getElem? (i := 324) (by decide +kernel), List.mem_of_getElem? (i := 325) (by decide +kernel)⟩
theorem lw_p14 : lw_okq (⟨"TalkBus", "obeyPlain", "(I)V"⟩, 10) := ⟨⟨by decide +kernel, by decide +kernel⟩, List.mem_of_getElem? (i := 9) (by decide +kernel), List.mem_of_getElem? (i := 328) (by decide +kernel), List.mem_of_getElem? (i := 329) (by decide +kernel)⟩
theorem lw_p15 : lw_okq (⟨"TalkBus", "passCharge", "()V"⟩, 10) := ⟨⟨by decide +kernel, by decide +kernel⟩, List.mem_of_getElem? (i := 9) (by decide +kernel), List.mem_of_getElem? (i := 332) (by decide +kernel), List.mem_of_getElem? (i := 333) (by decide +kernel)⟩
def lw_privs_1 : List (MethodName × Nat) := [(⟨"TalkBus", "beginWith", "([II)V"⟩, 10), (⟨"TalkBus$Text", "readItem", "(II)I"⟩, 4), (⟨"TalkBus$Text", "letterAt", "(I)C"⟩, 4), (⟨"TalkBus$Text", "figuresAt", "(I)I"⟩, 4), (⟨"TalkBus$Text", "isFigure", "(I)Z"⟩, 4), (⟨"TalkBus$Text", "numberAt", "(II)I"⟩, 4), (⟨"TalkBus$Text", "hasTakenAddress", "(I)Z"⟩, 4), (⟨"TalkBus", "send", "(I)V"⟩, 10), (⟨"TalkBus", "greatestPace", "()I"⟩, 10), (⟨"TalkBus", "passTicks", "(I)V"⟩, 10), (⟨"TalkBus", "obeySecond", "(I)V"⟩, 10), (⟨"TalkBus", "setLines", "(I)V"⟩, 10), (⟨"TalkBus", "answerSecond", "(I)V"⟩, 10), (⟨"TalkBus", "endNamedAndPrepared", "()V"⟩, 10), (⟨"TalkBus", "obeyPlain", "(I)V"⟩, 10), (⟨"TalkBus", "passCharge", "()V"⟩, 10)]
theorem lw_r1 : ∀ q ∈ lw_privs_1, lw_okq q := List.forall_mem_cons.mpr ⟨lw_p0, List.forall_mem_cons.mpr ⟨lw_p1, List.forall_mem_cons.mpr ⟨lw_p2, List.forall_mem_cons.mpr ⟨lw_p3, List.forall_mem_cons.mpr ⟨lw_p4, List.forall_mem_cons.mpr ⟨lw_p5, List.forall_mem_cons.mpr ⟨lw_p6, List.forall_mem_cons.mpr ⟨lw_p7, List.forall_mem_cons.mpr ⟨lw_p8, List.forall_mem_cons.mpr ⟨lw_p9, List.forall_mem_cons.mpr ⟨lw_p10, List.forall_mem_cons.mpr ⟨lw_p11, List.forall_mem_cons.mpr ⟨lw_p12, List.forall_mem_cons.mpr ⟨lw_p13, List.forall_mem_cons.mpr ⟨lw_p14, List.forall_mem_cons.mpr ⟨lw_p15, fun _ h => absurd h List.not_mem_nil⟩⟩⟩⟩⟩⟩⟩⟩⟩⟩⟩⟩⟩⟩⟩⟩
theorem lw_p16 : lw_okq (⟨"TalkBus", "isDevice", "(I)Z"⟩, 10) := ⟨⟨by decide +kernel, by decide +kernel⟩, List.mem_of_getElem? (i := 9) (by decide +kernel), List.mem_of_getElem? (i := 336) (by decide +kernel), List.mem_of_getElem? (i := 337) (by decide +kernel)⟩
theorem lw_p17 : lw_okq (⟨"TalkBus", "obeyAsOneOfAll", "(ILTalkBus$Device;)V"⟩, 10) := ⟨⟨by decide +kernel, by decide +kernel⟩, List.mem_of_getElem? (i := 9) (by decide +kernel), List.mem_of_getElem? (i := 340) (by decide +kernel), List.mem_of_getElem? (i := 341) (by decide +kernel)⟩
theorem lw_p18 : lw_okq (⟨"TalkBus", "obeyAsListener", "(ILTalkBus$Device;)V"⟩, 10) := ⟨⟨by decide +kernel, by decide +kernel⟩, List.mem_of_getElem? (i := 9) (by decide +kernel), List.mem_of_getElem? (i := 345) (by decide +kernel), List.mem_of_getElem? (i := 346) (by decide +kernel)⟩
theorem lw_p19 : lw_okq (⟨"TalkBus", "triggerOne", "(LTalkBus$Device;)V"⟩, 10) := ⟨⟨by decide +kernel, by decide +kernel⟩, List.mem_of_getElem? (i := 9) (by decide +kernel), List.mem_of_getElem? (i := 349) (by decide +kernel), List.mem_of_getElem? (i := 350) (by decide +kernel)⟩
theorem lw_p20 : lw_okq (⟨"TalkBus", "callListener", "(I)V"⟩, 10) := ⟨⟨by decide +kernel, by decide +kernel⟩, List.mem_of_getElem? (i := 9) (by decide +kernel), List.mem_of_getElem? (i := 358) (by decide +kernel), List.mem_of_getElem? (i := 359) (by decide +kernel)⟩
theorem lw_p21 : lw_okq (⟨"TalkBus", "endListening", "()V"⟩, 10) := ⟨⟨by decide +kernel, by decide +kernel⟩, List.mem_of_getElem? (i := 9) (by decide +kernel), List.mem_of_getElem? (i := 362) (by decide +kernel), List.mem_of_getElem? (i := 363) (by decide +kernel)⟩
theorem lw_p22 : lw_okq (⟨"TalkBus", "callTalker", "(I)V"⟩, 10) := ⟨⟨by decide +kernel, by decide +kernel⟩, List.mem_of_getElem? (i := 9) (by decide +kernel), List.mem_of_getElem? (i := 366) (by decide +kernel), List.mem_of_getElem? (i := 367) (by decide +kernel)⟩
theorem lw_p23 : lw_okq (⟨"TalkBus", "giveByte", "()I"⟩, 10) := ⟨⟨by decide +kernel, by decide +kernel⟩, List.mem_of_getElem? (i := 9) (by decide +kernel), List.mem_of_getElem? (i := 374) (by decide +kernel), List.mem_of_getElem? (i := 375) (by decide +kernel)⟩
theorem lw_p24 : lw_okq (⟨"TalkBus", "ticksOfNextByte", "()I"⟩, 10) := ⟨⟨by decide +kernel, by decide +kernel⟩, List.mem_of_getElem? (i := 9) (by decide +kernel), List.mem_of_getElem? (i := 378) (by decide +kernel), List.mem_of_getElem? (i := 379) (by decide +kernel)⟩
theorem lw_p25 : lw_okq (⟨"TalkBus", "takesBytes", "(I)Z"⟩, 10) := ⟨⟨by decide +kernel, by decide +kernel⟩, List.mem_of_getElem? (i := 9) (by decide +kernel), List.mem_of_getElem? (i := 382) (by decide +kernel), List.mem_of_getElem? (i := 383) (by decide +kernel)⟩
theorem lw_p26 : lw_okq (⟨"TalkBus", "sendAddress", "(II)V"⟩, 10) := ⟨⟨by decide +kernel, by decide +kernel⟩, List.mem_of_getElem? (i := 9) (by decide +kernel), List.mem_of_getElem? (i := 403) (by decide +kernel), List.mem_of_getElem? (i := 404) (by decide +kernel)⟩
theorem lw_p27 : lw_okq (⟨"TalkBus", "listenerBits", "()I"⟩, 10) := ⟨⟨by decide +kernel, by decide +kernel⟩, List.mem_of_getElem? (i := 9) (by decide +kernel), List.mem_of_getElem? (i := 469) (by decide +kernel), List.mem_of_getElem? (i := 470) (by decide +kernel)⟩
theorem lw_p28 : lw_okq (⟨"TalkBus", "someoneAsks", "()Z"⟩, 10) := ⟨⟨by decide +kernel, by decide +kernel⟩, List.mem_of_getElem? (i := 9) (by decide +kernel), List.mem_of_getElem? (i := 473) (by decide +kernel), List.mem_of_getElem? (i := 474) (by decide +kernel)⟩
theorem lw_p29 : lw_okq (⟨"TalkBusModel", "begins", "()V"⟩, 20) := ⟨⟨by decide +kernel, by decide +kernel⟩, List.mem_of_getElem? (i := 489) (by decide +kernel), List.mem_of_getElem? (i := 495) (by decide +kernel), List.mem_of_getElem? (i := 496) (by decide +kernel)⟩
theorem lw_p30 : lw_okq (⟨"TalkBusModel", "puts", "(III)V"⟩, 20) := ⟨⟨by decide +kernel, by decide +kernel⟩, List.mem_of_getElem? (i := 489) (by decide +kernel), List.mem_of_getElem? (i := 499) (by decide +kernel), List.mem_of_getElem? (i := 500) (by decide +kernel)⟩
theorem lw_p31 : lw_okq (⟨"TalkBusModel", "reads", "()I"⟩, 20) := ⟨⟨by decide +kernel, by decide +kernel⟩, List.mem_of_getElem? (i := 489) (by decide +kernel), List.mem_of_getElem? (i := 576) (by decide +kernel), List.mem_of_getElem? (i := 577) (by decide +kernel)⟩
def lw_privs_2 : List (MethodName × Nat) := [(⟨"TalkBus", "isDevice", "(I)Z"⟩, 10), (⟨"TalkBus", "obeyAsOneOfAll", "(ILTalkBus$Device;)V"⟩, 10), (⟨"TalkBus", "obeyAsListener", "(ILTalkBus$Device;)V"⟩, 10), (⟨"TalkBus", "triggerOne", "(LTalkBus$Device;)V"⟩, 10), (⟨"TalkBus", "callListener", "(I)V"⟩, 10), (⟨"TalkBus", "endListening", "()V"⟩, 10), (⟨"TalkBus", "callTalker", "(I)V"⟩, 10), (⟨"TalkBus", "giveByte", "()I"⟩, 10), (⟨"TalkBus", "ticksOfNextByte", "()I"⟩, 10), (⟨"TalkBus", "takesBytes", "(I)Z"⟩, 10), (⟨"TalkBus", "sendAddress", "(II)V"⟩, 10), (⟨"TalkBus", "listenerBits", "()I"⟩, 10), (⟨"TalkBus", "someoneAsks", "()Z"⟩, 10), (⟨"TalkBusModel", "begins", "()V"⟩, 20), (⟨"TalkBusModel", "puts", "(III)V"⟩, 20), (⟨"TalkBusModel", "reads", "()I"⟩, 20)]
theorem lw_r2 : ∀ q ∈ lw_privs_2, lw_okq q := List.forall_mem_cons.mpr ⟨lw_p16, List.forall_mem_cons.mpr ⟨lw_p17, List.forall_mem_cons.mpr ⟨lw_p18, List.forall_mem_cons.mpr ⟨lw_p19, List.forall_mem_cons.mpr ⟨lw_p20, List.forall_mem_cons.mpr ⟨lw_p21, List.forall_mem_cons.mpr ⟨lw_p22, List.forall_mem_cons.mpr ⟨lw_p23, List.forall_mem_cons.mpr ⟨lw_p24, List.forall_mem_cons.mpr ⟨lw_p25, List.forall_mem_cons.mpr ⟨lw_p26, List.forall_mem_cons.mpr ⟨lw_p27, List.forall_mem_cons.mpr ⟨lw_p28, List.forall_mem_cons.mpr ⟨lw_p29, List.forall_mem_cons.mpr ⟨lw_p30, List.forall_mem_cons.mpr ⟨lw_p31, fun _ h => absurd h List.not_mem_nil⟩⟩⟩⟩⟩⟩⟩⟩⟩⟩⟩⟩⟩⟩⟩⟩
theorem lw_p32 : lw_okq (⟨"TalkBusModel", "readsItem", "(I)Z"⟩, 20) := ⟨⟨by decide +kernel, by decide +kernel⟩, List.mem_of_getElem? (i := 489) (by decide +kernel), List.mem_of_getElem? (i := 580) (by decide +kernel), List.mem_of_getElem? (i := 581) (by decide +kernel)⟩
theorem lw_p33 : lw_okq (⟨"TalkBusModel", "letterAt", "(I)I"⟩, 20) := ⟨⟨by decide +kernel, by decide +kernel⟩, List.mem_of_getElem? (i := 489) (by decide +kernel), List.mem_of_getElem? (i := 584) (by decide +kernel), List.mem_of_getElem? (i := 585) (by decide +kernel)⟩
theorem lw_p34 : lw_okq (⟨"TalkBusModel", "number", "(III)Z"⟩, 20) := ⟨⟨by decide +kernel, by decide +kernel⟩, List.mem_of_getElem? (i := 489) (by decide +kernel), List.mem_of_getElem? (i := 591) (by decide +kernel), List.mem_of_getElem? (i := 592) (by decide +kernel)⟩
theorem lw_p35 : lw_okq (⟨"TalkBusModel", "ticks", "(I)V"⟩, 20) := ⟨⟨by decide +kernel, by decide +kernel⟩, List.mem_of_getElem? (i := 489) (by decide +kernel), List.mem_of_getElem? (i := 606) (by decide +kernel), List.mem_of_getElem? (i := 607) (by decide +kernel)⟩
theorem lw_p36 : lw_okq (⟨"TalkBusModel", "comes", "()V"⟩, 20) := ⟨⟨by decide +kernel, by decide +kernel⟩, List.mem_of_getElem? (i := 489) (by decide +kernel), List.mem_of_getElem? (i := 610) (by decide +kernel), List.mem_of_getElem? (i := 611) (by decide +kernel)⟩
theorem lw_p37 : lw_okq (⟨"TalkBusModel", "of", "(II)I"⟩, 20) := ⟨⟨by decide +kernel, by decide +kernel⟩, List.mem_of_getElem? (i := 489) (by decide +kernel), List.mem_of_getElem? (i := 614) (by decide +kernel), List.mem_of_getElem? (i := 615) (by decide +kernel)⟩
theorem lw_p38 : lw_okq (⟨"TalkBusModel", "sends", "(I)V"⟩, 20) := ⟨⟨by decide +kernel, by decide +kernel⟩, List.mem_of_getElem? (i := 489) (by decide +kernel), List.mem_of_getElem? (i := 622) (by decide +kernel), List.mem_of_getElem? (i := 623) (by decide +kernel)⟩
theorem lw_p39 : lw_okq (⟨"TalkBusModel", "logs", "(I)V"⟩, 20) := ⟨⟨by decide +kernel, by decide +kernel⟩, List.mem_of_getElem? (i := 489) (by decide +kernel), List.mem_of_getElem? (i := 626) (by decide +kernel), List.mem_of_getElem? (i := 627) (by decide +kernel)⟩
theorem lw_p40 : lw_okq (⟨"TalkBusModel", "slowest", "(I)I"⟩, 20) := ⟨⟨by decide +kernel, by decide +kernel⟩, List.mem_of_getElem? (i := 489) (by decide +kernel), List.mem_of_getElem? (i := 630) (by decide +kernel), List.mem_of_getElem? (i := 631) (by decide +kernel)⟩
theorem lw_p41 : lw_okq (⟨"TalkBusModel", "listeners", "()I"⟩, 20) := ⟨⟨by decide +kernel, by decide +kernel⟩, List.mem_of_getElem? (i := 489) (by decide +kernel), List.mem_of_getElem? (i := 634) (by decide +kernel), List.mem_of_getElem? (i := 635) (by decide +kernel)⟩
theorem lw_p42 : lw_okq (⟨"TalkBusModel", "clears", "(I)V"⟩, 20) := ⟨⟨by decide +kernel, by decide +kernel⟩, List.mem_of_getElem? (i := 489) (by decide +kernel), List.mem_of_getElem? (i := 638) (by decide +kernel), List.mem_of_getElem? (i := 639) (by decide +kernel)⟩
theorem lw_p43 : lw_okq (⟨"TalkBusModel", "toListener", "(II)V"⟩, 20) := ⟨⟨by decide +kernel, by decide +kernel⟩, List.mem_of_getElem? (i := 489) (by decide +kernel), List.mem_of_getElem? (i := 642) (by decide +kernel), List.mem_of_getElem? (i := 643) (by decide +kernel)⟩
theorem lw_p44 : lw_okq (⟨"TalkBusModel", "triggers", "(I)V"⟩, 20) := ⟨⟨by decide +kernel, by decide +kernel⟩, List.mem_of_getElem? (i := 489) (by decide +kernel), List.mem_of_getElem? (i := 646) (by decide +kernel), List.mem_of_getElem? (i := 647) (by decide +kernel)⟩
theorem lw_p45 : lw_okq (⟨"TalkBusModel", "passes", "()V"⟩, 20) := ⟨⟨by decide +kernel, by decide +kernel⟩, List.mem_of_getElem? (i := 489) (by decide +kernel), List.mem_of_getElem? (i := 650) (by decide +kernel), List.mem_of_getElem? (i := 651) (by decide +kernel)⟩
theorem lw_p46 : lw_okq (⟨"TalkBusModel", "talker", "()I"⟩, 20) := ⟨⟨by decide +kernel, by decide +kernel⟩, List.mem_of_getElem? (i := 489) (by decide +kernel), List.mem_of_getElem? (i := 654) (by decide +kernel), List.mem_of_getElem? (i := 655) (by decide +kernel)⟩
theorem lw_p47 : lw_okq (⟨"TalkBusModel", "all", "(II)V"⟩, 20) := ⟨⟨by decide +kernel, by decide +kernel⟩, List.mem_of_getElem? (i := 489) (by decide +kernel), List.mem_of_getElem? (i := 658) (by decide +kernel), List.mem_of_getElem? (i := 659) (by decide +kernel)⟩
def lw_privs_3 : List (MethodName × Nat) := [(⟨"TalkBusModel", "readsItem", "(I)Z"⟩, 20), (⟨"TalkBusModel", "letterAt", "(I)I"⟩, 20), (⟨"TalkBusModel", "number", "(III)Z"⟩, 20), (⟨"TalkBusModel", "ticks", "(I)V"⟩, 20), (⟨"TalkBusModel", "comes", "()V"⟩, 20), (⟨"TalkBusModel", "of", "(II)I"⟩, 20), (⟨"TalkBusModel", "sends", "(I)V"⟩, 20), (⟨"TalkBusModel", "logs", "(I)V"⟩, 20), (⟨"TalkBusModel", "slowest", "(I)I"⟩, 20), (⟨"TalkBusModel", "listeners", "()I"⟩, 20), (⟨"TalkBusModel", "clears", "(I)V"⟩, 20), (⟨"TalkBusModel", "toListener", "(II)V"⟩, 20), (⟨"TalkBusModel", "triggers", "(I)V"⟩, 20), (⟨"TalkBusModel", "passes", "()V"⟩, 20), (⟨"TalkBusModel", "talker", "()I"⟩, 20), (⟨"TalkBusModel", "all", "(II)V"⟩, 20)]
theorem lw_r3 : ∀ q ∈ lw_privs_3, lw_okq q := List.forall_mem_cons.mpr ⟨lw_p32, List.forall_mem_cons.mpr ⟨lw_p33, List.forall_mem_cons.mpr ⟨lw_p34, List.forall_mem_cons.mpr ⟨lw_p35, List.forall_mem_cons.mpr ⟨lw_p36, List.forall_mem_cons.mpr ⟨lw_p37, List.forall_mem_cons.mpr ⟨lw_p38, List.forall_mem_cons.mpr ⟨lw_p39, List.forall_mem_cons.mpr ⟨lw_p40, List.forall_mem_cons.mpr ⟨lw_p41, List.forall_mem_cons.mpr ⟨lw_p42, List.forall_mem_cons.mpr ⟨lw_p43, List.forall_mem_cons.mpr ⟨lw_p44, List.forall_mem_cons.mpr ⟨lw_p45, List.forall_mem_cons.mpr ⟨lw_p46, List.forall_mem_cons.mpr ⟨lw_p47, fun _ h => absurd h List.not_mem_nil⟩⟩⟩⟩⟩⟩⟩⟩⟩⟩⟩⟩⟩⟩⟩⟩
theorem lw_p48 : lw_okq (⟨"TalkBusModel", "addresses", "(II)V"⟩, 20) := ⟨⟨by decide +kernel, by decide +kernel⟩, List.mem_of_getElem? (i := 489) (by decide +kernel), List.mem_of_getElem? (i := 662) (by decide +kernel), List.mem_of_getElem? (i := 663) (by decide +kernel)⟩
theorem lw_p49 : lw_okq (⟨"TalkBusModel", "listens", "(I)V"⟩, 20) := ⟨⟨by decide +kernel, by decide +kernel⟩, List.mem_of_getElem? (i := 489) (by decide +kernel), List.mem_of_getElem? (i := 666) (by decide +kernel), List.mem_of_getElem? (i := 667) (by decide +kernel)⟩
theorem lw_p50 : lw_okq (⟨"TalkBusModel", "silences", "()V"⟩, 20) := ⟨⟨by decide +kernel, by decide +kernel⟩, List.mem_of_getElem? (i := 489) (by decide +kernel), List.mem_of_getElem? (i := 670) (by decide +kernel), List.mem_of_getElem? (i := 671) (by decide +kernel)⟩
theorem lw_p51 : lw_okq (⟨"TalkBusModel", "prepares", "(I)V"⟩, 20) := ⟨⟨by decide +kernel, by decide +kernel⟩, List.mem_of_getElem? (i := 489) (by decide +kernel), List.mem_of_getElem? (i := 674) (by decide +kernel), List.mem_of_getElem? (i := 675) (by decide +kernel)⟩
theorem lw_p52 : lw_okq (⟨"TalkBusModel", "seconds", "(III)V"⟩, 20) := ⟨⟨by decide +kernel, by decide +kernel⟩, List.mem_of_getElem? (i := 489) (by decide +kernel), List.mem_of_getElem? (i := 678) (by decide +kernel), List.mem_of_getElem? (i := 679) (by decide +kernel)⟩
theorem lw_p53 : lw_okq (⟨"TalkBusModel", "gives", "()I"⟩, 20) := ⟨⟨by decide +kernel, by decide +kernel⟩, List.mem_of_getElem? (i := 489) (by decide +kernel), List.mem_of_getElem? (i := 686) (by decide +kernel), List.mem_of_getElem? (i := 687) (by decide +kernel)⟩
theorem lw_p54 : lw_okq (⟨"TalkBusModel", "takers", "()I"⟩, 20) := ⟨⟨by decide +kernel, by decide +kernel⟩, List.mem_of_getElem? (i := 489) (by decide +kernel), List.mem_of_getElem? (i := 690) (by decide +kernel), List.mem_of_getElem? (i := 691) (by decide +kernel)⟩
theorem lw_p55 : lw_okq (⟨"TalkBusModel", "firstOf", "(III)I"⟩, 20) := ⟨⟨by decide +kernel, by decide +kernel⟩, List.mem_of_getElem? (i := 489) (by decide +kernel), List.mem_of_getElem? (i := 694) (by decide +kernel), List.mem_of_getElem? (i := 695) (by decide +kernel)⟩
theorem lw_p56 : lw_okq (⟨"TalkBusModel", "sendsTo", "(II)V"⟩, 20) := ⟨⟨by decide +kernel, by decide +kernel⟩, List.mem_of_getElem? (i := 489) (by decide +kernel), List.mem_of_getElem? (i := 702) (by decide +kernel), List.mem_of_getElem? (i := 703) (by decide +kernel)⟩
theorem lw_p57 : lw_okq (⟨"TalkBusModel", "isDevice", "(I)Z"⟩, 20) := ⟨⟨by decide +kernel, by decide +kernel⟩, List.mem_of_getElem? (i := 489) (by decide +kernel), List.mem_of_getElem? (i := 718) (by decide +kernel), List.mem_of_getElem? (i := 719) (by decide +kernel)⟩
theorem lw_p58 : lw_okq (⟨"TalkBusModel", "anyAsks", "()I"⟩, 20) := ⟨⟨by decide +kernel, by decide +kernel⟩, List.mem_of_getElem? (i := 489) (by decide +kernel), List.mem_of_getElem? (i := 750) (by decide +kernel), List.mem_of_getElem? (i := 751) (by decide +kernel)⟩
def lw_privs_4 : List (MethodName × Nat) := [(⟨"TalkBusModel", "addresses", "(II)V"⟩, 20), (⟨"TalkBusModel", "listens", "(I)V"⟩, 20), (⟨"TalkBusModel", "silences", "()V"⟩, 20), (⟨"TalkBusModel", "prepares", "(I)V"⟩, 20), (⟨"TalkBusModel", "seconds", "(III)V"⟩, 20), (⟨"TalkBusModel", "gives", "()I"⟩, 20), (⟨"TalkBusModel", "takers", "()I"⟩, 20), (⟨"TalkBusModel", "firstOf", "(III)I"⟩, 20), (⟨"TalkBusModel", "sendsTo", "(II)V"⟩, 20), (⟨"TalkBusModel", "isDevice", "(I)Z"⟩, 20), (⟨"TalkBusModel", "anyAsks", "()I"⟩, 20)]
theorem lw_r4 : ∀ q ∈ lw_privs_4, lw_okq q := List.forall_mem_cons.mpr ⟨lw_p48, List.forall_mem_cons.mpr ⟨lw_p49, List.forall_mem_cons.mpr ⟨lw_p50, List.forall_mem_cons.mpr ⟨lw_p51, List.forall_mem_cons.mpr ⟨lw_p52, List.forall_mem_cons.mpr ⟨lw_p53, List.forall_mem_cons.mpr ⟨lw_p54, List.forall_mem_cons.mpr ⟨lw_p55, List.forall_mem_cons.mpr ⟨lw_p56, List.forall_mem_cons.mpr ⟨lw_p57, List.forall_mem_cons.mpr ⟨lw_p58, fun _ h => absurd h List.not_mem_nil⟩⟩⟩⟩⟩⟩⟩⟩⟩⟩⟩
def lw_privs : List (MethodName × Nat) := lw_privs_1 ++ (lw_privs_2 ++ (lw_privs_3 ++ (lw_privs_4)))
def lw_tbl : List Cond := k2_sels lw_privs ++ tables_1
theorem lw_privs_ok : ∀ q ∈ lw_privs, lw_okq q := by
  show ∀ q ∈ lw_privs_1 ++ (lw_privs_2 ++ (lw_privs_3 ++ (lw_privs_4))), lw_okq q
  exact List.forall_mem_append.mpr ⟨lw_r1, List.forall_mem_append.mpr ⟨lw_r2, List.forall_mem_append.mpr ⟨lw_r3, lw_r4⟩⟩⟩
def RX0 : String := "TalkBus$ByteRow"
def TX0 : u_T := fun k => match k with
  | 0 => ("TalkBus$ByteRow", "bytes", "[I", true)
  | _ => ("TalkBus$ByteRow", "size", "I", false)
def tyX0 : Nat → FieldType := fun k => match k with
  | 0 => .array .int
  | _ => .int
theorem nmX0 : ∀ a, a < 2 → ∀ b, b < 2 → a ≠ b → (TX0 a).2.1 ≠ (TX0 b).2.1 := by decide +kernel
theorem tyX0_ok : ∀ k, k < 2 → parseFieldDescriptor (TX0 k).2.2.1 = some (tyX0 k) := by decide +kernel
abbrev cX0_init : ByteArray := prog_2_method_1_code
def yX0_init : MethodName := ⟨RX0, "<init>", "()V"⟩
abbrev cX0_append : ByteArray := prog_2_method_2_code
def yX0_append : MethodName := ⟨RX0, "append", "(I)I"⟩
abbrev cX0_removeFirst : ByteArray := prog_2_method_3_code
def yX0_removeFirst : MethodName := ⟨RX0, "removeFirst", "()I"⟩
abbrev cX0_at : ByteArray := prog_2_method_4_code
def yX0_at : MethodName := ⟨RX0, "at", "(I)I"⟩
abbrev cX0_empty : ByteArray := prog_2_method_5_code
def yX0_empty : MethodName := ⟨RX0, "empty", "()V"⟩
def RX1 : String := "TalkBus$CommandLog"
def TX1 : u_T := fun k => match k with
  | 0 => ("TalkBus$CommandLog", "ticks", "[I", true)
  | 1 => ("TalkBus$CommandLog", "bytes", "[I", true)
  | 2 => ("TalkBus$CommandLog", "charges", "[I", true)
  | 3 => ("TalkBus$CommandLog", "size", "I", false)
  | _ => ("TalkBus$CommandLog", "next", "I", false)
def tyX1 : Nat → FieldType := fun k => match k with
  | 0 => .array .int
  | 1 => .array .int
  | 2 => .array .int
  | 3 => .int
  | _ => .int
theorem nmX1 : ∀ a, a < 5 → ∀ b, b < 5 → a ≠ b → (TX1 a).2.1 ≠ (TX1 b).2.1 := by decide +kernel
theorem tyX1_ok : ∀ k, k < 5 → parseFieldDescriptor (TX1 k).2.2.1 = some (tyX1 k) := by decide +kernel
abbrev cX1_init : ByteArray := prog_3_method_1_code
def yX1_init : MethodName := ⟨RX1, "<init>", "()V"⟩
abbrev cX1_empty : ByteArray := prog_3_method_2_code
def yX1_empty : MethodName := ⟨RX1, "empty", "()V"⟩
abbrev cX1_keep : ByteArray := prog_3_method_3_code
def yX1_keep : MethodName := ⟨RX1, "keep", "(III)V"⟩
abbrev cX1_tell : ByteArray := prog_3_method_4_code
def yX1_tell : MethodName := ⟨RX1, "tell", "(II)I"⟩
def RX2 : String := "TalkBus$Device"
def TX2 : u_T := fun k => match k with
  | 0 => ("TalkBus$Device", "out", "LTalkBus$ByteRow;", true)
  | 1 => ("TalkBus$Device", "in", "LTalkBus$ByteRow;", true)
  | 2 => ("TalkBus$Device", "kind", "I", false)
  | 3 => ("TalkBus$Device", "address", "I", false)
  | 4 => ("TalkBus$Device", "second", "I", false)
  | 5 => ("TalkBus$Device", "pace", "I", false)
  | 6 => ("TalkBus$Device", "delay", "I", false)
  | 7 => ("TalkBus$Device", "status", "I", false)
  | 8 => ("TalkBus$Device", "asks", "Z", false)
  | 9 => ("TalkBus$Device", "listens", "Z", false)
  | 10 => ("TalkBus$Device", "remote", "Z", false)
  | 11 => ("TalkBus$Device", "locked", "Z", false)
  | 12 => ("TalkBus$Device", "prepared", "Z", false)
  | 13 => ("TalkBus$Device", "named", "I", false)
  | 14 => ("TalkBus$Device", "line", "I", false)
  | 15 => ("TalkBus$Device", "sense", "I", false)
  | 16 => ("TalkBus$Device", "triggers", "I", false)
  | _ => ("TalkBus$Device", "due", "I", false)
def tyX2 : Nat → FieldType := fun k => match k with
  | 0 => .object "TalkBus$ByteRow"
  | 1 => .object "TalkBus$ByteRow"
  | 2 => .int
  | 3 => .int
  | 4 => .int
  | 5 => .int
  | 6 => .int
  | 7 => .int
  | 8 => .boolean
  | 9 => .boolean
  | 10 => .boolean
  | 11 => .boolean
  | 12 => .boolean
  | 13 => .int
  | 14 => .int
  | 15 => .int
  | 16 => .int
  | _ => .int
theorem nmX2 : ∀ a, a < 18 → ∀ b, b < 18 → a ≠ b → (TX2 a).2.1 ≠ (TX2 b).2.1 := by decide +kernel
theorem tyX2_ok : ∀ k, k < 18 → parseFieldDescriptor (TX2 k).2.2.1 = some (tyX2 k) := by decide +kernel
abbrev cX2_init : ByteArray := prog_4_method_1_code
def yX2_init : MethodName := ⟨RX2, "<init>", "()V"⟩
abbrev cX2_begin : ByteArray := prog_4_method_2_code
def yX2_begin : MethodName := ⟨RX2, "begin", "([II)V"⟩
abbrev cX2_clear : ByteArray := prog_4_method_3_code
def yX2_clear : MethodName := ⟨RX2, "clear", "()V"⟩
abbrev cX2_beginListening : ByteArray := prog_4_method_4_code
def yX2_beginListening : MethodName := ⟨RX2, "beginListening", "()V"⟩
abbrev cX2_beTriggered : ByteArray := prog_4_method_5_code
def yX2_beTriggered : MethodName := ⟨RX2, "beTriggered", "(I)V"⟩
abbrev cX2_isDueBy : ByteArray := prog_4_method_6_code
def yX2_isDueBy : MethodName := ⟨RX2, "isDueBy", "(I)Z"⟩
abbrev cX2_comeReading : ByteArray := prog_4_method_7_code
def yX2_comeReading : MethodName := ⟨RX2, "comeReading", "()V"⟩
abbrev cX2_pollByte : ByteArray := prog_4_method_8_code
def yX2_pollByte : MethodName := ⟨RX2, "pollByte", "()I"⟩
abbrev cX2_lineBit : ByteArray := prog_4_method_9_code
def yX2_lineBit : MethodName := ⟨RX2, "lineBit", "()I"⟩
abbrev cX2_tellSetting : ByteArray := prog_4_method_10_code
def yX2_tellSetting : MethodName := ⟨RX2, "tellSetting", "(I)I"⟩
abbrev cX2_tellState : ByteArray := prog_4_method_11_code
def yX2_tellState : MethodName := ⟨RX2, "tellState", "(II)I"⟩
def RX3 : String := "TalkBus$Text"
def TX3 : u_T := fun k => match k with
  | 0 => ("TalkBus$Text", "letters", "[C", true)
  | 1 => ("TalkBus$Text", "numbers", "[I", true)
  | 2 => ("TalkBus$Text", "length", "I", false)
  | _ => ("TalkBus$Text", "items", "I", false)
def tyX3 : Nat → FieldType := fun k => match k with
  | 0 => .array .char
  | 1 => .array .int
  | 2 => .int
  | _ => .int
theorem nmX3 : ∀ a, a < 4 → ∀ b, b < 4 → a ≠ b → (TX3 a).2.1 ≠ (TX3 b).2.1 := by decide +kernel
theorem tyX3_ok : ∀ k, k < 4 → parseFieldDescriptor (TX3 k).2.2.1 = some (tyX3 k) := by decide +kernel
abbrev cX3_init : ByteArray := prog_5_method_1_code
def yX3_init : MethodName := ⟨RX3, "<init>", "()V"⟩
abbrev cX3_append : ByteArray := prog_5_method_2_code
def yX3_append : MethodName := ⟨RX3, "append", "(I)I"⟩
abbrev cX3_empty : ByteArray := prog_5_method_3_code
def yX3_empty : MethodName := ⟨RX3, "empty", "()I"⟩
abbrev cX3_firstFault : ByteArray := prog_5_method_4_code
def yX3_firstFault : MethodName := ⟨RX3, "firstFault", "()I"⟩
abbrev cX3_beginsWithHost : ByteArray := prog_5_method_5_code
def yX3_beginsWithHost : MethodName := ⟨RX3, "beginsWithHost", "()Z"⟩
abbrev cX3_readItem : ByteArray := prog_5_method_6_code
def yX3_readItem : MethodName := ⟨RX3, "readItem", "(II)I"⟩
abbrev cX3_letterAt : ByteArray := prog_5_method_7_code
def yX3_letterAt : MethodName := ⟨RX3, "letterAt", "(I)C"⟩
abbrev cX3_isFigure : ByteArray := prog_5_method_8_code
def yX3_isFigure : MethodName := ⟨RX3, "isFigure", "(I)Z"⟩
abbrev cX3_figuresAt : ByteArray := prog_5_method_9_code
def yX3_figuresAt : MethodName := ⟨RX3, "figuresAt", "(I)I"⟩
abbrev cX3_numberAt : ByteArray := prog_5_method_10_code
def yX3_numberAt : MethodName := ⟨RX3, "numberAt", "(II)I"⟩
abbrev cX3_hasTakenAddress : ByteArray := prog_5_method_11_code
def yX3_hasTakenAddress : MethodName := ⟨RX3, "hasTakenAddress", "(I)Z"⟩
def RX4 : String := "TalkBus"
def TX4 : u_T := fun k => match k with
  | 0 => ("TalkBus", "text", "LTalkBus$Text;", true)
  | 1 => ("TalkBus", "devices", "[LTalkBus$Device;", true)
  | 2 => ("TalkBus", "sent", "LTalkBus$CommandLog;", true)
  | 3 => ("TalkBus", "sums", "[I", true)
  | 4 => ("TalkBus", "count", "I", false)
  | 5 => ("TalkBus", "now", "I", false)
  | 6 => ("TalkBus", "charge", "I", false)
  | 7 => ("TalkBus", "talker", "I", false)
  | 8 => ("TalkBus", "latest", "I", false)
  | _ => ("TalkBus", "polling", "Z", false)
def tyX4 : Nat → FieldType := fun k => match k with
  | 0 => .object "TalkBus$Text"
  | 1 => .array (.object "TalkBus$Device")
  | 2 => .object "TalkBus$CommandLog"
  | 3 => .array .int
  | 4 => .int
  | 5 => .int
  | 6 => .int
  | 7 => .int
  | 8 => .int
  | _ => .boolean
theorem nmX4 : ∀ a, a < 10 → ∀ b, b < 10 → a ≠ b → (TX4 a).2.1 ≠ (TX4 b).2.1 := by decide +kernel
theorem tyX4_ok : ∀ k, k < 10 → parseFieldDescriptor (TX4 k).2.2.1 = some (tyX4 k) := by decide +kernel
abbrev cX4_init : ByteArray := prog_1_method_1_code
def yX4_init : MethodName := ⟨RX4, "<init>", "()V"⟩
abbrev cX4_write : ByteArray := prog_1_method_2_code
def yX4_write : MethodName := ⟨RX4, "write", "(I)I"⟩
abbrev cX4_wipe : ByteArray := prog_1_method_3_code
def yX4_wipe : MethodName := ⟨RX4, "wipe", "()I"⟩
abbrev cX4_fault : ByteArray := prog_1_method_4_code
def yX4_fault : MethodName := ⟨RX4, "fault", "()I"⟩
abbrev cX4_lay : ByteArray := prog_1_method_5_code
def yX4_lay : MethodName := ⟨RX4, "lay", "()I"⟩
abbrev cX4_command : ByteArray := prog_1_method_6_code
def yX4_command : MethodName := ⟨RX4, "command", "(I)I"⟩
abbrev cX4_give : ByteArray := prog_1_method_7_code
def yX4_give : MethodName := ⟨RX4, "give", "()I"⟩
abbrev cX4_tick : ByteArray := prog_1_method_8_code
def yX4_tick : MethodName := ⟨RX4, "tick", "(I)I"⟩
abbrev cX4_poll : ByteArray := prog_1_method_9_code
def yX4_poll : MethodName := ⟨RX4, "poll", "()I"⟩
abbrev cX4_parallel : ByteArray := prog_1_method_10_code
def yX4_parallel : MethodName := ⟨RX4, "parallel", "()I"⟩
abbrev cX4_takeBack : ByteArray := prog_1_method_11_code
def yX4_takeBack : MethodName := ⟨RX4, "takeBack", "()I"⟩
abbrev cX4_put : ByteArray := prog_1_method_12_code
def yX4_put : MethodName := ⟨RX4, "put", "(II)I"⟩
abbrev cX4_take : ByteArray := prog_1_method_13_code
def yX4_take : MethodName := ⟨RX4, "take", "(I)I"⟩
abbrev cX4_ask : ByteArray := prog_1_method_14_code
def yX4_ask : MethodName := ⟨RX4, "ask", "(III)I"⟩
abbrev cX4_front : ByteArray := prog_1_method_15_code
def yX4_front : MethodName := ⟨RX4, "front", "(I)I"⟩
abbrev cX4_tune : ByteArray := prog_1_method_16_code
def yX4_tune : MethodName := ⟨RX4, "tune", "(III)I"⟩
abbrev cX4_device : ByteArray := prog_1_method_17_code
def yX4_device : MethodName := ⟨RX4, "device", "(II)I"⟩
abbrev cX4_row : ByteArray := prog_1_method_18_code
def yX4_row : MethodName := ⟨RX4, "row", "(III)I"⟩
abbrev cX4_bus : ByteArray := prog_1_method_19_code
def yX4_bus : MethodName := ⟨RX4, "bus", "(I)I"⟩
abbrev cX4_sum : ByteArray := prog_1_method_20_code
def yX4_sum : MethodName := ⟨RX4, "sum", "(I)I"⟩
abbrev cX4_log : ByteArray := prog_1_method_21_code
def yX4_log : MethodName := ⟨RX4, "log", "(II)I"⟩
abbrev cX4_beginWith : ByteArray := prog_1_method_22_code
def yX4_beginWith : MethodName := ⟨RX4, "beginWith", "([II)V"⟩
abbrev cX4_isDevice : ByteArray := prog_1_method_23_code
def yX4_isDevice : MethodName := ⟨RX4, "isDevice", "(I)Z"⟩
abbrev cX4_bit : ByteArray := prog_1_method_24_code
def yX4_bit : MethodName := ⟨RX4, "bit", "(Z)I"⟩
abbrev cX4_passTicks : ByteArray := prog_1_method_25_code
def yX4_passTicks : MethodName := ⟨RX4, "passTicks", "(I)V"⟩
abbrev cX4_greatestPace : ByteArray := prog_1_method_26_code
def yX4_greatestPace : MethodName := ⟨RX4, "greatestPace", "()I"⟩
abbrev cX4_sendAddress : ByteArray := prog_1_method_27_code
def yX4_sendAddress : MethodName := ⟨RX4, "sendAddress", "(II)V"⟩
abbrev cX4_send : ByteArray := prog_1_method_28_code
def yX4_send : MethodName := ⟨RX4, "send", "(I)V"⟩
abbrev cX4_obeyPlain : ByteArray := prog_1_method_29_code
def yX4_obeyPlain : MethodName := ⟨RX4, "obeyPlain", "(I)V"⟩
abbrev cX4_obeyAsOneOfAll : ByteArray := prog_1_method_30_code
def yX4_obeyAsOneOfAll : MethodName := ⟨RX4, "obeyAsOneOfAll", "(ILTalkBus$Device;)V"⟩
abbrev cX4_obeyAsListener : ByteArray := prog_1_method_31_code
def yX4_obeyAsListener : MethodName := ⟨RX4, "obeyAsListener", "(ILTalkBus$Device;)V"⟩
abbrev cX4_triggerOne : ByteArray := prog_1_method_32_code
def yX4_triggerOne : MethodName := ⟨RX4, "triggerOne", "(LTalkBus$Device;)V"⟩
abbrev cX4_passCharge : ByteArray := prog_1_method_33_code
def yX4_passCharge : MethodName := ⟨RX4, "passCharge", "()V"⟩
abbrev cX4_callListener : ByteArray := prog_1_method_34_code
def yX4_callListener : MethodName := ⟨RX4, "callListener", "(I)V"⟩
abbrev cX4_callTalker : ByteArray := prog_1_method_35_code
def yX4_callTalker : MethodName := ⟨RX4, "callTalker", "(I)V"⟩
abbrev cX4_obeySecond : ByteArray := prog_1_method_36_code
def yX4_obeySecond : MethodName := ⟨RX4, "obeySecond", "(I)V"⟩
abbrev cX4_setLines : ByteArray := prog_1_method_37_code
def yX4_setLines : MethodName := ⟨RX4, "setLines", "(I)V"⟩
abbrev cX4_answerSecond : ByteArray := prog_1_method_38_code
def yX4_answerSecond : MethodName := ⟨RX4, "answerSecond", "(I)V"⟩
abbrev cX4_endListening : ByteArray := prog_1_method_39_code
def yX4_endListening : MethodName := ⟨RX4, "endListening", "()V"⟩
abbrev cX4_endNamedAndPrepared : ByteArray := prog_1_method_40_code
def yX4_endNamedAndPrepared : MethodName := ⟨RX4, "endNamedAndPrepared", "()V"⟩
abbrev cX4_takesBytes : ByteArray := prog_1_method_41_code
def yX4_takesBytes : MethodName := ⟨RX4, "takesBytes", "(I)Z"⟩
abbrev cX4_ticksOfNextByte : ByteArray := prog_1_method_42_code
def yX4_ticksOfNextByte : MethodName := ⟨RX4, "ticksOfNextByte", "()I"⟩
abbrev cX4_giveByte : ByteArray := prog_1_method_43_code
def yX4_giveByte : MethodName := ⟨RX4, "giveByte", "()I"⟩
abbrev cX4_listenerBits : ByteArray := prog_1_method_44_code
def yX4_listenerBits : MethodName := ⟨RX4, "listenerBits", "()I"⟩
abbrev cX4_someoneAsks : ByteArray := prog_1_method_45_code
def yX4_someoneAsks : MethodName := ⟨RX4, "someoneAsks", "()Z"⟩
def RX5 : String := "TalkBusModel"
def TX5 : u_T := fun k => match k with
  | 0 => ("TalkBusModel", "length", "I", false)
  | 1 => ("TalkBusModel", "text", "[I", true)
  | 2 => ("TalkBusModel", "devices", "I", false)
  | 3 => ("TalkBusModel", "h", "[I", true)
  | 4 => ("TalkBusModel", "rows", "[I", true)
  | 5 => ("TalkBusModel", "charge", "I", false)
  | 6 => ("TalkBusModel", "polling", "I", false)
  | 7 => ("TalkBusModel", "now", "I", false)
  | 8 => ("TalkBusModel", "latest", "I", false)
  | 9 => ("TalkBusModel", "prepared", "I", false)
  | 10 => ("TalkBusModel", "sums", "[I", true)
  | 11 => ("TalkBusModel", "logged", "I", false)
  | 12 => ("TalkBusModel", "logTick", "[I", true)
  | 13 => ("TalkBusModel", "logByte", "[I", true)
  | 14 => ("TalkBusModel", "logCharge", "[I", true)
  | 15 => ("TalkBusModel", "readMany", "I", false)
  | 16 => ("TalkBusModel", "read", "[I", true)
  | 17 => ("TalkBusModel", "value", "I", false)
  | 18 => ("TalkBusModel", "ends", "I", false)
  | _ => ("TalkBusModel", "first", "[I", true)
def tyX5 : Nat → FieldType := fun k => match k with
  | 0 => .int
  | 1 => .array .int
  | 2 => .int
  | 3 => .array .int
  | 4 => .array .int
  | 5 => .int
  | 6 => .int
  | 7 => .int
  | 8 => .int
  | 9 => .int
  | 10 => .array .int
  | 11 => .int
  | 12 => .array .int
  | 13 => .array .int
  | 14 => .array .int
  | 15 => .int
  | 16 => .array .int
  | 17 => .int
  | 18 => .int
  | _ => .array .int
theorem nmX5 : ∀ a, a < 20 → ∀ b, b < 20 → a ≠ b → (TX5 a).2.1 ≠ (TX5 b).2.1 := by decide +kernel
theorem tyX5_ok : ∀ k, k < 20 → parseFieldDescriptor (TX5 k).2.2.1 = some (tyX5 k) := by decide +kernel
abbrev cX5_init : ByteArray := prog_7_method_1_code
def yX5_init : MethodName := ⟨RX5, "<init>", "()V"⟩
abbrev cX5_isIn : ByteArray := prog_7_method_2_code
def yX5_isIn : MethodName := ⟨RX5, "isIn", "(III)Z"⟩
abbrev cX5_of : ByteArray := prog_7_method_3_code
def yX5_of : MethodName := ⟨RX5, "of", "(II)I"⟩
abbrev cX5_puts : ByteArray := prog_7_method_4_code
def yX5_puts : MethodName := ⟨RX5, "puts", "(III)V"⟩
abbrev cX5_begins : ByteArray := prog_7_method_5_code
def yX5_begins : MethodName := ⟨RX5, "begins", "()V"⟩
abbrev cX5_letterAt : ByteArray := prog_7_method_6_code
def yX5_letterAt : MethodName := ⟨RX5, "letterAt", "(I)I"⟩
abbrev cX5_number : ByteArray := prog_7_method_7_code
def yX5_number : MethodName := ⟨RX5, "number", "(III)Z"⟩
abbrev cX5_highest : ByteArray := prog_7_method_8_code
def yX5_highest : MethodName := ⟨RX5, "highest", "(I)I"⟩
abbrev cX5_readsItem : ByteArray := prog_7_method_9_code
def yX5_readsItem : MethodName := ⟨RX5, "readsItem", "(I)Z"⟩
abbrev cX5_reads : ByteArray := prog_7_method_10_code
def yX5_reads : MethodName := ⟨RX5, "reads", "()I"⟩
abbrev cX5_write : ByteArray := prog_7_method_11_code
def yX5_write : MethodName := ⟨RX5, "write", "(I)I"⟩
abbrev cX5_wipe : ByteArray := prog_7_method_12_code
def yX5_wipe : MethodName := ⟨RX5, "wipe", "()I"⟩
abbrev cX5_fault : ByteArray := prog_7_method_13_code
def yX5_fault : MethodName := ⟨RX5, "fault", "()I"⟩
abbrev cX5_lay : ByteArray := prog_7_method_14_code
def yX5_lay : MethodName := ⟨RX5, "lay", "()I"⟩
abbrev cX5_comes : ByteArray := prog_7_method_15_code
def yX5_comes : MethodName := ⟨RX5, "comes", "()V"⟩
abbrev cX5_ticks : ByteArray := prog_7_method_16_code
def yX5_ticks : MethodName := ⟨RX5, "ticks", "(I)V"⟩
abbrev cX5_tick : ByteArray := prog_7_method_17_code
def yX5_tick : MethodName := ⟨RX5, "tick", "(I)I"⟩
abbrev cX5_clears : ByteArray := prog_7_method_18_code
def yX5_clears : MethodName := ⟨RX5, "clears", "(I)V"⟩
abbrev cX5_triggers : ByteArray := prog_7_method_19_code
def yX5_triggers : MethodName := ⟨RX5, "triggers", "(I)V"⟩
abbrev cX5_toListener : ByteArray := prog_7_method_20_code
def yX5_toListener : MethodName := ⟨RX5, "toListener", "(II)V"⟩
abbrev cX5_talker : ByteArray := prog_7_method_21_code
def yX5_talker : MethodName := ⟨RX5, "talker", "()I"⟩
abbrev cX5_silences : ByteArray := prog_7_method_22_code
def yX5_silences : MethodName := ⟨RX5, "silences", "()V"⟩
abbrev cX5_passes : ByteArray := prog_7_method_23_code
def yX5_passes : MethodName := ⟨RX5, "passes", "()V"⟩
abbrev cX5_listens : ByteArray := prog_7_method_24_code
def yX5_listens : MethodName := ⟨RX5, "listens", "(I)V"⟩
abbrev cX5_addresses : ByteArray := prog_7_method_25_code
def yX5_addresses : MethodName := ⟨RX5, "addresses", "(II)V"⟩
abbrev cX5_seconds : ByteArray := prog_7_method_26_code
def yX5_seconds : MethodName := ⟨RX5, "seconds", "(III)V"⟩
abbrev cX5_prepares : ByteArray := prog_7_method_27_code
def yX5_prepares : MethodName := ⟨RX5, "prepares", "(I)V"⟩
abbrev cX5_listeners : ByteArray := prog_7_method_28_code
def yX5_listeners : MethodName := ⟨RX5, "listeners", "()I"⟩
abbrev cX5_slowest : ByteArray := prog_7_method_29_code
def yX5_slowest : MethodName := ⟨RX5, "slowest", "(I)I"⟩
abbrev cX5_logs : ByteArray := prog_7_method_30_code
def yX5_logs : MethodName := ⟨RX5, "logs", "(I)V"⟩
abbrev cX5_all : ByteArray := prog_7_method_31_code
def yX5_all : MethodName := ⟨RX5, "all", "(II)V"⟩
abbrev cX5_sends : ByteArray := prog_7_method_32_code
def yX5_sends : MethodName := ⟨RX5, "sends", "(I)V"⟩
abbrev cX5_command : ByteArray := prog_7_method_33_code
def yX5_command : MethodName := ⟨RX5, "command", "(I)I"⟩
abbrev cX5_takers : ByteArray := prog_7_method_34_code
def yX5_takers : MethodName := ⟨RX5, "takers", "()I"⟩
abbrev cX5_firstOf : ByteArray := prog_7_method_35_code
def yX5_firstOf : MethodName := ⟨RX5, "firstOf", "(III)I"⟩
abbrev cX5_gives : ByteArray := prog_7_method_36_code
def yX5_gives : MethodName := ⟨RX5, "gives", "()I"⟩
abbrev cX5_give : ByteArray := prog_7_method_37_code
def yX5_give : MethodName := ⟨RX5, "give", "()I"⟩
abbrev cX5_sendsTo : ByteArray := prog_7_method_38_code
def yX5_sendsTo : MethodName := ⟨RX5, "sendsTo", "(II)V"⟩
abbrev cX5_poll : ByteArray := prog_7_method_39_code
def yX5_poll : MethodName := ⟨RX5, "poll", "()I"⟩
abbrev cX5_parallel : ByteArray := prog_7_method_40_code
def yX5_parallel : MethodName := ⟨RX5, "parallel", "()I"⟩
abbrev cX5_takeBack : ByteArray := prog_7_method_41_code
def yX5_takeBack : MethodName := ⟨RX5, "takeBack", "()I"⟩
abbrev cX5_isDevice : ByteArray := prog_7_method_42_code
def yX5_isDevice : MethodName := ⟨RX5, "isDevice", "(I)Z"⟩
abbrev cX5_put : ByteArray := prog_7_method_43_code
def yX5_put : MethodName := ⟨RX5, "put", "(II)I"⟩
abbrev cX5_take : ByteArray := prog_7_method_44_code
def yX5_take : MethodName := ⟨RX5, "take", "(I)I"⟩
abbrev cX5_ask : ByteArray := prog_7_method_45_code
def yX5_ask : MethodName := ⟨RX5, "ask", "(III)I"⟩
abbrev cX5_front : ByteArray := prog_7_method_46_code
def yX5_front : MethodName := ⟨RX5, "front", "(I)I"⟩
abbrev cX5_tune : ByteArray := prog_7_method_47_code
def yX5_tune : MethodName := ⟨RX5, "tune", "(III)I"⟩
abbrev cX5_device : ByteArray := prog_7_method_48_code
def yX5_device : MethodName := ⟨RX5, "device", "(II)I"⟩
abbrev cX5_row : ByteArray := prog_7_method_49_code
def yX5_row : MethodName := ⟨RX5, "row", "(III)I"⟩
abbrev cX5_anyAsks : ByteArray := prog_7_method_50_code
def yX5_anyAsks : MethodName := ⟨RX5, "anyAsks", "()I"⟩
abbrev cX5_bus : ByteArray := prog_7_method_51_code
def yX5_bus : MethodName := ⟨RX5, "bus", "(I)I"⟩
abbrev cX5_sum : ByteArray := prog_7_method_52_code
def yX5_sum : MethodName := ⟨RX5, "sum", "(I)I"⟩
abbrev cX5_log : ByteArray := prog_7_method_53_code
def yX5_log : MethodName := ⟨RX5, "log", "(II)I"⟩
def RL : String := "TalkBusLaw"
abbrev cL_law : ByteArray := code
def yL_law : MethodName := ⟨RL, "law", "([I)Z"⟩
abbrev vwCl : List vw_C := [(RX0, TX0, 2), (RX1, TX1, 5), (RX2, TX2, 18), (RX3, TX3, 4), (RX4, TX4, 10), (RX5, TX5, 20)]
end
section
theorem dX0_init_0 : decode cX0_init 0 = .ok (.aload_n 0, 1) := by decide +kernel
theorem dX0_init_1 : decode cX0_init 1 = .ok (.invokespecial 3, 3) := by decide +kernel
theorem dX0_init_4 : decode cX0_init 4 = .ok (.aload_n 0, 1) := by decide +kernel
theorem dX0_init_5 : decode cX0_init 5 = .ok (.bipush 12, 2) := by decide +kernel
theorem dX0_init_7 : decode cX0_init 7 = .ok (.newarray .int, 2) := by decide +kernel
theorem dX0_init_9 : decode cX0_init 9 = .ok (.putfield 9, 3) := by decide +kernel
theorem dX0_init_12 : decode cX0_init 12 = .ok (.return_, 1) := by decide +kernel
theorem dX0_append_0 : decode cX0_append 0 = .ok (.aload_n 0, 1) := by decide +kernel
theorem dX0_append_1 : decode cX0_append 1 = .ok (.getfield 15, 3) := by decide +kernel
theorem dX0_append_4 : decode cX0_append 4 = .ok (.bipush 12, 2) := by decide +kernel
theorem dX0_append_6 : decode cX0_append 6 = .ok (.if_icmp .lt 6, 3) := by decide +kernel
theorem dX0_append_9 : decode cX0_append 9 = .ok (.bipush (-3), 2) := by decide +kernel
theorem dX0_append_11 : decode cX0_append 11 = .ok (.ireturn, 1) := by decide +kernel
theorem dX0_append_12 : decode cX0_append 12 = .ok (.aload_n 0, 1) := by decide +kernel
theorem dX0_append_13 : decode cX0_append 13 = .ok (.getfield 9, 3) := by decide +kernel
theorem dX0_append_16 : decode cX0_append 16 = .ok (.aload_n 0, 1) := by decide +kernel
theorem dX0_append_17 : decode cX0_append 17 = .ok (.getfield 15, 3) := by decide +kernel
theorem dX0_append_20 : decode cX0_append 20 = .ok (.iload_n 1, 1) := by decide +kernel
theorem dX0_append_21 : decode cX0_append 21 = .ok (.iastore, 1) := by decide +kernel
theorem dX0_append_22 : decode cX0_append 22 = .ok (.aload_n 0, 1) := by decide +kernel
theorem dX0_append_23 : decode cX0_append 23 = .ok (.dup, 1) := by decide +kernel
theorem dX0_append_24 : decode cX0_append 24 = .ok (.getfield 15, 3) := by decide +kernel
theorem dX0_append_27 : decode cX0_append 27 = .ok (.iconst 1, 1) := by decide +kernel
theorem dX0_append_28 : decode cX0_append 28 = .ok (.iadd, 1) := by decide +kernel
theorem dX0_append_29 : decode cX0_append 29 = .ok (.putfield 15, 3) := by decide +kernel
theorem dX0_append_32 : decode cX0_append 32 = .ok (.aload_n 0, 1) := by decide +kernel
theorem dX0_append_33 : decode cX0_append 33 = .ok (.getfield 15, 3) := by decide +kernel
theorem dX0_append_36 : decode cX0_append 36 = .ok (.ireturn, 1) := by decide +kernel
theorem dX0_removeFirst_0 : decode cX0_removeFirst 0 = .ok (.aload_n 0, 1) := by decide +kernel
theorem dX0_removeFirst_1 : decode cX0_removeFirst 1 = .ok (.getfield 15, 3) := by decide +kernel
theorem dX0_removeFirst_4 : decode cX0_removeFirst 4 = .ok (.ifCond .ne 6, 3) := by decide +kernel
theorem dX0_removeFirst_7 : decode cX0_removeFirst 7 = .ok (.bipush (-4), 2) := by decide +kernel
theorem dX0_removeFirst_9 : decode cX0_removeFirst 9 = .ok (.ireturn, 1) := by decide +kernel
theorem dX0_removeFirst_10 : decode cX0_removeFirst 10 = .ok (.aload_n 0, 1) := by decide +kernel
theorem dX0_removeFirst_11 : decode cX0_removeFirst 11 = .ok (.getfield 9, 3) := by decide +kernel
theorem dX0_removeFirst_14 : decode cX0_removeFirst 14 = .ok (.iconst 0, 1) := by decide +kernel
theorem dX0_removeFirst_15 : decode cX0_removeFirst 15 = .ok (.iaload, 1) := by decide +kernel
theorem dX0_removeFirst_16 : decode cX0_removeFirst 16 = .ok (.istore_n 1, 1) := by decide +kernel
theorem dX0_removeFirst_17 : decode cX0_removeFirst 17 = .ok (.aload_n 0, 1) := by decide +kernel
theorem dX0_removeFirst_18 : decode cX0_removeFirst 18 = .ok (.dup, 1) := by decide +kernel
theorem dX0_removeFirst_19 : decode cX0_removeFirst 19 = .ok (.getfield 15, 3) := by decide +kernel
theorem dX0_removeFirst_22 : decode cX0_removeFirst 22 = .ok (.iconst 1, 1) := by decide +kernel
theorem dX0_removeFirst_23 : decode cX0_removeFirst 23 = .ok (.isub, 1) := by decide +kernel
theorem dX0_removeFirst_24 : decode cX0_removeFirst 24 = .ok (.putfield 15, 3) := by decide +kernel
theorem dX0_removeFirst_27 : decode cX0_removeFirst 27 = .ok (.iconst 0, 1) := by decide +kernel
theorem dX0_removeFirst_28 : decode cX0_removeFirst 28 = .ok (.istore_n 2, 1) := by decide +kernel
theorem dX0_removeFirst_29 : decode cX0_removeFirst 29 = .ok (.iload_n 2, 1) := by decide +kernel
theorem dX0_removeFirst_30 : decode cX0_removeFirst 30 = .ok (.aload_n 0, 1) := by decide +kernel
theorem dX0_removeFirst_31 : decode cX0_removeFirst 31 = .ok (.getfield 15, 3) := by decide +kernel
theorem dX0_removeFirst_34 : decode cX0_removeFirst 34 = .ok (.if_icmp .ge 23, 3) := by decide +kernel
theorem dX0_removeFirst_37 : decode cX0_removeFirst 37 = .ok (.aload_n 0, 1) := by decide +kernel
theorem dX0_removeFirst_38 : decode cX0_removeFirst 38 = .ok (.getfield 9, 3) := by decide +kernel
theorem dX0_removeFirst_41 : decode cX0_removeFirst 41 = .ok (.iload_n 2, 1) := by decide +kernel
theorem dX0_removeFirst_42 : decode cX0_removeFirst 42 = .ok (.aload_n 0, 1) := by decide +kernel
theorem dX0_removeFirst_43 : decode cX0_removeFirst 43 = .ok (.getfield 9, 3) := by decide +kernel
theorem dX0_removeFirst_46 : decode cX0_removeFirst 46 = .ok (.iload_n 2, 1) := by decide +kernel
theorem dX0_removeFirst_47 : decode cX0_removeFirst 47 = .ok (.iconst 1, 1) := by decide +kernel
theorem dX0_removeFirst_48 : decode cX0_removeFirst 48 = .ok (.iadd, 1) := by decide +kernel
theorem dX0_removeFirst_49 : decode cX0_removeFirst 49 = .ok (.iaload, 1) := by decide +kernel
theorem dX0_removeFirst_50 : decode cX0_removeFirst 50 = .ok (.iastore, 1) := by decide +kernel
theorem dX0_removeFirst_51 : decode cX0_removeFirst 51 = .ok (.iinc 2 1, 3) := by decide +kernel
theorem dX0_removeFirst_54 : decode cX0_removeFirst 54 = .ok (.goto (-25), 3) := by decide +kernel
theorem dX0_removeFirst_57 : decode cX0_removeFirst 57 = .ok (.iload_n 1, 1) := by decide +kernel
theorem dX0_removeFirst_58 : decode cX0_removeFirst 58 = .ok (.ireturn, 1) := by decide +kernel
theorem dX0_at_0 : decode cX0_at 0 = .ok (.iload_n 1, 1) := by decide +kernel
theorem dX0_at_1 : decode cX0_at 1 = .ok (.ifCond .lt 20, 3) := by decide +kernel
theorem dX0_at_4 : decode cX0_at 4 = .ok (.iload_n 1, 1) := by decide +kernel
theorem dX0_at_5 : decode cX0_at 5 = .ok (.aload_n 0, 1) := by decide +kernel
theorem dX0_at_6 : decode cX0_at 6 = .ok (.getfield 15, 3) := by decide +kernel
theorem dX0_at_9 : decode cX0_at 9 = .ok (.if_icmp .ge 12, 3) := by decide +kernel
theorem dX0_at_12 : decode cX0_at 12 = .ok (.aload_n 0, 1) := by decide +kernel
theorem dX0_at_13 : decode cX0_at 13 = .ok (.getfield 9, 3) := by decide +kernel
theorem dX0_at_16 : decode cX0_at 16 = .ok (.iload_n 1, 1) := by decide +kernel
theorem dX0_at_17 : decode cX0_at 17 = .ok (.iaload, 1) := by decide +kernel
theorem dX0_at_18 : decode cX0_at 18 = .ok (.goto 5, 3) := by decide +kernel
theorem dX0_at_21 : decode cX0_at 21 = .ok (.bipush (-4), 2) := by decide +kernel
theorem dX0_at_23 : decode cX0_at 23 = .ok (.ireturn, 1) := by decide +kernel
theorem dX0_empty_0 : decode cX0_empty 0 = .ok (.aload_n 0, 1) := by decide +kernel
theorem dX0_empty_1 : decode cX0_empty 1 = .ok (.iconst 0, 1) := by decide +kernel
theorem dX0_empty_2 : decode cX0_empty 2 = .ok (.putfield 15, 3) := by decide +kernel
theorem dX0_empty_5 : decode cX0_empty 5 = .ok (.return_, 1) := by decide +kernel
theorem dX1_init_0 : decode cX1_init 0 = .ok (.aload_n 0, 1) := by decide +kernel
theorem dX1_init_1 : decode cX1_init 1 = .ok (.invokespecial 3, 3) := by decide +kernel
theorem dX1_init_4 : decode cX1_init 4 = .ok (.aload_n 0, 1) := by decide +kernel
theorem dX1_init_5 : decode cX1_init 5 = .ok (.bipush 16, 2) := by decide +kernel
theorem dX1_init_7 : decode cX1_init 7 = .ok (.newarray .int, 2) := by decide +kernel
theorem dX1_init_9 : decode cX1_init 9 = .ok (.putfield 9, 3) := by decide +kernel
theorem dX1_init_12 : decode cX1_init 12 = .ok (.aload_n 0, 1) := by decide +kernel
theorem dX1_init_13 : decode cX1_init 13 = .ok (.bipush 16, 2) := by decide +kernel
theorem dX1_init_15 : decode cX1_init 15 = .ok (.newarray .int, 2) := by decide +kernel
theorem dX1_init_17 : decode cX1_init 17 = .ok (.putfield 15, 3) := by decide +kernel
theorem dX1_init_20 : decode cX1_init 20 = .ok (.aload_n 0, 1) := by decide +kernel
theorem dX1_init_21 : decode cX1_init 21 = .ok (.bipush 16, 2) := by decide +kernel
theorem dX1_init_23 : decode cX1_init 23 = .ok (.newarray .int, 2) := by decide +kernel
theorem dX1_init_25 : decode cX1_init 25 = .ok (.putfield 18, 3) := by decide +kernel
theorem dX1_init_28 : decode cX1_init 28 = .ok (.return_, 1) := by decide +kernel
theorem dX1_empty_0 : decode cX1_empty 0 = .ok (.aload_n 0, 1) := by decide +kernel
theorem dX1_empty_1 : decode cX1_empty 1 = .ok (.iconst 0, 1) := by decide +kernel
theorem dX1_empty_2 : decode cX1_empty 2 = .ok (.putfield 21, 3) := by decide +kernel
theorem dX1_empty_5 : decode cX1_empty 5 = .ok (.aload_n 0, 1) := by decide +kernel
theorem dX1_empty_6 : decode cX1_empty 6 = .ok (.iconst 0, 1) := by decide +kernel
theorem dX1_empty_7 : decode cX1_empty 7 = .ok (.putfield 25, 3) := by decide +kernel
theorem dX1_empty_10 : decode cX1_empty 10 = .ok (.return_, 1) := by decide +kernel
theorem dX1_keep_0 : decode cX1_keep 0 = .ok (.aload_n 0, 1) := by decide +kernel
theorem dX1_keep_1 : decode cX1_keep 1 = .ok (.getfield 9, 3) := by decide +kernel
theorem dX1_keep_4 : decode cX1_keep 4 = .ok (.aload_n 0, 1) := by decide +kernel
theorem dX1_keep_5 : decode cX1_keep 5 = .ok (.getfield 25, 3) := by decide +kernel
theorem dX1_keep_8 : decode cX1_keep 8 = .ok (.iload_n 1, 1) := by decide +kernel
theorem dX1_keep_9 : decode cX1_keep 9 = .ok (.iastore, 1) := by decide +kernel
theorem dX1_keep_10 : decode cX1_keep 10 = .ok (.aload_n 0, 1) := by decide +kernel
theorem dX1_keep_11 : decode cX1_keep 11 = .ok (.getfield 15, 3) := by decide +kernel
theorem dX1_keep_14 : decode cX1_keep 14 = .ok (.aload_n 0, 1) := by decide +kernel
theorem dX1_keep_15 : decode cX1_keep 15 = .ok (.getfield 25, 3) := by decide +kernel
theorem dX1_keep_18 : decode cX1_keep 18 = .ok (.iload_n 2, 1) := by decide +kernel
theorem dX1_keep_19 : decode cX1_keep 19 = .ok (.iastore, 1) := by decide +kernel
theorem dX1_keep_20 : decode cX1_keep 20 = .ok (.aload_n 0, 1) := by decide +kernel
theorem dX1_keep_21 : decode cX1_keep 21 = .ok (.getfield 18, 3) := by decide +kernel
theorem dX1_keep_24 : decode cX1_keep 24 = .ok (.aload_n 0, 1) := by decide +kernel
theorem dX1_keep_25 : decode cX1_keep 25 = .ok (.getfield 25, 3) := by decide +kernel
theorem dX1_keep_28 : decode cX1_keep 28 = .ok (.iload_n 3, 1) := by decide +kernel
theorem dX1_keep_29 : decode cX1_keep 29 = .ok (.iastore, 1) := by decide +kernel
theorem dX1_keep_30 : decode cX1_keep 30 = .ok (.aload_n 0, 1) := by decide +kernel
theorem dX1_keep_31 : decode cX1_keep 31 = .ok (.aload_n 0, 1) := by decide +kernel
theorem dX1_keep_32 : decode cX1_keep 32 = .ok (.getfield 25, 3) := by decide +kernel
theorem dX1_keep_35 : decode cX1_keep 35 = .ok (.iconst 1, 1) := by decide +kernel
theorem dX1_keep_36 : decode cX1_keep 36 = .ok (.iadd, 1) := by decide +kernel
theorem dX1_keep_37 : decode cX1_keep 37 = .ok (.bipush 16, 2) := by decide +kernel
theorem dX1_keep_39 : decode cX1_keep 39 = .ok (.irem, 1) := by decide +kernel
theorem dX1_keep_40 : decode cX1_keep 40 = .ok (.putfield 25, 3) := by decide +kernel
theorem dX1_keep_43 : decode cX1_keep 43 = .ok (.aload_n 0, 1) := by decide +kernel
theorem dX1_keep_44 : decode cX1_keep 44 = .ok (.aload_n 0, 1) := by decide +kernel
theorem dX1_keep_45 : decode cX1_keep 45 = .ok (.getfield 21, 3) := by decide +kernel
theorem dX1_keep_48 : decode cX1_keep 48 = .ok (.iconst 1, 1) := by decide +kernel
theorem dX1_keep_49 : decode cX1_keep 49 = .ok (.iadd, 1) := by decide +kernel
theorem dX1_keep_50 : decode cX1_keep 50 = .ok (.bipush 16, 2) := by decide +kernel
theorem dX1_keep_52 : decode cX1_keep 52 = .ok (.invokestatic 28, 3) := by decide +kernel
theorem dX1_keep_55 : decode cX1_keep 55 = .ok (.putfield 21, 3) := by decide +kernel
theorem dX1_keep_58 : decode cX1_keep 58 = .ok (.return_, 1) := by decide +kernel
theorem dX1_tell_0 : decode cX1_tell 0 = .ok (.iload_n 1, 1) := by decide +kernel
theorem dX1_tell_1 : decode cX1_tell 1 = .ok (.ifCond .lt 11, 3) := by decide +kernel
theorem dX1_tell_4 : decode cX1_tell 4 = .ok (.iload_n 1, 1) := by decide +kernel
theorem dX1_tell_5 : decode cX1_tell 5 = .ok (.aload_n 0, 1) := by decide +kernel
theorem dX1_tell_6 : decode cX1_tell 6 = .ok (.getfield 21, 3) := by decide +kernel
theorem dX1_tell_9 : decode cX1_tell 9 = .ok (.if_icmp .lt 6, 3) := by decide +kernel
theorem dX1_tell_12 : decode cX1_tell 12 = .ok (.bipush (-4), 2) := by decide +kernel
theorem dX1_tell_14 : decode cX1_tell 14 = .ok (.ireturn, 1) := by decide +kernel
theorem dX1_tell_15 : decode cX1_tell 15 = .ok (.aload_n 0, 1) := by decide +kernel
theorem dX1_tell_16 : decode cX1_tell 16 = .ok (.getfield 25, 3) := by decide +kernel
theorem dX1_tell_19 : decode cX1_tell 19 = .ok (.bipush 16, 2) := by decide +kernel
theorem dX1_tell_21 : decode cX1_tell 21 = .ok (.iadd, 1) := by decide +kernel
theorem dX1_tell_22 : decode cX1_tell 22 = .ok (.iconst 1, 1) := by decide +kernel
theorem dX1_tell_23 : decode cX1_tell 23 = .ok (.isub, 1) := by decide +kernel
theorem dX1_tell_24 : decode cX1_tell 24 = .ok (.iload_n 1, 1) := by decide +kernel
theorem dX1_tell_25 : decode cX1_tell 25 = .ok (.isub, 1) := by decide +kernel
theorem dX1_tell_26 : decode cX1_tell 26 = .ok (.bipush 16, 2) := by decide +kernel
theorem dX1_tell_28 : decode cX1_tell 28 = .ok (.irem, 1) := by decide +kernel
theorem dX1_tell_29 : decode cX1_tell 29 = .ok (.istore_n 3, 1) := by decide +kernel
theorem dX1_tell_30 : decode cX1_tell 30 = .ok (.iload_n 2, 1) := by decide +kernel
theorem dX1_tell_31 : decode cX1_tell 31 = .ok (.ifCond .ne 10, 3) := by decide +kernel
theorem dX1_tell_34 : decode cX1_tell 34 = .ok (.aload_n 0, 1) := by decide +kernel
theorem dX1_tell_35 : decode cX1_tell 35 = .ok (.getfield 9, 3) := by decide +kernel
theorem dX1_tell_38 : decode cX1_tell 38 = .ok (.iload_n 3, 1) := by decide +kernel
theorem dX1_tell_39 : decode cX1_tell 39 = .ok (.iaload, 1) := by decide +kernel
theorem dX1_tell_40 : decode cX1_tell 40 = .ok (.ireturn, 1) := by decide +kernel
theorem dX1_tell_41 : decode cX1_tell 41 = .ok (.iload_n 2, 1) := by decide +kernel
theorem dX1_tell_42 : decode cX1_tell 42 = .ok (.iconst 1, 1) := by decide +kernel
theorem dX1_tell_43 : decode cX1_tell 43 = .ok (.if_icmp .ne 12, 3) := by decide +kernel
theorem dX1_tell_46 : decode cX1_tell 46 = .ok (.aload_n 0, 1) := by decide +kernel
theorem dX1_tell_47 : decode cX1_tell 47 = .ok (.getfield 15, 3) := by decide +kernel
theorem dX1_tell_50 : decode cX1_tell 50 = .ok (.iload_n 3, 1) := by decide +kernel
theorem dX1_tell_51 : decode cX1_tell 51 = .ok (.iaload, 1) := by decide +kernel
theorem dX1_tell_52 : decode cX1_tell 52 = .ok (.goto 9, 3) := by decide +kernel
theorem dX1_tell_55 : decode cX1_tell 55 = .ok (.aload_n 0, 1) := by decide +kernel
theorem dX1_tell_56 : decode cX1_tell 56 = .ok (.getfield 18, 3) := by decide +kernel
theorem dX1_tell_59 : decode cX1_tell 59 = .ok (.iload_n 3, 1) := by decide +kernel
theorem dX1_tell_60 : decode cX1_tell 60 = .ok (.iaload, 1) := by decide +kernel
theorem dX1_tell_61 : decode cX1_tell 61 = .ok (.ireturn, 1) := by decide +kernel
theorem dX2_init_0 : decode cX2_init 0 = .ok (.aload_n 0, 1) := by decide +kernel
theorem dX2_init_1 : decode cX2_init 1 = .ok (.invokespecial 3, 3) := by decide +kernel
theorem dX2_init_4 : decode cX2_init 4 = .ok (.aload_n 0, 1) := by decide +kernel
theorem dX2_init_5 : decode cX2_init 5 = .ok (.new 9, 3) := by decide +kernel
theorem dX2_init_8 : decode cX2_init 8 = .ok (.dup, 1) := by decide +kernel
theorem dX2_init_9 : decode cX2_init 9 = .ok (.invokespecial 11, 3) := by decide +kernel
theorem dX2_init_12 : decode cX2_init 12 = .ok (.putfield 12, 3) := by decide +kernel
theorem dX2_init_15 : decode cX2_init 15 = .ok (.aload_n 0, 1) := by decide +kernel
theorem dX2_init_16 : decode cX2_init 16 = .ok (.new 9, 3) := by decide +kernel
theorem dX2_init_19 : decode cX2_init 19 = .ok (.dup, 1) := by decide +kernel
theorem dX2_init_20 : decode cX2_init 20 = .ok (.invokespecial 11, 3) := by decide +kernel
theorem dX2_init_23 : decode cX2_init 23 = .ok (.putfield 18, 3) := by decide +kernel
theorem dX2_init_26 : decode cX2_init 26 = .ok (.return_, 1) := by decide +kernel
theorem dX2_begin_0 : decode cX2_begin 0 = .ok (.aload_n 0, 1) := by decide +kernel
theorem dX2_begin_1 : decode cX2_begin 1 = .ok (.aload_n 1, 1) := by decide +kernel
theorem dX2_begin_2 : decode cX2_begin 2 = .ok (.iload_n 2, 1) := by decide +kernel
theorem dX2_begin_3 : decode cX2_begin 3 = .ok (.iconst 0, 1) := by decide +kernel
theorem dX2_begin_4 : decode cX2_begin 4 = .ok (.iadd, 1) := by decide +kernel
theorem dX2_begin_5 : decode cX2_begin 5 = .ok (.iaload, 1) := by decide +kernel
theorem dX2_begin_6 : decode cX2_begin 6 = .ok (.putfield 21, 3) := by decide +kernel
theorem dX2_begin_9 : decode cX2_begin 9 = .ok (.aload_n 0, 1) := by decide +kernel
theorem dX2_begin_10 : decode cX2_begin 10 = .ok (.aload_n 1, 1) := by decide +kernel
theorem dX2_begin_11 : decode cX2_begin 11 = .ok (.iload_n 2, 1) := by decide +kernel
theorem dX2_begin_12 : decode cX2_begin 12 = .ok (.iconst 1, 1) := by decide +kernel
theorem dX2_begin_13 : decode cX2_begin 13 = .ok (.iadd, 1) := by decide +kernel
theorem dX2_begin_14 : decode cX2_begin 14 = .ok (.iaload, 1) := by decide +kernel
theorem dX2_begin_15 : decode cX2_begin 15 = .ok (.putfield 25, 3) := by decide +kernel
theorem dX2_begin_18 : decode cX2_begin 18 = .ok (.aload_n 0, 1) := by decide +kernel
theorem dX2_begin_19 : decode cX2_begin 19 = .ok (.aload_n 1, 1) := by decide +kernel
theorem dX2_begin_20 : decode cX2_begin 20 = .ok (.iload_n 2, 1) := by decide +kernel
theorem dX2_begin_21 : decode cX2_begin 21 = .ok (.iconst 2, 1) := by decide +kernel
theorem dX2_begin_22 : decode cX2_begin 22 = .ok (.iadd, 1) := by decide +kernel
theorem dX2_begin_23 : decode cX2_begin 23 = .ok (.iaload, 1) := by decide +kernel
theorem dX2_begin_24 : decode cX2_begin 24 = .ok (.putfield 28, 3) := by decide +kernel
theorem dX2_begin_27 : decode cX2_begin 27 = .ok (.aload_n 0, 1) := by decide +kernel
theorem dX2_begin_28 : decode cX2_begin 28 = .ok (.aload_n 1, 1) := by decide +kernel
theorem dX2_begin_29 : decode cX2_begin 29 = .ok (.iload_n 2, 1) := by decide +kernel
theorem dX2_begin_30 : decode cX2_begin 30 = .ok (.iconst 3, 1) := by decide +kernel
theorem dX2_begin_31 : decode cX2_begin 31 = .ok (.iadd, 1) := by decide +kernel
theorem dX2_begin_32 : decode cX2_begin 32 = .ok (.iaload, 1) := by decide +kernel
theorem dX2_begin_33 : decode cX2_begin 33 = .ok (.putfield 31, 3) := by decide +kernel
theorem dX2_begin_36 : decode cX2_begin 36 = .ok (.aload_n 0, 1) := by decide +kernel
theorem dX2_begin_37 : decode cX2_begin 37 = .ok (.aload_n 1, 1) := by decide +kernel
theorem dX2_begin_38 : decode cX2_begin 38 = .ok (.iload_n 2, 1) := by decide +kernel
theorem dX2_begin_39 : decode cX2_begin 39 = .ok (.iconst 4, 1) := by decide +kernel
theorem dX2_begin_40 : decode cX2_begin 40 = .ok (.iadd, 1) := by decide +kernel
theorem dX2_begin_41 : decode cX2_begin 41 = .ok (.iaload, 1) := by decide +kernel
theorem dX2_begin_42 : decode cX2_begin 42 = .ok (.putfield 34, 3) := by decide +kernel
theorem dX2_begin_45 : decode cX2_begin 45 = .ok (.aload_n 0, 1) := by decide +kernel
theorem dX2_begin_46 : decode cX2_begin 46 = .ok (.invokevirtual 37, 3) := by decide +kernel
theorem dX2_begin_49 : decode cX2_begin 49 = .ok (.aload_n 0, 1) := by decide +kernel
theorem dX2_begin_50 : decode cX2_begin 50 = .ok (.iconst 0, 1) := by decide +kernel
theorem dX2_begin_51 : decode cX2_begin 51 = .ok (.putfield 40, 3) := by decide +kernel
theorem dX2_begin_54 : decode cX2_begin 54 = .ok (.aload_n 0, 1) := by decide +kernel
theorem dX2_begin_55 : decode cX2_begin 55 = .ok (.iconst 0, 1) := by decide +kernel
theorem dX2_begin_56 : decode cX2_begin 56 = .ok (.putfield 44, 3) := by decide +kernel
theorem dX2_begin_59 : decode cX2_begin 59 = .ok (.aload_n 0, 1) := by decide +kernel
theorem dX2_begin_60 : decode cX2_begin 60 = .ok (.iconst 0, 1) := by decide +kernel
theorem dX2_begin_61 : decode cX2_begin 61 = .ok (.putfield 47, 3) := by decide +kernel
theorem dX2_begin_64 : decode cX2_begin 64 = .ok (.aload_n 0, 1) := by decide +kernel
theorem dX2_begin_65 : decode cX2_begin 65 = .ok (.iconst 0, 1) := by decide +kernel
theorem dX2_begin_66 : decode cX2_begin 66 = .ok (.putfield 50, 3) := by decide +kernel
theorem dX2_begin_69 : decode cX2_begin 69 = .ok (.aload_n 0, 1) := by decide +kernel
theorem dX2_begin_70 : decode cX2_begin 70 = .ok (.iconst 0, 1) := by decide +kernel
theorem dX2_begin_71 : decode cX2_begin 71 = .ok (.putfield 53, 3) := by decide +kernel
theorem dX2_begin_74 : decode cX2_begin 74 = .ok (.aload_n 0, 1) := by decide +kernel
theorem dX2_begin_75 : decode cX2_begin 75 = .ok (.bipush (-4), 2) := by decide +kernel
theorem dX2_begin_77 : decode cX2_begin 77 = .ok (.putfield 56, 3) := by decide +kernel
theorem dX2_begin_80 : decode cX2_begin 80 = .ok (.aload_n 0, 1) := by decide +kernel
theorem dX2_begin_81 : decode cX2_begin 81 = .ok (.iconst 0, 1) := by decide +kernel
theorem dX2_begin_82 : decode cX2_begin 82 = .ok (.putfield 59, 3) := by decide +kernel
theorem dX2_begin_85 : decode cX2_begin 85 = .ok (.aload_n 0, 1) := by decide +kernel
theorem dX2_begin_86 : decode cX2_begin 86 = .ok (.iconst 0, 1) := by decide +kernel
theorem dX2_begin_87 : decode cX2_begin 87 = .ok (.putfield 62, 3) := by decide +kernel
theorem dX2_begin_90 : decode cX2_begin 90 = .ok (.return_, 1) := by decide +kernel
theorem dX2_clear_0 : decode cX2_clear 0 = .ok (.aload_n 0, 1) := by decide +kernel
theorem dX2_clear_1 : decode cX2_clear 1 = .ok (.getfield 12, 3) := by decide +kernel
theorem dX2_clear_4 : decode cX2_clear 4 = .ok (.invokevirtual 65, 3) := by decide +kernel
theorem dX2_clear_7 : decode cX2_clear 7 = .ok (.aload_n 0, 1) := by decide +kernel
theorem dX2_clear_8 : decode cX2_clear 8 = .ok (.getfield 18, 3) := by decide +kernel
theorem dX2_clear_11 : decode cX2_clear 11 = .ok (.invokevirtual 65, 3) := by decide +kernel
theorem dX2_clear_14 : decode cX2_clear 14 = .ok (.aload_n 0, 1) := by decide +kernel
theorem dX2_clear_15 : decode cX2_clear 15 = .ok (.iconst 0, 1) := by decide +kernel
theorem dX2_clear_16 : decode cX2_clear 16 = .ok (.putfield 68, 3) := by decide +kernel
theorem dX2_clear_19 : decode cX2_clear 19 = .ok (.aload_n 0, 1) := by decide +kernel
theorem dX2_clear_20 : decode cX2_clear 20 = .ok (.iconst 0, 1) := by decide +kernel
theorem dX2_clear_21 : decode cX2_clear 21 = .ok (.putfield 71, 3) := by decide +kernel
theorem dX2_clear_24 : decode cX2_clear 24 = .ok (.aload_n 0, 1) := by decide +kernel
theorem dX2_clear_25 : decode cX2_clear 25 = .ok (.bipush (-4), 2) := by decide +kernel
theorem dX2_clear_27 : decode cX2_clear 27 = .ok (.putfield 74, 3) := by decide +kernel
theorem dX2_clear_30 : decode cX2_clear 30 = .ok (.return_, 1) := by decide +kernel
theorem dX2_beginListening_0 : decode cX2_beginListening 0 = .ok (.aload_n 0, 1) := by decide +kernel
theorem dX2_beginListening_1 : decode cX2_beginListening 1 = .ok (.iconst 1, 1) := by decide +kernel
theorem dX2_beginListening_2 : decode cX2_beginListening 2 = .ok (.putfield 40, 3) := by decide +kernel
theorem dX2_beginListening_5 : decode cX2_beginListening 5 = .ok (.aload_n 0, 1) := by decide +kernel
theorem dX2_beginListening_6 : decode cX2_beginListening 6 = .ok (.iconst 1, 1) := by decide +kernel
theorem dX2_beginListening_7 : decode cX2_beginListening 7 = .ok (.putfield 44, 3) := by decide +kernel
theorem dX2_beginListening_10 : decode cX2_beginListening 10 = .ok (.return_, 1) := by decide +kernel
theorem dX2_beTriggered_0 : decode cX2_beTriggered 0 = .ok (.aload_n 0, 1) := by decide +kernel
theorem dX2_beTriggered_1 : decode cX2_beTriggered 1 = .ok (.aload_n 0, 1) := by decide +kernel
theorem dX2_beTriggered_2 : decode cX2_beTriggered 2 = .ok (.getfield 62, 3) := by decide +kernel
theorem dX2_beTriggered_5 : decode cX2_beTriggered 5 = .ok (.iconst 1, 1) := by decide +kernel
theorem dX2_beTriggered_6 : decode cX2_beTriggered 6 = .ok (.iadd, 1) := by decide +kernel
theorem dX2_beTriggered_7 : decode cX2_beTriggered 7 = .ok (.sipush 999, 3) := by decide +kernel
theorem dX2_beTriggered_10 : decode cX2_beTriggered 10 = .ok (.invokestatic 77, 3) := by decide +kernel
theorem dX2_beTriggered_13 : decode cX2_beTriggered 13 = .ok (.putfield 62, 3) := by decide +kernel
theorem dX2_beTriggered_16 : decode cX2_beTriggered 16 = .ok (.aload_n 0, 1) := by decide +kernel
theorem dX2_beTriggered_17 : decode cX2_beTriggered 17 = .ok (.getfield 21, 3) := by decide +kernel
theorem dX2_beTriggered_20 : decode cX2_beTriggered 20 = .ok (.iconst 1, 1) := by decide +kernel
theorem dX2_beTriggered_21 : decode cX2_beTriggered 21 = .ok (.if_icmp .ne 13, 3) := by decide +kernel
theorem dX2_beTriggered_24 : decode cX2_beTriggered 24 = .ok (.aload_n 0, 1) := by decide +kernel
theorem dX2_beTriggered_25 : decode cX2_beTriggered 25 = .ok (.iload_n 1, 1) := by decide +kernel
theorem dX2_beTriggered_26 : decode cX2_beTriggered 26 = .ok (.aload_n 0, 1) := by decide +kernel
theorem dX2_beTriggered_27 : decode cX2_beTriggered 27 = .ok (.getfield 34, 3) := by decide +kernel
theorem dX2_beTriggered_30 : decode cX2_beTriggered 30 = .ok (.iadd, 1) := by decide +kernel
theorem dX2_beTriggered_31 : decode cX2_beTriggered 31 = .ok (.putfield 74, 3) := by decide +kernel
theorem dX2_beTriggered_34 : decode cX2_beTriggered 34 = .ok (.return_, 1) := by decide +kernel
theorem dX2_isDueBy_0 : decode cX2_isDueBy 0 = .ok (.aload_n 0, 1) := by decide +kernel
theorem dX2_isDueBy_1 : decode cX2_isDueBy 1 = .ok (.getfield 74, 3) := by decide +kernel
theorem dX2_isDueBy_4 : decode cX2_isDueBy 4 = .ok (.bipush (-4), 2) := by decide +kernel
theorem dX2_isDueBy_6 : decode cX2_isDueBy 6 = .ok (.if_icmp .eq 15, 3) := by decide +kernel
theorem dX2_isDueBy_9 : decode cX2_isDueBy 9 = .ok (.aload_n 0, 1) := by decide +kernel
theorem dX2_isDueBy_10 : decode cX2_isDueBy 10 = .ok (.getfield 74, 3) := by decide +kernel
theorem dX2_isDueBy_13 : decode cX2_isDueBy 13 = .ok (.iload_n 1, 1) := by decide +kernel
theorem dX2_isDueBy_14 : decode cX2_isDueBy 14 = .ok (.if_icmp .gt 7, 3) := by decide +kernel
theorem dX2_isDueBy_17 : decode cX2_isDueBy 17 = .ok (.iconst 1, 1) := by decide +kernel
theorem dX2_isDueBy_18 : decode cX2_isDueBy 18 = .ok (.goto 4, 3) := by decide +kernel
theorem dX2_isDueBy_21 : decode cX2_isDueBy 21 = .ok (.iconst 0, 1) := by decide +kernel
theorem dX2_isDueBy_22 : decode cX2_isDueBy 22 = .ok (.ireturn, 1) := by decide +kernel
theorem dX2_comeReading_0 : decode cX2_comeReading 0 = .ok (.bipush 7, 2) := by decide +kernel
theorem dX2_comeReading_2 : decode cX2_comeReading 2 = .ok (.aload_n 0, 1) := by decide +kernel
theorem dX2_comeReading_3 : decode cX2_comeReading 3 = .ok (.getfield 62, 3) := by decide +kernel
theorem dX2_comeReading_6 : decode cX2_comeReading 6 = .ok (.imul, 1) := by decide +kernel
theorem dX2_comeReading_7 : decode cX2_comeReading 7 = .ok (.iconst 3, 1) := by decide +kernel
theorem dX2_comeReading_8 : decode cX2_comeReading 8 = .ok (.aload_n 0, 1) := by decide +kernel
theorem dX2_comeReading_9 : decode cX2_comeReading 9 = .ok (.getfield 25, 3) := by decide +kernel
theorem dX2_comeReading_12 : decode cX2_comeReading 12 = .ok (.imul, 1) := by decide +kernel
theorem dX2_comeReading_13 : decode cX2_comeReading 13 = .ok (.iadd, 1) := by decide +kernel
theorem dX2_comeReading_14 : decode cX2_comeReading 14 = .ok (.bipush 100, 2) := by decide +kernel
theorem dX2_comeReading_16 : decode cX2_comeReading 16 = .ok (.irem, 1) := by decide +kernel
theorem dX2_comeReading_17 : decode cX2_comeReading 17 = .ok (.istore_n 1, 1) := by decide +kernel
theorem dX2_comeReading_18 : decode cX2_comeReading 18 = .ok (.aload_n 0, 1) := by decide +kernel
theorem dX2_comeReading_19 : decode cX2_comeReading 19 = .ok (.getfield 12, 3) := by decide +kernel
theorem dX2_comeReading_22 : decode cX2_comeReading 22 = .ok (.invokevirtual 65, 3) := by decide +kernel
theorem dX2_comeReading_25 : decode cX2_comeReading 25 = .ok (.aload_n 0, 1) := by decide +kernel
theorem dX2_comeReading_26 : decode cX2_comeReading 26 = .ok (.getfield 12, 3) := by decide +kernel
theorem dX2_comeReading_29 : decode cX2_comeReading 29 = .ok (.bipush 48, 2) := by decide +kernel
theorem dX2_comeReading_31 : decode cX2_comeReading 31 = .ok (.iload_n 1, 1) := by decide +kernel
theorem dX2_comeReading_32 : decode cX2_comeReading 32 = .ok (.bipush 10, 2) := by decide +kernel
theorem dX2_comeReading_34 : decode cX2_comeReading 34 = .ok (.idiv, 1) := by decide +kernel
theorem dX2_comeReading_35 : decode cX2_comeReading 35 = .ok (.iadd, 1) := by decide +kernel
theorem dX2_comeReading_36 : decode cX2_comeReading 36 = .ok (.invokevirtual 83, 3) := by decide +kernel
theorem dX2_comeReading_39 : decode cX2_comeReading 39 = .ok (.pop, 1) := by decide +kernel
theorem dX2_comeReading_40 : decode cX2_comeReading 40 = .ok (.aload_n 0, 1) := by decide +kernel
theorem dX2_comeReading_41 : decode cX2_comeReading 41 = .ok (.getfield 12, 3) := by decide +kernel
theorem dX2_comeReading_44 : decode cX2_comeReading 44 = .ok (.bipush 48, 2) := by decide +kernel
theorem dX2_comeReading_46 : decode cX2_comeReading 46 = .ok (.iload_n 1, 1) := by decide +kernel
theorem dX2_comeReading_47 : decode cX2_comeReading 47 = .ok (.bipush 10, 2) := by decide +kernel
theorem dX2_comeReading_49 : decode cX2_comeReading 49 = .ok (.irem, 1) := by decide +kernel
theorem dX2_comeReading_50 : decode cX2_comeReading 50 = .ok (.iadd, 1) := by decide +kernel
theorem dX2_comeReading_51 : decode cX2_comeReading 51 = .ok (.invokevirtual 83, 3) := by decide +kernel
theorem dX2_comeReading_54 : decode cX2_comeReading 54 = .ok (.pop, 1) := by decide +kernel
theorem dX2_comeReading_55 : decode cX2_comeReading 55 = .ok (.aload_n 0, 1) := by decide +kernel
theorem dX2_comeReading_56 : decode cX2_comeReading 56 = .ok (.bipush 16, 2) := by decide +kernel
theorem dX2_comeReading_58 : decode cX2_comeReading 58 = .ok (.putfield 68, 3) := by decide +kernel
theorem dX2_comeReading_61 : decode cX2_comeReading 61 = .ok (.aload_n 0, 1) := by decide +kernel
theorem dX2_comeReading_62 : decode cX2_comeReading 62 = .ok (.iconst 1, 1) := by decide +kernel
theorem dX2_comeReading_63 : decode cX2_comeReading 63 = .ok (.putfield 71, 3) := by decide +kernel
theorem dX2_comeReading_66 : decode cX2_comeReading 66 = .ok (.aload_n 0, 1) := by decide +kernel
theorem dX2_comeReading_67 : decode cX2_comeReading 67 = .ok (.bipush (-4), 2) := by decide +kernel
theorem dX2_comeReading_69 : decode cX2_comeReading 69 = .ok (.putfield 74, 3) := by decide +kernel
theorem dX2_comeReading_72 : decode cX2_comeReading 72 = .ok (.return_, 1) := by decide +kernel
theorem dX2_pollByte_0 : decode cX2_pollByte 0 = .ok (.aload_n 0, 1) := by decide +kernel
theorem dX2_pollByte_1 : decode cX2_pollByte 1 = .ok (.getfield 71, 3) := by decide +kernel
theorem dX2_pollByte_4 : decode cX2_pollByte 4 = .ok (.ifCond .eq 13, 3) := by decide +kernel
theorem dX2_pollByte_7 : decode cX2_pollByte 7 = .ok (.aload_n 0, 1) := by decide +kernel
theorem dX2_pollByte_8 : decode cX2_pollByte 8 = .ok (.getfield 68, 3) := by decide +kernel
theorem dX2_pollByte_11 : decode cX2_pollByte 11 = .ok (.bipush 64, 2) := by decide +kernel
theorem dX2_pollByte_13 : decode cX2_pollByte 13 = .ok (.iadd, 1) := by decide +kernel
theorem dX2_pollByte_14 : decode cX2_pollByte 14 = .ok (.goto 7, 3) := by decide +kernel
theorem dX2_pollByte_17 : decode cX2_pollByte 17 = .ok (.aload_n 0, 1) := by decide +kernel
theorem dX2_pollByte_18 : decode cX2_pollByte 18 = .ok (.getfield 68, 3) := by decide +kernel
theorem dX2_pollByte_21 : decode cX2_pollByte 21 = .ok (.ireturn, 1) := by decide +kernel
theorem dX2_lineBit_0 : decode cX2_lineBit 0 = .ok (.aload_n 0, 1) := by decide +kernel
theorem dX2_lineBit_1 : decode cX2_lineBit 1 = .ok (.getfield 56, 3) := by decide +kernel
theorem dX2_lineBit_4 : decode cX2_lineBit 4 = .ok (.bipush (-4), 2) := by decide +kernel
theorem dX2_lineBit_6 : decode cX2_lineBit 6 = .ok (.if_icmp .eq 26, 3) := by decide +kernel
theorem dX2_lineBit_9 : decode cX2_lineBit 9 = .ok (.aload_n 0, 1) := by decide +kernel
theorem dX2_lineBit_10 : decode cX2_lineBit 10 = .ok (.getfield 59, 3) := by decide +kernel
theorem dX2_lineBit_13 : decode cX2_lineBit 13 = .ok (.aload_n 0, 1) := by decide +kernel
theorem dX2_lineBit_14 : decode cX2_lineBit 14 = .ok (.getfield 71, 3) := by decide +kernel
theorem dX2_lineBit_17 : decode cX2_lineBit 17 = .ok (.invokestatic 87, 3) := by decide +kernel
theorem dX2_lineBit_20 : decode cX2_lineBit 20 = .ok (.if_icmp .ne 12, 3) := by decide +kernel
theorem dX2_lineBit_23 : decode cX2_lineBit 23 = .ok (.iconst 1, 1) := by decide +kernel
theorem dX2_lineBit_24 : decode cX2_lineBit 24 = .ok (.aload_n 0, 1) := by decide +kernel
theorem dX2_lineBit_25 : decode cX2_lineBit 25 = .ok (.getfield 56, 3) := by decide +kernel
theorem dX2_lineBit_28 : decode cX2_lineBit 28 = .ok (.ishl, 1) := by decide +kernel
theorem dX2_lineBit_29 : decode cX2_lineBit 29 = .ok (.goto 4, 3) := by decide +kernel
theorem dX2_lineBit_32 : decode cX2_lineBit 32 = .ok (.iconst 0, 1) := by decide +kernel
theorem dX2_lineBit_33 : decode cX2_lineBit 33 = .ok (.ireturn, 1) := by decide +kernel
theorem dX2_tellSetting_0 : decode cX2_tellSetting 0 = .ok (.iload_n 1, 1) := by decide +kernel
theorem dX2_tellSetting_1 : decode cX2_tellSetting 1 = .ok (.tableswitch 100 0 8 #[51, 56, 61, 66, 71, 100, 76, 84, 92], 51) := by decide +kernel
theorem dX2_tellSetting_52 : decode cX2_tellSetting 52 = .ok (.aload_n 0, 1) := by decide +kernel
theorem dX2_tellSetting_53 : decode cX2_tellSetting 53 = .ok (.getfield 21, 3) := by decide +kernel
theorem dX2_tellSetting_56 : decode cX2_tellSetting 56 = .ok (.ireturn, 1) := by decide +kernel
theorem dX2_tellSetting_57 : decode cX2_tellSetting 57 = .ok (.aload_n 0, 1) := by decide +kernel
theorem dX2_tellSetting_58 : decode cX2_tellSetting 58 = .ok (.getfield 25, 3) := by decide +kernel
theorem dX2_tellSetting_61 : decode cX2_tellSetting 61 = .ok (.ireturn, 1) := by decide +kernel
theorem dX2_tellSetting_62 : decode cX2_tellSetting 62 = .ok (.aload_n 0, 1) := by decide +kernel
theorem dX2_tellSetting_63 : decode cX2_tellSetting 63 = .ok (.getfield 28, 3) := by decide +kernel
theorem dX2_tellSetting_66 : decode cX2_tellSetting 66 = .ok (.ireturn, 1) := by decide +kernel
theorem dX2_tellSetting_67 : decode cX2_tellSetting 67 = .ok (.aload_n 0, 1) := by decide +kernel
theorem dX2_tellSetting_68 : decode cX2_tellSetting 68 = .ok (.getfield 31, 3) := by decide +kernel
theorem dX2_tellSetting_71 : decode cX2_tellSetting 71 = .ok (.ireturn, 1) := by decide +kernel
theorem dX2_tellSetting_72 : decode cX2_tellSetting 72 = .ok (.aload_n 0, 1) := by decide +kernel
theorem dX2_tellSetting_73 : decode cX2_tellSetting 73 = .ok (.getfield 34, 3) := by decide +kernel
theorem dX2_tellSetting_76 : decode cX2_tellSetting 76 = .ok (.ireturn, 1) := by decide +kernel
theorem dX2_tellSetting_77 : decode cX2_tellSetting 77 = .ok (.aload_n 0, 1) := by decide +kernel
theorem dX2_tellSetting_78 : decode cX2_tellSetting 78 = .ok (.getfield 40, 3) := by decide +kernel
theorem dX2_tellSetting_81 : decode cX2_tellSetting 81 = .ok (.invokestatic 87, 3) := by decide +kernel
theorem dX2_tellSetting_84 : decode cX2_tellSetting 84 = .ok (.ireturn, 1) := by decide +kernel
theorem dX2_tellSetting_85 : decode cX2_tellSetting 85 = .ok (.aload_n 0, 1) := by decide +kernel
theorem dX2_tellSetting_86 : decode cX2_tellSetting 86 = .ok (.getfield 44, 3) := by decide +kernel
theorem dX2_tellSetting_89 : decode cX2_tellSetting 89 = .ok (.invokestatic 87, 3) := by decide +kernel
theorem dX2_tellSetting_92 : decode cX2_tellSetting 92 = .ok (.ireturn, 1) := by decide +kernel
theorem dX2_tellSetting_93 : decode cX2_tellSetting 93 = .ok (.aload_n 0, 1) := by decide +kernel
theorem dX2_tellSetting_94 : decode cX2_tellSetting 94 = .ok (.getfield 47, 3) := by decide +kernel
theorem dX2_tellSetting_97 : decode cX2_tellSetting 97 = .ok (.invokestatic 87, 3) := by decide +kernel
theorem dX2_tellSetting_100 : decode cX2_tellSetting 100 = .ok (.ireturn, 1) := by decide +kernel
theorem dX2_tellSetting_101 : decode cX2_tellSetting 101 = .ok (.iconst (-1), 1) := by decide +kernel
theorem dX2_tellSetting_102 : decode cX2_tellSetting 102 = .ok (.ireturn, 1) := by decide +kernel
theorem dX2_tellState_0 : decode cX2_tellState 0 = .ok (.iload_n 1, 1) := by decide +kernel
theorem dX2_tellState_1 : decode cX2_tellState 1 = .ok (.tableswitch 135 9 17 #[51, 56, 64, 69, 88, 93, 114, 122, 130], 51) := by decide +kernel
theorem dX2_tellState_52 : decode cX2_tellState 52 = .ok (.aload_n 0, 1) := by decide +kernel
theorem dX2_tellState_53 : decode cX2_tellState 53 = .ok (.getfield 68, 3) := by decide +kernel
theorem dX2_tellState_56 : decode cX2_tellState 56 = .ok (.ireturn, 1) := by decide +kernel
theorem dX2_tellState_57 : decode cX2_tellState 57 = .ok (.aload_n 0, 1) := by decide +kernel
theorem dX2_tellState_58 : decode cX2_tellState 58 = .ok (.getfield 71, 3) := by decide +kernel
theorem dX2_tellState_61 : decode cX2_tellState 61 = .ok (.invokestatic 87, 3) := by decide +kernel
theorem dX2_tellState_64 : decode cX2_tellState 64 = .ok (.ireturn, 1) := by decide +kernel
theorem dX2_tellState_65 : decode cX2_tellState 65 = .ok (.aload_n 0, 1) := by decide +kernel
theorem dX2_tellState_66 : decode cX2_tellState 66 = .ok (.getfield 56, 3) := by decide +kernel
theorem dX2_tellState_69 : decode cX2_tellState 69 = .ok (.ireturn, 1) := by decide +kernel
theorem dX2_tellState_70 : decode cX2_tellState 70 = .ok (.aload_n 0, 1) := by decide +kernel
theorem dX2_tellState_71 : decode cX2_tellState 71 = .ok (.getfield 56, 3) := by decide +kernel
theorem dX2_tellState_74 : decode cX2_tellState 74 = .ok (.bipush (-4), 2) := by decide +kernel
theorem dX2_tellState_76 : decode cX2_tellState 76 = .ok (.if_icmp .ne 8, 3) := by decide +kernel
theorem dX2_tellState_79 : decode cX2_tellState 79 = .ok (.bipush (-4), 2) := by decide +kernel
theorem dX2_tellState_81 : decode cX2_tellState 81 = .ok (.goto 7, 3) := by decide +kernel
theorem dX2_tellState_84 : decode cX2_tellState 84 = .ok (.aload_n 0, 1) := by decide +kernel
theorem dX2_tellState_85 : decode cX2_tellState 85 = .ok (.getfield 59, 3) := by decide +kernel
theorem dX2_tellState_88 : decode cX2_tellState 88 = .ok (.ireturn, 1) := by decide +kernel
theorem dX2_tellState_89 : decode cX2_tellState 89 = .ok (.aload_n 0, 1) := by decide +kernel
theorem dX2_tellState_90 : decode cX2_tellState 90 = .ok (.getfield 62, 3) := by decide +kernel
theorem dX2_tellState_93 : decode cX2_tellState 93 = .ok (.ireturn, 1) := by decide +kernel
theorem dX2_tellState_94 : decode cX2_tellState 94 = .ok (.aload_n 0, 1) := by decide +kernel
theorem dX2_tellState_95 : decode cX2_tellState 95 = .ok (.getfield 74, 3) := by decide +kernel
theorem dX2_tellState_98 : decode cX2_tellState 98 = .ok (.bipush (-4), 2) := by decide +kernel
theorem dX2_tellState_100 : decode cX2_tellState 100 = .ok (.if_icmp .ne 8, 3) := by decide +kernel
theorem dX2_tellState_103 : decode cX2_tellState 103 = .ok (.bipush (-4), 2) := by decide +kernel
theorem dX2_tellState_105 : decode cX2_tellState 105 = .ok (.goto 9, 3) := by decide +kernel
theorem dX2_tellState_108 : decode cX2_tellState 108 = .ok (.aload_n 0, 1) := by decide +kernel
theorem dX2_tellState_109 : decode cX2_tellState 109 = .ok (.getfield 74, 3) := by decide +kernel
theorem dX2_tellState_112 : decode cX2_tellState 112 = .ok (.iload_n 2, 1) := by decide +kernel
theorem dX2_tellState_113 : decode cX2_tellState 113 = .ok (.isub, 1) := by decide +kernel
theorem dX2_tellState_114 : decode cX2_tellState 114 = .ok (.ireturn, 1) := by decide +kernel
theorem dX2_tellState_115 : decode cX2_tellState 115 = .ok (.aload_n 0, 1) := by decide +kernel
theorem dX2_tellState_116 : decode cX2_tellState 116 = .ok (.getfield 12, 3) := by decide +kernel
theorem dX2_tellState_119 : decode cX2_tellState 119 = .ok (.getfield 91, 3) := by decide +kernel
theorem dX2_tellState_122 : decode cX2_tellState 122 = .ok (.ireturn, 1) := by decide +kernel
theorem dX2_tellState_123 : decode cX2_tellState 123 = .ok (.aload_n 0, 1) := by decide +kernel
theorem dX2_tellState_124 : decode cX2_tellState 124 = .ok (.getfield 18, 3) := by decide +kernel
theorem dX2_tellState_127 : decode cX2_tellState 127 = .ok (.getfield 91, 3) := by decide +kernel
theorem dX2_tellState_130 : decode cX2_tellState 130 = .ok (.ireturn, 1) := by decide +kernel
theorem dX2_tellState_131 : decode cX2_tellState 131 = .ok (.aload_n 0, 1) := by decide +kernel
theorem dX2_tellState_132 : decode cX2_tellState 132 = .ok (.getfield 53, 3) := by decide +kernel
theorem dX2_tellState_135 : decode cX2_tellState 135 = .ok (.ireturn, 1) := by decide +kernel
theorem dX2_tellState_136 : decode cX2_tellState 136 = .ok (.iconst (-1), 1) := by decide +kernel
theorem dX2_tellState_137 : decode cX2_tellState 137 = .ok (.ireturn, 1) := by decide +kernel
theorem dX3_init_0 : decode cX3_init 0 = .ok (.aload_n 0, 1) := by decide +kernel
theorem dX3_init_1 : decode cX3_init 1 = .ok (.invokespecial 3, 3) := by decide +kernel
theorem dX3_init_4 : decode cX3_init 4 = .ok (.aload_n 0, 1) := by decide +kernel
theorem dX3_init_5 : decode cX3_init 5 = .ok (.sipush 200, 3) := by decide +kernel
theorem dX3_init_8 : decode cX3_init 8 = .ok (.newarray .char, 2) := by decide +kernel
theorem dX3_init_10 : decode cX3_init 10 = .ok (.putfield 9, 3) := by decide +kernel
theorem dX3_init_13 : decode cX3_init 13 = .ok (.aload_n 0, 1) := by decide +kernel
theorem dX3_init_14 : decode cX3_init 14 = .ok (.bipush 30, 2) := by decide +kernel
theorem dX3_init_16 : decode cX3_init 16 = .ok (.newarray .int, 2) := by decide +kernel
theorem dX3_init_18 : decode cX3_init 18 = .ok (.putfield 15, 3) := by decide +kernel
theorem dX3_init_21 : decode cX3_init 21 = .ok (.return_, 1) := by decide +kernel
theorem dX3_append_0 : decode cX3_append 0 = .ok (.aload_n 0, 1) := by decide +kernel
theorem dX3_append_1 : decode cX3_append 1 = .ok (.getfield 19, 3) := by decide +kernel
theorem dX3_append_4 : decode cX3_append 4 = .ok (.sipush 200, 3) := by decide +kernel
theorem dX3_append_7 : decode cX3_append 7 = .ok (.if_icmp .lt 6, 3) := by decide +kernel
theorem dX3_append_10 : decode cX3_append 10 = .ok (.bipush (-3), 2) := by decide +kernel
theorem dX3_append_12 : decode cX3_append 12 = .ok (.ireturn, 1) := by decide +kernel
theorem dX3_append_13 : decode cX3_append 13 = .ok (.aload_n 0, 1) := by decide +kernel
theorem dX3_append_14 : decode cX3_append 14 = .ok (.getfield 9, 3) := by decide +kernel
theorem dX3_append_17 : decode cX3_append 17 = .ok (.aload_n 0, 1) := by decide +kernel
theorem dX3_append_18 : decode cX3_append 18 = .ok (.getfield 19, 3) := by decide +kernel
theorem dX3_append_21 : decode cX3_append 21 = .ok (.iload_n 1, 1) := by decide +kernel
theorem dX3_append_22 : decode cX3_append 22 = .ok (.i2c, 1) := by decide +kernel
theorem dX3_append_23 : decode cX3_append 23 = .ok (.castore, 1) := by decide +kernel
theorem dX3_append_24 : decode cX3_append 24 = .ok (.aload_n 0, 1) := by decide +kernel
theorem dX3_append_25 : decode cX3_append 25 = .ok (.dup, 1) := by decide +kernel
theorem dX3_append_26 : decode cX3_append 26 = .ok (.getfield 19, 3) := by decide +kernel
theorem dX3_append_29 : decode cX3_append 29 = .ok (.iconst 1, 1) := by decide +kernel
theorem dX3_append_30 : decode cX3_append 30 = .ok (.iadd, 1) := by decide +kernel
theorem dX3_append_31 : decode cX3_append 31 = .ok (.putfield 19, 3) := by decide +kernel
theorem dX3_append_34 : decode cX3_append 34 = .ok (.aload_n 0, 1) := by decide +kernel
theorem dX3_append_35 : decode cX3_append 35 = .ok (.getfield 19, 3) := by decide +kernel
theorem dX3_append_38 : decode cX3_append 38 = .ok (.ireturn, 1) := by decide +kernel
theorem dX3_empty_0 : decode cX3_empty 0 = .ok (.aload_n 0, 1) := by decide +kernel
theorem dX3_empty_1 : decode cX3_empty 1 = .ok (.getfield 19, 3) := by decide +kernel
theorem dX3_empty_4 : decode cX3_empty 4 = .ok (.istore_n 1, 1) := by decide +kernel
theorem dX3_empty_5 : decode cX3_empty 5 = .ok (.aload_n 0, 1) := by decide +kernel
theorem dX3_empty_6 : decode cX3_empty 6 = .ok (.iconst 0, 1) := by decide +kernel
theorem dX3_empty_7 : decode cX3_empty 7 = .ok (.putfield 19, 3) := by decide +kernel
theorem dX3_empty_10 : decode cX3_empty 10 = .ok (.iload_n 1, 1) := by decide +kernel
theorem dX3_empty_11 : decode cX3_empty 11 = .ok (.ireturn, 1) := by decide +kernel
theorem dX3_firstFault_0 : decode cX3_firstFault 0 = .ok (.aload_n 0, 1) := by decide +kernel
theorem dX3_firstFault_1 : decode cX3_firstFault 1 = .ok (.iconst 0, 1) := by decide +kernel
theorem dX3_firstFault_2 : decode cX3_firstFault 2 = .ok (.putfield 23, 3) := by decide +kernel
theorem dX3_firstFault_5 : decode cX3_firstFault 5 = .ok (.iconst 0, 1) := by decide +kernel
theorem dX3_firstFault_6 : decode cX3_firstFault 6 = .ok (.istore_n 1, 1) := by decide +kernel
theorem dX3_firstFault_7 : decode cX3_firstFault 7 = .ok (.iconst 0, 1) := by decide +kernel
theorem dX3_firstFault_8 : decode cX3_firstFault 8 = .ok (.istore_n 2, 1) := by decide +kernel
theorem dX3_firstFault_9 : decode cX3_firstFault 9 = .ok (.iload_n 2, 1) := by decide +kernel
theorem dX3_firstFault_10 : decode cX3_firstFault 10 = .ok (.bipush 6, 2) := by decide +kernel
theorem dX3_firstFault_12 : decode cX3_firstFault 12 = .ok (.if_icmp .ge 49, 3) := by decide +kernel
theorem dX3_firstFault_15 : decode cX3_firstFault 15 = .ok (.iload_n 1, 1) := by decide +kernel
theorem dX3_firstFault_16 : decode cX3_firstFault 16 = .ok (.aload_n 0, 1) := by decide +kernel
theorem dX3_firstFault_17 : decode cX3_firstFault 17 = .ok (.getfield 19, 3) := by decide +kernel
theorem dX3_firstFault_20 : decode cX3_firstFault 20 = .ok (.if_icmp .ge 41, 3) := by decide +kernel
theorem dX3_firstFault_23 : decode cX3_firstFault 23 = .ok (.aload_n 0, 1) := by decide +kernel
theorem dX3_firstFault_24 : decode cX3_firstFault 24 = .ok (.iload_n 1, 1) := by decide +kernel
theorem dX3_firstFault_25 : decode cX3_firstFault 25 = .ok (.iload_n 2, 1) := by decide +kernel
theorem dX3_firstFault_26 : decode cX3_firstFault 26 = .ok (.iconst 5, 1) := by decide +kernel
theorem dX3_firstFault_27 : decode cX3_firstFault 27 = .ok (.imul, 1) := by decide +kernel
theorem dX3_firstFault_28 : decode cX3_firstFault 28 = .ok (.invokevirtual 26, 3) := by decide +kernel
theorem dX3_firstFault_31 : decode cX3_firstFault 31 = .ok (.istore_n 3, 1) := by decide +kernel
theorem dX3_firstFault_32 : decode cX3_firstFault 32 = .ok (.iload_n 3, 1) := by decide +kernel
theorem dX3_firstFault_33 : decode cX3_firstFault 33 = .ok (.ifCond .lt 11, 3) := by decide +kernel
theorem dX3_firstFault_36 : decode cX3_firstFault 36 = .ok (.aload_n 0, 1) := by decide +kernel
theorem dX3_firstFault_37 : decode cX3_firstFault 37 = .ok (.iload_n 2, 1) := by decide +kernel
theorem dX3_firstFault_38 : decode cX3_firstFault 38 = .ok (.invokevirtual 30, 3) := by decide +kernel
theorem dX3_firstFault_41 : decode cX3_firstFault 41 = .ok (.ifCond .eq 5, 3) := by decide +kernel
theorem dX3_firstFault_44 : decode cX3_firstFault 44 = .ok (.iload_n 1, 1) := by decide +kernel
theorem dX3_firstFault_45 : decode cX3_firstFault 45 = .ok (.ireturn, 1) := by decide +kernel
theorem dX3_firstFault_46 : decode cX3_firstFault 46 = .ok (.iload_n 3, 1) := by decide +kernel
theorem dX3_firstFault_47 : decode cX3_firstFault 47 = .ok (.istore_n 1, 1) := by decide +kernel
theorem dX3_firstFault_48 : decode cX3_firstFault 48 = .ok (.aload_n 0, 1) := by decide +kernel
theorem dX3_firstFault_49 : decode cX3_firstFault 49 = .ok (.iload_n 2, 1) := by decide +kernel
theorem dX3_firstFault_50 : decode cX3_firstFault 50 = .ok (.iconst 1, 1) := by decide +kernel
theorem dX3_firstFault_51 : decode cX3_firstFault 51 = .ok (.iadd, 1) := by decide +kernel
theorem dX3_firstFault_52 : decode cX3_firstFault 52 = .ok (.putfield 23, 3) := by decide +kernel
theorem dX3_firstFault_55 : decode cX3_firstFault 55 = .ok (.iinc 2 1, 3) := by decide +kernel
theorem dX3_firstFault_58 : decode cX3_firstFault 58 = .ok (.goto (-49), 3) := by decide +kernel
theorem dX3_firstFault_61 : decode cX3_firstFault 61 = .ok (.iload_n 1, 1) := by decide +kernel
theorem dX3_firstFault_62 : decode cX3_firstFault 62 = .ok (.aload_n 0, 1) := by decide +kernel
theorem dX3_firstFault_63 : decode cX3_firstFault 63 = .ok (.getfield 19, 3) := by decide +kernel
theorem dX3_firstFault_66 : decode cX3_firstFault 66 = .ok (.if_icmp .ge 7, 3) := by decide +kernel
theorem dX3_firstFault_69 : decode cX3_firstFault 69 = .ok (.iload_n 1, 1) := by decide +kernel
theorem dX3_firstFault_70 : decode cX3_firstFault 70 = .ok (.goto 5, 3) := by decide +kernel
theorem dX3_firstFault_73 : decode cX3_firstFault 73 = .ok (.bipush (-4), 2) := by decide +kernel
theorem dX3_firstFault_75 : decode cX3_firstFault 75 = .ok (.ireturn, 1) := by decide +kernel
theorem dX3_beginsWithHost_0 : decode cX3_beginsWithHost 0 = .ok (.aload_n 0, 1) := by decide +kernel
theorem dX3_beginsWithHost_1 : decode cX3_beginsWithHost 1 = .ok (.getfield 23, 3) := by decide +kernel
theorem dX3_beginsWithHost_4 : decode cX3_beginsWithHost 4 = .ok (.ifCond .le 17, 3) := by decide +kernel
theorem dX3_beginsWithHost_7 : decode cX3_beginsWithHost 7 = .ok (.aload_n 0, 1) := by decide +kernel
theorem dX3_beginsWithHost_8 : decode cX3_beginsWithHost 8 = .ok (.getfield 15, 3) := by decide +kernel
theorem dX3_beginsWithHost_11 : decode cX3_beginsWithHost 11 = .ok (.iconst 0, 1) := by decide +kernel
theorem dX3_beginsWithHost_12 : decode cX3_beginsWithHost 12 = .ok (.iaload, 1) := by decide +kernel
theorem dX3_beginsWithHost_13 : decode cX3_beginsWithHost 13 = .ok (.iconst 2, 1) := by decide +kernel
theorem dX3_beginsWithHost_14 : decode cX3_beginsWithHost 14 = .ok (.if_icmp .ne 7, 3) := by decide +kernel
theorem dX3_beginsWithHost_17 : decode cX3_beginsWithHost 17 = .ok (.iconst 1, 1) := by decide +kernel
theorem dX3_beginsWithHost_18 : decode cX3_beginsWithHost 18 = .ok (.goto 4, 3) := by decide +kernel
theorem dX3_beginsWithHost_21 : decode cX3_beginsWithHost 21 = .ok (.iconst 0, 1) := by decide +kernel
theorem dX3_beginsWithHost_22 : decode cX3_beginsWithHost 22 = .ok (.ireturn, 1) := by decide +kernel
theorem dX3_readItem_0 : decode cX3_readItem 0 = .ok (.aload_n 0, 1) := by decide +kernel
theorem dX3_readItem_1 : decode cX3_readItem 1 = .ok (.iload_n 1, 1) := by decide +kernel
theorem dX3_readItem_2 : decode cX3_readItem 2 = .ok (.invokevirtual 34, 3) := by decide +kernel
theorem dX3_readItem_5 : decode cX3_readItem 5 = .ok (.bipush 100, 2) := by decide +kernel
theorem dX3_readItem_7 : decode cX3_readItem 7 = .ok (.if_icmp .eq 5, 3) := by decide +kernel
theorem dX3_readItem_10 : decode cX3_readItem 10 = .ok (.iconst (-1), 1) := by decide +kernel
theorem dX3_readItem_11 : decode cX3_readItem 11 = .ok (.ireturn, 1) := by decide +kernel
theorem dX3_readItem_12 : decode cX3_readItem 12 = .ok (.iload_n 1, 1) := by decide +kernel
theorem dX3_readItem_13 : decode cX3_readItem 13 = .ok (.iconst 1, 1) := by decide +kernel
theorem dX3_readItem_14 : decode cX3_readItem 14 = .ok (.iadd, 1) := by decide +kernel
theorem dX3_readItem_15 : decode cX3_readItem 15 = .ok (.istore_n 3, 1) := by decide +kernel
theorem dX3_readItem_16 : decode cX3_readItem 16 = .ok (.iconst 0, 1) := by decide +kernel
theorem dX3_readItem_17 : decode cX3_readItem 17 = .ok (.istore 4, 2) := by decide +kernel
theorem dX3_readItem_19 : decode cX3_readItem 19 = .ok (.iload 4, 2) := by decide +kernel
theorem dX3_readItem_21 : decode cX3_readItem 21 = .ok (.iconst 5, 1) := by decide +kernel
theorem dX3_readItem_22 : decode cX3_readItem 22 = .ok (.if_icmp .ge 96, 3) := by decide +kernel
theorem dX3_readItem_25 : decode cX3_readItem 25 = .ok (.aload_n 0, 1) := by decide +kernel
theorem dX3_readItem_26 : decode cX3_readItem 26 = .ok (.iload_n 3, 1) := by decide +kernel
theorem dX3_readItem_27 : decode cX3_readItem 27 = .ok (.invokevirtual 38, 3) := by decide +kernel
theorem dX3_readItem_30 : decode cX3_readItem 30 = .ok (.istore 5, 2) := by decide +kernel
theorem dX3_readItem_32 : decode cX3_readItem 32 = .ok (.aload_n 0, 1) := by decide +kernel
theorem dX3_readItem_33 : decode cX3_readItem 33 = .ok (.iload_n 3, 1) := by decide +kernel
theorem dX3_readItem_34 : decode cX3_readItem 34 = .ok (.iload 5, 2) := by decide +kernel
theorem dX3_readItem_36 : decode cX3_readItem 36 = .ok (.invokevirtual 42, 3) := by decide +kernel
theorem dX3_readItem_39 : decode cX3_readItem 39 = .ok (.istore 6, 2) := by decide +kernel
theorem dX3_readItem_41 : decode cX3_readItem 41 = .ok (.iload 5, 2) := by decide +kernel
theorem dX3_readItem_43 : decode cX3_readItem 43 = .ok (.ifCond .eq 25, 3) := by decide +kernel
theorem dX3_readItem_46 : decode cX3_readItem 46 = .ok (.iload 6, 2) := by decide +kernel
theorem dX3_readItem_48 : decode cX3_readItem 48 = .ok (.getstatic 45, 3) := by decide +kernel
theorem dX3_readItem_51 : decode cX3_readItem 51 = .ok (.iload 4, 2) := by decide +kernel
theorem dX3_readItem_53 : decode cX3_readItem 53 = .ok (.iaload, 1) := by decide +kernel
theorem dX3_readItem_54 : decode cX3_readItem 54 = .ok (.if_icmp .lt 14, 3) := by decide +kernel
theorem dX3_readItem_57 : decode cX3_readItem 57 = .ok (.iload 6, 2) := by decide +kernel
theorem dX3_readItem_59 : decode cX3_readItem 59 = .ok (.getstatic 48, 3) := by decide +kernel
theorem dX3_readItem_62 : decode cX3_readItem 62 = .ok (.iload 4, 2) := by decide +kernel
theorem dX3_readItem_64 : decode cX3_readItem 64 = .ok (.iaload, 1) := by decide +kernel
theorem dX3_readItem_65 : decode cX3_readItem 65 = .ok (.if_icmp .le 5, 3) := by decide +kernel
theorem dX3_readItem_68 : decode cX3_readItem 68 = .ok (.iconst (-1), 1) := by decide +kernel
theorem dX3_readItem_69 : decode cX3_readItem 69 = .ok (.ireturn, 1) := by decide +kernel
theorem dX3_readItem_70 : decode cX3_readItem 70 = .ok (.iload_n 3, 1) := by decide +kernel
theorem dX3_readItem_71 : decode cX3_readItem 71 = .ok (.iload 5, 2) := by decide +kernel
theorem dX3_readItem_73 : decode cX3_readItem 73 = .ok (.iadd, 1) := by decide +kernel
theorem dX3_readItem_74 : decode cX3_readItem 74 = .ok (.istore_n 3, 1) := by decide +kernel
theorem dX3_readItem_75 : decode cX3_readItem 75 = .ok (.aload_n 0, 1) := by decide +kernel
theorem dX3_readItem_76 : decode cX3_readItem 76 = .ok (.iload_n 3, 1) := by decide +kernel
theorem dX3_readItem_77 : decode cX3_readItem 77 = .ok (.invokevirtual 34, 3) := by decide +kernel
theorem dX3_readItem_80 : decode cX3_readItem 80 = .ok (.iload 4, 2) := by decide +kernel
theorem dX3_readItem_82 : decode cX3_readItem 82 = .ok (.iconst 4, 1) := by decide +kernel
theorem dX3_readItem_83 : decode cX3_readItem 83 = .ok (.if_icmp .ne 8, 3) := by decide +kernel
theorem dX3_readItem_86 : decode cX3_readItem 86 = .ok (.bipush 59, 2) := by decide +kernel
theorem dX3_readItem_88 : decode cX3_readItem 88 = .ok (.goto 5, 3) := by decide +kernel
theorem dX3_readItem_91 : decode cX3_readItem 91 = .ok (.bipush 44, 2) := by decide +kernel
theorem dX3_readItem_93 : decode cX3_readItem 93 = .ok (.if_icmp .eq 5, 3) := by decide +kernel
theorem dX3_readItem_96 : decode cX3_readItem 96 = .ok (.iconst (-1), 1) := by decide +kernel
theorem dX3_readItem_97 : decode cX3_readItem 97 = .ok (.ireturn, 1) := by decide +kernel
theorem dX3_readItem_98 : decode cX3_readItem 98 = .ok (.iinc 3 1, 3) := by decide +kernel
theorem dX3_readItem_101 : decode cX3_readItem 101 = .ok (.aload_n 0, 1) := by decide +kernel
theorem dX3_readItem_102 : decode cX3_readItem 102 = .ok (.getfield 15, 3) := by decide +kernel
theorem dX3_readItem_105 : decode cX3_readItem 105 = .ok (.iload_n 2, 1) := by decide +kernel
theorem dX3_readItem_106 : decode cX3_readItem 106 = .ok (.iload 4, 2) := by decide +kernel
theorem dX3_readItem_108 : decode cX3_readItem 108 = .ok (.iadd, 1) := by decide +kernel
theorem dX3_readItem_109 : decode cX3_readItem 109 = .ok (.iload 6, 2) := by decide +kernel
theorem dX3_readItem_111 : decode cX3_readItem 111 = .ok (.iastore, 1) := by decide +kernel
theorem dX3_readItem_112 : decode cX3_readItem 112 = .ok (.iinc 4 1, 3) := by decide +kernel
theorem dX3_readItem_115 : decode cX3_readItem 115 = .ok (.goto (-96), 3) := by decide +kernel
theorem dX3_readItem_118 : decode cX3_readItem 118 = .ok (.iload_n 3, 1) := by decide +kernel
theorem dX3_readItem_119 : decode cX3_readItem 119 = .ok (.ireturn, 1) := by decide +kernel
theorem dX3_letterAt_0 : decode cX3_letterAt 0 = .ok (.iload_n 1, 1) := by decide +kernel
theorem dX3_letterAt_1 : decode cX3_letterAt 1 = .ok (.ifCond .lt 20, 3) := by decide +kernel
theorem dX3_letterAt_4 : decode cX3_letterAt 4 = .ok (.iload_n 1, 1) := by decide +kernel
theorem dX3_letterAt_5 : decode cX3_letterAt 5 = .ok (.aload_n 0, 1) := by decide +kernel
theorem dX3_letterAt_6 : decode cX3_letterAt 6 = .ok (.getfield 19, 3) := by decide +kernel
theorem dX3_letterAt_9 : decode cX3_letterAt 9 = .ok (.if_icmp .ge 12, 3) := by decide +kernel
theorem dX3_letterAt_12 : decode cX3_letterAt 12 = .ok (.aload_n 0, 1) := by decide +kernel
theorem dX3_letterAt_13 : decode cX3_letterAt 13 = .ok (.getfield 9, 3) := by decide +kernel
theorem dX3_letterAt_16 : decode cX3_letterAt 16 = .ok (.iload_n 1, 1) := by decide +kernel
theorem dX3_letterAt_17 : decode cX3_letterAt 17 = .ok (.caload, 1) := by decide +kernel
theorem dX3_letterAt_18 : decode cX3_letterAt 18 = .ok (.goto 4, 3) := by decide +kernel
theorem dX3_letterAt_21 : decode cX3_letterAt 21 = .ok (.iconst 0, 1) := by decide +kernel
theorem dX3_letterAt_22 : decode cX3_letterAt 22 = .ok (.ireturn, 1) := by decide +kernel
theorem dX3_isFigure_0 : decode cX3_isFigure 0 = .ok (.aload_n 0, 1) := by decide +kernel
theorem dX3_isFigure_1 : decode cX3_isFigure 1 = .ok (.iload_n 1, 1) := by decide +kernel
theorem dX3_isFigure_2 : decode cX3_isFigure 2 = .ok (.invokevirtual 34, 3) := by decide +kernel
theorem dX3_isFigure_5 : decode cX3_isFigure 5 = .ok (.istore_n 2, 1) := by decide +kernel
theorem dX3_isFigure_6 : decode cX3_isFigure 6 = .ok (.iload_n 2, 1) := by decide +kernel
theorem dX3_isFigure_7 : decode cX3_isFigure 7 = .ok (.bipush 48, 2) := by decide +kernel
theorem dX3_isFigure_9 : decode cX3_isFigure 9 = .ok (.if_icmp .lt 13, 3) := by decide +kernel
theorem dX3_isFigure_12 : decode cX3_isFigure 12 = .ok (.iload_n 2, 1) := by decide +kernel
theorem dX3_isFigure_13 : decode cX3_isFigure 13 = .ok (.bipush 57, 2) := by decide +kernel
theorem dX3_isFigure_15 : decode cX3_isFigure 15 = .ok (.if_icmp .gt 7, 3) := by decide +kernel
theorem dX3_isFigure_18 : decode cX3_isFigure 18 = .ok (.iconst 1, 1) := by decide +kernel
theorem dX3_isFigure_19 : decode cX3_isFigure 19 = .ok (.goto 4, 3) := by decide +kernel
theorem dX3_isFigure_22 : decode cX3_isFigure 22 = .ok (.iconst 0, 1) := by decide +kernel
theorem dX3_isFigure_23 : decode cX3_isFigure 23 = .ok (.ireturn, 1) := by decide +kernel
theorem dX3_figuresAt_0 : decode cX3_figuresAt 0 = .ok (.aload_n 0, 1) := by decide +kernel
theorem dX3_figuresAt_1 : decode cX3_figuresAt 1 = .ok (.iload_n 1, 1) := by decide +kernel
theorem dX3_figuresAt_2 : decode cX3_figuresAt 2 = .ok (.invokevirtual 51, 3) := by decide +kernel
theorem dX3_figuresAt_5 : decode cX3_figuresAt 5 = .ok (.ifCond .ne 5, 3) := by decide +kernel
theorem dX3_figuresAt_8 : decode cX3_figuresAt 8 = .ok (.iconst 0, 1) := by decide +kernel
theorem dX3_figuresAt_9 : decode cX3_figuresAt 9 = .ok (.ireturn, 1) := by decide +kernel
theorem dX3_figuresAt_10 : decode cX3_figuresAt 10 = .ok (.aload_n 0, 1) := by decide +kernel
theorem dX3_figuresAt_11 : decode cX3_figuresAt 11 = .ok (.iload_n 1, 1) := by decide +kernel
theorem dX3_figuresAt_12 : decode cX3_figuresAt 12 = .ok (.iconst 1, 1) := by decide +kernel
theorem dX3_figuresAt_13 : decode cX3_figuresAt 13 = .ok (.iadd, 1) := by decide +kernel
theorem dX3_figuresAt_14 : decode cX3_figuresAt 14 = .ok (.invokevirtual 51, 3) := by decide +kernel
theorem dX3_figuresAt_17 : decode cX3_figuresAt 17 = .ok (.ifCond .eq 7, 3) := by decide +kernel
theorem dX3_figuresAt_20 : decode cX3_figuresAt 20 = .ok (.iconst 2, 1) := by decide +kernel
theorem dX3_figuresAt_21 : decode cX3_figuresAt 21 = .ok (.goto 4, 3) := by decide +kernel
theorem dX3_figuresAt_24 : decode cX3_figuresAt 24 = .ok (.iconst 1, 1) := by decide +kernel
theorem dX3_figuresAt_25 : decode cX3_figuresAt 25 = .ok (.ireturn, 1) := by decide +kernel
theorem dX3_numberAt_0 : decode cX3_numberAt 0 = .ok (.iconst 0, 1) := by decide +kernel
theorem dX3_numberAt_1 : decode cX3_numberAt 1 = .ok (.istore_n 3, 1) := by decide +kernel
theorem dX3_numberAt_2 : decode cX3_numberAt 2 = .ok (.iconst 0, 1) := by decide +kernel
theorem dX3_numberAt_3 : decode cX3_numberAt 3 = .ok (.istore 4, 2) := by decide +kernel
theorem dX3_numberAt_5 : decode cX3_numberAt 5 = .ok (.iload 4, 2) := by decide +kernel
theorem dX3_numberAt_7 : decode cX3_numberAt 7 = .ok (.iload_n 2, 1) := by decide +kernel
theorem dX3_numberAt_8 : decode cX3_numberAt 8 = .ok (.if_icmp .ge 26, 3) := by decide +kernel
theorem dX3_numberAt_11 : decode cX3_numberAt 11 = .ok (.iload_n 3, 1) := by decide +kernel
theorem dX3_numberAt_12 : decode cX3_numberAt 12 = .ok (.bipush 10, 2) := by decide +kernel
theorem dX3_numberAt_14 : decode cX3_numberAt 14 = .ok (.imul, 1) := by decide +kernel
theorem dX3_numberAt_15 : decode cX3_numberAt 15 = .ok (.aload_n 0, 1) := by decide +kernel
theorem dX3_numberAt_16 : decode cX3_numberAt 16 = .ok (.iload_n 1, 1) := by decide +kernel
theorem dX3_numberAt_17 : decode cX3_numberAt 17 = .ok (.iload 4, 2) := by decide +kernel
theorem dX3_numberAt_19 : decode cX3_numberAt 19 = .ok (.iadd, 1) := by decide +kernel
theorem dX3_numberAt_20 : decode cX3_numberAt 20 = .ok (.invokevirtual 34, 3) := by decide +kernel
theorem dX3_numberAt_23 : decode cX3_numberAt 23 = .ok (.iadd, 1) := by decide +kernel
theorem dX3_numberAt_24 : decode cX3_numberAt 24 = .ok (.bipush 48, 2) := by decide +kernel
theorem dX3_numberAt_26 : decode cX3_numberAt 26 = .ok (.isub, 1) := by decide +kernel
theorem dX3_numberAt_27 : decode cX3_numberAt 27 = .ok (.istore_n 3, 1) := by decide +kernel
theorem dX3_numberAt_28 : decode cX3_numberAt 28 = .ok (.iinc 4 1, 3) := by decide +kernel
theorem dX3_numberAt_31 : decode cX3_numberAt 31 = .ok (.goto (-26), 3) := by decide +kernel
theorem dX3_numberAt_34 : decode cX3_numberAt 34 = .ok (.iload_n 3, 1) := by decide +kernel
theorem dX3_numberAt_35 : decode cX3_numberAt 35 = .ok (.ireturn, 1) := by decide +kernel
theorem dX3_hasTakenAddress_0 : decode cX3_hasTakenAddress 0 = .ok (.aload_n 0, 1) := by decide +kernel
theorem dX3_hasTakenAddress_1 : decode cX3_hasTakenAddress 1 = .ok (.getfield 15, 3) := by decide +kernel
theorem dX3_hasTakenAddress_4 : decode cX3_hasTakenAddress 4 = .ok (.iload_n 1, 1) := by decide +kernel
theorem dX3_hasTakenAddress_5 : decode cX3_hasTakenAddress 5 = .ok (.iconst 5, 1) := by decide +kernel
theorem dX3_hasTakenAddress_6 : decode cX3_hasTakenAddress 6 = .ok (.imul, 1) := by decide +kernel
theorem dX3_hasTakenAddress_7 : decode cX3_hasTakenAddress 7 = .ok (.iconst 1, 1) := by decide +kernel
theorem dX3_hasTakenAddress_8 : decode cX3_hasTakenAddress 8 = .ok (.iadd, 1) := by decide +kernel
theorem dX3_hasTakenAddress_9 : decode cX3_hasTakenAddress 9 = .ok (.iaload, 1) := by decide +kernel
theorem dX3_hasTakenAddress_10 : decode cX3_hasTakenAddress 10 = .ok (.istore_n 2, 1) := by decide +kernel
theorem dX3_hasTakenAddress_11 : decode cX3_hasTakenAddress 11 = .ok (.aload_n 0, 1) := by decide +kernel
theorem dX3_hasTakenAddress_12 : decode cX3_hasTakenAddress 12 = .ok (.getfield 15, 3) := by decide +kernel
theorem dX3_hasTakenAddress_15 : decode cX3_hasTakenAddress 15 = .ok (.iload_n 1, 1) := by decide +kernel
theorem dX3_hasTakenAddress_16 : decode cX3_hasTakenAddress 16 = .ok (.iconst 5, 1) := by decide +kernel
theorem dX3_hasTakenAddress_17 : decode cX3_hasTakenAddress 17 = .ok (.imul, 1) := by decide +kernel
theorem dX3_hasTakenAddress_18 : decode cX3_hasTakenAddress 18 = .ok (.iconst 2, 1) := by decide +kernel
theorem dX3_hasTakenAddress_19 : decode cX3_hasTakenAddress 19 = .ok (.iadd, 1) := by decide +kernel
theorem dX3_hasTakenAddress_20 : decode cX3_hasTakenAddress 20 = .ok (.iaload, 1) := by decide +kernel
theorem dX3_hasTakenAddress_21 : decode cX3_hasTakenAddress 21 = .ok (.istore_n 3, 1) := by decide +kernel
theorem dX3_hasTakenAddress_22 : decode cX3_hasTakenAddress 22 = .ok (.iconst 0, 1) := by decide +kernel
theorem dX3_hasTakenAddress_23 : decode cX3_hasTakenAddress 23 = .ok (.istore 4, 2) := by decide +kernel
theorem dX3_hasTakenAddress_25 : decode cX3_hasTakenAddress 25 = .ok (.iload 4, 2) := by decide +kernel
theorem dX3_hasTakenAddress_27 : decode cX3_hasTakenAddress 27 = .ok (.iload_n 1, 1) := by decide +kernel
theorem dX3_hasTakenAddress_28 : decode cX3_hasTakenAddress 28 = .ok (.if_icmp .ge 70, 3) := by decide +kernel
theorem dX3_hasTakenAddress_31 : decode cX3_hasTakenAddress 31 = .ok (.aload_n 0, 1) := by decide +kernel
theorem dX3_hasTakenAddress_32 : decode cX3_hasTakenAddress 32 = .ok (.getfield 15, 3) := by decide +kernel
theorem dX3_hasTakenAddress_35 : decode cX3_hasTakenAddress 35 = .ok (.iload 4, 2) := by decide +kernel
theorem dX3_hasTakenAddress_37 : decode cX3_hasTakenAddress 37 = .ok (.iconst 5, 1) := by decide +kernel
theorem dX3_hasTakenAddress_38 : decode cX3_hasTakenAddress 38 = .ok (.imul, 1) := by decide +kernel
theorem dX3_hasTakenAddress_39 : decode cX3_hasTakenAddress 39 = .ok (.iconst 2, 1) := by decide +kernel
theorem dX3_hasTakenAddress_40 : decode cX3_hasTakenAddress 40 = .ok (.iadd, 1) := by decide +kernel
theorem dX3_hasTakenAddress_41 : decode cX3_hasTakenAddress 41 = .ok (.iaload, 1) := by decide +kernel
theorem dX3_hasTakenAddress_42 : decode cX3_hasTakenAddress 42 = .ok (.istore 5, 2) := by decide +kernel
theorem dX3_hasTakenAddress_44 : decode cX3_hasTakenAddress 44 = .ok (.iload_n 3, 1) := by decide +kernel
theorem dX3_hasTakenAddress_45 : decode cX3_hasTakenAddress 45 = .ok (.iload 5, 2) := by decide +kernel
theorem dX3_hasTakenAddress_47 : decode cX3_hasTakenAddress 47 = .ok (.if_icmp .eq 20, 3) := by decide +kernel
theorem dX3_hasTakenAddress_50 : decode cX3_hasTakenAddress 50 = .ok (.iload_n 3, 1) := by decide +kernel
theorem dX3_hasTakenAddress_51 : decode cX3_hasTakenAddress 51 = .ok (.bipush 31, 2) := by decide +kernel
theorem dX3_hasTakenAddress_53 : decode cX3_hasTakenAddress 53 = .ok (.if_icmp .eq 14, 3) := by decide +kernel
theorem dX3_hasTakenAddress_56 : decode cX3_hasTakenAddress 56 = .ok (.iload 5, 2) := by decide +kernel
theorem dX3_hasTakenAddress_58 : decode cX3_hasTakenAddress 58 = .ok (.bipush 31, 2) := by decide +kernel
theorem dX3_hasTakenAddress_60 : decode cX3_hasTakenAddress 60 = .ok (.if_icmp .eq 7, 3) := by decide +kernel
theorem dX3_hasTakenAddress_63 : decode cX3_hasTakenAddress 63 = .ok (.iconst 1, 1) := by decide +kernel
theorem dX3_hasTakenAddress_64 : decode cX3_hasTakenAddress 64 = .ok (.goto 4, 3) := by decide +kernel
theorem dX3_hasTakenAddress_67 : decode cX3_hasTakenAddress 67 = .ok (.iconst 0, 1) := by decide +kernel
theorem dX3_hasTakenAddress_68 : decode cX3_hasTakenAddress 68 = .ok (.istore 6, 2) := by decide +kernel
theorem dX3_hasTakenAddress_70 : decode cX3_hasTakenAddress 70 = .ok (.aload_n 0, 1) := by decide +kernel
theorem dX3_hasTakenAddress_71 : decode cX3_hasTakenAddress 71 = .ok (.getfield 15, 3) := by decide +kernel
theorem dX3_hasTakenAddress_74 : decode cX3_hasTakenAddress 74 = .ok (.iload 4, 2) := by decide +kernel
theorem dX3_hasTakenAddress_76 : decode cX3_hasTakenAddress 76 = .ok (.iconst 5, 1) := by decide +kernel
theorem dX3_hasTakenAddress_77 : decode cX3_hasTakenAddress 77 = .ok (.imul, 1) := by decide +kernel
theorem dX3_hasTakenAddress_78 : decode cX3_hasTakenAddress 78 = .ok (.iconst 1, 1) := by decide +kernel
theorem dX3_hasTakenAddress_79 : decode cX3_hasTakenAddress 79 = .ok (.iadd, 1) := by decide +kernel
theorem dX3_hasTakenAddress_80 : decode cX3_hasTakenAddress 80 = .ok (.iaload, 1) := by decide +kernel
theorem dX3_hasTakenAddress_81 : decode cX3_hasTakenAddress 81 = .ok (.iload_n 2, 1) := by decide +kernel
theorem dX3_hasTakenAddress_82 : decode cX3_hasTakenAddress 82 = .ok (.if_icmp .ne 10, 3) := by decide +kernel
theorem dX3_hasTakenAddress_85 : decode cX3_hasTakenAddress 85 = .ok (.iload 6, 2) := by decide +kernel
theorem dX3_hasTakenAddress_87 : decode cX3_hasTakenAddress 87 = .ok (.ifCond .ne 5, 3) := by decide +kernel
theorem dX3_hasTakenAddress_90 : decode cX3_hasTakenAddress 90 = .ok (.iconst 1, 1) := by decide +kernel
theorem dX3_hasTakenAddress_91 : decode cX3_hasTakenAddress 91 = .ok (.ireturn, 1) := by decide +kernel
theorem dX3_hasTakenAddress_92 : decode cX3_hasTakenAddress 92 = .ok (.iinc 4 1, 3) := by decide +kernel
theorem dX3_hasTakenAddress_95 : decode cX3_hasTakenAddress 95 = .ok (.goto (-70), 3) := by decide +kernel
theorem dX3_hasTakenAddress_98 : decode cX3_hasTakenAddress 98 = .ok (.iconst 0, 1) := by decide +kernel
theorem dX3_hasTakenAddress_99 : decode cX3_hasTakenAddress 99 = .ok (.ireturn, 1) := by decide +kernel
theorem dX4_init_0 : decode cX4_init 0 = .ok (.aload_n 0, 1) := by decide +kernel
theorem dX4_init_1 : decode cX4_init 1 = .ok (.invokespecial 1, 3) := by decide +kernel
theorem dX4_init_4 : decode cX4_init 4 = .ok (.aload_n 0, 1) := by decide +kernel
theorem dX4_init_5 : decode cX4_init 5 = .ok (.new 7, 3) := by decide +kernel
theorem dX4_init_8 : decode cX4_init 8 = .ok (.dup, 1) := by decide +kernel
theorem dX4_init_9 : decode cX4_init 9 = .ok (.invokespecial 9, 3) := by decide +kernel
theorem dX4_init_12 : decode cX4_init 12 = .ok (.putfield 10, 3) := by decide +kernel
theorem dX4_init_15 : decode cX4_init 15 = .ok (.aload_n 0, 1) := by decide +kernel
theorem dX4_init_16 : decode cX4_init 16 = .ok (.bipush 6, 2) := by decide +kernel
theorem dX4_init_18 : decode cX4_init 18 = .ok (.anewarray 16, 3) := by decide +kernel
theorem dX4_init_21 : decode cX4_init 21 = .ok (.putfield 18, 3) := by decide +kernel
theorem dX4_init_24 : decode cX4_init 24 = .ok (.iconst 0, 1) := by decide +kernel
theorem dX4_init_25 : decode cX4_init 25 = .ok (.istore_n 1, 1) := by decide +kernel
theorem dX4_init_26 : decode cX4_init 26 = .ok (.iload_n 1, 1) := by decide +kernel
theorem dX4_init_27 : decode cX4_init 27 = .ok (.bipush 6, 2) := by decide +kernel
theorem dX4_init_29 : decode cX4_init 29 = .ok (.if_icmp .ge 22, 3) := by decide +kernel
theorem dX4_init_32 : decode cX4_init 32 = .ok (.aload_n 0, 1) := by decide +kernel
theorem dX4_init_33 : decode cX4_init 33 = .ok (.getfield 18, 3) := by decide +kernel
theorem dX4_init_36 : decode cX4_init 36 = .ok (.iload_n 1, 1) := by decide +kernel
theorem dX4_init_37 : decode cX4_init 37 = .ok (.new 16, 3) := by decide +kernel
theorem dX4_init_40 : decode cX4_init 40 = .ok (.dup, 1) := by decide +kernel
theorem dX4_init_41 : decode cX4_init 41 = .ok (.invokespecial 22, 3) := by decide +kernel
theorem dX4_init_44 : decode cX4_init 44 = .ok (.aastore, 1) := by decide +kernel
theorem dX4_init_45 : decode cX4_init 45 = .ok (.iinc 1 1, 3) := by decide +kernel
theorem dX4_init_48 : decode cX4_init 48 = .ok (.goto (-22), 3) := by decide +kernel
theorem dX4_init_51 : decode cX4_init 51 = .ok (.aload_n 0, 1) := by decide +kernel
theorem dX4_init_52 : decode cX4_init 52 = .ok (.new 23, 3) := by decide +kernel
theorem dX4_init_55 : decode cX4_init 55 = .ok (.dup, 1) := by decide +kernel
theorem dX4_init_56 : decode cX4_init 56 = .ok (.invokespecial 25, 3) := by decide +kernel
theorem dX4_init_59 : decode cX4_init 59 = .ok (.putfield 26, 3) := by decide +kernel
theorem dX4_init_62 : decode cX4_init 62 = .ok (.aload_n 0, 1) := by decide +kernel
theorem dX4_init_63 : decode cX4_init 63 = .ok (.bipush 8, 2) := by decide +kernel
theorem dX4_init_65 : decode cX4_init 65 = .ok (.newarray .int, 2) := by decide +kernel
theorem dX4_init_67 : decode cX4_init 67 = .ok (.putfield 30, 3) := by decide +kernel
theorem dX4_init_70 : decode cX4_init 70 = .ok (.aload_n 0, 1) := by decide +kernel
theorem dX4_init_71 : decode cX4_init 71 = .ok (.getstatic 34, 3) := by decide +kernel
theorem dX4_init_74 : decode cX4_init 74 = .ok (.bipush 6, 2) := by decide +kernel
theorem dX4_init_76 : decode cX4_init 76 = .ok (.invokevirtual 37, 3) := by decide +kernel
theorem dX4_init_79 : decode cX4_init 79 = .ok (.return_, 1) := by decide +kernel
theorem dX4_write_0 : decode cX4_write 0 = .ok (.iload_n 1, 1) := by decide +kernel
theorem dX4_write_1 : decode cX4_write 1 = .ok (.bipush 32, 2) := by decide +kernel
theorem dX4_write_3 : decode cX4_write 3 = .ok (.if_icmp .lt 9, 3) := by decide +kernel
theorem dX4_write_6 : decode cX4_write 6 = .ok (.iload_n 1, 1) := by decide +kernel
theorem dX4_write_7 : decode cX4_write 7 = .ok (.bipush 126, 2) := by decide +kernel
theorem dX4_write_9 : decode cX4_write 9 = .ok (.if_icmp .le 5, 3) := by decide +kernel
theorem dX4_write_12 : decode cX4_write 12 = .ok (.iconst (-1), 1) := by decide +kernel
theorem dX4_write_13 : decode cX4_write 13 = .ok (.ireturn, 1) := by decide +kernel
theorem dX4_write_14 : decode cX4_write 14 = .ok (.aload_n 0, 1) := by decide +kernel
theorem dX4_write_15 : decode cX4_write 15 = .ok (.getfield 10, 3) := by decide +kernel
theorem dX4_write_18 : decode cX4_write 18 = .ok (.iload_n 1, 1) := by decide +kernel
theorem dX4_write_19 : decode cX4_write 19 = .ok (.invokevirtual 41, 3) := by decide +kernel
theorem dX4_write_22 : decode cX4_write 22 = .ok (.ireturn, 1) := by decide +kernel
theorem dX4_wipe_0 : decode cX4_wipe 0 = .ok (.aload_n 0, 1) := by decide +kernel
theorem dX4_wipe_1 : decode cX4_wipe 1 = .ok (.getfield 10, 3) := by decide +kernel
theorem dX4_wipe_4 : decode cX4_wipe 4 = .ok (.invokevirtual 45, 3) := by decide +kernel
theorem dX4_wipe_7 : decode cX4_wipe 7 = .ok (.ireturn, 1) := by decide +kernel
theorem dX4_fault_0 : decode cX4_fault 0 = .ok (.aload_n 0, 1) := by decide +kernel
theorem dX4_fault_1 : decode cX4_fault 1 = .ok (.getfield 10, 3) := by decide +kernel
theorem dX4_fault_4 : decode cX4_fault 4 = .ok (.invokevirtual 49, 3) := by decide +kernel
theorem dX4_fault_7 : decode cX4_fault 7 = .ok (.ireturn, 1) := by decide +kernel
theorem dX4_lay_0 : decode cX4_lay 0 = .ok (.aload_n 0, 1) := by decide +kernel
theorem dX4_lay_1 : decode cX4_lay 1 = .ok (.getfield 10, 3) := by decide +kernel
theorem dX4_lay_4 : decode cX4_lay 4 = .ok (.invokevirtual 49, 3) := by decide +kernel
theorem dX4_lay_7 : decode cX4_lay 7 = .ok (.bipush (-4), 2) := by decide +kernel
theorem dX4_lay_9 : decode cX4_lay 9 = .ok (.if_icmp .ne 13, 3) := by decide +kernel
theorem dX4_lay_12 : decode cX4_lay 12 = .ok (.aload_n 0, 1) := by decide +kernel
theorem dX4_lay_13 : decode cX4_lay 13 = .ok (.getfield 10, 3) := by decide +kernel
theorem dX4_lay_16 : decode cX4_lay 16 = .ok (.invokevirtual 52, 3) := by decide +kernel
theorem dX4_lay_19 : decode cX4_lay 19 = .ok (.ifCond .ne 6, 3) := by decide +kernel
theorem dX4_lay_22 : decode cX4_lay 22 = .ok (.bipush (-2), 2) := by decide +kernel
theorem dX4_lay_24 : decode cX4_lay 24 = .ok (.ireturn, 1) := by decide +kernel
theorem dX4_lay_25 : decode cX4_lay 25 = .ok (.aload_n 0, 1) := by decide +kernel
theorem dX4_lay_26 : decode cX4_lay 26 = .ok (.aload_n 0, 1) := by decide +kernel
theorem dX4_lay_27 : decode cX4_lay 27 = .ok (.getfield 10, 3) := by decide +kernel
theorem dX4_lay_30 : decode cX4_lay 30 = .ok (.getfield 56, 3) := by decide +kernel
theorem dX4_lay_33 : decode cX4_lay 33 = .ok (.aload_n 0, 1) := by decide +kernel
theorem dX4_lay_34 : decode cX4_lay 34 = .ok (.getfield 10, 3) := by decide +kernel
theorem dX4_lay_37 : decode cX4_lay 37 = .ok (.getfield 59, 3) := by decide +kernel
theorem dX4_lay_40 : decode cX4_lay 40 = .ok (.invokevirtual 37, 3) := by decide +kernel
theorem dX4_lay_43 : decode cX4_lay 43 = .ok (.aload_n 0, 1) := by decide +kernel
theorem dX4_lay_44 : decode cX4_lay 44 = .ok (.getfield 63, 3) := by decide +kernel
theorem dX4_lay_47 : decode cX4_lay 47 = .ok (.ireturn, 1) := by decide +kernel
theorem dX4_command_0 : decode cX4_command 0 = .ok (.iload_n 1, 1) := by decide +kernel
theorem dX4_command_1 : decode cX4_command 1 = .ok (.ifCond .lt 9, 3) := by decide +kernel
theorem dX4_command_4 : decode cX4_command 4 = .ok (.iload_n 1, 1) := by decide +kernel
theorem dX4_command_5 : decode cX4_command 5 = .ok (.bipush 127, 2) := by decide +kernel
theorem dX4_command_7 : decode cX4_command 7 = .ok (.if_icmp .le 5, 3) := by decide +kernel
theorem dX4_command_10 : decode cX4_command 10 = .ok (.iconst (-1), 1) := by decide +kernel
theorem dX4_command_11 : decode cX4_command 11 = .ok (.ireturn, 1) := by decide +kernel
theorem dX4_command_12 : decode cX4_command 12 = .ok (.aload_n 0, 1) := by decide +kernel
theorem dX4_command_13 : decode cX4_command 13 = .ok (.iload_n 1, 1) := by decide +kernel
theorem dX4_command_14 : decode cX4_command 14 = .ok (.invokevirtual 66, 3) := by decide +kernel
theorem dX4_command_17 : decode cX4_command 17 = .ok (.aload_n 0, 1) := by decide +kernel
theorem dX4_command_18 : decode cX4_command 18 = .ok (.getfield 70, 3) := by decide +kernel
theorem dX4_command_21 : decode cX4_command 21 = .ok (.ireturn, 1) := by decide +kernel
theorem dX4_give_0 : decode cX4_give 0 = .ok (.aload_n 0, 1) := by decide +kernel
theorem dX4_give_1 : decode cX4_give 1 = .ok (.invokevirtual 73, 3) := by decide +kernel
theorem dX4_give_4 : decode cX4_give 4 = .ok (.ireturn, 1) := by decide +kernel
theorem dX4_tick_0 : decode cX4_tick 0 = .ok (.iload_n 1, 1) := by decide +kernel
theorem dX4_tick_1 : decode cX4_tick 1 = .ok (.iconst 1, 1) := by decide +kernel
theorem dX4_tick_2 : decode cX4_tick 2 = .ok (.if_icmp .lt 10, 3) := by decide +kernel
theorem dX4_tick_5 : decode cX4_tick 5 = .ok (.iload_n 1, 1) := by decide +kernel
theorem dX4_tick_6 : decode cX4_tick 6 = .ok (.sipush 500, 3) := by decide +kernel
theorem dX4_tick_9 : decode cX4_tick 9 = .ok (.if_icmp .le 5, 3) := by decide +kernel
theorem dX4_tick_12 : decode cX4_tick 12 = .ok (.iconst (-1), 1) := by decide +kernel
theorem dX4_tick_13 : decode cX4_tick 13 = .ok (.ireturn, 1) := by decide +kernel
theorem dX4_tick_14 : decode cX4_tick 14 = .ok (.aload_n 0, 1) := by decide +kernel
theorem dX4_tick_15 : decode cX4_tick 15 = .ok (.iload_n 1, 1) := by decide +kernel
theorem dX4_tick_16 : decode cX4_tick 16 = .ok (.invokevirtual 76, 3) := by decide +kernel
theorem dX4_tick_19 : decode cX4_tick 19 = .ok (.aload_n 0, 1) := by decide +kernel
theorem dX4_tick_20 : decode cX4_tick 20 = .ok (.getfield 70, 3) := by decide +kernel
theorem dX4_tick_23 : decode cX4_tick 23 = .ok (.ireturn, 1) := by decide +kernel
theorem dX4_poll_0 : decode cX4_poll 0 = .ok (.aload_n 0, 1) := by decide +kernel
theorem dX4_poll_1 : decode cX4_poll 1 = .ok (.getfield 30, 3) := by decide +kernel
theorem dX4_poll_4 : decode cX4_poll 4 = .ok (.iconst 4, 1) := by decide +kernel
theorem dX4_poll_5 : decode cX4_poll 5 = .ok (.dup2, 1) := by decide +kernel
theorem dX4_poll_6 : decode cX4_poll 6 = .ok (.iaload, 1) := by decide +kernel
theorem dX4_poll_7 : decode cX4_poll 7 = .ok (.iconst 1, 1) := by decide +kernel
theorem dX4_poll_8 : decode cX4_poll 8 = .ok (.iadd, 1) := by decide +kernel
theorem dX4_poll_9 : decode cX4_poll 9 = .ok (.iastore, 1) := by decide +kernel
theorem dX4_poll_10 : decode cX4_poll 10 = .ok (.aload_n 0, 1) := by decide +kernel
theorem dX4_poll_11 : decode cX4_poll 11 = .ok (.bipush 63, 2) := by decide +kernel
theorem dX4_poll_13 : decode cX4_poll 13 = .ok (.invokevirtual 66, 3) := by decide +kernel
theorem dX4_poll_16 : decode cX4_poll 16 = .ok (.aload_n 0, 1) := by decide +kernel
theorem dX4_poll_17 : decode cX4_poll 17 = .ok (.bipush 32, 2) := by decide +kernel
theorem dX4_poll_19 : decode cX4_poll 19 = .ok (.aload_n 0, 1) := by decide +kernel
theorem dX4_poll_20 : decode cX4_poll 20 = .ok (.getfield 79, 3) := by decide +kernel
theorem dX4_poll_23 : decode cX4_poll 23 = .ok (.invokevirtual 82, 3) := by decide +kernel
theorem dX4_poll_26 : decode cX4_poll 26 = .ok (.aload_n 0, 1) := by decide +kernel
theorem dX4_poll_27 : decode cX4_poll 27 = .ok (.bipush 24, 2) := by decide +kernel
theorem dX4_poll_29 : decode cX4_poll 29 = .ok (.invokevirtual 66, 3) := by decide +kernel
theorem dX4_poll_32 : decode cX4_poll 32 = .ok (.bipush (-4), 2) := by decide +kernel
theorem dX4_poll_34 : decode cX4_poll 34 = .ok (.istore_n 1, 1) := by decide +kernel
theorem dX4_poll_35 : decode cX4_poll 35 = .ok (.iconst 0, 1) := by decide +kernel
theorem dX4_poll_36 : decode cX4_poll 36 = .ok (.istore_n 2, 1) := by decide +kernel
theorem dX4_poll_37 : decode cX4_poll 37 = .ok (.iload_n 2, 1) := by decide +kernel
theorem dX4_poll_38 : decode cX4_poll 38 = .ok (.aload_n 0, 1) := by decide +kernel
theorem dX4_poll_39 : decode cX4_poll 39 = .ok (.getfield 63, 3) := by decide +kernel
theorem dX4_poll_42 : decode cX4_poll 42 = .ok (.if_icmp .ge 41, 3) := by decide +kernel
theorem dX4_poll_45 : decode cX4_poll 45 = .ok (.iload_n 1, 1) := by decide +kernel
theorem dX4_poll_46 : decode cX4_poll 46 = .ok (.bipush (-4), 2) := by decide +kernel
theorem dX4_poll_48 : decode cX4_poll 48 = .ok (.if_icmp .ne 35, 3) := by decide +kernel
theorem dX4_poll_51 : decode cX4_poll 51 = .ok (.iload_n 2, 1) := by decide +kernel
theorem dX4_poll_52 : decode cX4_poll 52 = .ok (.aload_n 0, 1) := by decide +kernel
theorem dX4_poll_53 : decode cX4_poll 53 = .ok (.getfield 79, 3) := by decide +kernel
theorem dX4_poll_56 : decode cX4_poll 56 = .ok (.if_icmp .eq 21, 3) := by decide +kernel
theorem dX4_poll_59 : decode cX4_poll 59 = .ok (.aload_n 0, 1) := by decide +kernel
theorem dX4_poll_60 : decode cX4_poll 60 = .ok (.bipush 64, 2) := by decide +kernel
theorem dX4_poll_62 : decode cX4_poll 62 = .ok (.iload_n 2, 1) := by decide +kernel
theorem dX4_poll_63 : decode cX4_poll 63 = .ok (.invokevirtual 82, 3) := by decide +kernel
theorem dX4_poll_66 : decode cX4_poll 66 = .ok (.aload_n 0, 1) := by decide +kernel
theorem dX4_poll_67 : decode cX4_poll 67 = .ok (.invokevirtual 73, 3) := by decide +kernel
theorem dX4_poll_70 : decode cX4_poll 70 = .ok (.bipush 64, 2) := by decide +kernel
theorem dX4_poll_72 : decode cX4_poll 72 = .ok (.if_icmp .lt 5, 3) := by decide +kernel
theorem dX4_poll_75 : decode cX4_poll 75 = .ok (.iload_n 2, 1) := by decide +kernel
theorem dX4_poll_76 : decode cX4_poll 76 = .ok (.istore_n 1, 1) := by decide +kernel
theorem dX4_poll_77 : decode cX4_poll 77 = .ok (.iinc 2 1, 3) := by decide +kernel
theorem dX4_poll_80 : decode cX4_poll 80 = .ok (.goto (-43), 3) := by decide +kernel
theorem dX4_poll_83 : decode cX4_poll 83 = .ok (.aload_n 0, 1) := by decide +kernel
theorem dX4_poll_84 : decode cX4_poll 84 = .ok (.bipush 25, 2) := by decide +kernel
theorem dX4_poll_86 : decode cX4_poll 86 = .ok (.invokevirtual 66, 3) := by decide +kernel
theorem dX4_poll_89 : decode cX4_poll 89 = .ok (.aload_n 0, 1) := by decide +kernel
theorem dX4_poll_90 : decode cX4_poll 90 = .ok (.bipush 95, 2) := by decide +kernel
theorem dX4_poll_92 : decode cX4_poll 92 = .ok (.invokevirtual 66, 3) := by decide +kernel
theorem dX4_poll_95 : decode cX4_poll 95 = .ok (.iload_n 1, 1) := by decide +kernel
theorem dX4_poll_96 : decode cX4_poll 96 = .ok (.bipush (-4), 2) := by decide +kernel
theorem dX4_poll_98 : decode cX4_poll 98 = .ok (.if_icmp .eq 13, 3) := by decide +kernel
theorem dX4_poll_101 : decode cX4_poll 101 = .ok (.aload_n 0, 1) := by decide +kernel
theorem dX4_poll_102 : decode cX4_poll 102 = .ok (.getfield 30, 3) := by decide +kernel
theorem dX4_poll_105 : decode cX4_poll 105 = .ok (.iconst 5, 1) := by decide +kernel
theorem dX4_poll_106 : decode cX4_poll 106 = .ok (.dup2, 1) := by decide +kernel
theorem dX4_poll_107 : decode cX4_poll 107 = .ok (.iaload, 1) := by decide +kernel
theorem dX4_poll_108 : decode cX4_poll 108 = .ok (.iconst 1, 1) := by decide +kernel
theorem dX4_poll_109 : decode cX4_poll 109 = .ok (.iadd, 1) := by decide +kernel
theorem dX4_poll_110 : decode cX4_poll 110 = .ok (.iastore, 1) := by decide +kernel
theorem dX4_poll_111 : decode cX4_poll 111 = .ok (.iload_n 1, 1) := by decide +kernel
theorem dX4_poll_112 : decode cX4_poll 112 = .ok (.ireturn, 1) := by decide +kernel
theorem dX4_parallel_0 : decode cX4_parallel 0 = .ok (.aload_n 0, 1) := by decide +kernel
theorem dX4_parallel_1 : decode cX4_parallel 1 = .ok (.iconst 1, 1) := by decide +kernel
theorem dX4_parallel_2 : decode cX4_parallel 2 = .ok (.invokevirtual 76, 3) := by decide +kernel
theorem dX4_parallel_5 : decode cX4_parallel 5 = .ok (.iconst 0, 1) := by decide +kernel
theorem dX4_parallel_6 : decode cX4_parallel 6 = .ok (.istore_n 1, 1) := by decide +kernel
theorem dX4_parallel_7 : decode cX4_parallel 7 = .ok (.iconst 0, 1) := by decide +kernel
theorem dX4_parallel_8 : decode cX4_parallel 8 = .ok (.istore_n 2, 1) := by decide +kernel
theorem dX4_parallel_9 : decode cX4_parallel 9 = .ok (.iload_n 2, 1) := by decide +kernel
theorem dX4_parallel_10 : decode cX4_parallel 10 = .ok (.aload_n 0, 1) := by decide +kernel
theorem dX4_parallel_11 : decode cX4_parallel 11 = .ok (.getfield 63, 3) := by decide +kernel
theorem dX4_parallel_14 : decode cX4_parallel 14 = .ok (.if_icmp .ge 21, 3) := by decide +kernel
theorem dX4_parallel_17 : decode cX4_parallel 17 = .ok (.iload_n 1, 1) := by decide +kernel
theorem dX4_parallel_18 : decode cX4_parallel 18 = .ok (.aload_n 0, 1) := by decide +kernel
theorem dX4_parallel_19 : decode cX4_parallel 19 = .ok (.getfield 18, 3) := by decide +kernel
theorem dX4_parallel_22 : decode cX4_parallel 22 = .ok (.iload_n 2, 1) := by decide +kernel
theorem dX4_parallel_23 : decode cX4_parallel 23 = .ok (.aaload, 1) := by decide +kernel
theorem dX4_parallel_24 : decode cX4_parallel 24 = .ok (.invokevirtual 86, 3) := by decide +kernel
theorem dX4_parallel_27 : decode cX4_parallel 27 = .ok (.ior, 1) := by decide +kernel
theorem dX4_parallel_28 : decode cX4_parallel 28 = .ok (.istore_n 1, 1) := by decide +kernel
theorem dX4_parallel_29 : decode cX4_parallel 29 = .ok (.iinc 2 1, 3) := by decide +kernel
theorem dX4_parallel_32 : decode cX4_parallel 32 = .ok (.goto (-23), 3) := by decide +kernel
theorem dX4_parallel_35 : decode cX4_parallel 35 = .ok (.iload_n 1, 1) := by decide +kernel
theorem dX4_parallel_36 : decode cX4_parallel 36 = .ok (.ireturn, 1) := by decide +kernel
theorem dX4_takeBack_0 : decode cX4_takeBack 0 = .ok (.aload_n 0, 1) := by decide +kernel
theorem dX4_takeBack_1 : decode cX4_takeBack 1 = .ok (.getfield 79, 3) := by decide +kernel
theorem dX4_takeBack_4 : decode cX4_takeBack 4 = .ok (.istore_n 1, 1) := by decide +kernel
theorem dX4_takeBack_5 : decode cX4_takeBack 5 = .ok (.aload_n 0, 1) := by decide +kernel
theorem dX4_takeBack_6 : decode cX4_takeBack 6 = .ok (.bipush (-4), 2) := by decide +kernel
theorem dX4_takeBack_8 : decode cX4_takeBack 8 = .ok (.putfield 89, 3) := by decide +kernel
theorem dX4_takeBack_11 : decode cX4_takeBack 11 = .ok (.aload_n 0, 1) := by decide +kernel
theorem dX4_takeBack_12 : decode cX4_takeBack 12 = .ok (.invokevirtual 92, 3) := by decide +kernel
theorem dX4_takeBack_15 : decode cX4_takeBack 15 = .ok (.aload_n 0, 1) := by decide +kernel
theorem dX4_takeBack_16 : decode cX4_takeBack 16 = .ok (.invokevirtual 95, 3) := by decide +kernel
theorem dX4_takeBack_19 : decode cX4_takeBack 19 = .ok (.aload_n 0, 1) := by decide +kernel
theorem dX4_takeBack_20 : decode cX4_takeBack 20 = .ok (.iconst 0, 1) := by decide +kernel
theorem dX4_takeBack_21 : decode cX4_takeBack 21 = .ok (.putfield 98, 3) := by decide +kernel
theorem dX4_takeBack_24 : decode cX4_takeBack 24 = .ok (.aload_n 0, 1) := by decide +kernel
theorem dX4_takeBack_25 : decode cX4_takeBack 25 = .ok (.iconst 0, 1) := by decide +kernel
theorem dX4_takeBack_26 : decode cX4_takeBack 26 = .ok (.putfield 79, 3) := by decide +kernel
theorem dX4_takeBack_29 : decode cX4_takeBack 29 = .ok (.iload_n 1, 1) := by decide +kernel
theorem dX4_takeBack_30 : decode cX4_takeBack 30 = .ok (.ireturn, 1) := by decide +kernel
theorem dX4_put_0 : decode cX4_put 0 = .ok (.aload_n 0, 1) := by decide +kernel
theorem dX4_put_1 : decode cX4_put 1 = .ok (.iload_n 1, 1) := by decide +kernel
theorem dX4_put_2 : decode cX4_put 2 = .ok (.invokevirtual 102, 3) := by decide +kernel
theorem dX4_put_5 : decode cX4_put 5 = .ok (.ifCond .eq 14, 3) := by decide +kernel
theorem dX4_put_8 : decode cX4_put 8 = .ok (.iload_n 2, 1) := by decide +kernel
theorem dX4_put_9 : decode cX4_put 9 = .ok (.ifCond .lt 10, 3) := by decide +kernel
theorem dX4_put_12 : decode cX4_put 12 = .ok (.iload_n 2, 1) := by decide +kernel
theorem dX4_put_13 : decode cX4_put 13 = .ok (.sipush 255, 3) := by decide +kernel
theorem dX4_put_16 : decode cX4_put 16 = .ok (.if_icmp .le 5, 3) := by decide +kernel
theorem dX4_put_19 : decode cX4_put 19 = .ok (.iconst (-1), 1) := by decide +kernel
theorem dX4_put_20 : decode cX4_put 20 = .ok (.ireturn, 1) := by decide +kernel
theorem dX4_put_21 : decode cX4_put 21 = .ok (.aload_n 0, 1) := by decide +kernel
theorem dX4_put_22 : decode cX4_put 22 = .ok (.getfield 18, 3) := by decide +kernel
theorem dX4_put_25 : decode cX4_put 25 = .ok (.iload_n 1, 1) := by decide +kernel
theorem dX4_put_26 : decode cX4_put 26 = .ok (.aaload, 1) := by decide +kernel
theorem dX4_put_27 : decode cX4_put 27 = .ok (.getfield 106, 3) := by decide +kernel
theorem dX4_put_30 : decode cX4_put 30 = .ok (.iload_n 2, 1) := by decide +kernel
theorem dX4_put_31 : decode cX4_put 31 = .ok (.invokevirtual 110, 3) := by decide +kernel
theorem dX4_put_34 : decode cX4_put 34 = .ok (.ireturn, 1) := by decide +kernel
theorem dX4_take_0 : decode cX4_take 0 = .ok (.aload_n 0, 1) := by decide +kernel
theorem dX4_take_1 : decode cX4_take 1 = .ok (.iload_n 1, 1) := by decide +kernel
theorem dX4_take_2 : decode cX4_take 2 = .ok (.invokevirtual 102, 3) := by decide +kernel
theorem dX4_take_5 : decode cX4_take 5 = .ok (.ifCond .ne 5, 3) := by decide +kernel
theorem dX4_take_8 : decode cX4_take 8 = .ok (.iconst (-1), 1) := by decide +kernel
theorem dX4_take_9 : decode cX4_take 9 = .ok (.ireturn, 1) := by decide +kernel
theorem dX4_take_10 : decode cX4_take 10 = .ok (.aload_n 0, 1) := by decide +kernel
theorem dX4_take_11 : decode cX4_take 11 = .ok (.getfield 18, 3) := by decide +kernel
theorem dX4_take_14 : decode cX4_take 14 = .ok (.iload_n 1, 1) := by decide +kernel
theorem dX4_take_15 : decode cX4_take 15 = .ok (.aaload, 1) := by decide +kernel
theorem dX4_take_16 : decode cX4_take 16 = .ok (.getfield 113, 3) := by decide +kernel
theorem dX4_take_19 : decode cX4_take 19 = .ok (.invokevirtual 116, 3) := by decide +kernel
theorem dX4_take_22 : decode cX4_take 22 = .ok (.ireturn, 1) := by decide +kernel
theorem dX4_ask_0 : decode cX4_ask 0 = .ok (.aload_n 0, 1) := by decide +kernel
theorem dX4_ask_1 : decode cX4_ask 1 = .ok (.iload_n 1, 1) := by decide +kernel
theorem dX4_ask_2 : decode cX4_ask 2 = .ok (.invokevirtual 102, 3) := by decide +kernel
theorem dX4_ask_5 : decode cX4_ask 5 = .ok (.ifCond .eq 22, 3) := by decide +kernel
theorem dX4_ask_8 : decode cX4_ask 8 = .ok (.iload_n 2, 1) := by decide +kernel
theorem dX4_ask_9 : decode cX4_ask 9 = .ok (.ifCond .lt 18, 3) := by decide +kernel
theorem dX4_ask_12 : decode cX4_ask 12 = .ok (.iload_n 2, 1) := by decide +kernel
theorem dX4_ask_13 : decode cX4_ask 13 = .ok (.bipush 63, 2) := by decide +kernel
theorem dX4_ask_15 : decode cX4_ask 15 = .ok (.if_icmp .gt 12, 3) := by decide +kernel
theorem dX4_ask_18 : decode cX4_ask 18 = .ok (.iload_n 3, 1) := by decide +kernel
theorem dX4_ask_19 : decode cX4_ask 19 = .ok (.ifCond .lt 8, 3) := by decide +kernel
theorem dX4_ask_22 : decode cX4_ask 22 = .ok (.iload_n 3, 1) := by decide +kernel
theorem dX4_ask_23 : decode cX4_ask 23 = .ok (.iconst 1, 1) := by decide +kernel
theorem dX4_ask_24 : decode cX4_ask 24 = .ok (.if_icmp .le 5, 3) := by decide +kernel
theorem dX4_ask_27 : decode cX4_ask 27 = .ok (.iconst (-1), 1) := by decide +kernel
theorem dX4_ask_28 : decode cX4_ask 28 = .ok (.ireturn, 1) := by decide +kernel
theorem dX4_ask_29 : decode cX4_ask 29 = .ok (.aload_n 0, 1) := by decide +kernel
theorem dX4_ask_30 : decode cX4_ask 30 = .ok (.getfield 18, 3) := by decide +kernel
theorem dX4_ask_33 : decode cX4_ask 33 = .ok (.iload_n 1, 1) := by decide +kernel
theorem dX4_ask_34 : decode cX4_ask 34 = .ok (.aaload, 1) := by decide +kernel
theorem dX4_ask_35 : decode cX4_ask 35 = .ok (.invokevirtual 119, 3) := by decide +kernel
theorem dX4_ask_38 : decode cX4_ask 38 = .ok (.istore 4, 2) := by decide +kernel
theorem dX4_ask_40 : decode cX4_ask 40 = .ok (.aload_n 0, 1) := by decide +kernel
theorem dX4_ask_41 : decode cX4_ask 41 = .ok (.getfield 18, 3) := by decide +kernel
theorem dX4_ask_44 : decode cX4_ask 44 = .ok (.iload_n 1, 1) := by decide +kernel
theorem dX4_ask_45 : decode cX4_ask 45 = .ok (.aaload, 1) := by decide +kernel
theorem dX4_ask_46 : decode cX4_ask 46 = .ok (.iload_n 2, 1) := by decide +kernel
theorem dX4_ask_47 : decode cX4_ask 47 = .ok (.putfield 122, 3) := by decide +kernel
theorem dX4_ask_50 : decode cX4_ask 50 = .ok (.aload_n 0, 1) := by decide +kernel
theorem dX4_ask_51 : decode cX4_ask 51 = .ok (.getfield 18, 3) := by decide +kernel
theorem dX4_ask_54 : decode cX4_ask 54 = .ok (.iload_n 1, 1) := by decide +kernel
theorem dX4_ask_55 : decode cX4_ask 55 = .ok (.aaload, 1) := by decide +kernel
theorem dX4_ask_56 : decode cX4_ask 56 = .ok (.iload_n 3, 1) := by decide +kernel
theorem dX4_ask_57 : decode cX4_ask 57 = .ok (.iconst 1, 1) := by decide +kernel
theorem dX4_ask_58 : decode cX4_ask 58 = .ok (.if_icmp .ne 7, 3) := by decide +kernel
theorem dX4_ask_61 : decode cX4_ask 61 = .ok (.iconst 1, 1) := by decide +kernel
theorem dX4_ask_62 : decode cX4_ask 62 = .ok (.goto 4, 3) := by decide +kernel
theorem dX4_ask_65 : decode cX4_ask 65 = .ok (.iconst 0, 1) := by decide +kernel
theorem dX4_ask_66 : decode cX4_ask 66 = .ok (.putfield 125, 3) := by decide +kernel
theorem dX4_ask_69 : decode cX4_ask 69 = .ok (.iload 4, 2) := by decide +kernel
theorem dX4_ask_71 : decode cX4_ask 71 = .ok (.ireturn, 1) := by decide +kernel
theorem dX4_front_0 : decode cX4_front 0 = .ok (.aload_n 0, 1) := by decide +kernel
theorem dX4_front_1 : decode cX4_front 1 = .ok (.iload_n 1, 1) := by decide +kernel
theorem dX4_front_2 : decode cX4_front 2 = .ok (.invokevirtual 102, 3) := by decide +kernel
theorem dX4_front_5 : decode cX4_front 5 = .ok (.ifCond .ne 5, 3) := by decide +kernel
theorem dX4_front_8 : decode cX4_front 8 = .ok (.iconst (-1), 1) := by decide +kernel
theorem dX4_front_9 : decode cX4_front 9 = .ok (.ireturn, 1) := by decide +kernel
theorem dX4_front_10 : decode cX4_front 10 = .ok (.aload_n 0, 1) := by decide +kernel
theorem dX4_front_11 : decode cX4_front 11 = .ok (.getfield 18, 3) := by decide +kernel
theorem dX4_front_14 : decode cX4_front 14 = .ok (.iload_n 1, 1) := by decide +kernel
theorem dX4_front_15 : decode cX4_front 15 = .ok (.aaload, 1) := by decide +kernel
theorem dX4_front_16 : decode cX4_front 16 = .ok (.getfield 128, 3) := by decide +kernel
theorem dX4_front_19 : decode cX4_front 19 = .ok (.ifCond .ne 13, 3) := by decide +kernel
theorem dX4_front_22 : decode cX4_front 22 = .ok (.aload_n 0, 1) := by decide +kernel
theorem dX4_front_23 : decode cX4_front 23 = .ok (.getfield 18, 3) := by decide +kernel
theorem dX4_front_26 : decode cX4_front 26 = .ok (.iload_n 1, 1) := by decide +kernel
theorem dX4_front_27 : decode cX4_front 27 = .ok (.aaload, 1) := by decide +kernel
theorem dX4_front_28 : decode cX4_front 28 = .ok (.iconst 0, 1) := by decide +kernel
theorem dX4_front_29 : decode cX4_front 29 = .ok (.putfield 131, 3) := by decide +kernel
theorem dX4_front_32 : decode cX4_front 32 = .ok (.aload_n 0, 1) := by decide +kernel
theorem dX4_front_33 : decode cX4_front 33 = .ok (.getfield 18, 3) := by decide +kernel
theorem dX4_front_36 : decode cX4_front 36 = .ok (.iload_n 1, 1) := by decide +kernel
theorem dX4_front_37 : decode cX4_front 37 = .ok (.aaload, 1) := by decide +kernel
theorem dX4_front_38 : decode cX4_front 38 = .ok (.getfield 131, 3) := by decide +kernel
theorem dX4_front_41 : decode cX4_front 41 = .ok (.ifCond .ne 7, 3) := by decide +kernel
theorem dX4_front_44 : decode cX4_front 44 = .ok (.iconst 1, 1) := by decide +kernel
theorem dX4_front_45 : decode cX4_front 45 = .ok (.goto 4, 3) := by decide +kernel
theorem dX4_front_48 : decode cX4_front 48 = .ok (.iconst 0, 1) := by decide +kernel
theorem dX4_front_49 : decode cX4_front 49 = .ok (.invokestatic 134, 3) := by decide +kernel
theorem dX4_front_52 : decode cX4_front 52 = .ok (.ireturn, 1) := by decide +kernel
theorem dX4_tune_0 : decode cX4_tune 0 = .ok (.aload_n 0, 1) := by decide +kernel
theorem dX4_tune_1 : decode cX4_tune 1 = .ok (.iload_n 1, 1) := by decide +kernel
theorem dX4_tune_2 : decode cX4_tune 2 = .ok (.invokevirtual 102, 3) := by decide +kernel
theorem dX4_tune_5 : decode cX4_tune 5 = .ok (.ifCond .eq 12, 3) := by decide +kernel
theorem dX4_tune_8 : decode cX4_tune 8 = .ok (.iload_n 2, 1) := by decide +kernel
theorem dX4_tune_9 : decode cX4_tune 9 = .ok (.ifCond .lt 8, 3) := by decide +kernel
theorem dX4_tune_12 : decode cX4_tune 12 = .ok (.iload_n 2, 1) := by decide +kernel
theorem dX4_tune_13 : decode cX4_tune 13 = .ok (.iconst 1, 1) := by decide +kernel
theorem dX4_tune_14 : decode cX4_tune 14 = .ok (.if_icmp .le 5, 3) := by decide +kernel
theorem dX4_tune_17 : decode cX4_tune 17 = .ok (.iconst (-1), 1) := by decide +kernel
theorem dX4_tune_18 : decode cX4_tune 18 = .ok (.ireturn, 1) := by decide +kernel
theorem dX4_tune_19 : decode cX4_tune 19 = .ok (.iload_n 2, 1) := by decide +kernel
theorem dX4_tune_20 : decode cX4_tune 20 = .ok (.ifCond .ne 7, 3) := by decide +kernel
theorem dX4_tune_23 : decode cX4_tune 23 = .ok (.iconst 3, 1) := by decide +kernel
theorem dX4_tune_24 : decode cX4_tune 24 = .ok (.goto 4, 3) := by decide +kernel
theorem dX4_tune_27 : decode cX4_tune 27 = .ok (.iconst 4, 1) := by decide +kernel
theorem dX4_tune_28 : decode cX4_tune 28 = .ok (.istore 4, 2) := by decide +kernel
theorem dX4_tune_30 : decode cX4_tune 30 = .ok (.iload_n 3, 1) := by decide +kernel
theorem dX4_tune_31 : decode cX4_tune 31 = .ok (.getstatic 138, 3) := by decide +kernel
theorem dX4_tune_34 : decode cX4_tune 34 = .ok (.iload 4, 2) := by decide +kernel
theorem dX4_tune_36 : decode cX4_tune 36 = .ok (.iaload, 1) := by decide +kernel
theorem dX4_tune_37 : decode cX4_tune 37 = .ok (.if_icmp .lt 13, 3) := by decide +kernel
theorem dX4_tune_40 : decode cX4_tune 40 = .ok (.iload_n 3, 1) := by decide +kernel
theorem dX4_tune_41 : decode cX4_tune 41 = .ok (.getstatic 141, 3) := by decide +kernel
theorem dX4_tune_44 : decode cX4_tune 44 = .ok (.iload 4, 2) := by decide +kernel
theorem dX4_tune_46 : decode cX4_tune 46 = .ok (.iaload, 1) := by decide +kernel
theorem dX4_tune_47 : decode cX4_tune 47 = .ok (.if_icmp .le 5, 3) := by decide +kernel
theorem dX4_tune_50 : decode cX4_tune 50 = .ok (.iconst (-1), 1) := by decide +kernel
theorem dX4_tune_51 : decode cX4_tune 51 = .ok (.ireturn, 1) := by decide +kernel
theorem dX4_tune_52 : decode cX4_tune 52 = .ok (.iload_n 2, 1) := by decide +kernel
theorem dX4_tune_53 : decode cX4_tune 53 = .ok (.ifCond .ne 15, 3) := by decide +kernel
theorem dX4_tune_56 : decode cX4_tune 56 = .ok (.aload_n 0, 1) := by decide +kernel
theorem dX4_tune_57 : decode cX4_tune 57 = .ok (.getfield 18, 3) := by decide +kernel
theorem dX4_tune_60 : decode cX4_tune 60 = .ok (.iload_n 1, 1) := by decide +kernel
theorem dX4_tune_61 : decode cX4_tune 61 = .ok (.aaload, 1) := by decide +kernel
theorem dX4_tune_62 : decode cX4_tune 62 = .ok (.getfield 144, 3) := by decide +kernel
theorem dX4_tune_65 : decode cX4_tune 65 = .ok (.goto 12, 3) := by decide +kernel
theorem dX4_tune_68 : decode cX4_tune 68 = .ok (.aload_n 0, 1) := by decide +kernel
theorem dX4_tune_69 : decode cX4_tune 69 = .ok (.getfield 18, 3) := by decide +kernel
theorem dX4_tune_72 : decode cX4_tune 72 = .ok (.iload_n 1, 1) := by decide +kernel
theorem dX4_tune_73 : decode cX4_tune 73 = .ok (.aaload, 1) := by decide +kernel
theorem dX4_tune_74 : decode cX4_tune 74 = .ok (.getfield 147, 3) := by decide +kernel
theorem dX4_tune_77 : decode cX4_tune 77 = .ok (.istore 5, 2) := by decide +kernel
theorem dX4_tune_79 : decode cX4_tune 79 = .ok (.iload_n 3, 1) := by decide +kernel
theorem dX4_tune_80 : decode cX4_tune 80 = .ok (.iload 5, 2) := by decide +kernel
theorem dX4_tune_82 : decode cX4_tune 82 = .ok (.if_icmp .ne 6, 3) := by decide +kernel
theorem dX4_tune_85 : decode cX4_tune 85 = .ok (.bipush (-2), 2) := by decide +kernel
theorem dX4_tune_87 : decode cX4_tune 87 = .ok (.ireturn, 1) := by decide +kernel
theorem dX4_tune_88 : decode cX4_tune 88 = .ok (.iload_n 2, 1) := by decide +kernel
theorem dX4_tune_89 : decode cX4_tune 89 = .ok (.ifCond .ne 16, 3) := by decide +kernel
theorem dX4_tune_92 : decode cX4_tune 92 = .ok (.aload_n 0, 1) := by decide +kernel
theorem dX4_tune_93 : decode cX4_tune 93 = .ok (.getfield 18, 3) := by decide +kernel
theorem dX4_tune_96 : decode cX4_tune 96 = .ok (.iload_n 1, 1) := by decide +kernel
theorem dX4_tune_97 : decode cX4_tune 97 = .ok (.aaload, 1) := by decide +kernel
theorem dX4_tune_98 : decode cX4_tune 98 = .ok (.iload_n 3, 1) := by decide +kernel
theorem dX4_tune_99 : decode cX4_tune 99 = .ok (.putfield 144, 3) := by decide +kernel
theorem dX4_tune_102 : decode cX4_tune 102 = .ok (.goto 13, 3) := by decide +kernel
theorem dX4_tune_105 : decode cX4_tune 105 = .ok (.aload_n 0, 1) := by decide +kernel
theorem dX4_tune_106 : decode cX4_tune 106 = .ok (.getfield 18, 3) := by decide +kernel
theorem dX4_tune_109 : decode cX4_tune 109 = .ok (.iload_n 1, 1) := by decide +kernel
theorem dX4_tune_110 : decode cX4_tune 110 = .ok (.aaload, 1) := by decide +kernel
theorem dX4_tune_111 : decode cX4_tune 111 = .ok (.iload_n 3, 1) := by decide +kernel
theorem dX4_tune_112 : decode cX4_tune 112 = .ok (.putfield 147, 3) := by decide +kernel
theorem dX4_tune_115 : decode cX4_tune 115 = .ok (.iload 5, 2) := by decide +kernel
theorem dX4_tune_117 : decode cX4_tune 117 = .ok (.ireturn, 1) := by decide +kernel
theorem dX4_device_0 : decode cX4_device 0 = .ok (.aload_n 0, 1) := by decide +kernel
theorem dX4_device_1 : decode cX4_device 1 = .ok (.iload_n 1, 1) := by decide +kernel
theorem dX4_device_2 : decode cX4_device 2 = .ok (.invokevirtual 102, 3) := by decide +kernel
theorem dX4_device_5 : decode cX4_device 5 = .ok (.ifCond .ne 5, 3) := by decide +kernel
theorem dX4_device_8 : decode cX4_device 8 = .ok (.iconst (-1), 1) := by decide +kernel
theorem dX4_device_9 : decode cX4_device 9 = .ok (.ireturn, 1) := by decide +kernel
theorem dX4_device_10 : decode cX4_device 10 = .ok (.iload_n 2, 1) := by decide +kernel
theorem dX4_device_11 : decode cX4_device 11 = .ok (.iconst 5, 1) := by decide +kernel
theorem dX4_device_12 : decode cX4_device 12 = .ok (.if_icmp .ne 20, 3) := by decide +kernel
theorem dX4_device_15 : decode cX4_device 15 = .ok (.iload_n 1, 1) := by decide +kernel
theorem dX4_device_16 : decode cX4_device 16 = .ok (.aload_n 0, 1) := by decide +kernel
theorem dX4_device_17 : decode cX4_device 17 = .ok (.getfield 89, 3) := by decide +kernel
theorem dX4_device_20 : decode cX4_device 20 = .ok (.if_icmp .ne 7, 3) := by decide +kernel
theorem dX4_device_23 : decode cX4_device 23 = .ok (.iconst 1, 1) := by decide +kernel
theorem dX4_device_24 : decode cX4_device 24 = .ok (.goto 4, 3) := by decide +kernel
theorem dX4_device_27 : decode cX4_device 27 = .ok (.iconst 0, 1) := by decide +kernel
theorem dX4_device_28 : decode cX4_device 28 = .ok (.invokestatic 134, 3) := by decide +kernel
theorem dX4_device_31 : decode cX4_device 31 = .ok (.ireturn, 1) := by decide +kernel
theorem dX4_device_32 : decode cX4_device 32 = .ok (.iload_n 2, 1) := by decide +kernel
theorem dX4_device_33 : decode cX4_device 33 = .ok (.bipush 9, 2) := by decide +kernel
theorem dX4_device_35 : decode cX4_device 35 = .ok (.if_icmp .ge 16, 3) := by decide +kernel
theorem dX4_device_38 : decode cX4_device 38 = .ok (.aload_n 0, 1) := by decide +kernel
theorem dX4_device_39 : decode cX4_device 39 = .ok (.getfield 18, 3) := by decide +kernel
theorem dX4_device_42 : decode cX4_device 42 = .ok (.iload_n 1, 1) := by decide +kernel
theorem dX4_device_43 : decode cX4_device 43 = .ok (.aaload, 1) := by decide +kernel
theorem dX4_device_44 : decode cX4_device 44 = .ok (.iload_n 2, 1) := by decide +kernel
theorem dX4_device_45 : decode cX4_device 45 = .ok (.invokevirtual 150, 3) := by decide +kernel
theorem dX4_device_48 : decode cX4_device 48 = .ok (.goto 17, 3) := by decide +kernel
theorem dX4_device_51 : decode cX4_device 51 = .ok (.aload_n 0, 1) := by decide +kernel
theorem dX4_device_52 : decode cX4_device 52 = .ok (.getfield 18, 3) := by decide +kernel
theorem dX4_device_55 : decode cX4_device 55 = .ok (.iload_n 1, 1) := by decide +kernel
theorem dX4_device_56 : decode cX4_device 56 = .ok (.aaload, 1) := by decide +kernel
theorem dX4_device_57 : decode cX4_device 57 = .ok (.iload_n 2, 1) := by decide +kernel
theorem dX4_device_58 : decode cX4_device 58 = .ok (.aload_n 0, 1) := by decide +kernel
theorem dX4_device_59 : decode cX4_device 59 = .ok (.getfield 70, 3) := by decide +kernel
theorem dX4_device_62 : decode cX4_device 62 = .ok (.invokevirtual 153, 3) := by decide +kernel
theorem dX4_device_65 : decode cX4_device 65 = .ok (.ireturn, 1) := by decide +kernel
theorem dX4_row_0 : decode cX4_row 0 = .ok (.aload_n 0, 1) := by decide +kernel
theorem dX4_row_1 : decode cX4_row 1 = .ok (.iload_n 1, 1) := by decide +kernel
theorem dX4_row_2 : decode cX4_row 2 = .ok (.invokevirtual 102, 3) := by decide +kernel
theorem dX4_row_5 : decode cX4_row 5 = .ok (.ifCond .eq 16, 3) := by decide +kernel
theorem dX4_row_8 : decode cX4_row 8 = .ok (.iload_n 2, 1) := by decide +kernel
theorem dX4_row_9 : decode cX4_row 9 = .ok (.ifCond .lt 12, 3) := by decide +kernel
theorem dX4_row_12 : decode cX4_row 12 = .ok (.iload_n 2, 1) := by decide +kernel
theorem dX4_row_13 : decode cX4_row 13 = .ok (.iconst 1, 1) := by decide +kernel
theorem dX4_row_14 : decode cX4_row 14 = .ok (.if_icmp .gt 7, 3) := by decide +kernel
theorem dX4_row_17 : decode cX4_row 17 = .ok (.iload_n 3, 1) := by decide +kernel
theorem dX4_row_18 : decode cX4_row 18 = .ok (.ifCond .ge 5, 3) := by decide +kernel
theorem dX4_row_21 : decode cX4_row 21 = .ok (.iconst (-1), 1) := by decide +kernel
theorem dX4_row_22 : decode cX4_row 22 = .ok (.ireturn, 1) := by decide +kernel
theorem dX4_row_23 : decode cX4_row 23 = .ok (.iload_n 2, 1) := by decide +kernel
theorem dX4_row_24 : decode cX4_row 24 = .ok (.ifCond .ne 19, 3) := by decide +kernel
theorem dX4_row_27 : decode cX4_row 27 = .ok (.aload_n 0, 1) := by decide +kernel
theorem dX4_row_28 : decode cX4_row 28 = .ok (.getfield 18, 3) := by decide +kernel
theorem dX4_row_31 : decode cX4_row 31 = .ok (.iload_n 1, 1) := by decide +kernel
theorem dX4_row_32 : decode cX4_row 32 = .ok (.aaload, 1) := by decide +kernel
theorem dX4_row_33 : decode cX4_row 33 = .ok (.getfield 106, 3) := by decide +kernel
theorem dX4_row_36 : decode cX4_row 36 = .ok (.iload_n 3, 1) := by decide +kernel
theorem dX4_row_37 : decode cX4_row 37 = .ok (.invokevirtual 157, 3) := by decide +kernel
theorem dX4_row_40 : decode cX4_row 40 = .ok (.goto 16, 3) := by decide +kernel
theorem dX4_row_43 : decode cX4_row 43 = .ok (.aload_n 0, 1) := by decide +kernel
theorem dX4_row_44 : decode cX4_row 44 = .ok (.getfield 18, 3) := by decide +kernel
theorem dX4_row_47 : decode cX4_row 47 = .ok (.iload_n 1, 1) := by decide +kernel
theorem dX4_row_48 : decode cX4_row 48 = .ok (.aaload, 1) := by decide +kernel
theorem dX4_row_49 : decode cX4_row 49 = .ok (.getfield 113, 3) := by decide +kernel
theorem dX4_row_52 : decode cX4_row 52 = .ok (.iload_n 3, 1) := by decide +kernel
theorem dX4_row_53 : decode cX4_row 53 = .ok (.invokevirtual 157, 3) := by decide +kernel
theorem dX4_row_56 : decode cX4_row 56 = .ok (.ireturn, 1) := by decide +kernel
theorem dX4_bus_0 : decode cX4_bus 0 = .ok (.iload_n 1, 1) := by decide +kernel
theorem dX4_bus_1 : decode cX4_bus 1 = .ok (.tableswitch 105 0 8 #[51, 56, 61, 66, 74, 79, 87, 92, 97], 51) := by decide +kernel
theorem dX4_bus_52 : decode cX4_bus 52 = .ok (.aload_n 0, 1) := by decide +kernel
theorem dX4_bus_53 : decode cX4_bus 53 = .ok (.getfield 89, 3) := by decide +kernel
theorem dX4_bus_56 : decode cX4_bus 56 = .ok (.ireturn, 1) := by decide +kernel
theorem dX4_bus_57 : decode cX4_bus 57 = .ok (.aload_n 0, 1) := by decide +kernel
theorem dX4_bus_58 : decode cX4_bus 58 = .ok (.invokevirtual 160, 3) := by decide +kernel
theorem dX4_bus_61 : decode cX4_bus 61 = .ok (.ireturn, 1) := by decide +kernel
theorem dX4_bus_62 : decode cX4_bus 62 = .ok (.aload_n 0, 1) := by decide +kernel
theorem dX4_bus_63 : decode cX4_bus 63 = .ok (.getfield 79, 3) := by decide +kernel
theorem dX4_bus_66 : decode cX4_bus 66 = .ok (.ireturn, 1) := by decide +kernel
theorem dX4_bus_67 : decode cX4_bus 67 = .ok (.aload_n 0, 1) := by decide +kernel
theorem dX4_bus_68 : decode cX4_bus 68 = .ok (.getfield 98, 3) := by decide +kernel
theorem dX4_bus_71 : decode cX4_bus 71 = .ok (.invokestatic 134, 3) := by decide +kernel
theorem dX4_bus_74 : decode cX4_bus 74 = .ok (.ireturn, 1) := by decide +kernel
theorem dX4_bus_75 : decode cX4_bus 75 = .ok (.aload_n 0, 1) := by decide +kernel
theorem dX4_bus_76 : decode cX4_bus 76 = .ok (.getfield 70, 3) := by decide +kernel
theorem dX4_bus_79 : decode cX4_bus 79 = .ok (.ireturn, 1) := by decide +kernel
theorem dX4_bus_80 : decode cX4_bus 80 = .ok (.aload_n 0, 1) := by decide +kernel
theorem dX4_bus_81 : decode cX4_bus 81 = .ok (.invokevirtual 163, 3) := by decide +kernel
theorem dX4_bus_84 : decode cX4_bus 84 = .ok (.invokestatic 134, 3) := by decide +kernel
theorem dX4_bus_87 : decode cX4_bus 87 = .ok (.ireturn, 1) := by decide +kernel
theorem dX4_bus_88 : decode cX4_bus 88 = .ok (.aload_n 0, 1) := by decide +kernel
theorem dX4_bus_89 : decode cX4_bus 89 = .ok (.invokevirtual 166, 3) := by decide +kernel
theorem dX4_bus_92 : decode cX4_bus 92 = .ok (.ireturn, 1) := by decide +kernel
theorem dX4_bus_93 : decode cX4_bus 93 = .ok (.aload_n 0, 1) := by decide +kernel
theorem dX4_bus_94 : decode cX4_bus 94 = .ok (.getfield 63, 3) := by decide +kernel
theorem dX4_bus_97 : decode cX4_bus 97 = .ok (.ireturn, 1) := by decide +kernel
theorem dX4_bus_98 : decode cX4_bus 98 = .ok (.aload_n 0, 1) := by decide +kernel
theorem dX4_bus_99 : decode cX4_bus 99 = .ok (.getfield 10, 3) := by decide +kernel
theorem dX4_bus_102 : decode cX4_bus 102 = .ok (.getfield 169, 3) := by decide +kernel
theorem dX4_bus_105 : decode cX4_bus 105 = .ok (.ireturn, 1) := by decide +kernel
theorem dX4_bus_106 : decode cX4_bus 106 = .ok (.iconst (-1), 1) := by decide +kernel
theorem dX4_bus_107 : decode cX4_bus 107 = .ok (.ireturn, 1) := by decide +kernel
theorem dX4_sum_0 : decode cX4_sum 0 = .ok (.iload_n 1, 1) := by decide +kernel
theorem dX4_sum_1 : decode cX4_sum 1 = .ok (.ifCond .lt 9, 3) := by decide +kernel
theorem dX4_sum_4 : decode cX4_sum 4 = .ok (.iload_n 1, 1) := by decide +kernel
theorem dX4_sum_5 : decode cX4_sum 5 = .ok (.bipush 8, 2) := by decide +kernel
theorem dX4_sum_7 : decode cX4_sum 7 = .ok (.if_icmp .lt 5, 3) := by decide +kernel
theorem dX4_sum_10 : decode cX4_sum 10 = .ok (.iconst (-1), 1) := by decide +kernel
theorem dX4_sum_11 : decode cX4_sum 11 = .ok (.ireturn, 1) := by decide +kernel
theorem dX4_sum_12 : decode cX4_sum 12 = .ok (.aload_n 0, 1) := by decide +kernel
theorem dX4_sum_13 : decode cX4_sum 13 = .ok (.getfield 30, 3) := by decide +kernel
theorem dX4_sum_16 : decode cX4_sum 16 = .ok (.iload_n 1, 1) := by decide +kernel
theorem dX4_sum_17 : decode cX4_sum 17 = .ok (.iaload, 1) := by decide +kernel
theorem dX4_sum_18 : decode cX4_sum 18 = .ok (.ireturn, 1) := by decide +kernel
theorem dX4_log_0 : decode cX4_log 0 = .ok (.iload_n 1, 1) := by decide +kernel
theorem dX4_log_1 : decode cX4_log 1 = .ok (.iconst (-1), 1) := by decide +kernel
theorem dX4_log_2 : decode cX4_log 2 = .ok (.if_icmp .lt 12, 3) := by decide +kernel
theorem dX4_log_5 : decode cX4_log 5 = .ok (.iload_n 2, 1) := by decide +kernel
theorem dX4_log_6 : decode cX4_log 6 = .ok (.ifCond .lt 8, 3) := by decide +kernel
theorem dX4_log_9 : decode cX4_log 9 = .ok (.iload_n 2, 1) := by decide +kernel
theorem dX4_log_10 : decode cX4_log 10 = .ok (.iconst 2, 1) := by decide +kernel
theorem dX4_log_11 : decode cX4_log 11 = .ok (.if_icmp .le 5, 3) := by decide +kernel
theorem dX4_log_14 : decode cX4_log 14 = .ok (.iconst (-1), 1) := by decide +kernel
theorem dX4_log_15 : decode cX4_log 15 = .ok (.ireturn, 1) := by decide +kernel
theorem dX4_log_16 : decode cX4_log 16 = .ok (.iload_n 1, 1) := by decide +kernel
theorem dX4_log_17 : decode cX4_log 17 = .ok (.iconst (-1), 1) := by decide +kernel
theorem dX4_log_18 : decode cX4_log 18 = .ok (.if_icmp .ne 13, 3) := by decide +kernel
theorem dX4_log_21 : decode cX4_log 21 = .ok (.aload_n 0, 1) := by decide +kernel
theorem dX4_log_22 : decode cX4_log 22 = .ok (.getfield 26, 3) := by decide +kernel
theorem dX4_log_25 : decode cX4_log 25 = .ok (.getfield 172, 3) := by decide +kernel
theorem dX4_log_28 : decode cX4_log 28 = .ok (.goto 12, 3) := by decide +kernel
theorem dX4_log_31 : decode cX4_log 31 = .ok (.aload_n 0, 1) := by decide +kernel
theorem dX4_log_32 : decode cX4_log 32 = .ok (.getfield 26, 3) := by decide +kernel
theorem dX4_log_35 : decode cX4_log 35 = .ok (.iload_n 1, 1) := by decide +kernel
theorem dX4_log_36 : decode cX4_log 36 = .ok (.iload_n 2, 1) := by decide +kernel
theorem dX4_log_37 : decode cX4_log 37 = .ok (.invokevirtual 175, 3) := by decide +kernel
theorem dX4_log_40 : decode cX4_log 40 = .ok (.ireturn, 1) := by decide +kernel
theorem dX4_beginWith_0 : decode cX4_beginWith 0 = .ok (.aload_n 0, 1) := by decide +kernel
theorem dX4_beginWith_1 : decode cX4_beginWith 1 = .ok (.iload_n 2, 1) := by decide +kernel
theorem dX4_beginWith_2 : decode cX4_beginWith 2 = .ok (.putfield 63, 3) := by decide +kernel
theorem dX4_beginWith_5 : decode cX4_beginWith 5 = .ok (.iconst 0, 1) := by decide +kernel
theorem dX4_beginWith_6 : decode cX4_beginWith 6 = .ok (.istore_n 3, 1) := by decide +kernel
theorem dX4_beginWith_7 : decode cX4_beginWith 7 = .ok (.iload_n 3, 1) := by decide +kernel
theorem dX4_beginWith_8 : decode cX4_beginWith 8 = .ok (.aload_n 0, 1) := by decide +kernel
theorem dX4_beginWith_9 : decode cX4_beginWith 9 = .ok (.getfield 63, 3) := by decide +kernel
theorem dX4_beginWith_12 : decode cX4_beginWith 12 = .ok (.if_icmp .ge 22, 3) := by decide +kernel
theorem dX4_beginWith_15 : decode cX4_beginWith 15 = .ok (.aload_n 0, 1) := by decide +kernel
theorem dX4_beginWith_16 : decode cX4_beginWith 16 = .ok (.getfield 18, 3) := by decide +kernel
theorem dX4_beginWith_19 : decode cX4_beginWith 19 = .ok (.iload_n 3, 1) := by decide +kernel
theorem dX4_beginWith_20 : decode cX4_beginWith 20 = .ok (.aaload, 1) := by decide +kernel
theorem dX4_beginWith_21 : decode cX4_beginWith 21 = .ok (.aload_n 1, 1) := by decide +kernel
theorem dX4_beginWith_22 : decode cX4_beginWith 22 = .ok (.iload_n 3, 1) := by decide +kernel
theorem dX4_beginWith_23 : decode cX4_beginWith 23 = .ok (.iconst 5, 1) := by decide +kernel
theorem dX4_beginWith_24 : decode cX4_beginWith 24 = .ok (.imul, 1) := by decide +kernel
theorem dX4_beginWith_25 : decode cX4_beginWith 25 = .ok (.invokevirtual 178, 3) := by decide +kernel
theorem dX4_beginWith_28 : decode cX4_beginWith 28 = .ok (.iinc 3 1, 3) := by decide +kernel
theorem dX4_beginWith_31 : decode cX4_beginWith 31 = .ok (.goto (-24), 3) := by decide +kernel
theorem dX4_beginWith_34 : decode cX4_beginWith 34 = .ok (.aload_n 0, 1) := by decide +kernel
theorem dX4_beginWith_35 : decode cX4_beginWith 35 = .ok (.getfield 26, 3) := by decide +kernel
theorem dX4_beginWith_38 : decode cX4_beginWith 38 = .ok (.invokevirtual 181, 3) := by decide +kernel
theorem dX4_beginWith_41 : decode cX4_beginWith 41 = .ok (.iconst 0, 1) := by decide +kernel
theorem dX4_beginWith_42 : decode cX4_beginWith 42 = .ok (.istore_n 3, 1) := by decide +kernel
theorem dX4_beginWith_43 : decode cX4_beginWith 43 = .ok (.iload_n 3, 1) := by decide +kernel
theorem dX4_beginWith_44 : decode cX4_beginWith 44 = .ok (.bipush 8, 2) := by decide +kernel
theorem dX4_beginWith_46 : decode cX4_beginWith 46 = .ok (.if_icmp .ge 16, 3) := by decide +kernel
theorem dX4_beginWith_49 : decode cX4_beginWith 49 = .ok (.aload_n 0, 1) := by decide +kernel
theorem dX4_beginWith_50 : decode cX4_beginWith 50 = .ok (.getfield 30, 3) := by decide +kernel
theorem dX4_beginWith_53 : decode cX4_beginWith 53 = .ok (.iload_n 3, 1) := by decide +kernel
theorem dX4_beginWith_54 : decode cX4_beginWith 54 = .ok (.iconst 0, 1) := by decide +kernel
theorem dX4_beginWith_55 : decode cX4_beginWith 55 = .ok (.iastore, 1) := by decide +kernel
theorem dX4_beginWith_56 : decode cX4_beginWith 56 = .ok (.iinc 3 1, 3) := by decide +kernel
theorem dX4_beginWith_59 : decode cX4_beginWith 59 = .ok (.goto (-16), 3) := by decide +kernel
theorem dX4_beginWith_62 : decode cX4_beginWith 62 = .ok (.aload_n 0, 1) := by decide +kernel
theorem dX4_beginWith_63 : decode cX4_beginWith 63 = .ok (.iconst 0, 1) := by decide +kernel
theorem dX4_beginWith_64 : decode cX4_beginWith 64 = .ok (.putfield 70, 3) := by decide +kernel
theorem dX4_beginWith_67 : decode cX4_beginWith 67 = .ok (.aload_n 0, 1) := by decide +kernel
theorem dX4_beginWith_68 : decode cX4_beginWith 68 = .ok (.iconst 0, 1) := by decide +kernel
theorem dX4_beginWith_69 : decode cX4_beginWith 69 = .ok (.putfield 79, 3) := by decide +kernel
theorem dX4_beginWith_72 : decode cX4_beginWith 72 = .ok (.aload_n 0, 1) := by decide +kernel
theorem dX4_beginWith_73 : decode cX4_beginWith 73 = .ok (.bipush (-4), 2) := by decide +kernel
theorem dX4_beginWith_75 : decode cX4_beginWith 75 = .ok (.putfield 89, 3) := by decide +kernel
theorem dX4_beginWith_78 : decode cX4_beginWith 78 = .ok (.aload_n 0, 1) := by decide +kernel
theorem dX4_beginWith_79 : decode cX4_beginWith 79 = .ok (.bipush (-4), 2) := by decide +kernel
theorem dX4_beginWith_81 : decode cX4_beginWith 81 = .ok (.putfield 183, 3) := by decide +kernel
theorem dX4_beginWith_84 : decode cX4_beginWith 84 = .ok (.aload_n 0, 1) := by decide +kernel
theorem dX4_beginWith_85 : decode cX4_beginWith 85 = .ok (.iconst 0, 1) := by decide +kernel
theorem dX4_beginWith_86 : decode cX4_beginWith 86 = .ok (.putfield 98, 3) := by decide +kernel
theorem dX4_beginWith_89 : decode cX4_beginWith 89 = .ok (.return_, 1) := by decide +kernel
theorem dX4_isDevice_0 : decode cX4_isDevice 0 = .ok (.iload_n 1, 1) := by decide +kernel
theorem dX4_isDevice_1 : decode cX4_isDevice 1 = .ok (.ifCond .lt 15, 3) := by decide +kernel
theorem dX4_isDevice_4 : decode cX4_isDevice 4 = .ok (.iload_n 1, 1) := by decide +kernel
theorem dX4_isDevice_5 : decode cX4_isDevice 5 = .ok (.aload_n 0, 1) := by decide +kernel
theorem dX4_isDevice_6 : decode cX4_isDevice 6 = .ok (.getfield 63, 3) := by decide +kernel
theorem dX4_isDevice_9 : decode cX4_isDevice 9 = .ok (.if_icmp .ge 7, 3) := by decide +kernel
theorem dX4_isDevice_12 : decode cX4_isDevice 12 = .ok (.iconst 1, 1) := by decide +kernel
theorem dX4_isDevice_13 : decode cX4_isDevice 13 = .ok (.goto 4, 3) := by decide +kernel
theorem dX4_isDevice_16 : decode cX4_isDevice 16 = .ok (.iconst 0, 1) := by decide +kernel
theorem dX4_isDevice_17 : decode cX4_isDevice 17 = .ok (.ireturn, 1) := by decide +kernel
theorem dX4_bit_0 : decode cX4_bit 0 = .ok (.iload_n 0, 1) := by decide +kernel
theorem dX4_bit_1 : decode cX4_bit 1 = .ok (.ifCond .eq 7, 3) := by decide +kernel
theorem dX4_bit_4 : decode cX4_bit 4 = .ok (.iconst 1, 1) := by decide +kernel
theorem dX4_bit_5 : decode cX4_bit 5 = .ok (.goto 4, 3) := by decide +kernel
theorem dX4_bit_8 : decode cX4_bit 8 = .ok (.iconst 0, 1) := by decide +kernel
theorem dX4_bit_9 : decode cX4_bit 9 = .ok (.ireturn, 1) := by decide +kernel
theorem dX4_passTicks_0 : decode cX4_passTicks 0 = .ok (.aload_n 0, 1) := by decide +kernel
theorem dX4_passTicks_1 : decode cX4_passTicks 1 = .ok (.dup, 1) := by decide +kernel
theorem dX4_passTicks_2 : decode cX4_passTicks 2 = .ok (.getfield 70, 3) := by decide +kernel
theorem dX4_passTicks_5 : decode cX4_passTicks 5 = .ok (.iload_n 1, 1) := by decide +kernel
theorem dX4_passTicks_6 : decode cX4_passTicks 6 = .ok (.iadd, 1) := by decide +kernel
theorem dX4_passTicks_7 : decode cX4_passTicks 7 = .ok (.putfield 70, 3) := by decide +kernel
theorem dX4_passTicks_10 : decode cX4_passTicks 10 = .ok (.iconst 0, 1) := by decide +kernel
theorem dX4_passTicks_11 : decode cX4_passTicks 11 = .ok (.istore_n 2, 1) := by decide +kernel
theorem dX4_passTicks_12 : decode cX4_passTicks 12 = .ok (.iload_n 2, 1) := by decide +kernel
theorem dX4_passTicks_13 : decode cX4_passTicks 13 = .ok (.aload_n 0, 1) := by decide +kernel
theorem dX4_passTicks_14 : decode cX4_passTicks 14 = .ok (.getfield 63, 3) := by decide +kernel
theorem dX4_passTicks_17 : decode cX4_passTicks 17 = .ok (.if_icmp .ge 44, 3) := by decide +kernel
theorem dX4_passTicks_20 : decode cX4_passTicks 20 = .ok (.aload_n 0, 1) := by decide +kernel
theorem dX4_passTicks_21 : decode cX4_passTicks 21 = .ok (.getfield 18, 3) := by decide +kernel
theorem dX4_passTicks_24 : decode cX4_passTicks 24 = .ok (.iload_n 2, 1) := by decide +kernel
theorem dX4_passTicks_25 : decode cX4_passTicks 25 = .ok (.aaload, 1) := by decide +kernel
theorem dX4_passTicks_26 : decode cX4_passTicks 26 = .ok (.aload_n 0, 1) := by decide +kernel
theorem dX4_passTicks_27 : decode cX4_passTicks 27 = .ok (.getfield 70, 3) := by decide +kernel
theorem dX4_passTicks_30 : decode cX4_passTicks 30 = .ok (.invokevirtual 186, 3) := by decide +kernel
theorem dX4_passTicks_33 : decode cX4_passTicks 33 = .ok (.ifCond .eq 22, 3) := by decide +kernel
theorem dX4_passTicks_36 : decode cX4_passTicks 36 = .ok (.aload_n 0, 1) := by decide +kernel
theorem dX4_passTicks_37 : decode cX4_passTicks 37 = .ok (.getfield 18, 3) := by decide +kernel
theorem dX4_passTicks_40 : decode cX4_passTicks 40 = .ok (.iload_n 2, 1) := by decide +kernel
theorem dX4_passTicks_41 : decode cX4_passTicks 41 = .ok (.aaload, 1) := by decide +kernel
theorem dX4_passTicks_42 : decode cX4_passTicks 42 = .ok (.invokevirtual 189, 3) := by decide +kernel
theorem dX4_passTicks_45 : decode cX4_passTicks 45 = .ok (.aload_n 0, 1) := by decide +kernel
theorem dX4_passTicks_46 : decode cX4_passTicks 46 = .ok (.getfield 30, 3) := by decide +kernel
theorem dX4_passTicks_49 : decode cX4_passTicks 49 = .ok (.iconst 3, 1) := by decide +kernel
theorem dX4_passTicks_50 : decode cX4_passTicks 50 = .ok (.dup2, 1) := by decide +kernel
theorem dX4_passTicks_51 : decode cX4_passTicks 51 = .ok (.iaload, 1) := by decide +kernel
theorem dX4_passTicks_52 : decode cX4_passTicks 52 = .ok (.iconst 1, 1) := by decide +kernel
theorem dX4_passTicks_53 : decode cX4_passTicks 53 = .ok (.iadd, 1) := by decide +kernel
theorem dX4_passTicks_54 : decode cX4_passTicks 54 = .ok (.iastore, 1) := by decide +kernel
theorem dX4_passTicks_55 : decode cX4_passTicks 55 = .ok (.iinc 2 1, 3) := by decide +kernel
theorem dX4_passTicks_58 : decode cX4_passTicks 58 = .ok (.goto (-46), 3) := by decide +kernel
theorem dX4_passTicks_61 : decode cX4_passTicks 61 = .ok (.return_, 1) := by decide +kernel
theorem dX4_greatestPace_0 : decode cX4_greatestPace 0 = .ok (.iconst 0, 1) := by decide +kernel
theorem dX4_greatestPace_1 : decode cX4_greatestPace 1 = .ok (.istore_n 1, 1) := by decide +kernel
theorem dX4_greatestPace_2 : decode cX4_greatestPace 2 = .ok (.iconst 0, 1) := by decide +kernel
theorem dX4_greatestPace_3 : decode cX4_greatestPace 3 = .ok (.istore_n 2, 1) := by decide +kernel
theorem dX4_greatestPace_4 : decode cX4_greatestPace 4 = .ok (.iload_n 2, 1) := by decide +kernel
theorem dX4_greatestPace_5 : decode cX4_greatestPace 5 = .ok (.aload_n 0, 1) := by decide +kernel
theorem dX4_greatestPace_6 : decode cX4_greatestPace 6 = .ok (.getfield 63, 3) := by decide +kernel
theorem dX4_greatestPace_9 : decode cX4_greatestPace 9 = .ok (.if_icmp .ge 23, 3) := by decide +kernel
theorem dX4_greatestPace_12 : decode cX4_greatestPace 12 = .ok (.iload_n 1, 1) := by decide +kernel
theorem dX4_greatestPace_13 : decode cX4_greatestPace 13 = .ok (.aload_n 0, 1) := by decide +kernel
theorem dX4_greatestPace_14 : decode cX4_greatestPace 14 = .ok (.getfield 18, 3) := by decide +kernel
theorem dX4_greatestPace_17 : decode cX4_greatestPace 17 = .ok (.iload_n 2, 1) := by decide +kernel
theorem dX4_greatestPace_18 : decode cX4_greatestPace 18 = .ok (.aaload, 1) := by decide +kernel
theorem dX4_greatestPace_19 : decode cX4_greatestPace 19 = .ok (.getfield 144, 3) := by decide +kernel
theorem dX4_greatestPace_22 : decode cX4_greatestPace 22 = .ok (.invokestatic 192, 3) := by decide +kernel
theorem dX4_greatestPace_25 : decode cX4_greatestPace 25 = .ok (.istore_n 1, 1) := by decide +kernel
theorem dX4_greatestPace_26 : decode cX4_greatestPace 26 = .ok (.iinc 2 1, 3) := by decide +kernel
theorem dX4_greatestPace_29 : decode cX4_greatestPace 29 = .ok (.goto (-25), 3) := by decide +kernel
theorem dX4_greatestPace_32 : decode cX4_greatestPace 32 = .ok (.iload_n 1, 1) := by decide +kernel
theorem dX4_greatestPace_33 : decode cX4_greatestPace 33 = .ok (.ireturn, 1) := by decide +kernel
theorem dX4_sendAddress_0 : decode cX4_sendAddress 0 = .ok (.aload_n 0, 1) := by decide +kernel
theorem dX4_sendAddress_1 : decode cX4_sendAddress 1 = .ok (.iload_n 1, 1) := by decide +kernel
theorem dX4_sendAddress_2 : decode cX4_sendAddress 2 = .ok (.aload_n 0, 1) := by decide +kernel
theorem dX4_sendAddress_3 : decode cX4_sendAddress 3 = .ok (.getfield 18, 3) := by decide +kernel
theorem dX4_sendAddress_6 : decode cX4_sendAddress 6 = .ok (.iload_n 2, 1) := by decide +kernel
theorem dX4_sendAddress_7 : decode cX4_sendAddress 7 = .ok (.aaload, 1) := by decide +kernel
theorem dX4_sendAddress_8 : decode cX4_sendAddress 8 = .ok (.getfield 197, 3) := by decide +kernel
theorem dX4_sendAddress_11 : decode cX4_sendAddress 11 = .ok (.iadd, 1) := by decide +kernel
theorem dX4_sendAddress_12 : decode cX4_sendAddress 12 = .ok (.invokevirtual 66, 3) := by decide +kernel
theorem dX4_sendAddress_15 : decode cX4_sendAddress 15 = .ok (.aload_n 0, 1) := by decide +kernel
theorem dX4_sendAddress_16 : decode cX4_sendAddress 16 = .ok (.getfield 18, 3) := by decide +kernel
theorem dX4_sendAddress_19 : decode cX4_sendAddress 19 = .ok (.iload_n 2, 1) := by decide +kernel
theorem dX4_sendAddress_20 : decode cX4_sendAddress 20 = .ok (.aaload, 1) := by decide +kernel
theorem dX4_sendAddress_21 : decode cX4_sendAddress 21 = .ok (.getfield 200, 3) := by decide +kernel
theorem dX4_sendAddress_24 : decode cX4_sendAddress 24 = .ok (.bipush 31, 2) := by decide +kernel
theorem dX4_sendAddress_26 : decode cX4_sendAddress 26 = .ok (.if_icmp .eq 19, 3) := by decide +kernel
theorem dX4_sendAddress_29 : decode cX4_sendAddress 29 = .ok (.aload_n 0, 1) := by decide +kernel
theorem dX4_sendAddress_30 : decode cX4_sendAddress 30 = .ok (.bipush 96, 2) := by decide +kernel
theorem dX4_sendAddress_32 : decode cX4_sendAddress 32 = .ok (.aload_n 0, 1) := by decide +kernel
theorem dX4_sendAddress_33 : decode cX4_sendAddress 33 = .ok (.getfield 18, 3) := by decide +kernel
theorem dX4_sendAddress_36 : decode cX4_sendAddress 36 = .ok (.iload_n 2, 1) := by decide +kernel
theorem dX4_sendAddress_37 : decode cX4_sendAddress 37 = .ok (.aaload, 1) := by decide +kernel
theorem dX4_sendAddress_38 : decode cX4_sendAddress 38 = .ok (.getfield 200, 3) := by decide +kernel
theorem dX4_sendAddress_41 : decode cX4_sendAddress 41 = .ok (.iadd, 1) := by decide +kernel
theorem dX4_sendAddress_42 : decode cX4_sendAddress 42 = .ok (.invokevirtual 66, 3) := by decide +kernel
theorem dX4_sendAddress_45 : decode cX4_sendAddress 45 = .ok (.return_, 1) := by decide +kernel
theorem dX4_send_0 : decode cX4_send 0 = .ok (.aload_n 0, 1) := by decide +kernel
theorem dX4_send_1 : decode cX4_send 1 = .ok (.getfield 26, 3) := by decide +kernel
theorem dX4_send_4 : decode cX4_send 4 = .ok (.aload_n 0, 1) := by decide +kernel
theorem dX4_send_5 : decode cX4_send 5 = .ok (.getfield 70, 3) := by decide +kernel
theorem dX4_send_8 : decode cX4_send 8 = .ok (.iload_n 1, 1) := by decide +kernel
theorem dX4_send_9 : decode cX4_send 9 = .ok (.aload_n 0, 1) := by decide +kernel
theorem dX4_send_10 : decode cX4_send 10 = .ok (.getfield 79, 3) := by decide +kernel
theorem dX4_send_13 : decode cX4_send 13 = .ok (.invokevirtual 203, 3) := by decide +kernel
theorem dX4_send_16 : decode cX4_send 16 = .ok (.aload_n 0, 1) := by decide +kernel
theorem dX4_send_17 : decode cX4_send 17 = .ok (.getfield 30, 3) := by decide +kernel
theorem dX4_send_20 : decode cX4_send 20 = .ok (.iconst 0, 1) := by decide +kernel
theorem dX4_send_21 : decode cX4_send 21 = .ok (.dup2, 1) := by decide +kernel
theorem dX4_send_22 : decode cX4_send 22 = .ok (.iaload, 1) := by decide +kernel
theorem dX4_send_23 : decode cX4_send 23 = .ok (.iconst 1, 1) := by decide +kernel
theorem dX4_send_24 : decode cX4_send 24 = .ok (.iadd, 1) := by decide +kernel
theorem dX4_send_25 : decode cX4_send 25 = .ok (.iastore, 1) := by decide +kernel
theorem dX4_send_26 : decode cX4_send 26 = .ok (.aload_n 0, 1) := by decide +kernel
theorem dX4_send_27 : decode cX4_send 27 = .ok (.aload_n 0, 1) := by decide +kernel
theorem dX4_send_28 : decode cX4_send 28 = .ok (.invokevirtual 207, 3) := by decide +kernel
theorem dX4_send_31 : decode cX4_send 31 = .ok (.invokevirtual 76, 3) := by decide +kernel
theorem dX4_send_34 : decode cX4_send 34 = .ok (.iload_n 1, 1) := by decide +kernel
theorem dX4_send_35 : decode cX4_send 35 = .ok (.bipush 96, 2) := by decide +kernel
theorem dX4_send_37 : decode cX4_send 37 = .ok (.if_icmp .lt 11, 3) := by decide +kernel
theorem dX4_send_40 : decode cX4_send 40 = .ok (.aload_n 0, 1) := by decide +kernel
theorem dX4_send_41 : decode cX4_send 41 = .ok (.iload_n 1, 1) := by decide +kernel
theorem dX4_send_42 : decode cX4_send 42 = .ok (.bipush 96, 2) := by decide +kernel
theorem dX4_send_44 : decode cX4_send 44 = .ok (.isub, 1) := by decide +kernel
theorem dX4_send_45 : decode cX4_send 45 = .ok (.invokevirtual 210, 3) := by decide +kernel
theorem dX4_send_48 : decode cX4_send 48 = .ok (.aload_n 0, 1) := by decide +kernel
theorem dX4_send_49 : decode cX4_send 49 = .ok (.invokevirtual 95, 3) := by decide +kernel
theorem dX4_send_52 : decode cX4_send 52 = .ok (.iload_n 1, 1) := by decide +kernel
theorem dX4_send_53 : decode cX4_send 53 = .ok (.bipush 32, 2) := by decide +kernel
theorem dX4_send_55 : decode cX4_send 55 = .ok (.if_icmp .ge 11, 3) := by decide +kernel
theorem dX4_send_58 : decode cX4_send 58 = .ok (.aload_n 0, 1) := by decide +kernel
theorem dX4_send_59 : decode cX4_send 59 = .ok (.iload_n 1, 1) := by decide +kernel
theorem dX4_send_60 : decode cX4_send 60 = .ok (.invokevirtual 213, 3) := by decide +kernel
theorem dX4_send_63 : decode cX4_send 63 = .ok (.goto 62, 3) := by decide +kernel
theorem dX4_send_66 : decode cX4_send 66 = .ok (.iload_n 1, 1) := by decide +kernel
theorem dX4_send_67 : decode cX4_send 67 = .ok (.bipush 63, 2) := by decide +kernel
theorem dX4_send_69 : decode cX4_send 69 = .ok (.if_icmp .ge 14, 3) := by decide +kernel
theorem dX4_send_72 : decode cX4_send 72 = .ok (.aload_n 0, 1) := by decide +kernel
theorem dX4_send_73 : decode cX4_send 73 = .ok (.iload_n 1, 1) := by decide +kernel
theorem dX4_send_74 : decode cX4_send 74 = .ok (.bipush 32, 2) := by decide +kernel
theorem dX4_send_76 : decode cX4_send 76 = .ok (.isub, 1) := by decide +kernel
theorem dX4_send_77 : decode cX4_send 77 = .ok (.invokevirtual 216, 3) := by decide +kernel
theorem dX4_send_80 : decode cX4_send 80 = .ok (.goto 45, 3) := by decide +kernel
theorem dX4_send_83 : decode cX4_send 83 = .ok (.iload_n 1, 1) := by decide +kernel
theorem dX4_send_84 : decode cX4_send 84 = .ok (.bipush 63, 2) := by decide +kernel
theorem dX4_send_86 : decode cX4_send 86 = .ok (.if_icmp .ne 10, 3) := by decide +kernel
theorem dX4_send_89 : decode cX4_send 89 = .ok (.aload_n 0, 1) := by decide +kernel
theorem dX4_send_90 : decode cX4_send 90 = .ok (.invokevirtual 92, 3) := by decide +kernel
theorem dX4_send_93 : decode cX4_send 93 = .ok (.goto 32, 3) := by decide +kernel
theorem dX4_send_96 : decode cX4_send 96 = .ok (.iload_n 1, 1) := by decide +kernel
theorem dX4_send_97 : decode cX4_send 97 = .ok (.bipush 95, 2) := by decide +kernel
theorem dX4_send_99 : decode cX4_send 99 = .ok (.if_icmp .ge 14, 3) := by decide +kernel
theorem dX4_send_102 : decode cX4_send 102 = .ok (.aload_n 0, 1) := by decide +kernel
theorem dX4_send_103 : decode cX4_send 103 = .ok (.iload_n 1, 1) := by decide +kernel
theorem dX4_send_104 : decode cX4_send 104 = .ok (.bipush 64, 2) := by decide +kernel
theorem dX4_send_106 : decode cX4_send 106 = .ok (.isub, 1) := by decide +kernel
theorem dX4_send_107 : decode cX4_send 107 = .ok (.invokevirtual 219, 3) := by decide +kernel
theorem dX4_send_110 : decode cX4_send 110 = .ok (.goto 15, 3) := by decide +kernel
theorem dX4_send_113 : decode cX4_send 113 = .ok (.iload_n 1, 1) := by decide +kernel
theorem dX4_send_114 : decode cX4_send 114 = .ok (.bipush 95, 2) := by decide +kernel
theorem dX4_send_116 : decode cX4_send 116 = .ok (.if_icmp .ne 9, 3) := by decide +kernel
theorem dX4_send_119 : decode cX4_send 119 = .ok (.aload_n 0, 1) := by decide +kernel
theorem dX4_send_120 : decode cX4_send 120 = .ok (.bipush (-4), 2) := by decide +kernel
theorem dX4_send_122 : decode cX4_send 122 = .ok (.putfield 89, 3) := by decide +kernel
theorem dX4_send_125 : decode cX4_send 125 = .ok (.aload_n 0, 1) := by decide +kernel
theorem dX4_send_126 : decode cX4_send 126 = .ok (.iload_n 1, 1) := by decide +kernel
theorem dX4_send_127 : decode cX4_send 127 = .ok (.putfield 183, 3) := by decide +kernel
theorem dX4_send_130 : decode cX4_send 130 = .ok (.return_, 1) := by decide +kernel
theorem dX4_obeyPlain_0 : decode cX4_obeyPlain 0 = .ok (.iload_n 1, 1) := by decide +kernel
theorem dX4_obeyPlain_1 : decode cX4_obeyPlain 1 = .ok (.tableswitch 136 9 25 #[83, 136, 136, 136, 136, 136, 136, 136, 106, 136, 136, 106, 106, 136, 136, 90, 98], 83) := by decide +kernel
theorem dX4_obeyPlain_84 : decode cX4_obeyPlain 84 = .ok (.aload_n 0, 1) := by decide +kernel
theorem dX4_obeyPlain_85 : decode cX4_obeyPlain 85 = .ok (.invokevirtual 222, 3) := by decide +kernel
theorem dX4_obeyPlain_88 : decode cX4_obeyPlain 88 = .ok (.goto 88, 3) := by decide +kernel
theorem dX4_obeyPlain_91 : decode cX4_obeyPlain 91 = .ok (.aload_n 0, 1) := by decide +kernel
theorem dX4_obeyPlain_92 : decode cX4_obeyPlain 92 = .ok (.iconst 1, 1) := by decide +kernel
theorem dX4_obeyPlain_93 : decode cX4_obeyPlain 93 = .ok (.putfield 98, 3) := by decide +kernel
theorem dX4_obeyPlain_96 : decode cX4_obeyPlain 96 = .ok (.goto 80, 3) := by decide +kernel
theorem dX4_obeyPlain_99 : decode cX4_obeyPlain 99 = .ok (.aload_n 0, 1) := by decide +kernel
theorem dX4_obeyPlain_100 : decode cX4_obeyPlain 100 = .ok (.iconst 0, 1) := by decide +kernel
theorem dX4_obeyPlain_101 : decode cX4_obeyPlain 101 = .ok (.putfield 98, 3) := by decide +kernel
theorem dX4_obeyPlain_104 : decode cX4_obeyPlain 104 = .ok (.goto 72, 3) := by decide +kernel
theorem dX4_obeyPlain_107 : decode cX4_obeyPlain 107 = .ok (.iconst 0, 1) := by decide +kernel
theorem dX4_obeyPlain_108 : decode cX4_obeyPlain 108 = .ok (.istore_n 2, 1) := by decide +kernel
theorem dX4_obeyPlain_109 : decode cX4_obeyPlain 109 = .ok (.iload_n 2, 1) := by decide +kernel
theorem dX4_obeyPlain_110 : decode cX4_obeyPlain 110 = .ok (.aload_n 0, 1) := by decide +kernel
theorem dX4_obeyPlain_111 : decode cX4_obeyPlain 111 = .ok (.getfield 63, 3) := by decide +kernel
theorem dX4_obeyPlain_114 : decode cX4_obeyPlain 114 = .ok (.if_icmp .ge 20, 3) := by decide +kernel
theorem dX4_obeyPlain_117 : decode cX4_obeyPlain 117 = .ok (.aload_n 0, 1) := by decide +kernel
theorem dX4_obeyPlain_118 : decode cX4_obeyPlain 118 = .ok (.iload_n 1, 1) := by decide +kernel
theorem dX4_obeyPlain_119 : decode cX4_obeyPlain 119 = .ok (.aload_n 0, 1) := by decide +kernel
theorem dX4_obeyPlain_120 : decode cX4_obeyPlain 120 = .ok (.getfield 18, 3) := by decide +kernel
theorem dX4_obeyPlain_123 : decode cX4_obeyPlain 123 = .ok (.iload_n 2, 1) := by decide +kernel
theorem dX4_obeyPlain_124 : decode cX4_obeyPlain 124 = .ok (.aaload, 1) := by decide +kernel
theorem dX4_obeyPlain_125 : decode cX4_obeyPlain 125 = .ok (.invokevirtual 225, 3) := by decide +kernel
theorem dX4_obeyPlain_128 : decode cX4_obeyPlain 128 = .ok (.iinc 2 1, 3) := by decide +kernel
theorem dX4_obeyPlain_131 : decode cX4_obeyPlain 131 = .ok (.goto (-22), 3) := by decide +kernel
theorem dX4_obeyPlain_134 : decode cX4_obeyPlain 134 = .ok (.goto 42, 3) := by decide +kernel
theorem dX4_obeyPlain_137 : decode cX4_obeyPlain 137 = .ok (.iconst 0, 1) := by decide +kernel
theorem dX4_obeyPlain_138 : decode cX4_obeyPlain 138 = .ok (.istore_n 2, 1) := by decide +kernel
theorem dX4_obeyPlain_139 : decode cX4_obeyPlain 139 = .ok (.iload_n 2, 1) := by decide +kernel
theorem dX4_obeyPlain_140 : decode cX4_obeyPlain 140 = .ok (.aload_n 0, 1) := by decide +kernel
theorem dX4_obeyPlain_141 : decode cX4_obeyPlain 141 = .ok (.getfield 63, 3) := by decide +kernel
theorem dX4_obeyPlain_144 : decode cX4_obeyPlain 144 = .ok (.if_icmp .ge 32, 3) := by decide +kernel
theorem dX4_obeyPlain_147 : decode cX4_obeyPlain 147 = .ok (.aload_n 0, 1) := by decide +kernel
theorem dX4_obeyPlain_148 : decode cX4_obeyPlain 148 = .ok (.getfield 18, 3) := by decide +kernel
theorem dX4_obeyPlain_151 : decode cX4_obeyPlain 151 = .ok (.iload_n 2, 1) := by decide +kernel
theorem dX4_obeyPlain_152 : decode cX4_obeyPlain 152 = .ok (.aaload, 1) := by decide +kernel
theorem dX4_obeyPlain_153 : decode cX4_obeyPlain 153 = .ok (.getfield 229, 3) := by decide +kernel
theorem dX4_obeyPlain_156 : decode cX4_obeyPlain 156 = .ok (.ifCond .eq 14, 3) := by decide +kernel
theorem dX4_obeyPlain_159 : decode cX4_obeyPlain 159 = .ok (.aload_n 0, 1) := by decide +kernel
theorem dX4_obeyPlain_160 : decode cX4_obeyPlain 160 = .ok (.iload_n 1, 1) := by decide +kernel
theorem dX4_obeyPlain_161 : decode cX4_obeyPlain 161 = .ok (.aload_n 0, 1) := by decide +kernel
theorem dX4_obeyPlain_162 : decode cX4_obeyPlain 162 = .ok (.getfield 18, 3) := by decide +kernel
theorem dX4_obeyPlain_165 : decode cX4_obeyPlain 165 = .ok (.iload_n 2, 1) := by decide +kernel
theorem dX4_obeyPlain_166 : decode cX4_obeyPlain 166 = .ok (.aaload, 1) := by decide +kernel
theorem dX4_obeyPlain_167 : decode cX4_obeyPlain 167 = .ok (.invokevirtual 232, 3) := by decide +kernel
theorem dX4_obeyPlain_170 : decode cX4_obeyPlain 170 = .ok (.iinc 2 1, 3) := by decide +kernel
theorem dX4_obeyPlain_173 : decode cX4_obeyPlain 173 = .ok (.goto (-34), 3) := by decide +kernel
theorem dX4_obeyPlain_176 : decode cX4_obeyPlain 176 = .ok (.return_, 1) := by decide +kernel
theorem dX4_obeyAsOneOfAll_0 : decode cX4_obeyAsOneOfAll 0 = .ok (.iload_n 1, 1) := by decide +kernel
theorem dX4_obeyAsOneOfAll_1 : decode cX4_obeyAsOneOfAll 1 = .ok (.bipush 17, 2) := by decide +kernel
theorem dX4_obeyAsOneOfAll_3 : decode cX4_obeyAsOneOfAll 3 = .ok (.if_icmp .ne 11, 3) := by decide +kernel
theorem dX4_obeyAsOneOfAll_6 : decode cX4_obeyAsOneOfAll 6 = .ok (.aload_n 2, 1) := by decide +kernel
theorem dX4_obeyAsOneOfAll_7 : decode cX4_obeyAsOneOfAll 7 = .ok (.iconst 1, 1) := by decide +kernel
theorem dX4_obeyAsOneOfAll_8 : decode cX4_obeyAsOneOfAll 8 = .ok (.putfield 128, 3) := by decide +kernel
theorem dX4_obeyAsOneOfAll_11 : decode cX4_obeyAsOneOfAll 11 = .ok (.goto 22, 3) := by decide +kernel
theorem dX4_obeyAsOneOfAll_14 : decode cX4_obeyAsOneOfAll 14 = .ok (.iload_n 1, 1) := by decide +kernel
theorem dX4_obeyAsOneOfAll_15 : decode cX4_obeyAsOneOfAll 15 = .ok (.bipush 20, 2) := by decide +kernel
theorem dX4_obeyAsOneOfAll_17 : decode cX4_obeyAsOneOfAll 17 = .ok (.if_icmp .ne 10, 3) := by decide +kernel
theorem dX4_obeyAsOneOfAll_20 : decode cX4_obeyAsOneOfAll 20 = .ok (.aload_n 2, 1) := by decide +kernel
theorem dX4_obeyAsOneOfAll_21 : decode cX4_obeyAsOneOfAll 21 = .ok (.invokevirtual 235, 3) := by decide +kernel
theorem dX4_obeyAsOneOfAll_24 : decode cX4_obeyAsOneOfAll 24 = .ok (.goto 9, 3) := by decide +kernel
theorem dX4_obeyAsOneOfAll_27 : decode cX4_obeyAsOneOfAll 27 = .ok (.aload_n 2, 1) := by decide +kernel
theorem dX4_obeyAsOneOfAll_28 : decode cX4_obeyAsOneOfAll 28 = .ok (.bipush (-4), 2) := by decide +kernel
theorem dX4_obeyAsOneOfAll_30 : decode cX4_obeyAsOneOfAll 30 = .ok (.putfield 238, 3) := by decide +kernel
theorem dX4_obeyAsOneOfAll_33 : decode cX4_obeyAsOneOfAll 33 = .ok (.return_, 1) := by decide +kernel
theorem dX4_obeyAsListener_0 : decode cX4_obeyAsListener 0 = .ok (.iload_n 1, 1) := by decide +kernel
theorem dX4_obeyAsListener_1 : decode cX4_obeyAsListener 1 = .ok (.iconst 1, 1) := by decide +kernel
theorem dX4_obeyAsListener_2 : decode cX4_obeyAsListener 2 = .ok (.if_icmp .ne 11, 3) := by decide +kernel
theorem dX4_obeyAsListener_5 : decode cX4_obeyAsListener 5 = .ok (.aload_n 2, 1) := by decide +kernel
theorem dX4_obeyAsListener_6 : decode cX4_obeyAsListener 6 = .ok (.iconst 0, 1) := by decide +kernel
theorem dX4_obeyAsListener_7 : decode cX4_obeyAsListener 7 = .ok (.putfield 131, 3) := by decide +kernel
theorem dX4_obeyAsListener_10 : decode cX4_obeyAsListener 10 = .ok (.goto 39, 3) := by decide +kernel
theorem dX4_obeyAsListener_13 : decode cX4_obeyAsListener 13 = .ok (.iload_n 1, 1) := by decide +kernel
theorem dX4_obeyAsListener_14 : decode cX4_obeyAsListener 14 = .ok (.iconst 4, 1) := by decide +kernel
theorem dX4_obeyAsListener_15 : decode cX4_obeyAsListener 15 = .ok (.if_icmp .ne 10, 3) := by decide +kernel
theorem dX4_obeyAsListener_18 : decode cX4_obeyAsListener 18 = .ok (.aload_n 2, 1) := by decide +kernel
theorem dX4_obeyAsListener_19 : decode cX4_obeyAsListener 19 = .ok (.invokevirtual 235, 3) := by decide +kernel
theorem dX4_obeyAsListener_22 : decode cX4_obeyAsListener 22 = .ok (.goto 27, 3) := by decide +kernel
theorem dX4_obeyAsListener_25 : decode cX4_obeyAsListener 25 = .ok (.iload_n 1, 1) := by decide +kernel
theorem dX4_obeyAsListener_26 : decode cX4_obeyAsListener 26 = .ok (.iconst 5, 1) := by decide +kernel
theorem dX4_obeyAsListener_27 : decode cX4_obeyAsListener 27 = .ok (.if_icmp .ne 11, 3) := by decide +kernel
theorem dX4_obeyAsListener_30 : decode cX4_obeyAsListener 30 = .ok (.aload_n 2, 1) := by decide +kernel
theorem dX4_obeyAsListener_31 : decode cX4_obeyAsListener 31 = .ok (.iconst 1, 1) := by decide +kernel
theorem dX4_obeyAsListener_32 : decode cX4_obeyAsListener 32 = .ok (.putfield 241, 3) := by decide +kernel
theorem dX4_obeyAsListener_35 : decode cX4_obeyAsListener 35 = .ok (.goto 14, 3) := by decide +kernel
theorem dX4_obeyAsListener_38 : decode cX4_obeyAsListener 38 = .ok (.iload_n 1, 1) := by decide +kernel
theorem dX4_obeyAsListener_39 : decode cX4_obeyAsListener 39 = .ok (.bipush 8, 2) := by decide +kernel
theorem dX4_obeyAsListener_41 : decode cX4_obeyAsListener 41 = .ok (.if_icmp .ne 8, 3) := by decide +kernel
theorem dX4_obeyAsListener_44 : decode cX4_obeyAsListener 44 = .ok (.aload_n 0, 1) := by decide +kernel
theorem dX4_obeyAsListener_45 : decode cX4_obeyAsListener 45 = .ok (.aload_n 2, 1) := by decide +kernel
theorem dX4_obeyAsListener_46 : decode cX4_obeyAsListener 46 = .ok (.invokevirtual 244, 3) := by decide +kernel
theorem dX4_obeyAsListener_49 : decode cX4_obeyAsListener 49 = .ok (.return_, 1) := by decide +kernel
theorem dX4_triggerOne_0 : decode cX4_triggerOne 0 = .ok (.aload_n 0, 1) := by decide +kernel
theorem dX4_triggerOne_1 : decode cX4_triggerOne 1 = .ok (.getfield 30, 3) := by decide +kernel
theorem dX4_triggerOne_4 : decode cX4_triggerOne 4 = .ok (.bipush 7, 2) := by decide +kernel
theorem dX4_triggerOne_6 : decode cX4_triggerOne 6 = .ok (.dup2, 1) := by decide +kernel
theorem dX4_triggerOne_7 : decode cX4_triggerOne 7 = .ok (.iaload, 1) := by decide +kernel
theorem dX4_triggerOne_8 : decode cX4_triggerOne 8 = .ok (.iconst 1, 1) := by decide +kernel
theorem dX4_triggerOne_9 : decode cX4_triggerOne 9 = .ok (.iadd, 1) := by decide +kernel
theorem dX4_triggerOne_10 : decode cX4_triggerOne 10 = .ok (.iastore, 1) := by decide +kernel
theorem dX4_triggerOne_11 : decode cX4_triggerOne 11 = .ok (.aload_n 1, 1) := by decide +kernel
theorem dX4_triggerOne_12 : decode cX4_triggerOne 12 = .ok (.aload_n 0, 1) := by decide +kernel
theorem dX4_triggerOne_13 : decode cX4_triggerOne 13 = .ok (.getfield 70, 3) := by decide +kernel
theorem dX4_triggerOne_16 : decode cX4_triggerOne 16 = .ok (.invokevirtual 248, 3) := by decide +kernel
theorem dX4_triggerOne_19 : decode cX4_triggerOne 19 = .ok (.aload_n 1, 1) := by decide +kernel
theorem dX4_triggerOne_20 : decode cX4_triggerOne 20 = .ok (.aload_n 0, 1) := by decide +kernel
theorem dX4_triggerOne_21 : decode cX4_triggerOne 21 = .ok (.getfield 70, 3) := by decide +kernel
theorem dX4_triggerOne_24 : decode cX4_triggerOne 24 = .ok (.invokevirtual 186, 3) := by decide +kernel
theorem dX4_triggerOne_27 : decode cX4_triggerOne 27 = .ok (.ifCond .eq 17, 3) := by decide +kernel
theorem dX4_triggerOne_30 : decode cX4_triggerOne 30 = .ok (.aload_n 1, 1) := by decide +kernel
theorem dX4_triggerOne_31 : decode cX4_triggerOne 31 = .ok (.invokevirtual 189, 3) := by decide +kernel
theorem dX4_triggerOne_34 : decode cX4_triggerOne 34 = .ok (.aload_n 0, 1) := by decide +kernel
theorem dX4_triggerOne_35 : decode cX4_triggerOne 35 = .ok (.getfield 30, 3) := by decide +kernel
theorem dX4_triggerOne_38 : decode cX4_triggerOne 38 = .ok (.iconst 3, 1) := by decide +kernel
theorem dX4_triggerOne_39 : decode cX4_triggerOne 39 = .ok (.dup2, 1) := by decide +kernel
theorem dX4_triggerOne_40 : decode cX4_triggerOne 40 = .ok (.iaload, 1) := by decide +kernel
theorem dX4_triggerOne_41 : decode cX4_triggerOne 41 = .ok (.iconst 1, 1) := by decide +kernel
theorem dX4_triggerOne_42 : decode cX4_triggerOne 42 = .ok (.iadd, 1) := by decide +kernel
theorem dX4_triggerOne_43 : decode cX4_triggerOne 43 = .ok (.iastore, 1) := by decide +kernel
theorem dX4_triggerOne_44 : decode cX4_triggerOne 44 = .ok (.return_, 1) := by decide +kernel
theorem dX4_passCharge_0 : decode cX4_passCharge 0 = .ok (.aload_n 0, 1) := by decide +kernel
theorem dX4_passCharge_1 : decode cX4_passCharge 1 = .ok (.aload_n 0, 1) := by decide +kernel
theorem dX4_passCharge_2 : decode cX4_passCharge 2 = .ok (.getfield 89, 3) := by decide +kernel
theorem dX4_passCharge_5 : decode cX4_passCharge 5 = .ok (.invokevirtual 102, 3) := by decide +kernel
theorem dX4_passCharge_8 : decode cX4_passCharge 8 = .ok (.ifCond .eq 55, 3) := by decide +kernel
theorem dX4_passCharge_11 : decode cX4_passCharge 11 = .ok (.aload_n 0, 1) := by decide +kernel
theorem dX4_passCharge_12 : decode cX4_passCharge 12 = .ok (.getfield 89, 3) := by decide +kernel
theorem dX4_passCharge_15 : decode cX4_passCharge 15 = .ok (.aload_n 0, 1) := by decide +kernel
theorem dX4_passCharge_16 : decode cX4_passCharge 16 = .ok (.getfield 79, 3) := by decide +kernel
theorem dX4_passCharge_19 : decode cX4_passCharge 19 = .ok (.if_icmp .eq 44, 3) := by decide +kernel
theorem dX4_passCharge_22 : decode cX4_passCharge 22 = .ok (.aload_n 0, 1) := by decide +kernel
theorem dX4_passCharge_23 : decode cX4_passCharge 23 = .ok (.getfield 18, 3) := by decide +kernel
theorem dX4_passCharge_26 : decode cX4_passCharge 26 = .ok (.aload_n 0, 1) := by decide +kernel
theorem dX4_passCharge_27 : decode cX4_passCharge 27 = .ok (.getfield 89, 3) := by decide +kernel
theorem dX4_passCharge_30 : decode cX4_passCharge 30 = .ok (.aaload, 1) := by decide +kernel
theorem dX4_passCharge_31 : decode cX4_passCharge 31 = .ok (.getfield 251, 3) := by decide +kernel
theorem dX4_passCharge_34 : decode cX4_passCharge 34 = .ok (.iconst 2, 1) := by decide +kernel
theorem dX4_passCharge_35 : decode cX4_passCharge 35 = .ok (.if_icmp .ne 28, 3) := by decide +kernel
theorem dX4_passCharge_38 : decode cX4_passCharge 38 = .ok (.aload_n 0, 1) := by decide +kernel
theorem dX4_passCharge_39 : decode cX4_passCharge 39 = .ok (.aload_n 0, 1) := by decide +kernel
theorem dX4_passCharge_40 : decode cX4_passCharge 40 = .ok (.getfield 89, 3) := by decide +kernel
theorem dX4_passCharge_43 : decode cX4_passCharge 43 = .ok (.putfield 79, 3) := by decide +kernel
theorem dX4_passCharge_46 : decode cX4_passCharge 46 = .ok (.aload_n 0, 1) := by decide +kernel
theorem dX4_passCharge_47 : decode cX4_passCharge 47 = .ok (.bipush (-4), 2) := by decide +kernel
theorem dX4_passCharge_49 : decode cX4_passCharge 49 = .ok (.putfield 89, 3) := by decide +kernel
theorem dX4_passCharge_52 : decode cX4_passCharge 52 = .ok (.aload_n 0, 1) := by decide +kernel
theorem dX4_passCharge_53 : decode cX4_passCharge 53 = .ok (.getfield 30, 3) := by decide +kernel
theorem dX4_passCharge_56 : decode cX4_passCharge 56 = .ok (.bipush 6, 2) := by decide +kernel
theorem dX4_passCharge_58 : decode cX4_passCharge 58 = .ok (.dup2, 1) := by decide +kernel
theorem dX4_passCharge_59 : decode cX4_passCharge 59 = .ok (.iaload, 1) := by decide +kernel
theorem dX4_passCharge_60 : decode cX4_passCharge 60 = .ok (.iconst 1, 1) := by decide +kernel
theorem dX4_passCharge_61 : decode cX4_passCharge 61 = .ok (.iadd, 1) := by decide +kernel
theorem dX4_passCharge_62 : decode cX4_passCharge 62 = .ok (.iastore, 1) := by decide +kernel
theorem dX4_passCharge_63 : decode cX4_passCharge 63 = .ok (.return_, 1) := by decide +kernel
theorem dX4_callListener_0 : decode cX4_callListener 0 = .ok (.iconst 0, 1) := by decide +kernel
theorem dX4_callListener_1 : decode cX4_callListener 1 = .ok (.istore_n 2, 1) := by decide +kernel
theorem dX4_callListener_2 : decode cX4_callListener 2 = .ok (.iload_n 2, 1) := by decide +kernel
theorem dX4_callListener_3 : decode cX4_callListener 3 = .ok (.aload_n 0, 1) := by decide +kernel
theorem dX4_callListener_4 : decode cX4_callListener 4 = .ok (.getfield 63, 3) := by decide +kernel
theorem dX4_callListener_7 : decode cX4_callListener 7 = .ok (.if_icmp .ge 58, 3) := by decide +kernel
theorem dX4_callListener_10 : decode cX4_callListener 10 = .ok (.aload_n 0, 1) := by decide +kernel
theorem dX4_callListener_11 : decode cX4_callListener 11 = .ok (.getfield 18, 3) := by decide +kernel
theorem dX4_callListener_14 : decode cX4_callListener 14 = .ok (.iload_n 2, 1) := by decide +kernel
theorem dX4_callListener_15 : decode cX4_callListener 15 = .ok (.aaload, 1) := by decide +kernel
theorem dX4_callListener_16 : decode cX4_callListener 16 = .ok (.getfield 197, 3) := by decide +kernel
theorem dX4_callListener_19 : decode cX4_callListener 19 = .ok (.iload_n 1, 1) := by decide +kernel
theorem dX4_callListener_20 : decode cX4_callListener 20 = .ok (.if_icmp .ne 39, 3) := by decide +kernel
theorem dX4_callListener_23 : decode cX4_callListener 23 = .ok (.aload_n 0, 1) := by decide +kernel
theorem dX4_callListener_24 : decode cX4_callListener 24 = .ok (.getfield 18, 3) := by decide +kernel
theorem dX4_callListener_27 : decode cX4_callListener 27 = .ok (.iload_n 2, 1) := by decide +kernel
theorem dX4_callListener_28 : decode cX4_callListener 28 = .ok (.aaload, 1) := by decide +kernel
theorem dX4_callListener_29 : decode cX4_callListener 29 = .ok (.getfield 200, 3) := by decide +kernel
theorem dX4_callListener_32 : decode cX4_callListener 32 = .ok (.bipush 31, 2) := by decide +kernel
theorem dX4_callListener_34 : decode cX4_callListener 34 = .ok (.if_icmp .ne 15, 3) := by decide +kernel
theorem dX4_callListener_37 : decode cX4_callListener 37 = .ok (.aload_n 0, 1) := by decide +kernel
theorem dX4_callListener_38 : decode cX4_callListener 38 = .ok (.getfield 18, 3) := by decide +kernel
theorem dX4_callListener_41 : decode cX4_callListener 41 = .ok (.iload_n 2, 1) := by decide +kernel
theorem dX4_callListener_42 : decode cX4_callListener 42 = .ok (.aaload, 1) := by decide +kernel
theorem dX4_callListener_43 : decode cX4_callListener 43 = .ok (.invokevirtual 254, 3) := by decide +kernel
theorem dX4_callListener_46 : decode cX4_callListener 46 = .ok (.goto 13, 3) := by decide +kernel
theorem dX4_callListener_49 : decode cX4_callListener 49 = .ok (.aload_n 0, 1) := by decide +kernel
theorem dX4_callListener_50 : decode cX4_callListener 50 = .ok (.getfield 18, 3) := by decide +kernel
theorem dX4_callListener_53 : decode cX4_callListener 53 = .ok (.iload_n 2, 1) := by decide +kernel
theorem dX4_callListener_54 : decode cX4_callListener 54 = .ok (.aaload, 1) := by decide +kernel
theorem dX4_callListener_55 : decode cX4_callListener 55 = .ok (.iconst 1, 1) := by decide +kernel
theorem dX4_callListener_56 : decode cX4_callListener 56 = .ok (.putfield 257, 3) := by decide +kernel
theorem dX4_callListener_59 : decode cX4_callListener 59 = .ok (.iinc 2 1, 3) := by decide +kernel
theorem dX4_callListener_62 : decode cX4_callListener 62 = .ok (.goto (-60), 3) := by decide +kernel
theorem dX4_callListener_65 : decode cX4_callListener 65 = .ok (.return_, 1) := by decide +kernel
theorem dX4_callTalker_0 : decode cX4_callTalker 0 = .ok (.aload_n 0, 1) := by decide +kernel
theorem dX4_callTalker_1 : decode cX4_callTalker 1 = .ok (.bipush (-4), 2) := by decide +kernel
theorem dX4_callTalker_3 : decode cX4_callTalker 3 = .ok (.putfield 89, 3) := by decide +kernel
theorem dX4_callTalker_6 : decode cX4_callTalker 6 = .ok (.iconst 0, 1) := by decide +kernel
theorem dX4_callTalker_7 : decode cX4_callTalker 7 = .ok (.istore_n 2, 1) := by decide +kernel
theorem dX4_callTalker_8 : decode cX4_callTalker 8 = .ok (.iload_n 2, 1) := by decide +kernel
theorem dX4_callTalker_9 : decode cX4_callTalker 9 = .ok (.aload_n 0, 1) := by decide +kernel
theorem dX4_callTalker_10 : decode cX4_callTalker 10 = .ok (.getfield 63, 3) := by decide +kernel
theorem dX4_callTalker_13 : decode cX4_callTalker 13 = .ok (.if_icmp .ge 54, 3) := by decide +kernel
theorem dX4_callTalker_16 : decode cX4_callTalker 16 = .ok (.aload_n 0, 1) := by decide +kernel
theorem dX4_callTalker_17 : decode cX4_callTalker 17 = .ok (.getfield 18, 3) := by decide +kernel
theorem dX4_callTalker_20 : decode cX4_callTalker 20 = .ok (.iload_n 2, 1) := by decide +kernel
theorem dX4_callTalker_21 : decode cX4_callTalker 21 = .ok (.aaload, 1) := by decide +kernel
theorem dX4_callTalker_22 : decode cX4_callTalker 22 = .ok (.getfield 197, 3) := by decide +kernel
theorem dX4_callTalker_25 : decode cX4_callTalker 25 = .ok (.iload_n 1, 1) := by decide +kernel
theorem dX4_callTalker_26 : decode cX4_callTalker 26 = .ok (.if_icmp .ne 35, 3) := by decide +kernel
theorem dX4_callTalker_29 : decode cX4_callTalker 29 = .ok (.aload_n 0, 1) := by decide +kernel
theorem dX4_callTalker_30 : decode cX4_callTalker 30 = .ok (.getfield 18, 3) := by decide +kernel
theorem dX4_callTalker_33 : decode cX4_callTalker 33 = .ok (.iload_n 2, 1) := by decide +kernel
theorem dX4_callTalker_34 : decode cX4_callTalker 34 = .ok (.aaload, 1) := by decide +kernel
theorem dX4_callTalker_35 : decode cX4_callTalker 35 = .ok (.getfield 200, 3) := by decide +kernel
theorem dX4_callTalker_38 : decode cX4_callTalker 38 = .ok (.bipush 31, 2) := by decide +kernel
theorem dX4_callTalker_40 : decode cX4_callTalker 40 = .ok (.if_icmp .ne 11, 3) := by decide +kernel
theorem dX4_callTalker_43 : decode cX4_callTalker 43 = .ok (.aload_n 0, 1) := by decide +kernel
theorem dX4_callTalker_44 : decode cX4_callTalker 44 = .ok (.iload_n 2, 1) := by decide +kernel
theorem dX4_callTalker_45 : decode cX4_callTalker 45 = .ok (.putfield 89, 3) := by decide +kernel
theorem dX4_callTalker_48 : decode cX4_callTalker 48 = .ok (.goto 13, 3) := by decide +kernel
theorem dX4_callTalker_51 : decode cX4_callTalker 51 = .ok (.aload_n 0, 1) := by decide +kernel
theorem dX4_callTalker_52 : decode cX4_callTalker 52 = .ok (.getfield 18, 3) := by decide +kernel
theorem dX4_callTalker_55 : decode cX4_callTalker 55 = .ok (.iload_n 2, 1) := by decide +kernel
theorem dX4_callTalker_56 : decode cX4_callTalker 56 = .ok (.aaload, 1) := by decide +kernel
theorem dX4_callTalker_57 : decode cX4_callTalker 57 = .ok (.iconst 2, 1) := by decide +kernel
theorem dX4_callTalker_58 : decode cX4_callTalker 58 = .ok (.putfield 257, 3) := by decide +kernel
theorem dX4_callTalker_61 : decode cX4_callTalker 61 = .ok (.iinc 2 1, 3) := by decide +kernel
theorem dX4_callTalker_64 : decode cX4_callTalker 64 = .ok (.goto (-56), 3) := by decide +kernel
theorem dX4_callTalker_67 : decode cX4_callTalker 67 = .ok (.return_, 1) := by decide +kernel
theorem dX4_obeySecond_0 : decode cX4_obeySecond 0 = .ok (.aload_n 0, 1) := by decide +kernel
theorem dX4_obeySecond_1 : decode cX4_obeySecond 1 = .ok (.getfield 183, 3) := by decide +kernel
theorem dX4_obeySecond_4 : decode cX4_obeySecond 4 = .ok (.iconst 5, 1) := by decide +kernel
theorem dX4_obeySecond_5 : decode cX4_obeySecond 5 = .ok (.if_icmp .ne 11, 3) := by decide +kernel
theorem dX4_obeySecond_8 : decode cX4_obeySecond 8 = .ok (.aload_n 0, 1) := by decide +kernel
theorem dX4_obeySecond_9 : decode cX4_obeySecond 9 = .ok (.iload_n 1, 1) := by decide +kernel
theorem dX4_obeySecond_10 : decode cX4_obeySecond 10 = .ok (.invokevirtual 260, 3) := by decide +kernel
theorem dX4_obeySecond_13 : decode cX4_obeySecond 13 = .ok (.goto 14, 3) := by decide +kernel
theorem dX4_obeySecond_16 : decode cX4_obeySecond 16 = .ok (.iload_n 1, 1) := by decide +kernel
theorem dX4_obeySecond_17 : decode cX4_obeySecond 17 = .ok (.bipush 31, 2) := by decide +kernel
theorem dX4_obeySecond_19 : decode cX4_obeySecond 19 = .ok (.if_icmp .eq 8, 3) := by decide +kernel
theorem dX4_obeySecond_22 : decode cX4_obeySecond 22 = .ok (.aload_n 0, 1) := by decide +kernel
theorem dX4_obeySecond_23 : decode cX4_obeySecond 23 = .ok (.iload_n 1, 1) := by decide +kernel
theorem dX4_obeySecond_24 : decode cX4_obeySecond 24 = .ok (.invokevirtual 263, 3) := by decide +kernel
theorem dX4_obeySecond_27 : decode cX4_obeySecond 27 = .ok (.return_, 1) := by decide +kernel
theorem dX4_setLines_0 : decode cX4_setLines 0 = .ok (.iconst 0, 1) := by decide +kernel
theorem dX4_setLines_1 : decode cX4_setLines 1 = .ok (.istore_n 2, 1) := by decide +kernel
theorem dX4_setLines_2 : decode cX4_setLines 2 = .ok (.iload_n 2, 1) := by decide +kernel
theorem dX4_setLines_3 : decode cX4_setLines 3 = .ok (.aload_n 0, 1) := by decide +kernel
theorem dX4_setLines_4 : decode cX4_setLines 4 = .ok (.getfield 63, 3) := by decide +kernel
theorem dX4_setLines_7 : decode cX4_setLines 7 = .ok (.if_icmp .ge 66, 3) := by decide +kernel
theorem dX4_setLines_10 : decode cX4_setLines 10 = .ok (.aload_n 0, 1) := by decide +kernel
theorem dX4_setLines_11 : decode cX4_setLines 11 = .ok (.getfield 18, 3) := by decide +kernel
theorem dX4_setLines_14 : decode cX4_setLines 14 = .ok (.iload_n 2, 1) := by decide +kernel
theorem dX4_setLines_15 : decode cX4_setLines 15 = .ok (.aaload, 1) := by decide +kernel
theorem dX4_setLines_16 : decode cX4_setLines 16 = .ok (.getfield 241, 3) := by decide +kernel
theorem dX4_setLines_19 : decode cX4_setLines 19 = .ok (.ifCond .eq 48, 3) := by decide +kernel
theorem dX4_setLines_22 : decode cX4_setLines 22 = .ok (.iload_n 1, 1) := by decide +kernel
theorem dX4_setLines_23 : decode cX4_setLines 23 = .ok (.bipush 16, 2) := by decide +kernel
theorem dX4_setLines_25 : decode cX4_setLines 25 = .ok (.if_icmp .ge 31, 3) := by decide +kernel
theorem dX4_setLines_28 : decode cX4_setLines 28 = .ok (.aload_n 0, 1) := by decide +kernel
theorem dX4_setLines_29 : decode cX4_setLines 29 = .ok (.getfield 18, 3) := by decide +kernel
theorem dX4_setLines_32 : decode cX4_setLines 32 = .ok (.iload_n 2, 1) := by decide +kernel
theorem dX4_setLines_33 : decode cX4_setLines 33 = .ok (.aaload, 1) := by decide +kernel
theorem dX4_setLines_34 : decode cX4_setLines 34 = .ok (.iload_n 1, 1) := by decide +kernel
theorem dX4_setLines_35 : decode cX4_setLines 35 = .ok (.bipush 7, 2) := by decide +kernel
theorem dX4_setLines_37 : decode cX4_setLines 37 = .ok (.iand, 1) := by decide +kernel
theorem dX4_setLines_38 : decode cX4_setLines 38 = .ok (.putfield 238, 3) := by decide +kernel
theorem dX4_setLines_41 : decode cX4_setLines 41 = .ok (.aload_n 0, 1) := by decide +kernel
theorem dX4_setLines_42 : decode cX4_setLines 42 = .ok (.getfield 18, 3) := by decide +kernel
theorem dX4_setLines_45 : decode cX4_setLines 45 = .ok (.iload_n 2, 1) := by decide +kernel
theorem dX4_setLines_46 : decode cX4_setLines 46 = .ok (.aaload, 1) := by decide +kernel
theorem dX4_setLines_47 : decode cX4_setLines 47 = .ok (.iload_n 1, 1) := by decide +kernel
theorem dX4_setLines_48 : decode cX4_setLines 48 = .ok (.iconst 3, 1) := by decide +kernel
theorem dX4_setLines_49 : decode cX4_setLines 49 = .ok (.ishr, 1) := by decide +kernel
theorem dX4_setLines_50 : decode cX4_setLines 50 = .ok (.putfield 266, 3) := by decide +kernel
theorem dX4_setLines_53 : decode cX4_setLines 53 = .ok (.goto 14, 3) := by decide +kernel
theorem dX4_setLines_56 : decode cX4_setLines 56 = .ok (.aload_n 0, 1) := by decide +kernel
theorem dX4_setLines_57 : decode cX4_setLines 57 = .ok (.getfield 18, 3) := by decide +kernel
theorem dX4_setLines_60 : decode cX4_setLines 60 = .ok (.iload_n 2, 1) := by decide +kernel
theorem dX4_setLines_61 : decode cX4_setLines 61 = .ok (.aaload, 1) := by decide +kernel
theorem dX4_setLines_62 : decode cX4_setLines 62 = .ok (.bipush (-4), 2) := by decide +kernel
theorem dX4_setLines_64 : decode cX4_setLines 64 = .ok (.putfield 238, 3) := by decide +kernel
theorem dX4_setLines_67 : decode cX4_setLines 67 = .ok (.iinc 2 1, 3) := by decide +kernel
theorem dX4_setLines_70 : decode cX4_setLines 70 = .ok (.goto (-68), 3) := by decide +kernel
theorem dX4_setLines_73 : decode cX4_setLines 73 = .ok (.return_, 1) := by decide +kernel
theorem dX4_answerSecond_0 : decode cX4_answerSecond 0 = .ok (.iconst 0, 1) := by decide +kernel
theorem dX4_answerSecond_1 : decode cX4_answerSecond 1 = .ok (.istore_n 2, 1) := by decide +kernel
theorem dX4_answerSecond_2 : decode cX4_answerSecond 2 = .ok (.iload_n 2, 1) := by decide +kernel
theorem dX4_answerSecond_3 : decode cX4_answerSecond 3 = .ok (.aload_n 0, 1) := by decide +kernel
theorem dX4_answerSecond_4 : decode cX4_answerSecond 4 = .ok (.getfield 63, 3) := by decide +kernel
theorem dX4_answerSecond_7 : decode cX4_answerSecond 7 = .ok (.if_icmp .ge 65, 3) := by decide +kernel
theorem dX4_answerSecond_10 : decode cX4_answerSecond 10 = .ok (.aload_n 0, 1) := by decide +kernel
theorem dX4_answerSecond_11 : decode cX4_answerSecond 11 = .ok (.getfield 18, 3) := by decide +kernel
theorem dX4_answerSecond_14 : decode cX4_answerSecond 14 = .ok (.iload_n 2, 1) := by decide +kernel
theorem dX4_answerSecond_15 : decode cX4_answerSecond 15 = .ok (.aaload, 1) := by decide +kernel
theorem dX4_answerSecond_16 : decode cX4_answerSecond 16 = .ok (.getfield 200, 3) := by decide +kernel
theorem dX4_answerSecond_19 : decode cX4_answerSecond 19 = .ok (.iload_n 1, 1) := by decide +kernel
theorem dX4_answerSecond_20 : decode cX4_answerSecond 20 = .ok (.if_icmp .ne 46, 3) := by decide +kernel
theorem dX4_answerSecond_23 : decode cX4_answerSecond 23 = .ok (.aload_n 0, 1) := by decide +kernel
theorem dX4_answerSecond_24 : decode cX4_answerSecond 24 = .ok (.getfield 18, 3) := by decide +kernel
theorem dX4_answerSecond_27 : decode cX4_answerSecond 27 = .ok (.iload_n 2, 1) := by decide +kernel
theorem dX4_answerSecond_28 : decode cX4_answerSecond 28 = .ok (.aaload, 1) := by decide +kernel
theorem dX4_answerSecond_29 : decode cX4_answerSecond 29 = .ok (.getfield 257, 3) := by decide +kernel
theorem dX4_answerSecond_32 : decode cX4_answerSecond 32 = .ok (.iconst 1, 1) := by decide +kernel
theorem dX4_answerSecond_33 : decode cX4_answerSecond 33 = .ok (.if_icmp .ne 15, 3) := by decide +kernel
theorem dX4_answerSecond_36 : decode cX4_answerSecond 36 = .ok (.aload_n 0, 1) := by decide +kernel
theorem dX4_answerSecond_37 : decode cX4_answerSecond 37 = .ok (.getfield 18, 3) := by decide +kernel
theorem dX4_answerSecond_40 : decode cX4_answerSecond 40 = .ok (.iload_n 2, 1) := by decide +kernel
theorem dX4_answerSecond_41 : decode cX4_answerSecond 41 = .ok (.aaload, 1) := by decide +kernel
theorem dX4_answerSecond_42 : decode cX4_answerSecond 42 = .ok (.invokevirtual 254, 3) := by decide +kernel
theorem dX4_answerSecond_45 : decode cX4_answerSecond 45 = .ok (.goto 21, 3) := by decide +kernel
theorem dX4_answerSecond_48 : decode cX4_answerSecond 48 = .ok (.aload_n 0, 1) := by decide +kernel
theorem dX4_answerSecond_49 : decode cX4_answerSecond 49 = .ok (.getfield 18, 3) := by decide +kernel
theorem dX4_answerSecond_52 : decode cX4_answerSecond 52 = .ok (.iload_n 2, 1) := by decide +kernel
theorem dX4_answerSecond_53 : decode cX4_answerSecond 53 = .ok (.aaload, 1) := by decide +kernel
theorem dX4_answerSecond_54 : decode cX4_answerSecond 54 = .ok (.getfield 257, 3) := by decide +kernel
theorem dX4_answerSecond_57 : decode cX4_answerSecond 57 = .ok (.iconst 2, 1) := by decide +kernel
theorem dX4_answerSecond_58 : decode cX4_answerSecond 58 = .ok (.if_icmp .ne 8, 3) := by decide +kernel
theorem dX4_answerSecond_61 : decode cX4_answerSecond 61 = .ok (.aload_n 0, 1) := by decide +kernel
theorem dX4_answerSecond_62 : decode cX4_answerSecond 62 = .ok (.iload_n 2, 1) := by decide +kernel
theorem dX4_answerSecond_63 : decode cX4_answerSecond 63 = .ok (.putfield 89, 3) := by decide +kernel
theorem dX4_answerSecond_66 : decode cX4_answerSecond 66 = .ok (.iinc 2 1, 3) := by decide +kernel
theorem dX4_answerSecond_69 : decode cX4_answerSecond 69 = .ok (.goto (-67), 3) := by decide +kernel
theorem dX4_answerSecond_72 : decode cX4_answerSecond 72 = .ok (.return_, 1) := by decide +kernel
theorem dX4_endListening_0 : decode cX4_endListening 0 = .ok (.iconst 0, 1) := by decide +kernel
theorem dX4_endListening_1 : decode cX4_endListening 1 = .ok (.istore_n 1, 1) := by decide +kernel
theorem dX4_endListening_2 : decode cX4_endListening 2 = .ok (.iload_n 1, 1) := by decide +kernel
theorem dX4_endListening_3 : decode cX4_endListening 3 = .ok (.aload_n 0, 1) := by decide +kernel
theorem dX4_endListening_4 : decode cX4_endListening 4 = .ok (.getfield 63, 3) := by decide +kernel
theorem dX4_endListening_7 : decode cX4_endListening 7 = .ok (.if_icmp .ge 19, 3) := by decide +kernel
theorem dX4_endListening_10 : decode cX4_endListening 10 = .ok (.aload_n 0, 1) := by decide +kernel
theorem dX4_endListening_11 : decode cX4_endListening 11 = .ok (.getfield 18, 3) := by decide +kernel
theorem dX4_endListening_14 : decode cX4_endListening 14 = .ok (.iload_n 1, 1) := by decide +kernel
theorem dX4_endListening_15 : decode cX4_endListening 15 = .ok (.aaload, 1) := by decide +kernel
theorem dX4_endListening_16 : decode cX4_endListening 16 = .ok (.iconst 0, 1) := by decide +kernel
theorem dX4_endListening_17 : decode cX4_endListening 17 = .ok (.putfield 229, 3) := by decide +kernel
theorem dX4_endListening_20 : decode cX4_endListening 20 = .ok (.iinc 1 1, 3) := by decide +kernel
theorem dX4_endListening_23 : decode cX4_endListening 23 = .ok (.goto (-21), 3) := by decide +kernel
theorem dX4_endListening_26 : decode cX4_endListening 26 = .ok (.return_, 1) := by decide +kernel
theorem dX4_endNamedAndPrepared_0 : decode cX4_endNamedAndPrepared 0 = .ok (.iconst 0, 1) := by decide +kernel
theorem dX4_endNamedAndPrepared_1 : decode cX4_endNamedAndPrepared 1 = .ok (.istore_n 1, 1) := by decide +kernel
theorem dX4_endNamedAndPrepared_2 : decode cX4_endNamedAndPrepared 2 = .ok (.iload_n 1, 1) := by decide +kernel
theorem dX4_endNamedAndPrepared_3 : decode cX4_endNamedAndPrepared 3 = .ok (.aload_n 0, 1) := by decide +kernel
theorem dX4_endNamedAndPrepared_4 : decode cX4_endNamedAndPrepared 4 = .ok (.getfield 63, 3) := by decide +kernel
theorem dX4_endNamedAndPrepared_7 : decode cX4_endNamedAndPrepared 7 = .ok (.if_icmp .ge 29, 3) := by decide +kernel
theorem dX4_endNamedAndPrepared_10 : decode cX4_endNamedAndPrepared 10 = .ok (.aload_n 0, 1) := by decide +kernel
theorem dX4_endNamedAndPrepared_11 : decode cX4_endNamedAndPrepared 11 = .ok (.getfield 18, 3) := by decide +kernel
theorem dX4_endNamedAndPrepared_14 : decode cX4_endNamedAndPrepared 14 = .ok (.iload_n 1, 1) := by decide +kernel
theorem dX4_endNamedAndPrepared_15 : decode cX4_endNamedAndPrepared 15 = .ok (.aaload, 1) := by decide +kernel
theorem dX4_endNamedAndPrepared_16 : decode cX4_endNamedAndPrepared 16 = .ok (.iconst 0, 1) := by decide +kernel
theorem dX4_endNamedAndPrepared_17 : decode cX4_endNamedAndPrepared 17 = .ok (.putfield 257, 3) := by decide +kernel
theorem dX4_endNamedAndPrepared_20 : decode cX4_endNamedAndPrepared 20 = .ok (.aload_n 0, 1) := by decide +kernel
theorem dX4_endNamedAndPrepared_21 : decode cX4_endNamedAndPrepared 21 = .ok (.getfield 18, 3) := by decide +kernel
theorem dX4_endNamedAndPrepared_24 : decode cX4_endNamedAndPrepared 24 = .ok (.iload_n 1, 1) := by decide +kernel
theorem dX4_endNamedAndPrepared_25 : decode cX4_endNamedAndPrepared 25 = .ok (.aaload, 1) := by decide +kernel
theorem dX4_endNamedAndPrepared_26 : decode cX4_endNamedAndPrepared 26 = .ok (.iconst 0, 1) := by decide +kernel
theorem dX4_endNamedAndPrepared_27 : decode cX4_endNamedAndPrepared 27 = .ok (.putfield 241, 3) := by decide +kernel
theorem dX4_endNamedAndPrepared_30 : decode cX4_endNamedAndPrepared 30 = .ok (.iinc 1 1, 3) := by decide +kernel
theorem dX4_endNamedAndPrepared_33 : decode cX4_endNamedAndPrepared 33 = .ok (.goto (-31), 3) := by decide +kernel
theorem dX4_endNamedAndPrepared_36 : decode cX4_endNamedAndPrepared 36 = .ok (.return_, 1) := by decide +kernel
theorem dX4_takesBytes_0 : decode cX4_takesBytes 0 = .ok (.iload_n 1, 1) := by decide +kernel
theorem dX4_takesBytes_1 : decode cX4_takesBytes 1 = .ok (.aload_n 0, 1) := by decide +kernel
theorem dX4_takesBytes_2 : decode cX4_takesBytes 2 = .ok (.getfield 89, 3) := by decide +kernel
theorem dX4_takesBytes_5 : decode cX4_takesBytes 5 = .ok (.if_icmp .eq 19, 3) := by decide +kernel
theorem dX4_takesBytes_8 : decode cX4_takesBytes 8 = .ok (.aload_n 0, 1) := by decide +kernel
theorem dX4_takesBytes_9 : decode cX4_takesBytes 9 = .ok (.getfield 18, 3) := by decide +kernel
theorem dX4_takesBytes_12 : decode cX4_takesBytes 12 = .ok (.iload_n 1, 1) := by decide +kernel
theorem dX4_takesBytes_13 : decode cX4_takesBytes 13 = .ok (.aaload, 1) := by decide +kernel
theorem dX4_takesBytes_14 : decode cX4_takesBytes 14 = .ok (.getfield 229, 3) := by decide +kernel
theorem dX4_takesBytes_17 : decode cX4_takesBytes 17 = .ok (.ifCond .eq 7, 3) := by decide +kernel
theorem dX4_takesBytes_20 : decode cX4_takesBytes 20 = .ok (.iconst 1, 1) := by decide +kernel
theorem dX4_takesBytes_21 : decode cX4_takesBytes 21 = .ok (.goto 4, 3) := by decide +kernel
theorem dX4_takesBytes_24 : decode cX4_takesBytes 24 = .ok (.iconst 0, 1) := by decide +kernel
theorem dX4_takesBytes_25 : decode cX4_takesBytes 25 = .ok (.ireturn, 1) := by decide +kernel
theorem dX4_ticksOfNextByte_0 : decode cX4_ticksOfNextByte 0 = .ok (.aload_n 0, 1) := by decide +kernel
theorem dX4_ticksOfNextByte_1 : decode cX4_ticksOfNextByte 1 = .ok (.aload_n 0, 1) := by decide +kernel
theorem dX4_ticksOfNextByte_2 : decode cX4_ticksOfNextByte 2 = .ok (.getfield 89, 3) := by decide +kernel
theorem dX4_ticksOfNextByte_5 : decode cX4_ticksOfNextByte 5 = .ok (.invokevirtual 102, 3) := by decide +kernel
theorem dX4_ticksOfNextByte_8 : decode cX4_ticksOfNextByte 8 = .ok (.ifCond .eq 28, 3) := by decide +kernel
theorem dX4_ticksOfNextByte_11 : decode cX4_ticksOfNextByte 11 = .ok (.aload_n 0, 1) := by decide +kernel
theorem dX4_ticksOfNextByte_12 : decode cX4_ticksOfNextByte 12 = .ok (.getfield 98, 3) := by decide +kernel
theorem dX4_ticksOfNextByte_15 : decode cX4_ticksOfNextByte 15 = .ok (.ifCond .ne 24, 3) := by decide +kernel
theorem dX4_ticksOfNextByte_18 : decode cX4_ticksOfNextByte 18 = .ok (.aload_n 0, 1) := by decide +kernel
theorem dX4_ticksOfNextByte_19 : decode cX4_ticksOfNextByte 19 = .ok (.getfield 18, 3) := by decide +kernel
theorem dX4_ticksOfNextByte_22 : decode cX4_ticksOfNextByte 22 = .ok (.aload_n 0, 1) := by decide +kernel
theorem dX4_ticksOfNextByte_23 : decode cX4_ticksOfNextByte 23 = .ok (.getfield 89, 3) := by decide +kernel
theorem dX4_ticksOfNextByte_26 : decode cX4_ticksOfNextByte 26 = .ok (.aaload, 1) := by decide +kernel
theorem dX4_ticksOfNextByte_27 : decode cX4_ticksOfNextByte 27 = .ok (.getfield 106, 3) := by decide +kernel
theorem dX4_ticksOfNextByte_30 : decode cX4_ticksOfNextByte 30 = .ok (.getfield 269, 3) := by decide +kernel
theorem dX4_ticksOfNextByte_33 : decode cX4_ticksOfNextByte 33 = .ok (.ifCond .ne 6, 3) := by decide +kernel
theorem dX4_ticksOfNextByte_36 : decode cX4_ticksOfNextByte 36 = .ok (.bipush (-2), 2) := by decide +kernel
theorem dX4_ticksOfNextByte_38 : decode cX4_ticksOfNextByte 38 = .ok (.ireturn, 1) := by decide +kernel
theorem dX4_ticksOfNextByte_39 : decode cX4_ticksOfNextByte 39 = .ok (.iconst 0, 1) := by decide +kernel
theorem dX4_ticksOfNextByte_40 : decode cX4_ticksOfNextByte 40 = .ok (.istore_n 1, 1) := by decide +kernel
theorem dX4_ticksOfNextByte_41 : decode cX4_ticksOfNextByte 41 = .ok (.iconst 0, 1) := by decide +kernel
theorem dX4_ticksOfNextByte_42 : decode cX4_ticksOfNextByte 42 = .ok (.istore_n 2, 1) := by decide +kernel
theorem dX4_ticksOfNextByte_43 : decode cX4_ticksOfNextByte 43 = .ok (.iload_n 2, 1) := by decide +kernel
theorem dX4_ticksOfNextByte_44 : decode cX4_ticksOfNextByte 44 = .ok (.aload_n 0, 1) := by decide +kernel
theorem dX4_ticksOfNextByte_45 : decode cX4_ticksOfNextByte 45 = .ok (.getfield 63, 3) := by decide +kernel
theorem dX4_ticksOfNextByte_48 : decode cX4_ticksOfNextByte 48 = .ok (.if_icmp .ge 51, 3) := by decide +kernel
theorem dX4_ticksOfNextByte_51 : decode cX4_ticksOfNextByte 51 = .ok (.aload_n 0, 1) := by decide +kernel
theorem dX4_ticksOfNextByte_52 : decode cX4_ticksOfNextByte 52 = .ok (.iload_n 2, 1) := by decide +kernel
theorem dX4_ticksOfNextByte_53 : decode cX4_ticksOfNextByte 53 = .ok (.invokevirtual 270, 3) := by decide +kernel
theorem dX4_ticksOfNextByte_56 : decode cX4_ticksOfNextByte 56 = .ok (.ifCond .eq 37, 3) := by decide +kernel
theorem dX4_ticksOfNextByte_59 : decode cX4_ticksOfNextByte 59 = .ok (.aload_n 0, 1) := by decide +kernel
theorem dX4_ticksOfNextByte_60 : decode cX4_ticksOfNextByte 60 = .ok (.getfield 18, 3) := by decide +kernel
theorem dX4_ticksOfNextByte_63 : decode cX4_ticksOfNextByte 63 = .ok (.iload_n 2, 1) := by decide +kernel
theorem dX4_ticksOfNextByte_64 : decode cX4_ticksOfNextByte 64 = .ok (.aaload, 1) := by decide +kernel
theorem dX4_ticksOfNextByte_65 : decode cX4_ticksOfNextByte 65 = .ok (.getfield 113, 3) := by decide +kernel
theorem dX4_ticksOfNextByte_68 : decode cX4_ticksOfNextByte 68 = .ok (.getfield 269, 3) := by decide +kernel
theorem dX4_ticksOfNextByte_71 : decode cX4_ticksOfNextByte 71 = .ok (.bipush 12, 2) := by decide +kernel
theorem dX4_ticksOfNextByte_73 : decode cX4_ticksOfNextByte 73 = .ok (.if_icmp .lt 6, 3) := by decide +kernel
theorem dX4_ticksOfNextByte_76 : decode cX4_ticksOfNextByte 76 = .ok (.bipush (-2), 2) := by decide +kernel
theorem dX4_ticksOfNextByte_78 : decode cX4_ticksOfNextByte 78 = .ok (.ireturn, 1) := by decide +kernel
theorem dX4_ticksOfNextByte_79 : decode cX4_ticksOfNextByte 79 = .ok (.iload_n 1, 1) := by decide +kernel
theorem dX4_ticksOfNextByte_80 : decode cX4_ticksOfNextByte 80 = .ok (.aload_n 0, 1) := by decide +kernel
theorem dX4_ticksOfNextByte_81 : decode cX4_ticksOfNextByte 81 = .ok (.getfield 18, 3) := by decide +kernel
theorem dX4_ticksOfNextByte_84 : decode cX4_ticksOfNextByte 84 = .ok (.iload_n 2, 1) := by decide +kernel
theorem dX4_ticksOfNextByte_85 : decode cX4_ticksOfNextByte 85 = .ok (.aaload, 1) := by decide +kernel
theorem dX4_ticksOfNextByte_86 : decode cX4_ticksOfNextByte 86 = .ok (.getfield 144, 3) := by decide +kernel
theorem dX4_ticksOfNextByte_89 : decode cX4_ticksOfNextByte 89 = .ok (.invokestatic 192, 3) := by decide +kernel
theorem dX4_ticksOfNextByte_92 : decode cX4_ticksOfNextByte 92 = .ok (.istore_n 1, 1) := by decide +kernel
theorem dX4_ticksOfNextByte_93 : decode cX4_ticksOfNextByte 93 = .ok (.iinc 2 1, 3) := by decide +kernel
theorem dX4_ticksOfNextByte_96 : decode cX4_ticksOfNextByte 96 = .ok (.goto (-53), 3) := by decide +kernel
theorem dX4_ticksOfNextByte_99 : decode cX4_ticksOfNextByte 99 = .ok (.iload_n 1, 1) := by decide +kernel
theorem dX4_ticksOfNextByte_100 : decode cX4_ticksOfNextByte 100 = .ok (.ifCond .ne 8, 3) := by decide +kernel
theorem dX4_ticksOfNextByte_103 : decode cX4_ticksOfNextByte 103 = .ok (.bipush (-2), 2) := by decide +kernel
theorem dX4_ticksOfNextByte_105 : decode cX4_ticksOfNextByte 105 = .ok (.goto 6, 3) := by decide +kernel
theorem dX4_ticksOfNextByte_108 : decode cX4_ticksOfNextByte 108 = .ok (.iload_n 1, 1) := by decide +kernel
theorem dX4_ticksOfNextByte_109 : decode cX4_ticksOfNextByte 109 = .ok (.iconst 2, 1) := by decide +kernel
theorem dX4_ticksOfNextByte_110 : decode cX4_ticksOfNextByte 110 = .ok (.iadd, 1) := by decide +kernel
theorem dX4_ticksOfNextByte_111 : decode cX4_ticksOfNextByte 111 = .ok (.ireturn, 1) := by decide +kernel
theorem dX4_giveByte_0 : decode cX4_giveByte 0 = .ok (.aload_n 0, 1) := by decide +kernel
theorem dX4_giveByte_1 : decode cX4_giveByte 1 = .ok (.invokevirtual 166, 3) := by decide +kernel
theorem dX4_giveByte_4 : decode cX4_giveByte 4 = .ok (.istore_n 1, 1) := by decide +kernel
theorem dX4_giveByte_5 : decode cX4_giveByte 5 = .ok (.iload_n 1, 1) := by decide +kernel
theorem dX4_giveByte_6 : decode cX4_giveByte 6 = .ok (.bipush (-2), 2) := by decide +kernel
theorem dX4_giveByte_8 : decode cX4_giveByte 8 = .ok (.if_icmp .eq 14, 3) := by decide +kernel
theorem dX4_giveByte_11 : decode cX4_giveByte 11 = .ok (.aload_n 0, 1) := by decide +kernel
theorem dX4_giveByte_12 : decode cX4_giveByte 12 = .ok (.aload_n 0, 1) := by decide +kernel
theorem dX4_giveByte_13 : decode cX4_giveByte 13 = .ok (.getfield 89, 3) := by decide +kernel
theorem dX4_giveByte_16 : decode cX4_giveByte 16 = .ok (.invokevirtual 102, 3) := by decide +kernel
theorem dX4_giveByte_19 : decode cX4_giveByte 19 = .ok (.ifCond .ne 6, 3) := by decide +kernel
theorem dX4_giveByte_22 : decode cX4_giveByte 22 = .ok (.bipush (-2), 2) := by decide +kernel
theorem dX4_giveByte_24 : decode cX4_giveByte 24 = .ok (.ireturn, 1) := by decide +kernel
theorem dX4_giveByte_25 : decode cX4_giveByte 25 = .ok (.aload_n 0, 1) := by decide +kernel
theorem dX4_giveByte_26 : decode cX4_giveByte 26 = .ok (.iload_n 1, 1) := by decide +kernel
theorem dX4_giveByte_27 : decode cX4_giveByte 27 = .ok (.invokevirtual 76, 3) := by decide +kernel
theorem dX4_giveByte_30 : decode cX4_giveByte 30 = .ok (.aload_n 0, 1) := by decide +kernel
theorem dX4_giveByte_31 : decode cX4_giveByte 31 = .ok (.getfield 98, 3) := by decide +kernel
theorem dX4_giveByte_34 : decode cX4_giveByte 34 = .ok (.ifCond .eq 32, 3) := by decide +kernel
theorem dX4_giveByte_37 : decode cX4_giveByte 37 = .ok (.aload_n 0, 1) := by decide +kernel
theorem dX4_giveByte_38 : decode cX4_giveByte 38 = .ok (.getfield 18, 3) := by decide +kernel
theorem dX4_giveByte_41 : decode cX4_giveByte 41 = .ok (.aload_n 0, 1) := by decide +kernel
theorem dX4_giveByte_42 : decode cX4_giveByte 42 = .ok (.getfield 89, 3) := by decide +kernel
theorem dX4_giveByte_45 : decode cX4_giveByte 45 = .ok (.aaload, 1) := by decide +kernel
theorem dX4_giveByte_46 : decode cX4_giveByte 46 = .ok (.invokevirtual 119, 3) := by decide +kernel
theorem dX4_giveByte_49 : decode cX4_giveByte 49 = .ok (.istore_n 2, 1) := by decide +kernel
theorem dX4_giveByte_50 : decode cX4_giveByte 50 = .ok (.aload_n 0, 1) := by decide +kernel
theorem dX4_giveByte_51 : decode cX4_giveByte 51 = .ok (.getfield 18, 3) := by decide +kernel
theorem dX4_giveByte_54 : decode cX4_giveByte 54 = .ok (.aload_n 0, 1) := by decide +kernel
theorem dX4_giveByte_55 : decode cX4_giveByte 55 = .ok (.getfield 89, 3) := by decide +kernel
theorem dX4_giveByte_58 : decode cX4_giveByte 58 = .ok (.aaload, 1) := by decide +kernel
theorem dX4_giveByte_59 : decode cX4_giveByte 59 = .ok (.iconst 0, 1) := by decide +kernel
theorem dX4_giveByte_60 : decode cX4_giveByte 60 = .ok (.putfield 125, 3) := by decide +kernel
theorem dX4_giveByte_63 : decode cX4_giveByte 63 = .ok (.goto 19, 3) := by decide +kernel
theorem dX4_giveByte_66 : decode cX4_giveByte 66 = .ok (.aload_n 0, 1) := by decide +kernel
theorem dX4_giveByte_67 : decode cX4_giveByte 67 = .ok (.getfield 18, 3) := by decide +kernel
theorem dX4_giveByte_70 : decode cX4_giveByte 70 = .ok (.aload_n 0, 1) := by decide +kernel
theorem dX4_giveByte_71 : decode cX4_giveByte 71 = .ok (.getfield 89, 3) := by decide +kernel
theorem dX4_giveByte_74 : decode cX4_giveByte 74 = .ok (.aaload, 1) := by decide +kernel
theorem dX4_giveByte_75 : decode cX4_giveByte 75 = .ok (.getfield 106, 3) := by decide +kernel
theorem dX4_giveByte_78 : decode cX4_giveByte 78 = .ok (.invokevirtual 116, 3) := by decide +kernel
theorem dX4_giveByte_81 : decode cX4_giveByte 81 = .ok (.istore_n 2, 1) := by decide +kernel
theorem dX4_giveByte_82 : decode cX4_giveByte 82 = .ok (.iconst 0, 1) := by decide +kernel
theorem dX4_giveByte_83 : decode cX4_giveByte 83 = .ok (.istore_n 3, 1) := by decide +kernel
theorem dX4_giveByte_84 : decode cX4_giveByte 84 = .ok (.iload_n 3, 1) := by decide +kernel
theorem dX4_giveByte_85 : decode cX4_giveByte 85 = .ok (.aload_n 0, 1) := by decide +kernel
theorem dX4_giveByte_86 : decode cX4_giveByte 86 = .ok (.getfield 63, 3) := by decide +kernel
theorem dX4_giveByte_89 : decode cX4_giveByte 89 = .ok (.if_icmp .ge 41, 3) := by decide +kernel
theorem dX4_giveByte_92 : decode cX4_giveByte 92 = .ok (.aload_n 0, 1) := by decide +kernel
theorem dX4_giveByte_93 : decode cX4_giveByte 93 = .ok (.iload_n 3, 1) := by decide +kernel
theorem dX4_giveByte_94 : decode cX4_giveByte 94 = .ok (.invokevirtual 270, 3) := by decide +kernel
theorem dX4_giveByte_97 : decode cX4_giveByte 97 = .ok (.ifCond .eq 27, 3) := by decide +kernel
theorem dX4_giveByte_100 : decode cX4_giveByte 100 = .ok (.aload_n 0, 1) := by decide +kernel
theorem dX4_giveByte_101 : decode cX4_giveByte 101 = .ok (.getfield 18, 3) := by decide +kernel
theorem dX4_giveByte_104 : decode cX4_giveByte 104 = .ok (.iload_n 3, 1) := by decide +kernel
theorem dX4_giveByte_105 : decode cX4_giveByte 105 = .ok (.aaload, 1) := by decide +kernel
theorem dX4_giveByte_106 : decode cX4_giveByte 106 = .ok (.getfield 113, 3) := by decide +kernel
theorem dX4_giveByte_109 : decode cX4_giveByte 109 = .ok (.iload_n 2, 1) := by decide +kernel
theorem dX4_giveByte_110 : decode cX4_giveByte 110 = .ok (.invokevirtual 110, 3) := by decide +kernel
theorem dX4_giveByte_113 : decode cX4_giveByte 113 = .ok (.pop, 1) := by decide +kernel
theorem dX4_giveByte_114 : decode cX4_giveByte 114 = .ok (.aload_n 0, 1) := by decide +kernel
theorem dX4_giveByte_115 : decode cX4_giveByte 115 = .ok (.getfield 30, 3) := by decide +kernel
theorem dX4_giveByte_118 : decode cX4_giveByte 118 = .ok (.iconst 2, 1) := by decide +kernel
theorem dX4_giveByte_119 : decode cX4_giveByte 119 = .ok (.dup2, 1) := by decide +kernel
theorem dX4_giveByte_120 : decode cX4_giveByte 120 = .ok (.iaload, 1) := by decide +kernel
theorem dX4_giveByte_121 : decode cX4_giveByte 121 = .ok (.iconst 1, 1) := by decide +kernel
theorem dX4_giveByte_122 : decode cX4_giveByte 122 = .ok (.iadd, 1) := by decide +kernel
theorem dX4_giveByte_123 : decode cX4_giveByte 123 = .ok (.iastore, 1) := by decide +kernel
theorem dX4_giveByte_124 : decode cX4_giveByte 124 = .ok (.iinc 3 1, 3) := by decide +kernel
theorem dX4_giveByte_127 : decode cX4_giveByte 127 = .ok (.goto (-43), 3) := by decide +kernel
theorem dX4_giveByte_130 : decode cX4_giveByte 130 = .ok (.aload_n 0, 1) := by decide +kernel
theorem dX4_giveByte_131 : decode cX4_giveByte 131 = .ok (.getfield 30, 3) := by decide +kernel
theorem dX4_giveByte_134 : decode cX4_giveByte 134 = .ok (.iconst 1, 1) := by decide +kernel
theorem dX4_giveByte_135 : decode cX4_giveByte 135 = .ok (.dup2, 1) := by decide +kernel
theorem dX4_giveByte_136 : decode cX4_giveByte 136 = .ok (.iaload, 1) := by decide +kernel
theorem dX4_giveByte_137 : decode cX4_giveByte 137 = .ok (.iconst 1, 1) := by decide +kernel
theorem dX4_giveByte_138 : decode cX4_giveByte 138 = .ok (.iadd, 1) := by decide +kernel
theorem dX4_giveByte_139 : decode cX4_giveByte 139 = .ok (.iastore, 1) := by decide +kernel
theorem dX4_giveByte_140 : decode cX4_giveByte 140 = .ok (.iload_n 2, 1) := by decide +kernel
theorem dX4_giveByte_141 : decode cX4_giveByte 141 = .ok (.ireturn, 1) := by decide +kernel
theorem dX4_listenerBits_0 : decode cX4_listenerBits 0 = .ok (.iconst 0, 1) := by decide +kernel
theorem dX4_listenerBits_1 : decode cX4_listenerBits 1 = .ok (.istore_n 1, 1) := by decide +kernel
theorem dX4_listenerBits_2 : decode cX4_listenerBits 2 = .ok (.iconst 0, 1) := by decide +kernel
theorem dX4_listenerBits_3 : decode cX4_listenerBits 3 = .ok (.istore_n 2, 1) := by decide +kernel
theorem dX4_listenerBits_4 : decode cX4_listenerBits 4 = .ok (.iload_n 2, 1) := by decide +kernel
theorem dX4_listenerBits_5 : decode cX4_listenerBits 5 = .ok (.aload_n 0, 1) := by decide +kernel
theorem dX4_listenerBits_6 : decode cX4_listenerBits 6 = .ok (.getfield 63, 3) := by decide +kernel
theorem dX4_listenerBits_9 : decode cX4_listenerBits 9 = .ok (.if_icmp .ge 27, 3) := by decide +kernel
theorem dX4_listenerBits_12 : decode cX4_listenerBits 12 = .ok (.aload_n 0, 1) := by decide +kernel
theorem dX4_listenerBits_13 : decode cX4_listenerBits 13 = .ok (.getfield 18, 3) := by decide +kernel
theorem dX4_listenerBits_16 : decode cX4_listenerBits 16 = .ok (.iload_n 2, 1) := by decide +kernel
theorem dX4_listenerBits_17 : decode cX4_listenerBits 17 = .ok (.aaload, 1) := by decide +kernel
theorem dX4_listenerBits_18 : decode cX4_listenerBits 18 = .ok (.getfield 229, 3) := by decide +kernel
theorem dX4_listenerBits_21 : decode cX4_listenerBits 21 = .ok (.ifCond .eq 9, 3) := by decide +kernel
theorem dX4_listenerBits_24 : decode cX4_listenerBits 24 = .ok (.iload_n 1, 1) := by decide +kernel
theorem dX4_listenerBits_25 : decode cX4_listenerBits 25 = .ok (.iconst 1, 1) := by decide +kernel
theorem dX4_listenerBits_26 : decode cX4_listenerBits 26 = .ok (.iload_n 2, 1) := by decide +kernel
theorem dX4_listenerBits_27 : decode cX4_listenerBits 27 = .ok (.ishl, 1) := by decide +kernel
theorem dX4_listenerBits_28 : decode cX4_listenerBits 28 = .ok (.ior, 1) := by decide +kernel
theorem dX4_listenerBits_29 : decode cX4_listenerBits 29 = .ok (.istore_n 1, 1) := by decide +kernel
theorem dX4_listenerBits_30 : decode cX4_listenerBits 30 = .ok (.iinc 2 1, 3) := by decide +kernel
theorem dX4_listenerBits_33 : decode cX4_listenerBits 33 = .ok (.goto (-29), 3) := by decide +kernel
theorem dX4_listenerBits_36 : decode cX4_listenerBits 36 = .ok (.iload_n 1, 1) := by decide +kernel
theorem dX4_listenerBits_37 : decode cX4_listenerBits 37 = .ok (.ireturn, 1) := by decide +kernel
theorem dX4_someoneAsks_0 : decode cX4_someoneAsks 0 = .ok (.iconst 0, 1) := by decide +kernel
theorem dX4_someoneAsks_1 : decode cX4_someoneAsks 1 = .ok (.istore_n 1, 1) := by decide +kernel
theorem dX4_someoneAsks_2 : decode cX4_someoneAsks 2 = .ok (.iload_n 1, 1) := by decide +kernel
theorem dX4_someoneAsks_3 : decode cX4_someoneAsks 3 = .ok (.aload_n 0, 1) := by decide +kernel
theorem dX4_someoneAsks_4 : decode cX4_someoneAsks 4 = .ok (.getfield 63, 3) := by decide +kernel
theorem dX4_someoneAsks_7 : decode cX4_someoneAsks 7 = .ok (.if_icmp .ge 23, 3) := by decide +kernel
theorem dX4_someoneAsks_10 : decode cX4_someoneAsks 10 = .ok (.aload_n 0, 1) := by decide +kernel
theorem dX4_someoneAsks_11 : decode cX4_someoneAsks 11 = .ok (.getfield 18, 3) := by decide +kernel
theorem dX4_someoneAsks_14 : decode cX4_someoneAsks 14 = .ok (.iload_n 1, 1) := by decide +kernel
theorem dX4_someoneAsks_15 : decode cX4_someoneAsks 15 = .ok (.aaload, 1) := by decide +kernel
theorem dX4_someoneAsks_16 : decode cX4_someoneAsks 16 = .ok (.getfield 125, 3) := by decide +kernel
theorem dX4_someoneAsks_19 : decode cX4_someoneAsks 19 = .ok (.ifCond .eq 5, 3) := by decide +kernel
theorem dX4_someoneAsks_22 : decode cX4_someoneAsks 22 = .ok (.iconst 1, 1) := by decide +kernel
theorem dX4_someoneAsks_23 : decode cX4_someoneAsks 23 = .ok (.ireturn, 1) := by decide +kernel
theorem dX4_someoneAsks_24 : decode cX4_someoneAsks 24 = .ok (.iinc 1 1, 3) := by decide +kernel
theorem dX4_someoneAsks_27 : decode cX4_someoneAsks 27 = .ok (.goto (-25), 3) := by decide +kernel
theorem dX4_someoneAsks_30 : decode cX4_someoneAsks 30 = .ok (.iconst 0, 1) := by decide +kernel
theorem dX4_someoneAsks_31 : decode cX4_someoneAsks 31 = .ok (.ireturn, 1) := by decide +kernel
end
section
theorem dX5_init_0 : decode cX5_init 0 = .ok (.aload_n 0, 1) := by decide +kernel
theorem dX5_init_1 : decode cX5_init 1 = .ok (.invokespecial 1, 3) := by decide +kernel
theorem dX5_init_4 : decode cX5_init 4 = .ok (.aload_n 0, 1) := by decide +kernel
theorem dX5_init_5 : decode cX5_init 5 = .ok (.sipush 200, 3) := by decide +kernel
theorem dX5_init_8 : decode cX5_init 8 = .ok (.newarray .int, 2) := by decide +kernel
theorem dX5_init_10 : decode cX5_init 10 = .ok (.putfield 7, 3) := by decide +kernel
theorem dX5_init_13 : decode cX5_init 13 = .ok (.aload_n 0, 1) := by decide +kernel
theorem dX5_init_14 : decode cX5_init 14 = .ok (.bipush 108, 2) := by decide +kernel
theorem dX5_init_16 : decode cX5_init 16 = .ok (.newarray .int, 2) := by decide +kernel
theorem dX5_init_18 : decode cX5_init 18 = .ok (.putfield 13, 3) := by decide +kernel
theorem dX5_init_21 : decode cX5_init 21 = .ok (.aload_n 0, 1) := by decide +kernel
theorem dX5_init_22 : decode cX5_init 22 = .ok (.sipush 144, 3) := by decide +kernel
theorem dX5_init_25 : decode cX5_init 25 = .ok (.newarray .int, 2) := by decide +kernel
theorem dX5_init_27 : decode cX5_init 27 = .ok (.putfield 16, 3) := by decide +kernel
theorem dX5_init_30 : decode cX5_init 30 = .ok (.aload_n 0, 1) := by decide +kernel
theorem dX5_init_31 : decode cX5_init 31 = .ok (.bipush 8, 2) := by decide +kernel
theorem dX5_init_33 : decode cX5_init 33 = .ok (.newarray .int, 2) := by decide +kernel
theorem dX5_init_35 : decode cX5_init 35 = .ok (.putfield 19, 3) := by decide +kernel
theorem dX5_init_38 : decode cX5_init 38 = .ok (.aload_n 0, 1) := by decide +kernel
theorem dX5_init_39 : decode cX5_init 39 = .ok (.bipush 16, 2) := by decide +kernel
theorem dX5_init_41 : decode cX5_init 41 = .ok (.newarray .int, 2) := by decide +kernel
theorem dX5_init_43 : decode cX5_init 43 = .ok (.putfield 22, 3) := by decide +kernel
theorem dX5_init_46 : decode cX5_init 46 = .ok (.aload_n 0, 1) := by decide +kernel
theorem dX5_init_47 : decode cX5_init 47 = .ok (.bipush 16, 2) := by decide +kernel
theorem dX5_init_49 : decode cX5_init 49 = .ok (.newarray .int, 2) := by decide +kernel
theorem dX5_init_51 : decode cX5_init 51 = .ok (.putfield 25, 3) := by decide +kernel
theorem dX5_init_54 : decode cX5_init 54 = .ok (.aload_n 0, 1) := by decide +kernel
theorem dX5_init_55 : decode cX5_init 55 = .ok (.bipush 16, 2) := by decide +kernel
theorem dX5_init_57 : decode cX5_init 57 = .ok (.newarray .int, 2) := by decide +kernel
theorem dX5_init_59 : decode cX5_init 59 = .ok (.putfield 28, 3) := by decide +kernel
theorem dX5_init_62 : decode cX5_init 62 = .ok (.aload_n 0, 1) := by decide +kernel
theorem dX5_init_63 : decode cX5_init 63 = .ok (.bipush 30, 2) := by decide +kernel
theorem dX5_init_65 : decode cX5_init 65 = .ok (.newarray .int, 2) := by decide +kernel
theorem dX5_init_67 : decode cX5_init 67 = .ok (.putfield 31, 3) := by decide +kernel
theorem dX5_init_70 : decode cX5_init 70 = .ok (.aload_n 0, 1) := by decide +kernel
theorem dX5_init_71 : decode cX5_init 71 = .ok (.bipush 30, 2) := by decide +kernel
theorem dX5_init_73 : decode cX5_init 73 = .ok (.newarray .int, 2) := by decide +kernel
theorem dX5_init_75 : decode cX5_init 75 = .ok (.dup, 1) := by decide +kernel
theorem dX5_init_76 : decode cX5_init 76 = .ok (.iconst 0, 1) := by decide +kernel
theorem dX5_init_77 : decode cX5_init 77 = .ok (.iconst 2, 1) := by decide +kernel
theorem dX5_init_78 : decode cX5_init 78 = .ok (.iastore, 1) := by decide +kernel
theorem dX5_init_79 : decode cX5_init 79 = .ok (.dup, 1) := by decide +kernel
theorem dX5_init_80 : decode cX5_init 80 = .ok (.iconst 1, 1) := by decide +kernel
theorem dX5_init_81 : decode cX5_init 81 = .ok (.iconst 0, 1) := by decide +kernel
theorem dX5_init_82 : decode cX5_init 82 = .ok (.iastore, 1) := by decide +kernel
theorem dX5_init_83 : decode cX5_init 83 = .ok (.dup, 1) := by decide +kernel
theorem dX5_init_84 : decode cX5_init 84 = .ok (.iconst 2, 1) := by decide +kernel
theorem dX5_init_85 : decode cX5_init 85 = .ok (.bipush 31, 2) := by decide +kernel
theorem dX5_init_87 : decode cX5_init 87 = .ok (.iastore, 1) := by decide +kernel
theorem dX5_init_88 : decode cX5_init 88 = .ok (.dup, 1) := by decide +kernel
theorem dX5_init_89 : decode cX5_init 89 = .ok (.iconst 3, 1) := by decide +kernel
theorem dX5_init_90 : decode cX5_init 90 = .ok (.iconst 1, 1) := by decide +kernel
theorem dX5_init_91 : decode cX5_init 91 = .ok (.iastore, 1) := by decide +kernel
theorem dX5_init_92 : decode cX5_init 92 = .ok (.dup, 1) := by decide +kernel
theorem dX5_init_93 : decode cX5_init 93 = .ok (.iconst 4, 1) := by decide +kernel
theorem dX5_init_94 : decode cX5_init 94 = .ok (.iconst 0, 1) := by decide +kernel
theorem dX5_init_95 : decode cX5_init 95 = .ok (.iastore, 1) := by decide +kernel
theorem dX5_init_96 : decode cX5_init 96 = .ok (.dup, 1) := by decide +kernel
theorem dX5_init_97 : decode cX5_init 97 = .ok (.iconst 5, 1) := by decide +kernel
theorem dX5_init_98 : decode cX5_init 98 = .ok (.iconst 1, 1) := by decide +kernel
theorem dX5_init_99 : decode cX5_init 99 = .ok (.iastore, 1) := by decide +kernel
theorem dX5_init_100 : decode cX5_init 100 = .ok (.dup, 1) := by decide +kernel
theorem dX5_init_101 : decode cX5_init 101 = .ok (.bipush 6, 2) := by decide +kernel
theorem dX5_init_103 : decode cX5_init 103 = .ok (.iconst 4, 1) := by decide +kernel
theorem dX5_init_104 : decode cX5_init 104 = .ok (.iastore, 1) := by decide +kernel
theorem dX5_init_105 : decode cX5_init 105 = .ok (.dup, 1) := by decide +kernel
theorem dX5_init_106 : decode cX5_init 106 = .ok (.bipush 7, 2) := by decide +kernel
theorem dX5_init_108 : decode cX5_init 108 = .ok (.bipush 31, 2) := by decide +kernel
theorem dX5_init_110 : decode cX5_init 110 = .ok (.iastore, 1) := by decide +kernel
theorem dX5_init_111 : decode cX5_init 111 = .ok (.dup, 1) := by decide +kernel
theorem dX5_init_112 : decode cX5_init 112 = .ok (.bipush 8, 2) := by decide +kernel
theorem dX5_init_114 : decode cX5_init 114 = .ok (.iconst 2, 1) := by decide +kernel
theorem dX5_init_115 : decode cX5_init 115 = .ok (.iastore, 1) := by decide +kernel
theorem dX5_init_116 : decode cX5_init 116 = .ok (.dup, 1) := by decide +kernel
theorem dX5_init_117 : decode cX5_init 117 = .ok (.bipush 9, 2) := by decide +kernel
theorem dX5_init_119 : decode cX5_init 119 = .ok (.iconst 5, 1) := by decide +kernel
theorem dX5_init_120 : decode cX5_init 120 = .ok (.iastore, 1) := by decide +kernel
theorem dX5_init_121 : decode cX5_init 121 = .ok (.dup, 1) := by decide +kernel
theorem dX5_init_122 : decode cX5_init 122 = .ok (.bipush 10, 2) := by decide +kernel
theorem dX5_init_124 : decode cX5_init 124 = .ok (.iconst 0, 1) := by decide +kernel
theorem dX5_init_125 : decode cX5_init 125 = .ok (.iastore, 1) := by decide +kernel
theorem dX5_init_126 : decode cX5_init 126 = .ok (.dup, 1) := by decide +kernel
theorem dX5_init_127 : decode cX5_init 127 = .ok (.bipush 11, 2) := by decide +kernel
theorem dX5_init_129 : decode cX5_init 129 = .ok (.bipush 7, 2) := by decide +kernel
theorem dX5_init_131 : decode cX5_init 131 = .ok (.iastore, 1) := by decide +kernel
theorem dX5_init_132 : decode cX5_init 132 = .ok (.dup, 1) := by decide +kernel
theorem dX5_init_133 : decode cX5_init 133 = .ok (.bipush 12, 2) := by decide +kernel
theorem dX5_init_135 : decode cX5_init 135 = .ok (.iconst 1, 1) := by decide +kernel
theorem dX5_init_136 : decode cX5_init 136 = .ok (.iastore, 1) := by decide +kernel
theorem dX5_init_137 : decode cX5_init 137 = .ok (.dup, 1) := by decide +kernel
theorem dX5_init_138 : decode cX5_init 138 = .ok (.bipush 13, 2) := by decide +kernel
theorem dX5_init_140 : decode cX5_init 140 = .ok (.iconst 1, 1) := by decide +kernel
theorem dX5_init_141 : decode cX5_init 141 = .ok (.iastore, 1) := by decide +kernel
theorem dX5_init_142 : decode cX5_init 142 = .ok (.dup, 1) := by decide +kernel
theorem dX5_init_143 : decode cX5_init 143 = .ok (.bipush 14, 2) := by decide +kernel
theorem dX5_init_145 : decode cX5_init 145 = .ok (.iconst 0, 1) := by decide +kernel
theorem dX5_init_146 : decode cX5_init 146 = .ok (.iastore, 1) := by decide +kernel
theorem dX5_init_147 : decode cX5_init 147 = .ok (.dup, 1) := by decide +kernel
theorem dX5_init_148 : decode cX5_init 148 = .ok (.bipush 15, 2) := by decide +kernel
theorem dX5_init_150 : decode cX5_init 150 = .ok (.iconst 0, 1) := by decide +kernel
theorem dX5_init_151 : decode cX5_init 151 = .ok (.iastore, 1) := by decide +kernel
theorem dX5_init_152 : decode cX5_init 152 = .ok (.dup, 1) := by decide +kernel
theorem dX5_init_153 : decode cX5_init 153 = .ok (.bipush 16, 2) := by decide +kernel
theorem dX5_init_155 : decode cX5_init 155 = .ok (.bipush 7, 2) := by decide +kernel
theorem dX5_init_157 : decode cX5_init 157 = .ok (.iastore, 1) := by decide +kernel
theorem dX5_init_158 : decode cX5_init 158 = .ok (.dup, 1) := by decide +kernel
theorem dX5_init_159 : decode cX5_init 159 = .ok (.bipush 17, 2) := by decide +kernel
theorem dX5_init_161 : decode cX5_init 161 = .ok (.iconst 2, 1) := by decide +kernel
theorem dX5_init_162 : decode cX5_init 162 = .ok (.iastore, 1) := by decide +kernel
theorem dX5_init_163 : decode cX5_init 163 = .ok (.dup, 1) := by decide +kernel
theorem dX5_init_164 : decode cX5_init 164 = .ok (.bipush 18, 2) := by decide +kernel
theorem dX5_init_166 : decode cX5_init 166 = .ok (.iconst 4, 1) := by decide +kernel
theorem dX5_init_167 : decode cX5_init 167 = .ok (.iastore, 1) := by decide +kernel
theorem dX5_init_168 : decode cX5_init 168 = .ok (.dup, 1) := by decide +kernel
theorem dX5_init_169 : decode cX5_init 169 = .ok (.bipush 19, 2) := by decide +kernel
theorem dX5_init_171 : decode cX5_init 171 = .ok (.iconst 0, 1) := by decide +kernel
theorem dX5_init_172 : decode cX5_init 172 = .ok (.iastore, 1) := by decide +kernel
theorem dX5_init_173 : decode cX5_init 173 = .ok (.dup, 1) := by decide +kernel
theorem dX5_init_174 : decode cX5_init 174 = .ok (.bipush 20, 2) := by decide +kernel
theorem dX5_init_176 : decode cX5_init 176 = .ok (.iconst 1, 1) := by decide +kernel
theorem dX5_init_177 : decode cX5_init 177 = .ok (.iastore, 1) := by decide +kernel
theorem dX5_init_178 : decode cX5_init 178 = .ok (.dup, 1) := by decide +kernel
theorem dX5_init_179 : decode cX5_init 179 = .ok (.bipush 21, 2) := by decide +kernel
theorem dX5_init_181 : decode cX5_init 181 = .ok (.bipush 9, 2) := by decide +kernel
theorem dX5_init_183 : decode cX5_init 183 = .ok (.iastore, 1) := by decide +kernel
theorem dX5_init_184 : decode cX5_init 184 = .ok (.dup, 1) := by decide +kernel
theorem dX5_init_185 : decode cX5_init 185 = .ok (.bipush 22, 2) := by decide +kernel
theorem dX5_init_187 : decode cX5_init 187 = .ok (.bipush 31, 2) := by decide +kernel
theorem dX5_init_189 : decode cX5_init 189 = .ok (.iastore, 1) := by decide +kernel
theorem dX5_init_190 : decode cX5_init 190 = .ok (.dup, 1) := by decide +kernel
theorem dX5_init_191 : decode cX5_init 191 = .ok (.bipush 23, 2) := by decide +kernel
theorem dX5_init_193 : decode cX5_init 193 = .ok (.iconst 5, 1) := by decide +kernel
theorem dX5_init_194 : decode cX5_init 194 = .ok (.iastore, 1) := by decide +kernel
theorem dX5_init_195 : decode cX5_init 195 = .ok (.dup, 1) := by decide +kernel
theorem dX5_init_196 : decode cX5_init 196 = .ok (.bipush 24, 2) := by decide +kernel
theorem dX5_init_198 : decode cX5_init 198 = .ok (.iconst 2, 1) := by decide +kernel
theorem dX5_init_199 : decode cX5_init 199 = .ok (.iastore, 1) := by decide +kernel
theorem dX5_init_200 : decode cX5_init 200 = .ok (.dup, 1) := by decide +kernel
theorem dX5_init_201 : decode cX5_init 201 = .ok (.bipush 25, 2) := by decide +kernel
theorem dX5_init_203 : decode cX5_init 203 = .ok (.iconst 2, 1) := by decide +kernel
theorem dX5_init_204 : decode cX5_init 204 = .ok (.iastore, 1) := by decide +kernel
theorem dX5_init_205 : decode cX5_init 205 = .ok (.dup, 1) := by decide +kernel
theorem dX5_init_206 : decode cX5_init 206 = .ok (.bipush 26, 2) := by decide +kernel
theorem dX5_init_208 : decode cX5_init 208 = .ok (.bipush 21, 2) := by decide +kernel
theorem dX5_init_210 : decode cX5_init 210 = .ok (.iastore, 1) := by decide +kernel
theorem dX5_init_211 : decode cX5_init 211 = .ok (.dup, 1) := by decide +kernel
theorem dX5_init_212 : decode cX5_init 212 = .ok (.bipush 27, 2) := by decide +kernel
theorem dX5_init_214 : decode cX5_init 214 = .ok (.bipush 31, 2) := by decide +kernel
theorem dX5_init_216 : decode cX5_init 216 = .ok (.iastore, 1) := by decide +kernel
theorem dX5_init_217 : decode cX5_init 217 = .ok (.dup, 1) := by decide +kernel
theorem dX5_init_218 : decode cX5_init 218 = .ok (.bipush 28, 2) := by decide +kernel
theorem dX5_init_220 : decode cX5_init 220 = .ok (.iconst 1, 1) := by decide +kernel
theorem dX5_init_221 : decode cX5_init 221 = .ok (.iastore, 1) := by decide +kernel
theorem dX5_init_222 : decode cX5_init 222 = .ok (.dup, 1) := by decide +kernel
theorem dX5_init_223 : decode cX5_init 223 = .ok (.bipush 29, 2) := by decide +kernel
theorem dX5_init_225 : decode cX5_init 225 = .ok (.iconst 0, 1) := by decide +kernel
theorem dX5_init_226 : decode cX5_init 226 = .ok (.iastore, 1) := by decide +kernel
theorem dX5_init_227 : decode cX5_init 227 = .ok (.putfield 34, 3) := by decide +kernel
theorem dX5_init_230 : decode cX5_init 230 = .ok (.aload_n 0, 1) := by decide +kernel
theorem dX5_init_231 : decode cX5_init 231 = .ok (.bipush 6, 2) := by decide +kernel
theorem dX5_init_233 : decode cX5_init 233 = .ok (.putfield 37, 3) := by decide +kernel
theorem dX5_init_236 : decode cX5_init 236 = .ok (.iconst 0, 1) := by decide +kernel
theorem dX5_init_237 : decode cX5_init 237 = .ok (.istore_n 1, 1) := by decide +kernel
theorem dX5_init_238 : decode cX5_init 238 = .ok (.iload_n 1, 1) := by decide +kernel
theorem dX5_init_239 : decode cX5_init 239 = .ok (.bipush 30, 2) := by decide +kernel
theorem dX5_init_241 : decode cX5_init 241 = .ok (.if_icmp .ge 21, 3) := by decide +kernel
theorem dX5_init_244 : decode cX5_init 244 = .ok (.aload_n 0, 1) := by decide +kernel
theorem dX5_init_245 : decode cX5_init 245 = .ok (.getfield 31, 3) := by decide +kernel
theorem dX5_init_248 : decode cX5_init 248 = .ok (.iload_n 1, 1) := by decide +kernel
theorem dX5_init_249 : decode cX5_init 249 = .ok (.aload_n 0, 1) := by decide +kernel
theorem dX5_init_250 : decode cX5_init 250 = .ok (.getfield 34, 3) := by decide +kernel
theorem dX5_init_253 : decode cX5_init 253 = .ok (.iload_n 1, 1) := by decide +kernel
theorem dX5_init_254 : decode cX5_init 254 = .ok (.iaload, 1) := by decide +kernel
theorem dX5_init_255 : decode cX5_init 255 = .ok (.iastore, 1) := by decide +kernel
theorem dX5_init_256 : decode cX5_init 256 = .ok (.iinc 1 1, 3) := by decide +kernel
theorem dX5_init_259 : decode cX5_init 259 = .ok (.goto (-21), 3) := by decide +kernel
theorem dX5_init_262 : decode cX5_init 262 = .ok (.aload_n 0, 1) := by decide +kernel
theorem dX5_init_263 : decode cX5_init 263 = .ok (.invokevirtual 41, 3) := by decide +kernel
theorem dX5_init_266 : decode cX5_init 266 = .ok (.return_, 1) := by decide +kernel
theorem dX5_isIn_0 : decode cX5_isIn 0 = .ok (.iload_n 0, 1) := by decide +kernel
theorem dX5_isIn_1 : decode cX5_isIn 1 = .ok (.iload_n 1, 1) := by decide +kernel
theorem dX5_isIn_2 : decode cX5_isIn 2 = .ok (.if_icmp .lt 12, 3) := by decide +kernel
theorem dX5_isIn_5 : decode cX5_isIn 5 = .ok (.iload_n 0, 1) := by decide +kernel
theorem dX5_isIn_6 : decode cX5_isIn 6 = .ok (.iload_n 2, 1) := by decide +kernel
theorem dX5_isIn_7 : decode cX5_isIn 7 = .ok (.if_icmp .gt 7, 3) := by decide +kernel
theorem dX5_isIn_10 : decode cX5_isIn 10 = .ok (.iconst 1, 1) := by decide +kernel
theorem dX5_isIn_11 : decode cX5_isIn 11 = .ok (.goto 4, 3) := by decide +kernel
theorem dX5_isIn_14 : decode cX5_isIn 14 = .ok (.iconst 0, 1) := by decide +kernel
theorem dX5_isIn_15 : decode cX5_isIn 15 = .ok (.ireturn, 1) := by decide +kernel
theorem dX5_of_0 : decode cX5_of 0 = .ok (.aload_n 0, 1) := by decide +kernel
theorem dX5_of_1 : decode cX5_of 1 = .ok (.getfield 13, 3) := by decide +kernel
theorem dX5_of_4 : decode cX5_of 4 = .ok (.bipush 18, 2) := by decide +kernel
theorem dX5_of_6 : decode cX5_of 6 = .ok (.iload_n 1, 1) := by decide +kernel
theorem dX5_of_7 : decode cX5_of 7 = .ok (.imul, 1) := by decide +kernel
theorem dX5_of_8 : decode cX5_of 8 = .ok (.iload_n 2, 1) := by decide +kernel
theorem dX5_of_9 : decode cX5_of 9 = .ok (.iadd, 1) := by decide +kernel
theorem dX5_of_10 : decode cX5_of 10 = .ok (.iaload, 1) := by decide +kernel
theorem dX5_of_11 : decode cX5_of 11 = .ok (.ireturn, 1) := by decide +kernel
theorem dX5_puts_0 : decode cX5_puts 0 = .ok (.aload_n 0, 1) := by decide +kernel
theorem dX5_puts_1 : decode cX5_puts 1 = .ok (.getfield 13, 3) := by decide +kernel
theorem dX5_puts_4 : decode cX5_puts 4 = .ok (.bipush 18, 2) := by decide +kernel
theorem dX5_puts_6 : decode cX5_puts 6 = .ok (.iload_n 1, 1) := by decide +kernel
theorem dX5_puts_7 : decode cX5_puts 7 = .ok (.imul, 1) := by decide +kernel
theorem dX5_puts_8 : decode cX5_puts 8 = .ok (.iload_n 2, 1) := by decide +kernel
theorem dX5_puts_9 : decode cX5_puts 9 = .ok (.iadd, 1) := by decide +kernel
theorem dX5_puts_10 : decode cX5_puts 10 = .ok (.iload_n 3, 1) := by decide +kernel
theorem dX5_puts_11 : decode cX5_puts 11 = .ok (.iastore, 1) := by decide +kernel
theorem dX5_puts_12 : decode cX5_puts 12 = .ok (.return_, 1) := by decide +kernel
theorem dX5_begins_0 : decode cX5_begins 0 = .ok (.aload_n 0, 1) := by decide +kernel
theorem dX5_begins_1 : decode cX5_begins 1 = .ok (.aload_n 0, 1) := by decide +kernel
theorem dX5_begins_2 : decode cX5_begins 2 = .ok (.getfield 37, 3) := by decide +kernel
theorem dX5_begins_5 : decode cX5_begins 5 = .ok (.putfield 44, 3) := by decide +kernel
theorem dX5_begins_8 : decode cX5_begins 8 = .ok (.iconst 0, 1) := by decide +kernel
theorem dX5_begins_9 : decode cX5_begins 9 = .ok (.istore_n 1, 1) := by decide +kernel
theorem dX5_begins_10 : decode cX5_begins 10 = .ok (.iload_n 1, 1) := by decide +kernel
theorem dX5_begins_11 : decode cX5_begins 11 = .ok (.bipush 6, 2) := by decide +kernel
theorem dX5_begins_13 : decode cX5_begins 13 = .ok (.if_icmp .ge 74, 3) := by decide +kernel
theorem dX5_begins_16 : decode cX5_begins 16 = .ok (.iconst 0, 1) := by decide +kernel
theorem dX5_begins_17 : decode cX5_begins 17 = .ok (.istore_n 2, 1) := by decide +kernel
theorem dX5_begins_18 : decode cX5_begins 18 = .ok (.iload_n 2, 1) := by decide +kernel
theorem dX5_begins_19 : decode cX5_begins 19 = .ok (.bipush 18, 2) := by decide +kernel
theorem dX5_begins_21 : decode cX5_begins 21 = .ok (.if_icmp .ge 42, 3) := by decide +kernel
theorem dX5_begins_24 : decode cX5_begins 24 = .ok (.aload_n 0, 1) := by decide +kernel
theorem dX5_begins_25 : decode cX5_begins 25 = .ok (.iload_n 1, 1) := by decide +kernel
theorem dX5_begins_26 : decode cX5_begins 26 = .ok (.iload_n 2, 1) := by decide +kernel
theorem dX5_begins_27 : decode cX5_begins 27 = .ok (.iload_n 2, 1) := by decide +kernel
theorem dX5_begins_28 : decode cX5_begins 28 = .ok (.iconst 5, 1) := by decide +kernel
theorem dX5_begins_29 : decode cX5_begins 29 = .ok (.if_icmp .ge 24, 3) := by decide +kernel
theorem dX5_begins_32 : decode cX5_begins 32 = .ok (.iload_n 1, 1) := by decide +kernel
theorem dX5_begins_33 : decode cX5_begins 33 = .ok (.aload_n 0, 1) := by decide +kernel
theorem dX5_begins_34 : decode cX5_begins 34 = .ok (.getfield 37, 3) := by decide +kernel
theorem dX5_begins_37 : decode cX5_begins 37 = .ok (.if_icmp .ge 16, 3) := by decide +kernel
theorem dX5_begins_40 : decode cX5_begins 40 = .ok (.aload_n 0, 1) := by decide +kernel
theorem dX5_begins_41 : decode cX5_begins 41 = .ok (.getfield 31, 3) := by decide +kernel
theorem dX5_begins_44 : decode cX5_begins 44 = .ok (.iconst 5, 1) := by decide +kernel
theorem dX5_begins_45 : decode cX5_begins 45 = .ok (.iload_n 1, 1) := by decide +kernel
theorem dX5_begins_46 : decode cX5_begins 46 = .ok (.imul, 1) := by decide +kernel
theorem dX5_begins_47 : decode cX5_begins 47 = .ok (.iload_n 2, 1) := by decide +kernel
theorem dX5_begins_48 : decode cX5_begins 48 = .ok (.iadd, 1) := by decide +kernel
theorem dX5_begins_49 : decode cX5_begins 49 = .ok (.iaload, 1) := by decide +kernel
theorem dX5_begins_50 : decode cX5_begins 50 = .ok (.goto 4, 3) := by decide +kernel
theorem dX5_begins_53 : decode cX5_begins 53 = .ok (.iconst 0, 1) := by decide +kernel
theorem dX5_begins_54 : decode cX5_begins 54 = .ok (.invokevirtual 47, 3) := by decide +kernel
theorem dX5_begins_57 : decode cX5_begins 57 = .ok (.iinc 2 1, 3) := by decide +kernel
theorem dX5_begins_60 : decode cX5_begins 60 = .ok (.goto (-42), 3) := by decide +kernel
theorem dX5_begins_63 : decode cX5_begins 63 = .ok (.aload_n 0, 1) := by decide +kernel
theorem dX5_begins_64 : decode cX5_begins 64 = .ok (.iload_n 1, 1) := by decide +kernel
theorem dX5_begins_65 : decode cX5_begins 65 = .ok (.bipush 11, 2) := by decide +kernel
theorem dX5_begins_67 : decode cX5_begins 67 = .ok (.bipush (-4), 2) := by decide +kernel
theorem dX5_begins_69 : decode cX5_begins 69 = .ok (.invokevirtual 47, 3) := by decide +kernel
theorem dX5_begins_72 : decode cX5_begins 72 = .ok (.aload_n 0, 1) := by decide +kernel
theorem dX5_begins_73 : decode cX5_begins 73 = .ok (.iload_n 1, 1) := by decide +kernel
theorem dX5_begins_74 : decode cX5_begins 74 = .ok (.bipush 14, 2) := by decide +kernel
theorem dX5_begins_76 : decode cX5_begins 76 = .ok (.bipush (-4), 2) := by decide +kernel
theorem dX5_begins_78 : decode cX5_begins 78 = .ok (.invokevirtual 47, 3) := by decide +kernel
theorem dX5_begins_81 : decode cX5_begins 81 = .ok (.iinc 1 1, 3) := by decide +kernel
theorem dX5_begins_84 : decode cX5_begins 84 = .ok (.goto (-74), 3) := by decide +kernel
theorem dX5_begins_87 : decode cX5_begins 87 = .ok (.aload_n 0, 1) := by decide +kernel
theorem dX5_begins_88 : decode cX5_begins 88 = .ok (.iconst 0, 1) := by decide +kernel
theorem dX5_begins_89 : decode cX5_begins 89 = .ok (.putfield 51, 3) := by decide +kernel
theorem dX5_begins_92 : decode cX5_begins 92 = .ok (.aload_n 0, 1) := by decide +kernel
theorem dX5_begins_93 : decode cX5_begins 93 = .ok (.iconst 0, 1) := by decide +kernel
theorem dX5_begins_94 : decode cX5_begins 94 = .ok (.putfield 54, 3) := by decide +kernel
theorem dX5_begins_97 : decode cX5_begins 97 = .ok (.aload_n 0, 1) := by decide +kernel
theorem dX5_begins_98 : decode cX5_begins 98 = .ok (.iconst 0, 1) := by decide +kernel
theorem dX5_begins_99 : decode cX5_begins 99 = .ok (.putfield 57, 3) := by decide +kernel
theorem dX5_begins_102 : decode cX5_begins 102 = .ok (.aload_n 0, 1) := by decide +kernel
theorem dX5_begins_103 : decode cX5_begins 103 = .ok (.bipush (-4), 2) := by decide +kernel
theorem dX5_begins_105 : decode cX5_begins 105 = .ok (.putfield 60, 3) := by decide +kernel
theorem dX5_begins_108 : decode cX5_begins 108 = .ok (.aload_n 0, 1) := by decide +kernel
theorem dX5_begins_109 : decode cX5_begins 109 = .ok (.iconst 0, 1) := by decide +kernel
theorem dX5_begins_110 : decode cX5_begins 110 = .ok (.putfield 63, 3) := by decide +kernel
theorem dX5_begins_113 : decode cX5_begins 113 = .ok (.aload_n 0, 1) := by decide +kernel
theorem dX5_begins_114 : decode cX5_begins 114 = .ok (.iconst 0, 1) := by decide +kernel
theorem dX5_begins_115 : decode cX5_begins 115 = .ok (.putfield 66, 3) := by decide +kernel
theorem dX5_begins_118 : decode cX5_begins 118 = .ok (.iconst 0, 1) := by decide +kernel
theorem dX5_begins_119 : decode cX5_begins 119 = .ok (.istore_n 1, 1) := by decide +kernel
theorem dX5_begins_120 : decode cX5_begins 120 = .ok (.iload_n 1, 1) := by decide +kernel
theorem dX5_begins_121 : decode cX5_begins 121 = .ok (.bipush 8, 2) := by decide +kernel
theorem dX5_begins_123 : decode cX5_begins 123 = .ok (.if_icmp .ge 16, 3) := by decide +kernel
theorem dX5_begins_126 : decode cX5_begins 126 = .ok (.aload_n 0, 1) := by decide +kernel
theorem dX5_begins_127 : decode cX5_begins 127 = .ok (.getfield 19, 3) := by decide +kernel
theorem dX5_begins_130 : decode cX5_begins 130 = .ok (.iload_n 1, 1) := by decide +kernel
theorem dX5_begins_131 : decode cX5_begins 131 = .ok (.iconst 0, 1) := by decide +kernel
theorem dX5_begins_132 : decode cX5_begins 132 = .ok (.iastore, 1) := by decide +kernel
theorem dX5_begins_133 : decode cX5_begins 133 = .ok (.iinc 1 1, 3) := by decide +kernel
theorem dX5_begins_136 : decode cX5_begins 136 = .ok (.goto (-16), 3) := by decide +kernel
theorem dX5_begins_139 : decode cX5_begins 139 = .ok (.return_, 1) := by decide +kernel
theorem dX5_letterAt_0 : decode cX5_letterAt 0 = .ok (.iload_n 1, 1) := by decide +kernel
theorem dX5_letterAt_1 : decode cX5_letterAt 1 = .ok (.aload_n 0, 1) := by decide +kernel
theorem dX5_letterAt_2 : decode cX5_letterAt 2 = .ok (.getfield 69, 3) := by decide +kernel
theorem dX5_letterAt_5 : decode cX5_letterAt 5 = .ok (.if_icmp .ge 12, 3) := by decide +kernel
theorem dX5_letterAt_8 : decode cX5_letterAt 8 = .ok (.aload_n 0, 1) := by decide +kernel
theorem dX5_letterAt_9 : decode cX5_letterAt 9 = .ok (.getfield 7, 3) := by decide +kernel
theorem dX5_letterAt_12 : decode cX5_letterAt 12 = .ok (.iload_n 1, 1) := by decide +kernel
theorem dX5_letterAt_13 : decode cX5_letterAt 13 = .ok (.iaload, 1) := by decide +kernel
theorem dX5_letterAt_14 : decode cX5_letterAt 14 = .ok (.goto 4, 3) := by decide +kernel
theorem dX5_letterAt_17 : decode cX5_letterAt 17 = .ok (.iconst 0, 1) := by decide +kernel
theorem dX5_letterAt_18 : decode cX5_letterAt 18 = .ok (.ireturn, 1) := by decide +kernel
theorem dX5_number_0 : decode cX5_number 0 = .ok (.iload_n 1, 1) := by decide +kernel
theorem dX5_number_1 : decode cX5_number 1 = .ok (.istore 4, 2) := by decide +kernel
theorem dX5_number_3 : decode cX5_number 3 = .ok (.aload_n 0, 1) := by decide +kernel
theorem dX5_number_4 : decode cX5_number 4 = .ok (.iconst 0, 1) := by decide +kernel
theorem dX5_number_5 : decode cX5_number 5 = .ok (.putfield 72, 3) := by decide +kernel
theorem dX5_number_8 : decode cX5_number 8 = .ok (.aload_n 0, 1) := by decide +kernel
theorem dX5_number_9 : decode cX5_number 9 = .ok (.iload 4, 2) := by decide +kernel
theorem dX5_number_11 : decode cX5_number 11 = .ok (.invokevirtual 75, 3) := by decide +kernel
theorem dX5_number_14 : decode cX5_number 14 = .ok (.bipush 48, 2) := by decide +kernel
theorem dX5_number_16 : decode cX5_number 16 = .ok (.if_icmp .lt 49, 3) := by decide +kernel
theorem dX5_number_19 : decode cX5_number 19 = .ok (.aload_n 0, 1) := by decide +kernel
theorem dX5_number_20 : decode cX5_number 20 = .ok (.iload 4, 2) := by decide +kernel
theorem dX5_number_22 : decode cX5_number 22 = .ok (.invokevirtual 75, 3) := by decide +kernel
theorem dX5_number_25 : decode cX5_number 25 = .ok (.bipush 57, 2) := by decide +kernel
theorem dX5_number_27 : decode cX5_number 27 = .ok (.if_icmp .gt 38, 3) := by decide +kernel
theorem dX5_number_30 : decode cX5_number 30 = .ok (.iload 4, 2) := by decide +kernel
theorem dX5_number_32 : decode cX5_number 32 = .ok (.iload_n 1, 1) := by decide +kernel
theorem dX5_number_33 : decode cX5_number 33 = .ok (.iconst 2, 1) := by decide +kernel
theorem dX5_number_34 : decode cX5_number 34 = .ok (.iadd, 1) := by decide +kernel
theorem dX5_number_35 : decode cX5_number 35 = .ok (.if_icmp .ge 30, 3) := by decide +kernel
theorem dX5_number_38 : decode cX5_number 38 = .ok (.aload_n 0, 1) := by decide +kernel
theorem dX5_number_39 : decode cX5_number 39 = .ok (.bipush 10, 2) := by decide +kernel
theorem dX5_number_41 : decode cX5_number 41 = .ok (.aload_n 0, 1) := by decide +kernel
theorem dX5_number_42 : decode cX5_number 42 = .ok (.getfield 72, 3) := by decide +kernel
theorem dX5_number_45 : decode cX5_number 45 = .ok (.imul, 1) := by decide +kernel
theorem dX5_number_46 : decode cX5_number 46 = .ok (.aload_n 0, 1) := by decide +kernel
theorem dX5_number_47 : decode cX5_number 47 = .ok (.iload 4, 2) := by decide +kernel
theorem dX5_number_49 : decode cX5_number 49 = .ok (.invokevirtual 75, 3) := by decide +kernel
theorem dX5_number_52 : decode cX5_number 52 = .ok (.iadd, 1) := by decide +kernel
theorem dX5_number_53 : decode cX5_number 53 = .ok (.bipush 48, 2) := by decide +kernel
theorem dX5_number_55 : decode cX5_number 55 = .ok (.isub, 1) := by decide +kernel
theorem dX5_number_56 : decode cX5_number 56 = .ok (.putfield 72, 3) := by decide +kernel
theorem dX5_number_59 : decode cX5_number 59 = .ok (.iinc 4 1, 3) := by decide +kernel
theorem dX5_number_62 : decode cX5_number 62 = .ok (.goto (-54), 3) := by decide +kernel
theorem dX5_number_65 : decode cX5_number 65 = .ok (.aload_n 0, 1) := by decide +kernel
theorem dX5_number_66 : decode cX5_number 66 = .ok (.iload 4, 2) := by decide +kernel
theorem dX5_number_68 : decode cX5_number 68 = .ok (.putfield 79, 3) := by decide +kernel
theorem dX5_number_71 : decode cX5_number 71 = .ok (.iload 4, 2) := by decide +kernel
theorem dX5_number_73 : decode cX5_number 73 = .ok (.iload_n 1, 1) := by decide +kernel
theorem dX5_number_74 : decode cX5_number 74 = .ok (.if_icmp .le 19, 3) := by decide +kernel
theorem dX5_number_77 : decode cX5_number 77 = .ok (.aload_n 0, 1) := by decide +kernel
theorem dX5_number_78 : decode cX5_number 78 = .ok (.getfield 72, 3) := by decide +kernel
theorem dX5_number_81 : decode cX5_number 81 = .ok (.iload_n 2, 1) := by decide +kernel
theorem dX5_number_82 : decode cX5_number 82 = .ok (.iload_n 3, 1) := by decide +kernel
theorem dX5_number_83 : decode cX5_number 83 = .ok (.invokestatic 82, 3) := by decide +kernel
theorem dX5_number_86 : decode cX5_number 86 = .ok (.ifCond .eq 7, 3) := by decide +kernel
theorem dX5_number_89 : decode cX5_number 89 = .ok (.iconst 1, 1) := by decide +kernel
theorem dX5_number_90 : decode cX5_number 90 = .ok (.goto 4, 3) := by decide +kernel
theorem dX5_number_93 : decode cX5_number 93 = .ok (.iconst 0, 1) := by decide +kernel
theorem dX5_number_94 : decode cX5_number 94 = .ok (.ireturn, 1) := by decide +kernel
theorem dX5_highest_0 : decode cX5_highest 0 = .ok (.iload_n 0, 1) := by decide +kernel
theorem dX5_highest_1 : decode cX5_highest 1 = .ok (.ifCond .ne 7, 3) := by decide +kernel
theorem dX5_highest_4 : decode cX5_highest 4 = .ok (.iconst 2, 1) := by decide +kernel
theorem dX5_highest_5 : decode cX5_highest 5 = .ok (.goto 35, 3) := by decide +kernel
theorem dX5_highest_8 : decode cX5_highest 8 = .ok (.iload_n 0, 1) := by decide +kernel
theorem dX5_highest_9 : decode cX5_highest 9 = .ok (.iconst 1, 1) := by decide +kernel
theorem dX5_highest_10 : decode cX5_highest 10 = .ok (.if_icmp .ne 8, 3) := by decide +kernel
theorem dX5_highest_13 : decode cX5_highest 13 = .ok (.bipush 30, 2) := by decide +kernel
theorem dX5_highest_15 : decode cX5_highest 15 = .ok (.goto 25, 3) := by decide +kernel
theorem dX5_highest_18 : decode cX5_highest 18 = .ok (.iload_n 0, 1) := by decide +kernel
theorem dX5_highest_19 : decode cX5_highest 19 = .ok (.iconst 2, 1) := by decide +kernel
theorem dX5_highest_20 : decode cX5_highest 20 = .ok (.if_icmp .ne 8, 3) := by decide +kernel
theorem dX5_highest_23 : decode cX5_highest 23 = .ok (.bipush 31, 2) := by decide +kernel
theorem dX5_highest_25 : decode cX5_highest 25 = .ok (.goto 15, 3) := by decide +kernel
theorem dX5_highest_28 : decode cX5_highest 28 = .ok (.iload_n 0, 1) := by decide +kernel
theorem dX5_highest_29 : decode cX5_highest 29 = .ok (.iconst 3, 1) := by decide +kernel
theorem dX5_highest_30 : decode cX5_highest 30 = .ok (.if_icmp .ne 8, 3) := by decide +kernel
theorem dX5_highest_33 : decode cX5_highest 33 = .ok (.bipush 9, 2) := by decide +kernel
theorem dX5_highest_35 : decode cX5_highest 35 = .ok (.goto 5, 3) := by decide +kernel
theorem dX5_highest_38 : decode cX5_highest 38 = .ok (.bipush 60, 2) := by decide +kernel
theorem dX5_highest_40 : decode cX5_highest 40 = .ok (.ireturn, 1) := by decide +kernel
theorem dX5_readsItem_0 : decode cX5_readsItem 0 = .ok (.aload_n 0, 1) := by decide +kernel
theorem dX5_readsItem_1 : decode cX5_readsItem 1 = .ok (.iload_n 1, 1) := by decide +kernel
theorem dX5_readsItem_2 : decode cX5_readsItem 2 = .ok (.invokevirtual 75, 3) := by decide +kernel
theorem dX5_readsItem_5 : decode cX5_readsItem 5 = .ok (.bipush 100, 2) := by decide +kernel
theorem dX5_readsItem_7 : decode cX5_readsItem 7 = .ok (.if_icmp .ne 12, 3) := by decide +kernel
theorem dX5_readsItem_10 : decode cX5_readsItem 10 = .ok (.aload_n 0, 1) := by decide +kernel
theorem dX5_readsItem_11 : decode cX5_readsItem 11 = .ok (.getfield 37, 3) := by decide +kernel
theorem dX5_readsItem_14 : decode cX5_readsItem 14 = .ok (.bipush 6, 2) := by decide +kernel
theorem dX5_readsItem_16 : decode cX5_readsItem 16 = .ok (.if_icmp .ne 5, 3) := by decide +kernel
theorem dX5_readsItem_19 : decode cX5_readsItem 19 = .ok (.iconst 0, 1) := by decide +kernel
theorem dX5_readsItem_20 : decode cX5_readsItem 20 = .ok (.ireturn, 1) := by decide +kernel
theorem dX5_readsItem_21 : decode cX5_readsItem 21 = .ok (.aload_n 0, 1) := by decide +kernel
theorem dX5_readsItem_22 : decode cX5_readsItem 22 = .ok (.iload_n 1, 1) := by decide +kernel
theorem dX5_readsItem_23 : decode cX5_readsItem 23 = .ok (.putfield 79, 3) := by decide +kernel
theorem dX5_readsItem_26 : decode cX5_readsItem 26 = .ok (.iconst 5, 1) := by decide +kernel
theorem dX5_readsItem_27 : decode cX5_readsItem 27 = .ok (.aload_n 0, 1) := by decide +kernel
theorem dX5_readsItem_28 : decode cX5_readsItem 28 = .ok (.getfield 37, 3) := by decide +kernel
theorem dX5_readsItem_31 : decode cX5_readsItem 31 = .ok (.imul, 1) := by decide +kernel
theorem dX5_readsItem_32 : decode cX5_readsItem 32 = .ok (.istore_n 2, 1) := by decide +kernel
theorem dX5_readsItem_33 : decode cX5_readsItem 33 = .ok (.iconst 0, 1) := by decide +kernel
theorem dX5_readsItem_34 : decode cX5_readsItem 34 = .ok (.istore_n 3, 1) := by decide +kernel
theorem dX5_readsItem_35 : decode cX5_readsItem 35 = .ok (.iload_n 3, 1) := by decide +kernel
theorem dX5_readsItem_36 : decode cX5_readsItem 36 = .ok (.iconst 5, 1) := by decide +kernel
theorem dX5_readsItem_37 : decode cX5_readsItem 37 = .ok (.if_icmp .ge 67, 3) := by decide +kernel
theorem dX5_readsItem_40 : decode cX5_readsItem 40 = .ok (.iload_n 3, 1) := by decide +kernel
theorem dX5_readsItem_41 : decode cX5_readsItem 41 = .ok (.ifCond .le 16, 3) := by decide +kernel
theorem dX5_readsItem_44 : decode cX5_readsItem 44 = .ok (.aload_n 0, 1) := by decide +kernel
theorem dX5_readsItem_45 : decode cX5_readsItem 45 = .ok (.aload_n 0, 1) := by decide +kernel
theorem dX5_readsItem_46 : decode cX5_readsItem 46 = .ok (.getfield 79, 3) := by decide +kernel
theorem dX5_readsItem_49 : decode cX5_readsItem 49 = .ok (.invokevirtual 75, 3) := by decide +kernel
theorem dX5_readsItem_52 : decode cX5_readsItem 52 = .ok (.bipush 44, 2) := by decide +kernel
theorem dX5_readsItem_54 : decode cX5_readsItem 54 = .ok (.if_icmp .ne 30, 3) := by decide +kernel
theorem dX5_readsItem_57 : decode cX5_readsItem 57 = .ok (.aload_n 0, 1) := by decide +kernel
theorem dX5_readsItem_58 : decode cX5_readsItem 58 = .ok (.aload_n 0, 1) := by decide +kernel
theorem dX5_readsItem_59 : decode cX5_readsItem 59 = .ok (.getfield 79, 3) := by decide +kernel
theorem dX5_readsItem_62 : decode cX5_readsItem 62 = .ok (.iconst 1, 1) := by decide +kernel
theorem dX5_readsItem_63 : decode cX5_readsItem 63 = .ok (.iadd, 1) := by decide +kernel
theorem dX5_readsItem_64 : decode cX5_readsItem 64 = .ok (.iload_n 3, 1) := by decide +kernel
theorem dX5_readsItem_65 : decode cX5_readsItem 65 = .ok (.iconst 3, 1) := by decide +kernel
theorem dX5_readsItem_66 : decode cX5_readsItem 66 = .ok (.if_icmp .ne 7, 3) := by decide +kernel
theorem dX5_readsItem_69 : decode cX5_readsItem 69 = .ok (.iconst 1, 1) := by decide +kernel
theorem dX5_readsItem_70 : decode cX5_readsItem 70 = .ok (.goto 4, 3) := by decide +kernel
theorem dX5_readsItem_73 : decode cX5_readsItem 73 = .ok (.iconst 0, 1) := by decide +kernel
theorem dX5_readsItem_74 : decode cX5_readsItem 74 = .ok (.iload_n 3, 1) := by decide +kernel
theorem dX5_readsItem_75 : decode cX5_readsItem 75 = .ok (.invokestatic 86, 3) := by decide +kernel
theorem dX5_readsItem_78 : decode cX5_readsItem 78 = .ok (.invokevirtual 89, 3) := by decide +kernel
theorem dX5_readsItem_81 : decode cX5_readsItem 81 = .ok (.ifCond .ne 5, 3) := by decide +kernel
theorem dX5_readsItem_84 : decode cX5_readsItem 84 = .ok (.iconst 0, 1) := by decide +kernel
theorem dX5_readsItem_85 : decode cX5_readsItem 85 = .ok (.ireturn, 1) := by decide +kernel
theorem dX5_readsItem_86 : decode cX5_readsItem 86 = .ok (.aload_n 0, 1) := by decide +kernel
theorem dX5_readsItem_87 : decode cX5_readsItem 87 = .ok (.getfield 31, 3) := by decide +kernel
theorem dX5_readsItem_90 : decode cX5_readsItem 90 = .ok (.iload_n 2, 1) := by decide +kernel
theorem dX5_readsItem_91 : decode cX5_readsItem 91 = .ok (.iload_n 3, 1) := by decide +kernel
theorem dX5_readsItem_92 : decode cX5_readsItem 92 = .ok (.iadd, 1) := by decide +kernel
theorem dX5_readsItem_93 : decode cX5_readsItem 93 = .ok (.aload_n 0, 1) := by decide +kernel
theorem dX5_readsItem_94 : decode cX5_readsItem 94 = .ok (.getfield 72, 3) := by decide +kernel
theorem dX5_readsItem_97 : decode cX5_readsItem 97 = .ok (.iastore, 1) := by decide +kernel
theorem dX5_readsItem_98 : decode cX5_readsItem 98 = .ok (.iinc 3 1, 3) := by decide +kernel
theorem dX5_readsItem_101 : decode cX5_readsItem 101 = .ok (.goto (-66), 3) := by decide +kernel
theorem dX5_readsItem_104 : decode cX5_readsItem 104 = .ok (.aload_n 0, 1) := by decide +kernel
theorem dX5_readsItem_105 : decode cX5_readsItem 105 = .ok (.aload_n 0, 1) := by decide +kernel
theorem dX5_readsItem_106 : decode cX5_readsItem 106 = .ok (.getfield 79, 3) := by decide +kernel
theorem dX5_readsItem_109 : decode cX5_readsItem 109 = .ok (.invokevirtual 75, 3) := by decide +kernel
theorem dX5_readsItem_112 : decode cX5_readsItem 112 = .ok (.bipush 59, 2) := by decide +kernel
theorem dX5_readsItem_114 : decode cX5_readsItem 114 = .ok (.if_icmp .ne 7, 3) := by decide +kernel
theorem dX5_readsItem_117 : decode cX5_readsItem 117 = .ok (.iconst 1, 1) := by decide +kernel
theorem dX5_readsItem_118 : decode cX5_readsItem 118 = .ok (.goto 4, 3) := by decide +kernel
theorem dX5_readsItem_121 : decode cX5_readsItem 121 = .ok (.iconst 0, 1) := by decide +kernel
theorem dX5_readsItem_122 : decode cX5_readsItem 122 = .ok (.istore_n 3, 1) := by decide +kernel
theorem dX5_readsItem_123 : decode cX5_readsItem 123 = .ok (.iconst 0, 1) := by decide +kernel
theorem dX5_readsItem_124 : decode cX5_readsItem 124 = .ok (.istore 4, 2) := by decide +kernel
theorem dX5_readsItem_126 : decode cX5_readsItem 126 = .ok (.iload 4, 2) := by decide +kernel
theorem dX5_readsItem_128 : decode cX5_readsItem 128 = .ok (.aload_n 0, 1) := by decide +kernel
theorem dX5_readsItem_129 : decode cX5_readsItem 129 = .ok (.getfield 37, 3) := by decide +kernel
theorem dX5_readsItem_132 : decode cX5_readsItem 132 = .ok (.if_icmp .ge 104, 3) := by decide +kernel
theorem dX5_readsItem_135 : decode cX5_readsItem 135 = .ok (.aload_n 0, 1) := by decide +kernel
theorem dX5_readsItem_136 : decode cX5_readsItem 136 = .ok (.getfield 31, 3) := by decide +kernel
theorem dX5_readsItem_139 : decode cX5_readsItem 139 = .ok (.iconst 5, 1) := by decide +kernel
theorem dX5_readsItem_140 : decode cX5_readsItem 140 = .ok (.iload 4, 2) := by decide +kernel
theorem dX5_readsItem_142 : decode cX5_readsItem 142 = .ok (.imul, 1) := by decide +kernel
theorem dX5_readsItem_143 : decode cX5_readsItem 143 = .ok (.iconst 2, 1) := by decide +kernel
theorem dX5_readsItem_144 : decode cX5_readsItem 144 = .ok (.iadd, 1) := by decide +kernel
theorem dX5_readsItem_145 : decode cX5_readsItem 145 = .ok (.iaload, 1) := by decide +kernel
theorem dX5_readsItem_146 : decode cX5_readsItem 146 = .ok (.aload_n 0, 1) := by decide +kernel
theorem dX5_readsItem_147 : decode cX5_readsItem 147 = .ok (.getfield 31, 3) := by decide +kernel
theorem dX5_readsItem_150 : decode cX5_readsItem 150 = .ok (.iload_n 2, 1) := by decide +kernel
theorem dX5_readsItem_151 : decode cX5_readsItem 151 = .ok (.iconst 2, 1) := by decide +kernel
theorem dX5_readsItem_152 : decode cX5_readsItem 152 = .ok (.iadd, 1) := by decide +kernel
theorem dX5_readsItem_153 : decode cX5_readsItem 153 = .ok (.iaload, 1) := by decide +kernel
theorem dX5_readsItem_154 : decode cX5_readsItem 154 = .ok (.if_icmp .eq 36, 3) := by decide +kernel
theorem dX5_readsItem_157 : decode cX5_readsItem 157 = .ok (.aload_n 0, 1) := by decide +kernel
theorem dX5_readsItem_158 : decode cX5_readsItem 158 = .ok (.getfield 31, 3) := by decide +kernel
theorem dX5_readsItem_161 : decode cX5_readsItem 161 = .ok (.iconst 5, 1) := by decide +kernel
theorem dX5_readsItem_162 : decode cX5_readsItem 162 = .ok (.iload 4, 2) := by decide +kernel
theorem dX5_readsItem_164 : decode cX5_readsItem 164 = .ok (.imul, 1) := by decide +kernel
theorem dX5_readsItem_165 : decode cX5_readsItem 165 = .ok (.iconst 2, 1) := by decide +kernel
theorem dX5_readsItem_166 : decode cX5_readsItem 166 = .ok (.iadd, 1) := by decide +kernel
theorem dX5_readsItem_167 : decode cX5_readsItem 167 = .ok (.iaload, 1) := by decide +kernel
theorem dX5_readsItem_168 : decode cX5_readsItem 168 = .ok (.bipush 31, 2) := by decide +kernel
theorem dX5_readsItem_170 : decode cX5_readsItem 170 = .ok (.if_icmp .ge 20, 3) := by decide +kernel
theorem dX5_readsItem_173 : decode cX5_readsItem 173 = .ok (.aload_n 0, 1) := by decide +kernel
theorem dX5_readsItem_174 : decode cX5_readsItem 174 = .ok (.getfield 31, 3) := by decide +kernel
theorem dX5_readsItem_177 : decode cX5_readsItem 177 = .ok (.iload_n 2, 1) := by decide +kernel
theorem dX5_readsItem_178 : decode cX5_readsItem 178 = .ok (.iconst 2, 1) := by decide +kernel
theorem dX5_readsItem_179 : decode cX5_readsItem 179 = .ok (.iadd, 1) := by decide +kernel
theorem dX5_readsItem_180 : decode cX5_readsItem 180 = .ok (.iaload, 1) := by decide +kernel
theorem dX5_readsItem_181 : decode cX5_readsItem 181 = .ok (.bipush 31, 2) := by decide +kernel
theorem dX5_readsItem_183 : decode cX5_readsItem 183 = .ok (.if_icmp .ge 7, 3) := by decide +kernel
theorem dX5_readsItem_186 : decode cX5_readsItem 186 = .ok (.iconst 1, 1) := by decide +kernel
theorem dX5_readsItem_187 : decode cX5_readsItem 187 = .ok (.goto 4, 3) := by decide +kernel
theorem dX5_readsItem_190 : decode cX5_readsItem 190 = .ok (.iconst 0, 1) := by decide +kernel
theorem dX5_readsItem_191 : decode cX5_readsItem 191 = .ok (.istore 5, 2) := by decide +kernel
theorem dX5_readsItem_193 : decode cX5_readsItem 193 = .ok (.iload_n 3, 1) := by decide +kernel
theorem dX5_readsItem_194 : decode cX5_readsItem 194 = .ok (.ifCond .eq 34, 3) := by decide +kernel
theorem dX5_readsItem_197 : decode cX5_readsItem 197 = .ok (.aload_n 0, 1) := by decide +kernel
theorem dX5_readsItem_198 : decode cX5_readsItem 198 = .ok (.getfield 31, 3) := by decide +kernel
theorem dX5_readsItem_201 : decode cX5_readsItem 201 = .ok (.iconst 5, 1) := by decide +kernel
theorem dX5_readsItem_202 : decode cX5_readsItem 202 = .ok (.iload 4, 2) := by decide +kernel
theorem dX5_readsItem_204 : decode cX5_readsItem 204 = .ok (.imul, 1) := by decide +kernel
theorem dX5_readsItem_205 : decode cX5_readsItem 205 = .ok (.iconst 1, 1) := by decide +kernel
theorem dX5_readsItem_206 : decode cX5_readsItem 206 = .ok (.iadd, 1) := by decide +kernel
theorem dX5_readsItem_207 : decode cX5_readsItem 207 = .ok (.iaload, 1) := by decide +kernel
theorem dX5_readsItem_208 : decode cX5_readsItem 208 = .ok (.aload_n 0, 1) := by decide +kernel
theorem dX5_readsItem_209 : decode cX5_readsItem 209 = .ok (.getfield 31, 3) := by decide +kernel
theorem dX5_readsItem_212 : decode cX5_readsItem 212 = .ok (.iload_n 2, 1) := by decide +kernel
theorem dX5_readsItem_213 : decode cX5_readsItem 213 = .ok (.iconst 1, 1) := by decide +kernel
theorem dX5_readsItem_214 : decode cX5_readsItem 214 = .ok (.iadd, 1) := by decide +kernel
theorem dX5_readsItem_215 : decode cX5_readsItem 215 = .ok (.iaload, 1) := by decide +kernel
theorem dX5_readsItem_216 : decode cX5_readsItem 216 = .ok (.if_icmp .ne 8, 3) := by decide +kernel
theorem dX5_readsItem_219 : decode cX5_readsItem 219 = .ok (.iload 5, 2) := by decide +kernel
theorem dX5_readsItem_221 : decode cX5_readsItem 221 = .ok (.ifCond .eq 7, 3) := by decide +kernel
theorem dX5_readsItem_224 : decode cX5_readsItem 224 = .ok (.iconst 1, 1) := by decide +kernel
theorem dX5_readsItem_225 : decode cX5_readsItem 225 = .ok (.goto 4, 3) := by decide +kernel
theorem dX5_readsItem_228 : decode cX5_readsItem 228 = .ok (.iconst 0, 1) := by decide +kernel
theorem dX5_readsItem_229 : decode cX5_readsItem 229 = .ok (.istore_n 3, 1) := by decide +kernel
theorem dX5_readsItem_230 : decode cX5_readsItem 230 = .ok (.iinc 4 1, 3) := by decide +kernel
theorem dX5_readsItem_233 : decode cX5_readsItem 233 = .ok (.goto (-107), 3) := by decide +kernel
theorem dX5_readsItem_236 : decode cX5_readsItem 236 = .ok (.aload_n 0, 1) := by decide +kernel
theorem dX5_readsItem_237 : decode cX5_readsItem 237 = .ok (.dup, 1) := by decide +kernel
theorem dX5_readsItem_238 : decode cX5_readsItem 238 = .ok (.getfield 37, 3) := by decide +kernel
theorem dX5_readsItem_241 : decode cX5_readsItem 241 = .ok (.iconst 1, 1) := by decide +kernel
theorem dX5_readsItem_242 : decode cX5_readsItem 242 = .ok (.iadd, 1) := by decide +kernel
theorem dX5_readsItem_243 : decode cX5_readsItem 243 = .ok (.putfield 37, 3) := by decide +kernel
theorem dX5_readsItem_246 : decode cX5_readsItem 246 = .ok (.iload_n 3, 1) := by decide +kernel
theorem dX5_readsItem_247 : decode cX5_readsItem 247 = .ok (.ireturn, 1) := by decide +kernel
theorem dX5_reads_0 : decode cX5_reads 0 = .ok (.aload_n 0, 1) := by decide +kernel
theorem dX5_reads_1 : decode cX5_reads 1 = .ok (.iconst 0, 1) := by decide +kernel
theorem dX5_reads_2 : decode cX5_reads 2 = .ok (.putfield 37, 3) := by decide +kernel
theorem dX5_reads_5 : decode cX5_reads 5 = .ok (.iconst 0, 1) := by decide +kernel
theorem dX5_reads_6 : decode cX5_reads 6 = .ok (.istore_n 1, 1) := by decide +kernel
theorem dX5_reads_7 : decode cX5_reads 7 = .ok (.iload_n 1, 1) := by decide +kernel
theorem dX5_reads_8 : decode cX5_reads 8 = .ok (.aload_n 0, 1) := by decide +kernel
theorem dX5_reads_9 : decode cX5_reads 9 = .ok (.getfield 69, 3) := by decide +kernel
theorem dX5_reads_12 : decode cX5_reads 12 = .ok (.if_icmp .ge 23, 3) := by decide +kernel
theorem dX5_reads_15 : decode cX5_reads 15 = .ok (.aload_n 0, 1) := by decide +kernel
theorem dX5_reads_16 : decode cX5_reads 16 = .ok (.iload_n 1, 1) := by decide +kernel
theorem dX5_reads_17 : decode cX5_reads 17 = .ok (.invokevirtual 92, 3) := by decide +kernel
theorem dX5_reads_20 : decode cX5_reads 20 = .ok (.ifCond .ne 5, 3) := by decide +kernel
theorem dX5_reads_23 : decode cX5_reads 23 = .ok (.iload_n 1, 1) := by decide +kernel
theorem dX5_reads_24 : decode cX5_reads 24 = .ok (.ireturn, 1) := by decide +kernel
theorem dX5_reads_25 : decode cX5_reads 25 = .ok (.aload_n 0, 1) := by decide +kernel
theorem dX5_reads_26 : decode cX5_reads 26 = .ok (.getfield 79, 3) := by decide +kernel
theorem dX5_reads_29 : decode cX5_reads 29 = .ok (.iconst 1, 1) := by decide +kernel
theorem dX5_reads_30 : decode cX5_reads 30 = .ok (.iadd, 1) := by decide +kernel
theorem dX5_reads_31 : decode cX5_reads 31 = .ok (.istore_n 1, 1) := by decide +kernel
theorem dX5_reads_32 : decode cX5_reads 32 = .ok (.goto (-25), 3) := by decide +kernel
theorem dX5_reads_35 : decode cX5_reads 35 = .ok (.bipush (-4), 2) := by decide +kernel
theorem dX5_reads_37 : decode cX5_reads 37 = .ok (.ireturn, 1) := by decide +kernel
theorem dX5_write_0 : decode cX5_write 0 = .ok (.iload_n 1, 1) := by decide +kernel
theorem dX5_write_1 : decode cX5_write 1 = .ok (.bipush 32, 2) := by decide +kernel
theorem dX5_write_3 : decode cX5_write 3 = .ok (.if_icmp .lt 9, 3) := by decide +kernel
theorem dX5_write_6 : decode cX5_write 6 = .ok (.iload_n 1, 1) := by decide +kernel
theorem dX5_write_7 : decode cX5_write 7 = .ok (.bipush 126, 2) := by decide +kernel
theorem dX5_write_9 : decode cX5_write 9 = .ok (.if_icmp .le 5, 3) := by decide +kernel
theorem dX5_write_12 : decode cX5_write 12 = .ok (.iconst (-1), 1) := by decide +kernel
theorem dX5_write_13 : decode cX5_write 13 = .ok (.ireturn, 1) := by decide +kernel
theorem dX5_write_14 : decode cX5_write 14 = .ok (.aload_n 0, 1) := by decide +kernel
theorem dX5_write_15 : decode cX5_write 15 = .ok (.getfield 69, 3) := by decide +kernel
theorem dX5_write_18 : decode cX5_write 18 = .ok (.sipush 200, 3) := by decide +kernel
theorem dX5_write_21 : decode cX5_write 21 = .ok (.if_icmp .ne 6, 3) := by decide +kernel
theorem dX5_write_24 : decode cX5_write 24 = .ok (.bipush (-3), 2) := by decide +kernel
theorem dX5_write_26 : decode cX5_write 26 = .ok (.ireturn, 1) := by decide +kernel
theorem dX5_write_27 : decode cX5_write 27 = .ok (.aload_n 0, 1) := by decide +kernel
theorem dX5_write_28 : decode cX5_write 28 = .ok (.getfield 7, 3) := by decide +kernel
theorem dX5_write_31 : decode cX5_write 31 = .ok (.aload_n 0, 1) := by decide +kernel
theorem dX5_write_32 : decode cX5_write 32 = .ok (.getfield 69, 3) := by decide +kernel
theorem dX5_write_35 : decode cX5_write 35 = .ok (.iload_n 1, 1) := by decide +kernel
theorem dX5_write_36 : decode cX5_write 36 = .ok (.iastore, 1) := by decide +kernel
theorem dX5_write_37 : decode cX5_write 37 = .ok (.aload_n 0, 1) := by decide +kernel
theorem dX5_write_38 : decode cX5_write 38 = .ok (.dup, 1) := by decide +kernel
theorem dX5_write_39 : decode cX5_write 39 = .ok (.getfield 69, 3) := by decide +kernel
theorem dX5_write_42 : decode cX5_write 42 = .ok (.iconst 1, 1) := by decide +kernel
theorem dX5_write_43 : decode cX5_write 43 = .ok (.iadd, 1) := by decide +kernel
theorem dX5_write_44 : decode cX5_write 44 = .ok (.putfield 69, 3) := by decide +kernel
theorem dX5_write_47 : decode cX5_write 47 = .ok (.aload_n 0, 1) := by decide +kernel
theorem dX5_write_48 : decode cX5_write 48 = .ok (.getfield 69, 3) := by decide +kernel
theorem dX5_write_51 : decode cX5_write 51 = .ok (.ireturn, 1) := by decide +kernel
theorem dX5_wipe_0 : decode cX5_wipe 0 = .ok (.aload_n 0, 1) := by decide +kernel
theorem dX5_wipe_1 : decode cX5_wipe 1 = .ok (.getfield 69, 3) := by decide +kernel
theorem dX5_wipe_4 : decode cX5_wipe 4 = .ok (.istore_n 1, 1) := by decide +kernel
theorem dX5_wipe_5 : decode cX5_wipe 5 = .ok (.aload_n 0, 1) := by decide +kernel
theorem dX5_wipe_6 : decode cX5_wipe 6 = .ok (.iconst 0, 1) := by decide +kernel
theorem dX5_wipe_7 : decode cX5_wipe 7 = .ok (.putfield 69, 3) := by decide +kernel
theorem dX5_wipe_10 : decode cX5_wipe 10 = .ok (.iload_n 1, 1) := by decide +kernel
theorem dX5_wipe_11 : decode cX5_wipe 11 = .ok (.ireturn, 1) := by decide +kernel
theorem dX5_fault_0 : decode cX5_fault 0 = .ok (.aload_n 0, 1) := by decide +kernel
theorem dX5_fault_1 : decode cX5_fault 1 = .ok (.invokevirtual 96, 3) := by decide +kernel
theorem dX5_fault_4 : decode cX5_fault 4 = .ok (.ireturn, 1) := by decide +kernel
theorem dX5_lay_0 : decode cX5_lay 0 = .ok (.aload_n 0, 1) := by decide +kernel
theorem dX5_lay_1 : decode cX5_lay 1 = .ok (.invokevirtual 96, 3) := by decide +kernel
theorem dX5_lay_4 : decode cX5_lay 4 = .ok (.bipush (-4), 2) := by decide +kernel
theorem dX5_lay_6 : decode cX5_lay 6 = .ok (.if_icmp .ne 20, 3) := by decide +kernel
theorem dX5_lay_9 : decode cX5_lay 9 = .ok (.aload_n 0, 1) := by decide +kernel
theorem dX5_lay_10 : decode cX5_lay 10 = .ok (.getfield 37, 3) := by decide +kernel
theorem dX5_lay_13 : decode cX5_lay 13 = .ok (.ifCond .eq 13, 3) := by decide +kernel
theorem dX5_lay_16 : decode cX5_lay 16 = .ok (.aload_n 0, 1) := by decide +kernel
theorem dX5_lay_17 : decode cX5_lay 17 = .ok (.getfield 31, 3) := by decide +kernel
theorem dX5_lay_20 : decode cX5_lay 20 = .ok (.iconst 0, 1) := by decide +kernel
theorem dX5_lay_21 : decode cX5_lay 21 = .ok (.iaload, 1) := by decide +kernel
theorem dX5_lay_22 : decode cX5_lay 22 = .ok (.iconst 2, 1) := by decide +kernel
theorem dX5_lay_23 : decode cX5_lay 23 = .ok (.if_icmp .eq 6, 3) := by decide +kernel
theorem dX5_lay_26 : decode cX5_lay 26 = .ok (.bipush (-2), 2) := by decide +kernel
theorem dX5_lay_28 : decode cX5_lay 28 = .ok (.ireturn, 1) := by decide +kernel
theorem dX5_lay_29 : decode cX5_lay 29 = .ok (.aload_n 0, 1) := by decide +kernel
theorem dX5_lay_30 : decode cX5_lay 30 = .ok (.invokevirtual 41, 3) := by decide +kernel
theorem dX5_lay_33 : decode cX5_lay 33 = .ok (.aload_n 0, 1) := by decide +kernel
theorem dX5_lay_34 : decode cX5_lay 34 = .ok (.getfield 44, 3) := by decide +kernel
theorem dX5_lay_37 : decode cX5_lay 37 = .ok (.ireturn, 1) := by decide +kernel
theorem dX5_comes_0 : decode cX5_comes 0 = .ok (.iconst 0, 1) := by decide +kernel
theorem dX5_comes_1 : decode cX5_comes 1 = .ok (.istore_n 1, 1) := by decide +kernel
theorem dX5_comes_2 : decode cX5_comes 2 = .ok (.iload_n 1, 1) := by decide +kernel
theorem dX5_comes_3 : decode cX5_comes 3 = .ok (.aload_n 0, 1) := by decide +kernel
theorem dX5_comes_4 : decode cX5_comes 4 = .ok (.getfield 44, 3) := by decide +kernel
theorem dX5_comes_7 : decode cX5_comes 7 = .ok (.if_icmp .ge 124, 3) := by decide +kernel
theorem dX5_comes_10 : decode cX5_comes 10 = .ok (.aload_n 0, 1) := by decide +kernel
theorem dX5_comes_11 : decode cX5_comes 11 = .ok (.iload_n 1, 1) := by decide +kernel
theorem dX5_comes_12 : decode cX5_comes 12 = .ok (.bipush 14, 2) := by decide +kernel
theorem dX5_comes_14 : decode cX5_comes 14 = .ok (.invokevirtual 100, 3) := by decide +kernel
theorem dX5_comes_17 : decode cX5_comes 17 = .ok (.aload_n 0, 1) := by decide +kernel
theorem dX5_comes_18 : decode cX5_comes 18 = .ok (.getfield 57, 3) := by decide +kernel
theorem dX5_comes_21 : decode cX5_comes 21 = .ok (.if_icmp .ne 104, 3) := by decide +kernel
theorem dX5_comes_24 : decode cX5_comes 24 = .ok (.bipush 7, 2) := by decide +kernel
theorem dX5_comes_26 : decode cX5_comes 26 = .ok (.aload_n 0, 1) := by decide +kernel
theorem dX5_comes_27 : decode cX5_comes 27 = .ok (.iload_n 1, 1) := by decide +kernel
theorem dX5_comes_28 : decode cX5_comes 28 = .ok (.bipush 13, 2) := by decide +kernel
theorem dX5_comes_30 : decode cX5_comes 30 = .ok (.invokevirtual 100, 3) := by decide +kernel
theorem dX5_comes_33 : decode cX5_comes 33 = .ok (.imul, 1) := by decide +kernel
theorem dX5_comes_34 : decode cX5_comes 34 = .ok (.iconst 3, 1) := by decide +kernel
theorem dX5_comes_35 : decode cX5_comes 35 = .ok (.aload_n 0, 1) := by decide +kernel
theorem dX5_comes_36 : decode cX5_comes 36 = .ok (.iload_n 1, 1) := by decide +kernel
theorem dX5_comes_37 : decode cX5_comes 37 = .ok (.iconst 1, 1) := by decide +kernel
theorem dX5_comes_38 : decode cX5_comes 38 = .ok (.invokevirtual 100, 3) := by decide +kernel
theorem dX5_comes_41 : decode cX5_comes 41 = .ok (.imul, 1) := by decide +kernel
theorem dX5_comes_42 : decode cX5_comes 42 = .ok (.iadd, 1) := by decide +kernel
theorem dX5_comes_43 : decode cX5_comes 43 = .ok (.bipush 100, 2) := by decide +kernel
theorem dX5_comes_45 : decode cX5_comes 45 = .ok (.irem, 1) := by decide +kernel
theorem dX5_comes_46 : decode cX5_comes 46 = .ok (.istore_n 2, 1) := by decide +kernel
theorem dX5_comes_47 : decode cX5_comes 47 = .ok (.aload_n 0, 1) := by decide +kernel
theorem dX5_comes_48 : decode cX5_comes 48 = .ok (.getfield 16, 3) := by decide +kernel
theorem dX5_comes_51 : decode cX5_comes 51 = .ok (.bipush 24, 2) := by decide +kernel
theorem dX5_comes_53 : decode cX5_comes 53 = .ok (.iload_n 1, 1) := by decide +kernel
theorem dX5_comes_54 : decode cX5_comes 54 = .ok (.imul, 1) := by decide +kernel
theorem dX5_comes_55 : decode cX5_comes 55 = .ok (.bipush 48, 2) := by decide +kernel
theorem dX5_comes_57 : decode cX5_comes 57 = .ok (.iload_n 2, 1) := by decide +kernel
theorem dX5_comes_58 : decode cX5_comes 58 = .ok (.bipush 10, 2) := by decide +kernel
theorem dX5_comes_60 : decode cX5_comes 60 = .ok (.idiv, 1) := by decide +kernel
theorem dX5_comes_61 : decode cX5_comes 61 = .ok (.iadd, 1) := by decide +kernel
theorem dX5_comes_62 : decode cX5_comes 62 = .ok (.iastore, 1) := by decide +kernel
theorem dX5_comes_63 : decode cX5_comes 63 = .ok (.aload_n 0, 1) := by decide +kernel
theorem dX5_comes_64 : decode cX5_comes 64 = .ok (.getfield 16, 3) := by decide +kernel
theorem dX5_comes_67 : decode cX5_comes 67 = .ok (.bipush 24, 2) := by decide +kernel
theorem dX5_comes_69 : decode cX5_comes 69 = .ok (.iload_n 1, 1) := by decide +kernel
theorem dX5_comes_70 : decode cX5_comes 70 = .ok (.imul, 1) := by decide +kernel
theorem dX5_comes_71 : decode cX5_comes 71 = .ok (.iconst 1, 1) := by decide +kernel
theorem dX5_comes_72 : decode cX5_comes 72 = .ok (.iadd, 1) := by decide +kernel
theorem dX5_comes_73 : decode cX5_comes 73 = .ok (.bipush 48, 2) := by decide +kernel
theorem dX5_comes_75 : decode cX5_comes 75 = .ok (.iload_n 2, 1) := by decide +kernel
theorem dX5_comes_76 : decode cX5_comes 76 = .ok (.bipush 10, 2) := by decide +kernel
theorem dX5_comes_78 : decode cX5_comes 78 = .ok (.irem, 1) := by decide +kernel
theorem dX5_comes_79 : decode cX5_comes 79 = .ok (.iadd, 1) := by decide +kernel
theorem dX5_comes_80 : decode cX5_comes 80 = .ok (.iastore, 1) := by decide +kernel
theorem dX5_comes_81 : decode cX5_comes 81 = .ok (.aload_n 0, 1) := by decide +kernel
theorem dX5_comes_82 : decode cX5_comes 82 = .ok (.iload_n 1, 1) := by decide +kernel
theorem dX5_comes_83 : decode cX5_comes 83 = .ok (.bipush 15, 2) := by decide +kernel
theorem dX5_comes_85 : decode cX5_comes 85 = .ok (.iconst 2, 1) := by decide +kernel
theorem dX5_comes_86 : decode cX5_comes 86 = .ok (.invokevirtual 47, 3) := by decide +kernel
theorem dX5_comes_89 : decode cX5_comes 89 = .ok (.aload_n 0, 1) := by decide +kernel
theorem dX5_comes_90 : decode cX5_comes 90 = .ok (.iload_n 1, 1) := by decide +kernel
theorem dX5_comes_91 : decode cX5_comes 91 = .ok (.bipush 9, 2) := by decide +kernel
theorem dX5_comes_93 : decode cX5_comes 93 = .ok (.bipush 16, 2) := by decide +kernel
theorem dX5_comes_95 : decode cX5_comes 95 = .ok (.invokevirtual 47, 3) := by decide +kernel
theorem dX5_comes_98 : decode cX5_comes 98 = .ok (.aload_n 0, 1) := by decide +kernel
theorem dX5_comes_99 : decode cX5_comes 99 = .ok (.iload_n 1, 1) := by decide +kernel
theorem dX5_comes_100 : decode cX5_comes 100 = .ok (.bipush 10, 2) := by decide +kernel
theorem dX5_comes_102 : decode cX5_comes 102 = .ok (.iconst 1, 1) := by decide +kernel
theorem dX5_comes_103 : decode cX5_comes 103 = .ok (.invokevirtual 47, 3) := by decide +kernel
theorem dX5_comes_106 : decode cX5_comes 106 = .ok (.aload_n 0, 1) := by decide +kernel
theorem dX5_comes_107 : decode cX5_comes 107 = .ok (.iload_n 1, 1) := by decide +kernel
theorem dX5_comes_108 : decode cX5_comes 108 = .ok (.bipush 14, 2) := by decide +kernel
theorem dX5_comes_110 : decode cX5_comes 110 = .ok (.bipush (-4), 2) := by decide +kernel
theorem dX5_comes_112 : decode cX5_comes 112 = .ok (.invokevirtual 47, 3) := by decide +kernel
theorem dX5_comes_115 : decode cX5_comes 115 = .ok (.aload_n 0, 1) := by decide +kernel
theorem dX5_comes_116 : decode cX5_comes 116 = .ok (.getfield 19, 3) := by decide +kernel
theorem dX5_comes_119 : decode cX5_comes 119 = .ok (.iconst 3, 1) := by decide +kernel
theorem dX5_comes_120 : decode cX5_comes 120 = .ok (.dup2, 1) := by decide +kernel
theorem dX5_comes_121 : decode cX5_comes 121 = .ok (.iaload, 1) := by decide +kernel
theorem dX5_comes_122 : decode cX5_comes 122 = .ok (.iconst 1, 1) := by decide +kernel
theorem dX5_comes_123 : decode cX5_comes 123 = .ok (.iadd, 1) := by decide +kernel
theorem dX5_comes_124 : decode cX5_comes 124 = .ok (.iastore, 1) := by decide +kernel
theorem dX5_comes_125 : decode cX5_comes 125 = .ok (.iinc 1 1, 3) := by decide +kernel
theorem dX5_comes_128 : decode cX5_comes 128 = .ok (.goto (-126), 3) := by decide +kernel
theorem dX5_comes_131 : decode cX5_comes 131 = .ok (.return_, 1) := by decide +kernel
theorem dX5_ticks_0 : decode cX5_ticks 0 = .ok (.iconst 0, 1) := by decide +kernel
theorem dX5_ticks_1 : decode cX5_ticks 1 = .ok (.istore_n 2, 1) := by decide +kernel
theorem dX5_ticks_2 : decode cX5_ticks 2 = .ok (.iload_n 2, 1) := by decide +kernel
theorem dX5_ticks_3 : decode cX5_ticks 3 = .ok (.iload_n 1, 1) := by decide +kernel
theorem dX5_ticks_4 : decode cX5_ticks 4 = .ok (.if_icmp .ge 23, 3) := by decide +kernel
theorem dX5_ticks_7 : decode cX5_ticks 7 = .ok (.aload_n 0, 1) := by decide +kernel
theorem dX5_ticks_8 : decode cX5_ticks 8 = .ok (.dup, 1) := by decide +kernel
theorem dX5_ticks_9 : decode cX5_ticks 9 = .ok (.getfield 57, 3) := by decide +kernel
theorem dX5_ticks_12 : decode cX5_ticks 12 = .ok (.iconst 1, 1) := by decide +kernel
theorem dX5_ticks_13 : decode cX5_ticks 13 = .ok (.iadd, 1) := by decide +kernel
theorem dX5_ticks_14 : decode cX5_ticks 14 = .ok (.putfield 57, 3) := by decide +kernel
theorem dX5_ticks_17 : decode cX5_ticks 17 = .ok (.aload_n 0, 1) := by decide +kernel
theorem dX5_ticks_18 : decode cX5_ticks 18 = .ok (.invokevirtual 104, 3) := by decide +kernel
theorem dX5_ticks_21 : decode cX5_ticks 21 = .ok (.iinc 2 1, 3) := by decide +kernel
theorem dX5_ticks_24 : decode cX5_ticks 24 = .ok (.goto (-22), 3) := by decide +kernel
theorem dX5_ticks_27 : decode cX5_ticks 27 = .ok (.return_, 1) := by decide +kernel
theorem dX5_tick_0 : decode cX5_tick 0 = .ok (.iload_n 1, 1) := by decide +kernel
theorem dX5_tick_1 : decode cX5_tick 1 = .ok (.iconst 1, 1) := by decide +kernel
theorem dX5_tick_2 : decode cX5_tick 2 = .ok (.sipush 500, 3) := by decide +kernel
theorem dX5_tick_5 : decode cX5_tick 5 = .ok (.invokestatic 82, 3) := by decide +kernel
theorem dX5_tick_8 : decode cX5_tick 8 = .ok (.ifCond .ne 5, 3) := by decide +kernel
theorem dX5_tick_11 : decode cX5_tick 11 = .ok (.iconst (-1), 1) := by decide +kernel
theorem dX5_tick_12 : decode cX5_tick 12 = .ok (.ireturn, 1) := by decide +kernel
theorem dX5_tick_13 : decode cX5_tick 13 = .ok (.aload_n 0, 1) := by decide +kernel
theorem dX5_tick_14 : decode cX5_tick 14 = .ok (.iload_n 1, 1) := by decide +kernel
theorem dX5_tick_15 : decode cX5_tick 15 = .ok (.invokevirtual 107, 3) := by decide +kernel
theorem dX5_tick_18 : decode cX5_tick 18 = .ok (.aload_n 0, 1) := by decide +kernel
theorem dX5_tick_19 : decode cX5_tick 19 = .ok (.getfield 57, 3) := by decide +kernel
theorem dX5_tick_22 : decode cX5_tick 22 = .ok (.ireturn, 1) := by decide +kernel
theorem dX5_clears_0 : decode cX5_clears 0 = .ok (.aload_n 0, 1) := by decide +kernel
theorem dX5_clears_1 : decode cX5_clears 1 = .ok (.iload_n 1, 1) := by decide +kernel
theorem dX5_clears_2 : decode cX5_clears 2 = .ok (.bipush 9, 2) := by decide +kernel
theorem dX5_clears_4 : decode cX5_clears 4 = .ok (.iconst 0, 1) := by decide +kernel
theorem dX5_clears_5 : decode cX5_clears 5 = .ok (.invokevirtual 47, 3) := by decide +kernel
theorem dX5_clears_8 : decode cX5_clears 8 = .ok (.aload_n 0, 1) := by decide +kernel
theorem dX5_clears_9 : decode cX5_clears 9 = .ok (.iload_n 1, 1) := by decide +kernel
theorem dX5_clears_10 : decode cX5_clears 10 = .ok (.bipush 10, 2) := by decide +kernel
theorem dX5_clears_12 : decode cX5_clears 12 = .ok (.iconst 0, 1) := by decide +kernel
theorem dX5_clears_13 : decode cX5_clears 13 = .ok (.invokevirtual 47, 3) := by decide +kernel
theorem dX5_clears_16 : decode cX5_clears 16 = .ok (.aload_n 0, 1) := by decide +kernel
theorem dX5_clears_17 : decode cX5_clears 17 = .ok (.iload_n 1, 1) := by decide +kernel
theorem dX5_clears_18 : decode cX5_clears 18 = .ok (.bipush 14, 2) := by decide +kernel
theorem dX5_clears_20 : decode cX5_clears 20 = .ok (.bipush (-4), 2) := by decide +kernel
theorem dX5_clears_22 : decode cX5_clears 22 = .ok (.invokevirtual 47, 3) := by decide +kernel
theorem dX5_clears_25 : decode cX5_clears 25 = .ok (.aload_n 0, 1) := by decide +kernel
theorem dX5_clears_26 : decode cX5_clears 26 = .ok (.iload_n 1, 1) := by decide +kernel
theorem dX5_clears_27 : decode cX5_clears 27 = .ok (.bipush 15, 2) := by decide +kernel
theorem dX5_clears_29 : decode cX5_clears 29 = .ok (.iconst 0, 1) := by decide +kernel
theorem dX5_clears_30 : decode cX5_clears 30 = .ok (.invokevirtual 47, 3) := by decide +kernel
theorem dX5_clears_33 : decode cX5_clears 33 = .ok (.aload_n 0, 1) := by decide +kernel
theorem dX5_clears_34 : decode cX5_clears 34 = .ok (.iload_n 1, 1) := by decide +kernel
theorem dX5_clears_35 : decode cX5_clears 35 = .ok (.bipush 16, 2) := by decide +kernel
theorem dX5_clears_37 : decode cX5_clears 37 = .ok (.iconst 0, 1) := by decide +kernel
theorem dX5_clears_38 : decode cX5_clears 38 = .ok (.invokevirtual 47, 3) := by decide +kernel
theorem dX5_clears_41 : decode cX5_clears 41 = .ok (.return_, 1) := by decide +kernel
theorem dX5_triggers_0 : decode cX5_triggers 0 = .ok (.aload_n 0, 1) := by decide +kernel
theorem dX5_triggers_1 : decode cX5_triggers 1 = .ok (.iload_n 1, 1) := by decide +kernel
theorem dX5_triggers_2 : decode cX5_triggers 2 = .ok (.bipush 13, 2) := by decide +kernel
theorem dX5_triggers_4 : decode cX5_triggers 4 = .ok (.aload_n 0, 1) := by decide +kernel
theorem dX5_triggers_5 : decode cX5_triggers 5 = .ok (.iload_n 1, 1) := by decide +kernel
theorem dX5_triggers_6 : decode cX5_triggers 6 = .ok (.bipush 13, 2) := by decide +kernel
theorem dX5_triggers_8 : decode cX5_triggers 8 = .ok (.invokevirtual 100, 3) := by decide +kernel
theorem dX5_triggers_11 : decode cX5_triggers 11 = .ok (.sipush 999, 3) := by decide +kernel
theorem dX5_triggers_14 : decode cX5_triggers 14 = .ok (.if_icmp .ge 15, 3) := by decide +kernel
theorem dX5_triggers_17 : decode cX5_triggers 17 = .ok (.aload_n 0, 1) := by decide +kernel
theorem dX5_triggers_18 : decode cX5_triggers 18 = .ok (.iload_n 1, 1) := by decide +kernel
theorem dX5_triggers_19 : decode cX5_triggers 19 = .ok (.bipush 13, 2) := by decide +kernel
theorem dX5_triggers_21 : decode cX5_triggers 21 = .ok (.invokevirtual 100, 3) := by decide +kernel
theorem dX5_triggers_24 : decode cX5_triggers 24 = .ok (.iconst 1, 1) := by decide +kernel
theorem dX5_triggers_25 : decode cX5_triggers 25 = .ok (.iadd, 1) := by decide +kernel
theorem dX5_triggers_26 : decode cX5_triggers 26 = .ok (.goto 6, 3) := by decide +kernel
theorem dX5_triggers_29 : decode cX5_triggers 29 = .ok (.sipush 999, 3) := by decide +kernel
theorem dX5_triggers_32 : decode cX5_triggers 32 = .ok (.invokevirtual 47, 3) := by decide +kernel
theorem dX5_triggers_35 : decode cX5_triggers 35 = .ok (.aload_n 0, 1) := by decide +kernel
theorem dX5_triggers_36 : decode cX5_triggers 36 = .ok (.getfield 19, 3) := by decide +kernel
theorem dX5_triggers_39 : decode cX5_triggers 39 = .ok (.bipush 7, 2) := by decide +kernel
theorem dX5_triggers_41 : decode cX5_triggers 41 = .ok (.dup2, 1) := by decide +kernel
theorem dX5_triggers_42 : decode cX5_triggers 42 = .ok (.iaload, 1) := by decide +kernel
theorem dX5_triggers_43 : decode cX5_triggers 43 = .ok (.iconst 1, 1) := by decide +kernel
theorem dX5_triggers_44 : decode cX5_triggers 44 = .ok (.iadd, 1) := by decide +kernel
theorem dX5_triggers_45 : decode cX5_triggers 45 = .ok (.iastore, 1) := by decide +kernel
theorem dX5_triggers_46 : decode cX5_triggers 46 = .ok (.aload_n 0, 1) := by decide +kernel
theorem dX5_triggers_47 : decode cX5_triggers 47 = .ok (.iload_n 1, 1) := by decide +kernel
theorem dX5_triggers_48 : decode cX5_triggers 48 = .ok (.iconst 0, 1) := by decide +kernel
theorem dX5_triggers_49 : decode cX5_triggers 49 = .ok (.invokevirtual 100, 3) := by decide +kernel
theorem dX5_triggers_52 : decode cX5_triggers 52 = .ok (.iconst 1, 1) := by decide +kernel
theorem dX5_triggers_53 : decode cX5_triggers 53 = .ok (.if_icmp .ne 21, 3) := by decide +kernel
theorem dX5_triggers_56 : decode cX5_triggers 56 = .ok (.aload_n 0, 1) := by decide +kernel
theorem dX5_triggers_57 : decode cX5_triggers 57 = .ok (.iload_n 1, 1) := by decide +kernel
theorem dX5_triggers_58 : decode cX5_triggers 58 = .ok (.bipush 14, 2) := by decide +kernel
theorem dX5_triggers_60 : decode cX5_triggers 60 = .ok (.aload_n 0, 1) := by decide +kernel
theorem dX5_triggers_61 : decode cX5_triggers 61 = .ok (.getfield 57, 3) := by decide +kernel
theorem dX5_triggers_64 : decode cX5_triggers 64 = .ok (.aload_n 0, 1) := by decide +kernel
theorem dX5_triggers_65 : decode cX5_triggers 65 = .ok (.iload_n 1, 1) := by decide +kernel
theorem dX5_triggers_66 : decode cX5_triggers 66 = .ok (.iconst 4, 1) := by decide +kernel
theorem dX5_triggers_67 : decode cX5_triggers 67 = .ok (.invokevirtual 100, 3) := by decide +kernel
theorem dX5_triggers_70 : decode cX5_triggers 70 = .ok (.iadd, 1) := by decide +kernel
theorem dX5_triggers_71 : decode cX5_triggers 71 = .ok (.invokevirtual 47, 3) := by decide +kernel
theorem dX5_triggers_74 : decode cX5_triggers 74 = .ok (.return_, 1) := by decide +kernel
theorem dX5_toListener_0 : decode cX5_toListener 0 = .ok (.iload_n 2, 1) := by decide +kernel
theorem dX5_toListener_1 : decode cX5_toListener 1 = .ok (.iconst 1, 1) := by decide +kernel
theorem dX5_toListener_2 : decode cX5_toListener 2 = .ok (.if_icmp .ne 14, 3) := by decide +kernel
theorem dX5_toListener_5 : decode cX5_toListener 5 = .ok (.aload_n 0, 1) := by decide +kernel
theorem dX5_toListener_6 : decode cX5_toListener 6 = .ok (.iload_n 1, 1) := by decide +kernel
theorem dX5_toListener_7 : decode cX5_toListener 7 = .ok (.bipush 7, 2) := by decide +kernel
theorem dX5_toListener_9 : decode cX5_toListener 9 = .ok (.iconst 0, 1) := by decide +kernel
theorem dX5_toListener_10 : decode cX5_toListener 10 = .ok (.invokevirtual 47, 3) := by decide +kernel
theorem dX5_toListener_13 : decode cX5_toListener 13 = .ok (.goto 27, 3) := by decide +kernel
theorem dX5_toListener_16 : decode cX5_toListener 16 = .ok (.iload_n 2, 1) := by decide +kernel
theorem dX5_toListener_17 : decode cX5_toListener 17 = .ok (.iconst 4, 1) := by decide +kernel
theorem dX5_toListener_18 : decode cX5_toListener 18 = .ok (.if_icmp .ne 11, 3) := by decide +kernel
theorem dX5_toListener_21 : decode cX5_toListener 21 = .ok (.aload_n 0, 1) := by decide +kernel
theorem dX5_toListener_22 : decode cX5_toListener 22 = .ok (.iload_n 1, 1) := by decide +kernel
theorem dX5_toListener_23 : decode cX5_toListener 23 = .ok (.invokevirtual 111, 3) := by decide +kernel
theorem dX5_toListener_26 : decode cX5_toListener 26 = .ok (.goto 14, 3) := by decide +kernel
theorem dX5_toListener_29 : decode cX5_toListener 29 = .ok (.iload_n 2, 1) := by decide +kernel
theorem dX5_toListener_30 : decode cX5_toListener 30 = .ok (.bipush 8, 2) := by decide +kernel
theorem dX5_toListener_32 : decode cX5_toListener 32 = .ok (.if_icmp .ne 8, 3) := by decide +kernel
theorem dX5_toListener_35 : decode cX5_toListener 35 = .ok (.aload_n 0, 1) := by decide +kernel
theorem dX5_toListener_36 : decode cX5_toListener 36 = .ok (.iload_n 1, 1) := by decide +kernel
theorem dX5_toListener_37 : decode cX5_toListener 37 = .ok (.invokevirtual 114, 3) := by decide +kernel
theorem dX5_toListener_40 : decode cX5_toListener 40 = .ok (.return_, 1) := by decide +kernel
theorem dX5_talker_0 : decode cX5_talker 0 = .ok (.iconst 0, 1) := by decide +kernel
theorem dX5_talker_1 : decode cX5_talker 1 = .ok (.istore_n 1, 1) := by decide +kernel
theorem dX5_talker_2 : decode cX5_talker 2 = .ok (.iload_n 1, 1) := by decide +kernel
theorem dX5_talker_3 : decode cX5_talker 3 = .ok (.aload_n 0, 1) := by decide +kernel
theorem dX5_talker_4 : decode cX5_talker 4 = .ok (.getfield 44, 3) := by decide +kernel
theorem dX5_talker_7 : decode cX5_talker 7 = .ok (.if_icmp .ge 21, 3) := by decide +kernel
theorem dX5_talker_10 : decode cX5_talker 10 = .ok (.aload_n 0, 1) := by decide +kernel
theorem dX5_talker_11 : decode cX5_talker 11 = .ok (.iload_n 1, 1) := by decide +kernel
theorem dX5_talker_12 : decode cX5_talker 12 = .ok (.iconst 5, 1) := by decide +kernel
theorem dX5_talker_13 : decode cX5_talker 13 = .ok (.invokevirtual 100, 3) := by decide +kernel
theorem dX5_talker_16 : decode cX5_talker 16 = .ok (.iconst 1, 1) := by decide +kernel
theorem dX5_talker_17 : decode cX5_talker 17 = .ok (.if_icmp .ne 5, 3) := by decide +kernel
theorem dX5_talker_20 : decode cX5_talker 20 = .ok (.iload_n 1, 1) := by decide +kernel
theorem dX5_talker_21 : decode cX5_talker 21 = .ok (.ireturn, 1) := by decide +kernel
theorem dX5_talker_22 : decode cX5_talker 22 = .ok (.iinc 1 1, 3) := by decide +kernel
theorem dX5_talker_25 : decode cX5_talker 25 = .ok (.goto (-23), 3) := by decide +kernel
theorem dX5_talker_28 : decode cX5_talker 28 = .ok (.bipush (-4), 2) := by decide +kernel
theorem dX5_talker_30 : decode cX5_talker 30 = .ok (.ireturn, 1) := by decide +kernel
theorem dX5_silences_0 : decode cX5_silences 0 = .ok (.iconst 0, 1) := by decide +kernel
theorem dX5_silences_1 : decode cX5_silences 1 = .ok (.istore_n 1, 1) := by decide +kernel
theorem dX5_silences_2 : decode cX5_silences 2 = .ok (.iload_n 1, 1) := by decide +kernel
theorem dX5_silences_3 : decode cX5_silences 3 = .ok (.aload_n 0, 1) := by decide +kernel
theorem dX5_silences_4 : decode cX5_silences 4 = .ok (.getfield 44, 3) := by decide +kernel
theorem dX5_silences_7 : decode cX5_silences 7 = .ok (.if_icmp .ge 16, 3) := by decide +kernel
theorem dX5_silences_10 : decode cX5_silences 10 = .ok (.aload_n 0, 1) := by decide +kernel
theorem dX5_silences_11 : decode cX5_silences 11 = .ok (.iload_n 1, 1) := by decide +kernel
theorem dX5_silences_12 : decode cX5_silences 12 = .ok (.iconst 5, 1) := by decide +kernel
theorem dX5_silences_13 : decode cX5_silences 13 = .ok (.iconst 0, 1) := by decide +kernel
theorem dX5_silences_14 : decode cX5_silences 14 = .ok (.invokevirtual 47, 3) := by decide +kernel
theorem dX5_silences_17 : decode cX5_silences 17 = .ok (.iinc 1 1, 3) := by decide +kernel
theorem dX5_silences_20 : decode cX5_silences 20 = .ok (.goto (-18), 3) := by decide +kernel
theorem dX5_silences_23 : decode cX5_silences 23 = .ok (.return_, 1) := by decide +kernel
theorem dX5_passes_0 : decode cX5_passes 0 = .ok (.aload_n 0, 1) := by decide +kernel
theorem dX5_passes_1 : decode cX5_passes 1 = .ok (.invokevirtual 117, 3) := by decide +kernel
theorem dX5_passes_4 : decode cX5_passes 4 = .ok (.istore_n 1, 1) := by decide +kernel
theorem dX5_passes_5 : decode cX5_passes 5 = .ok (.iload_n 1, 1) := by decide +kernel
theorem dX5_passes_6 : decode cX5_passes 6 = .ok (.ifCond .lt 44, 3) := by decide +kernel
theorem dX5_passes_9 : decode cX5_passes 9 = .ok (.aload_n 0, 1) := by decide +kernel
theorem dX5_passes_10 : decode cX5_passes 10 = .ok (.iload_n 1, 1) := by decide +kernel
theorem dX5_passes_11 : decode cX5_passes 11 = .ok (.iconst 0, 1) := by decide +kernel
theorem dX5_passes_12 : decode cX5_passes 12 = .ok (.invokevirtual 100, 3) := by decide +kernel
theorem dX5_passes_15 : decode cX5_passes 15 = .ok (.iconst 2, 1) := by decide +kernel
theorem dX5_passes_16 : decode cX5_passes 16 = .ok (.if_icmp .ne 34, 3) := by decide +kernel
theorem dX5_passes_19 : decode cX5_passes 19 = .ok (.iload_n 1, 1) := by decide +kernel
theorem dX5_passes_20 : decode cX5_passes 20 = .ok (.aload_n 0, 1) := by decide +kernel
theorem dX5_passes_21 : decode cX5_passes 21 = .ok (.getfield 51, 3) := by decide +kernel
theorem dX5_passes_24 : decode cX5_passes 24 = .ok (.if_icmp .eq 26, 3) := by decide +kernel
theorem dX5_passes_27 : decode cX5_passes 27 = .ok (.aload_n 0, 1) := by decide +kernel
theorem dX5_passes_28 : decode cX5_passes 28 = .ok (.iload_n 1, 1) := by decide +kernel
theorem dX5_passes_29 : decode cX5_passes 29 = .ok (.putfield 51, 3) := by decide +kernel
theorem dX5_passes_32 : decode cX5_passes 32 = .ok (.aload_n 0, 1) := by decide +kernel
theorem dX5_passes_33 : decode cX5_passes 33 = .ok (.iload_n 1, 1) := by decide +kernel
theorem dX5_passes_34 : decode cX5_passes 34 = .ok (.iconst 5, 1) := by decide +kernel
theorem dX5_passes_35 : decode cX5_passes 35 = .ok (.iconst 0, 1) := by decide +kernel
theorem dX5_passes_36 : decode cX5_passes 36 = .ok (.invokevirtual 47, 3) := by decide +kernel
theorem dX5_passes_39 : decode cX5_passes 39 = .ok (.aload_n 0, 1) := by decide +kernel
theorem dX5_passes_40 : decode cX5_passes 40 = .ok (.getfield 19, 3) := by decide +kernel
theorem dX5_passes_43 : decode cX5_passes 43 = .ok (.bipush 6, 2) := by decide +kernel
theorem dX5_passes_45 : decode cX5_passes 45 = .ok (.dup2, 1) := by decide +kernel
theorem dX5_passes_46 : decode cX5_passes 46 = .ok (.iaload, 1) := by decide +kernel
theorem dX5_passes_47 : decode cX5_passes 47 = .ok (.iconst 1, 1) := by decide +kernel
theorem dX5_passes_48 : decode cX5_passes 48 = .ok (.iadd, 1) := by decide +kernel
theorem dX5_passes_49 : decode cX5_passes 49 = .ok (.iastore, 1) := by decide +kernel
theorem dX5_passes_50 : decode cX5_passes 50 = .ok (.return_, 1) := by decide +kernel
theorem dX5_listens_0 : decode cX5_listens 0 = .ok (.aload_n 0, 1) := by decide +kernel
theorem dX5_listens_1 : decode cX5_listens 1 = .ok (.iload_n 1, 1) := by decide +kernel
theorem dX5_listens_2 : decode cX5_listens 2 = .ok (.bipush 6, 2) := by decide +kernel
theorem dX5_listens_4 : decode cX5_listens 4 = .ok (.iconst 1, 1) := by decide +kernel
theorem dX5_listens_5 : decode cX5_listens 5 = .ok (.invokevirtual 47, 3) := by decide +kernel
theorem dX5_listens_8 : decode cX5_listens 8 = .ok (.aload_n 0, 1) := by decide +kernel
theorem dX5_listens_9 : decode cX5_listens 9 = .ok (.iload_n 1, 1) := by decide +kernel
theorem dX5_listens_10 : decode cX5_listens 10 = .ok (.bipush 7, 2) := by decide +kernel
theorem dX5_listens_12 : decode cX5_listens 12 = .ok (.iconst 1, 1) := by decide +kernel
theorem dX5_listens_13 : decode cX5_listens 13 = .ok (.invokevirtual 47, 3) := by decide +kernel
theorem dX5_listens_16 : decode cX5_listens 16 = .ok (.return_, 1) := by decide +kernel
theorem dX5_addresses_0 : decode cX5_addresses 0 = .ok (.iconst 0, 1) := by decide +kernel
theorem dX5_addresses_1 : decode cX5_addresses 1 = .ok (.istore_n 3, 1) := by decide +kernel
theorem dX5_addresses_2 : decode cX5_addresses 2 = .ok (.iload_n 3, 1) := by decide +kernel
theorem dX5_addresses_3 : decode cX5_addresses 3 = .ok (.aload_n 0, 1) := by decide +kernel
theorem dX5_addresses_4 : decode cX5_addresses 4 = .ok (.getfield 44, 3) := by decide +kernel
theorem dX5_addresses_7 : decode cX5_addresses 7 = .ok (.if_icmp .ge 61, 3) := by decide +kernel
theorem dX5_addresses_10 : decode cX5_addresses 10 = .ok (.aload_n 0, 1) := by decide +kernel
theorem dX5_addresses_11 : decode cX5_addresses 11 = .ok (.iload_n 3, 1) := by decide +kernel
theorem dX5_addresses_12 : decode cX5_addresses 12 = .ok (.iconst 1, 1) := by decide +kernel
theorem dX5_addresses_13 : decode cX5_addresses 13 = .ok (.invokevirtual 100, 3) := by decide +kernel
theorem dX5_addresses_16 : decode cX5_addresses 16 = .ok (.iload_n 1, 1) := by decide +kernel
theorem dX5_addresses_17 : decode cX5_addresses 17 = .ok (.if_icmp .ne 45, 3) := by decide +kernel
theorem dX5_addresses_20 : decode cX5_addresses 20 = .ok (.aload_n 0, 1) := by decide +kernel
theorem dX5_addresses_21 : decode cX5_addresses 21 = .ok (.iload_n 3, 1) := by decide +kernel
theorem dX5_addresses_22 : decode cX5_addresses 22 = .ok (.iconst 2, 1) := by decide +kernel
theorem dX5_addresses_23 : decode cX5_addresses 23 = .ok (.invokevirtual 100, 3) := by decide +kernel
theorem dX5_addresses_26 : decode cX5_addresses 26 = .ok (.bipush 31, 2) := by decide +kernel
theorem dX5_addresses_28 : decode cX5_addresses 28 = .ok (.if_icmp .ge 14, 3) := by decide +kernel
theorem dX5_addresses_31 : decode cX5_addresses 31 = .ok (.aload_n 0, 1) := by decide +kernel
theorem dX5_addresses_32 : decode cX5_addresses 32 = .ok (.iload_n 3, 1) := by decide +kernel
theorem dX5_addresses_33 : decode cX5_addresses 33 = .ok (.bipush 17, 2) := by decide +kernel
theorem dX5_addresses_35 : decode cX5_addresses 35 = .ok (.iload_n 2, 1) := by decide +kernel
theorem dX5_addresses_36 : decode cX5_addresses 36 = .ok (.invokevirtual 47, 3) := by decide +kernel
theorem dX5_addresses_39 : decode cX5_addresses 39 = .ok (.goto 23, 3) := by decide +kernel
theorem dX5_addresses_42 : decode cX5_addresses 42 = .ok (.iload_n 2, 1) := by decide +kernel
theorem dX5_addresses_43 : decode cX5_addresses 43 = .ok (.iconst 1, 1) := by decide +kernel
theorem dX5_addresses_44 : decode cX5_addresses 44 = .ok (.if_icmp .ne 11, 3) := by decide +kernel
theorem dX5_addresses_47 : decode cX5_addresses 47 = .ok (.aload_n 0, 1) := by decide +kernel
theorem dX5_addresses_48 : decode cX5_addresses 48 = .ok (.iload_n 3, 1) := by decide +kernel
theorem dX5_addresses_49 : decode cX5_addresses 49 = .ok (.invokevirtual 120, 3) := by decide +kernel
theorem dX5_addresses_52 : decode cX5_addresses 52 = .ok (.goto 10, 3) := by decide +kernel
theorem dX5_addresses_55 : decode cX5_addresses 55 = .ok (.aload_n 0, 1) := by decide +kernel
theorem dX5_addresses_56 : decode cX5_addresses 56 = .ok (.iload_n 3, 1) := by decide +kernel
theorem dX5_addresses_57 : decode cX5_addresses 57 = .ok (.iconst 5, 1) := by decide +kernel
theorem dX5_addresses_58 : decode cX5_addresses 58 = .ok (.iconst 1, 1) := by decide +kernel
theorem dX5_addresses_59 : decode cX5_addresses 59 = .ok (.invokevirtual 47, 3) := by decide +kernel
theorem dX5_addresses_62 : decode cX5_addresses 62 = .ok (.iinc 3 1, 3) := by decide +kernel
theorem dX5_addresses_65 : decode cX5_addresses 65 = .ok (.goto (-63), 3) := by decide +kernel
theorem dX5_addresses_68 : decode cX5_addresses 68 = .ok (.return_, 1) := by decide +kernel
theorem dX5_seconds_0 : decode cX5_seconds 0 = .ok (.iconst 0, 1) := by decide +kernel
theorem dX5_seconds_1 : decode cX5_seconds 1 = .ok (.istore 4, 2) := by decide +kernel
theorem dX5_seconds_3 : decode cX5_seconds 3 = .ok (.iload 4, 2) := by decide +kernel
theorem dX5_seconds_5 : decode cX5_seconds 5 = .ok (.aload_n 0, 1) := by decide +kernel
theorem dX5_seconds_6 : decode cX5_seconds 6 = .ok (.getfield 44, 3) := by decide +kernel
theorem dX5_seconds_9 : decode cX5_seconds 9 = .ok (.if_icmp .ge 69, 3) := by decide +kernel
theorem dX5_seconds_12 : decode cX5_seconds 12 = .ok (.iload_n 2, 1) := by decide +kernel
theorem dX5_seconds_13 : decode cX5_seconds 13 = .ok (.iload 4, 2) := by decide +kernel
theorem dX5_seconds_15 : decode cX5_seconds 15 = .ok (.ishr, 1) := by decide +kernel
theorem dX5_seconds_16 : decode cX5_seconds 16 = .ok (.iconst 1, 1) := by decide +kernel
theorem dX5_seconds_17 : decode cX5_seconds 17 = .ok (.iand, 1) := by decide +kernel
theorem dX5_seconds_18 : decode cX5_seconds 18 = .ok (.iconst 1, 1) := by decide +kernel
theorem dX5_seconds_19 : decode cX5_seconds 19 = .ok (.if_icmp .ne 20, 3) := by decide +kernel
theorem dX5_seconds_22 : decode cX5_seconds 22 = .ok (.aload_n 0, 1) := by decide +kernel
theorem dX5_seconds_23 : decode cX5_seconds 23 = .ok (.iload 4, 2) := by decide +kernel
theorem dX5_seconds_25 : decode cX5_seconds 25 = .ok (.iconst 2, 1) := by decide +kernel
theorem dX5_seconds_26 : decode cX5_seconds 26 = .ok (.invokevirtual 100, 3) := by decide +kernel
theorem dX5_seconds_29 : decode cX5_seconds 29 = .ok (.iload_n 1, 1) := by decide +kernel
theorem dX5_seconds_30 : decode cX5_seconds 30 = .ok (.if_icmp .ne 9, 3) := by decide +kernel
theorem dX5_seconds_33 : decode cX5_seconds 33 = .ok (.aload_n 0, 1) := by decide +kernel
theorem dX5_seconds_34 : decode cX5_seconds 34 = .ok (.iload 4, 2) := by decide +kernel
theorem dX5_seconds_36 : decode cX5_seconds 36 = .ok (.invokevirtual 120, 3) := by decide +kernel
theorem dX5_seconds_39 : decode cX5_seconds 39 = .ok (.iload_n 3, 1) := by decide +kernel
theorem dX5_seconds_40 : decode cX5_seconds 40 = .ok (.iload 4, 2) := by decide +kernel
theorem dX5_seconds_42 : decode cX5_seconds 42 = .ok (.ishr, 1) := by decide +kernel
theorem dX5_seconds_43 : decode cX5_seconds 43 = .ok (.iconst 1, 1) := by decide +kernel
theorem dX5_seconds_44 : decode cX5_seconds 44 = .ok (.iand, 1) := by decide +kernel
theorem dX5_seconds_45 : decode cX5_seconds 45 = .ok (.iconst 1, 1) := by decide +kernel
theorem dX5_seconds_46 : decode cX5_seconds 46 = .ok (.if_icmp .ne 26, 3) := by decide +kernel
theorem dX5_seconds_49 : decode cX5_seconds 49 = .ok (.aload_n 0, 1) := by decide +kernel
theorem dX5_seconds_50 : decode cX5_seconds 50 = .ok (.iload 4, 2) := by decide +kernel
theorem dX5_seconds_52 : decode cX5_seconds 52 = .ok (.iconst 2, 1) := by decide +kernel
theorem dX5_seconds_53 : decode cX5_seconds 53 = .ok (.invokevirtual 100, 3) := by decide +kernel
theorem dX5_seconds_56 : decode cX5_seconds 56 = .ok (.iload_n 1, 1) := by decide +kernel
theorem dX5_seconds_57 : decode cX5_seconds 57 = .ok (.if_icmp .ne 15, 3) := by decide +kernel
theorem dX5_seconds_60 : decode cX5_seconds 60 = .ok (.aload_n 0, 1) := by decide +kernel
theorem dX5_seconds_61 : decode cX5_seconds 61 = .ok (.invokevirtual 123, 3) := by decide +kernel
theorem dX5_seconds_64 : decode cX5_seconds 64 = .ok (.aload_n 0, 1) := by decide +kernel
theorem dX5_seconds_65 : decode cX5_seconds 65 = .ok (.iload 4, 2) := by decide +kernel
theorem dX5_seconds_67 : decode cX5_seconds 67 = .ok (.iconst 5, 1) := by decide +kernel
theorem dX5_seconds_68 : decode cX5_seconds 68 = .ok (.iconst 1, 1) := by decide +kernel
theorem dX5_seconds_69 : decode cX5_seconds 69 = .ok (.invokevirtual 47, 3) := by decide +kernel
theorem dX5_seconds_72 : decode cX5_seconds 72 = .ok (.iinc 4 1, 3) := by decide +kernel
theorem dX5_seconds_75 : decode cX5_seconds 75 = .ok (.goto (-72), 3) := by decide +kernel
theorem dX5_seconds_78 : decode cX5_seconds 78 = .ok (.return_, 1) := by decide +kernel
theorem dX5_prepares_0 : decode cX5_prepares 0 = .ok (.iconst 0, 1) := by decide +kernel
theorem dX5_prepares_1 : decode cX5_prepares 1 = .ok (.istore_n 2, 1) := by decide +kernel
theorem dX5_prepares_2 : decode cX5_prepares 2 = .ok (.iload_n 2, 1) := by decide +kernel
theorem dX5_prepares_3 : decode cX5_prepares 3 = .ok (.aload_n 0, 1) := by decide +kernel
theorem dX5_prepares_4 : decode cX5_prepares 4 = .ok (.getfield 44, 3) := by decide +kernel
theorem dX5_prepares_7 : decode cX5_prepares 7 = .ok (.if_icmp .ge 70, 3) := by decide +kernel
theorem dX5_prepares_10 : decode cX5_prepares 10 = .ok (.aload_n 0, 1) := by decide +kernel
theorem dX5_prepares_11 : decode cX5_prepares 11 = .ok (.getfield 63, 3) := by decide +kernel
theorem dX5_prepares_14 : decode cX5_prepares 14 = .ok (.iload_n 2, 1) := by decide +kernel
theorem dX5_prepares_15 : decode cX5_prepares 15 = .ok (.ishr, 1) := by decide +kernel
theorem dX5_prepares_16 : decode cX5_prepares 16 = .ok (.iconst 1, 1) := by decide +kernel
theorem dX5_prepares_17 : decode cX5_prepares 17 = .ok (.iand, 1) := by decide +kernel
theorem dX5_prepares_18 : decode cX5_prepares 18 = .ok (.iconst 1, 1) := by decide +kernel
theorem dX5_prepares_19 : decode cX5_prepares 19 = .ok (.if_icmp .ne 52, 3) := by decide +kernel
theorem dX5_prepares_22 : decode cX5_prepares 22 = .ok (.aload_n 0, 1) := by decide +kernel
theorem dX5_prepares_23 : decode cX5_prepares 23 = .ok (.iload_n 2, 1) := by decide +kernel
theorem dX5_prepares_24 : decode cX5_prepares 24 = .ok (.bipush 11, 2) := by decide +kernel
theorem dX5_prepares_26 : decode cX5_prepares 26 = .ok (.iload_n 1, 1) := by decide +kernel
theorem dX5_prepares_27 : decode cX5_prepares 27 = .ok (.bipush 112, 2) := by decide +kernel
theorem dX5_prepares_29 : decode cX5_prepares 29 = .ok (.if_icmp .ge 13, 3) := by decide +kernel
theorem dX5_prepares_32 : decode cX5_prepares 32 = .ok (.iload_n 1, 1) := by decide +kernel
theorem dX5_prepares_33 : decode cX5_prepares 33 = .ok (.bipush 96, 2) := by decide +kernel
theorem dX5_prepares_35 : decode cX5_prepares 35 = .ok (.isub, 1) := by decide +kernel
theorem dX5_prepares_36 : decode cX5_prepares 36 = .ok (.bipush 8, 2) := by decide +kernel
theorem dX5_prepares_38 : decode cX5_prepares 38 = .ok (.irem, 1) := by decide +kernel
theorem dX5_prepares_39 : decode cX5_prepares 39 = .ok (.goto 5, 3) := by decide +kernel
theorem dX5_prepares_42 : decode cX5_prepares 42 = .ok (.bipush (-4), 2) := by decide +kernel
theorem dX5_prepares_44 : decode cX5_prepares 44 = .ok (.invokevirtual 47, 3) := by decide +kernel
theorem dX5_prepares_47 : decode cX5_prepares 47 = .ok (.aload_n 0, 1) := by decide +kernel
theorem dX5_prepares_48 : decode cX5_prepares 48 = .ok (.iload_n 2, 1) := by decide +kernel
theorem dX5_prepares_49 : decode cX5_prepares 49 = .ok (.bipush 12, 2) := by decide +kernel
theorem dX5_prepares_51 : decode cX5_prepares 51 = .ok (.iload_n 1, 1) := by decide +kernel
theorem dX5_prepares_52 : decode cX5_prepares 52 = .ok (.bipush 112, 2) := by decide +kernel
theorem dX5_prepares_54 : decode cX5_prepares 54 = .ok (.if_icmp .ge 13, 3) := by decide +kernel
theorem dX5_prepares_57 : decode cX5_prepares 57 = .ok (.iload_n 1, 1) := by decide +kernel
theorem dX5_prepares_58 : decode cX5_prepares 58 = .ok (.bipush 96, 2) := by decide +kernel
theorem dX5_prepares_60 : decode cX5_prepares 60 = .ok (.isub, 1) := by decide +kernel
theorem dX5_prepares_61 : decode cX5_prepares 61 = .ok (.bipush 8, 2) := by decide +kernel
theorem dX5_prepares_63 : decode cX5_prepares 63 = .ok (.idiv, 1) := by decide +kernel
theorem dX5_prepares_64 : decode cX5_prepares 64 = .ok (.goto 4, 3) := by decide +kernel
theorem dX5_prepares_67 : decode cX5_prepares 67 = .ok (.iconst 0, 1) := by decide +kernel
theorem dX5_prepares_68 : decode cX5_prepares 68 = .ok (.invokevirtual 47, 3) := by decide +kernel
theorem dX5_prepares_71 : decode cX5_prepares 71 = .ok (.iinc 2 1, 3) := by decide +kernel
theorem dX5_prepares_74 : decode cX5_prepares 74 = .ok (.goto (-72), 3) := by decide +kernel
theorem dX5_prepares_77 : decode cX5_prepares 77 = .ok (.return_, 1) := by decide +kernel
theorem dX5_listeners_0 : decode cX5_listeners 0 = .ok (.iconst 0, 1) := by decide +kernel
theorem dX5_listeners_1 : decode cX5_listeners 1 = .ok (.istore_n 1, 1) := by decide +kernel
theorem dX5_listeners_2 : decode cX5_listeners 2 = .ok (.iconst 0, 1) := by decide +kernel
theorem dX5_listeners_3 : decode cX5_listeners 3 = .ok (.istore_n 2, 1) := by decide +kernel
theorem dX5_listeners_4 : decode cX5_listeners 4 = .ok (.iload_n 2, 1) := by decide +kernel
theorem dX5_listeners_5 : decode cX5_listeners 5 = .ok (.aload_n 0, 1) := by decide +kernel
theorem dX5_listeners_6 : decode cX5_listeners 6 = .ok (.getfield 44, 3) := by decide +kernel
theorem dX5_listeners_9 : decode cX5_listeners 9 = .ok (.if_icmp .ge 21, 3) := by decide +kernel
theorem dX5_listeners_12 : decode cX5_listeners 12 = .ok (.iload_n 1, 1) := by decide +kernel
theorem dX5_listeners_13 : decode cX5_listeners 13 = .ok (.aload_n 0, 1) := by decide +kernel
theorem dX5_listeners_14 : decode cX5_listeners 14 = .ok (.iload_n 2, 1) := by decide +kernel
theorem dX5_listeners_15 : decode cX5_listeners 15 = .ok (.bipush 6, 2) := by decide +kernel
theorem dX5_listeners_17 : decode cX5_listeners 17 = .ok (.invokevirtual 100, 3) := by decide +kernel
theorem dX5_listeners_20 : decode cX5_listeners 20 = .ok (.iload_n 2, 1) := by decide +kernel
theorem dX5_listeners_21 : decode cX5_listeners 21 = .ok (.ishl, 1) := by decide +kernel
theorem dX5_listeners_22 : decode cX5_listeners 22 = .ok (.ior, 1) := by decide +kernel
theorem dX5_listeners_23 : decode cX5_listeners 23 = .ok (.istore_n 1, 1) := by decide +kernel
theorem dX5_listeners_24 : decode cX5_listeners 24 = .ok (.iinc 2 1, 3) := by decide +kernel
theorem dX5_listeners_27 : decode cX5_listeners 27 = .ok (.goto (-23), 3) := by decide +kernel
theorem dX5_listeners_30 : decode cX5_listeners 30 = .ok (.iload_n 1, 1) := by decide +kernel
theorem dX5_listeners_31 : decode cX5_listeners 31 = .ok (.ireturn, 1) := by decide +kernel
theorem dX5_slowest_0 : decode cX5_slowest 0 = .ok (.iconst 0, 1) := by decide +kernel
theorem dX5_slowest_1 : decode cX5_slowest 1 = .ok (.istore_n 2, 1) := by decide +kernel
theorem dX5_slowest_2 : decode cX5_slowest 2 = .ok (.iconst 0, 1) := by decide +kernel
theorem dX5_slowest_3 : decode cX5_slowest 3 = .ok (.istore_n 3, 1) := by decide +kernel
theorem dX5_slowest_4 : decode cX5_slowest 4 = .ok (.iload_n 3, 1) := by decide +kernel
theorem dX5_slowest_5 : decode cX5_slowest 5 = .ok (.aload_n 0, 1) := by decide +kernel
theorem dX5_slowest_6 : decode cX5_slowest 6 = .ok (.getfield 44, 3) := by decide +kernel
theorem dX5_slowest_9 : decode cX5_slowest 9 = .ok (.if_icmp .ge 39, 3) := by decide +kernel
theorem dX5_slowest_12 : decode cX5_slowest 12 = .ok (.iload_n 1, 1) := by decide +kernel
theorem dX5_slowest_13 : decode cX5_slowest 13 = .ok (.iload_n 3, 1) := by decide +kernel
theorem dX5_slowest_14 : decode cX5_slowest 14 = .ok (.ishr, 1) := by decide +kernel
theorem dX5_slowest_15 : decode cX5_slowest 15 = .ok (.iconst 1, 1) := by decide +kernel
theorem dX5_slowest_16 : decode cX5_slowest 16 = .ok (.iand, 1) := by decide +kernel
theorem dX5_slowest_17 : decode cX5_slowest 17 = .ok (.iconst 1, 1) := by decide +kernel
theorem dX5_slowest_18 : decode cX5_slowest 18 = .ok (.if_icmp .ne 22, 3) := by decide +kernel
theorem dX5_slowest_21 : decode cX5_slowest 21 = .ok (.aload_n 0, 1) := by decide +kernel
theorem dX5_slowest_22 : decode cX5_slowest 22 = .ok (.iload_n 3, 1) := by decide +kernel
theorem dX5_slowest_23 : decode cX5_slowest 23 = .ok (.iconst 3, 1) := by decide +kernel
theorem dX5_slowest_24 : decode cX5_slowest 24 = .ok (.invokevirtual 100, 3) := by decide +kernel
theorem dX5_slowest_27 : decode cX5_slowest 27 = .ok (.iload_n 2, 1) := by decide +kernel
theorem dX5_slowest_28 : decode cX5_slowest 28 = .ok (.if_icmp .le 12, 3) := by decide +kernel
theorem dX5_slowest_31 : decode cX5_slowest 31 = .ok (.aload_n 0, 1) := by decide +kernel
theorem dX5_slowest_32 : decode cX5_slowest 32 = .ok (.iload_n 3, 1) := by decide +kernel
theorem dX5_slowest_33 : decode cX5_slowest 33 = .ok (.iconst 3, 1) := by decide +kernel
theorem dX5_slowest_34 : decode cX5_slowest 34 = .ok (.invokevirtual 100, 3) := by decide +kernel
theorem dX5_slowest_37 : decode cX5_slowest 37 = .ok (.goto 4, 3) := by decide +kernel
theorem dX5_slowest_40 : decode cX5_slowest 40 = .ok (.iload_n 2, 1) := by decide +kernel
theorem dX5_slowest_41 : decode cX5_slowest 41 = .ok (.istore_n 2, 1) := by decide +kernel
theorem dX5_slowest_42 : decode cX5_slowest 42 = .ok (.iinc 3 1, 3) := by decide +kernel
theorem dX5_slowest_45 : decode cX5_slowest 45 = .ok (.goto (-41), 3) := by decide +kernel
theorem dX5_slowest_48 : decode cX5_slowest 48 = .ok (.iload_n 2, 1) := by decide +kernel
theorem dX5_slowest_49 : decode cX5_slowest 49 = .ok (.ireturn, 1) := by decide +kernel
theorem dX5_logs_0 : decode cX5_logs 0 = .ok (.bipush 15, 2) := by decide +kernel
theorem dX5_logs_2 : decode cX5_logs 2 = .ok (.istore_n 2, 1) := by decide +kernel
theorem dX5_logs_3 : decode cX5_logs 3 = .ok (.iload_n 2, 1) := by decide +kernel
theorem dX5_logs_4 : decode cX5_logs 4 = .ok (.ifCond .le 51, 3) := by decide +kernel
theorem dX5_logs_7 : decode cX5_logs 7 = .ok (.aload_n 0, 1) := by decide +kernel
theorem dX5_logs_8 : decode cX5_logs 8 = .ok (.getfield 22, 3) := by decide +kernel
theorem dX5_logs_11 : decode cX5_logs 11 = .ok (.iload_n 2, 1) := by decide +kernel
theorem dX5_logs_12 : decode cX5_logs 12 = .ok (.aload_n 0, 1) := by decide +kernel
theorem dX5_logs_13 : decode cX5_logs 13 = .ok (.getfield 22, 3) := by decide +kernel
theorem dX5_logs_16 : decode cX5_logs 16 = .ok (.iload_n 2, 1) := by decide +kernel
theorem dX5_logs_17 : decode cX5_logs 17 = .ok (.iconst 1, 1) := by decide +kernel
theorem dX5_logs_18 : decode cX5_logs 18 = .ok (.isub, 1) := by decide +kernel
theorem dX5_logs_19 : decode cX5_logs 19 = .ok (.iaload, 1) := by decide +kernel
theorem dX5_logs_20 : decode cX5_logs 20 = .ok (.iastore, 1) := by decide +kernel
theorem dX5_logs_21 : decode cX5_logs 21 = .ok (.aload_n 0, 1) := by decide +kernel
theorem dX5_logs_22 : decode cX5_logs 22 = .ok (.getfield 25, 3) := by decide +kernel
theorem dX5_logs_25 : decode cX5_logs 25 = .ok (.iload_n 2, 1) := by decide +kernel
theorem dX5_logs_26 : decode cX5_logs 26 = .ok (.aload_n 0, 1) := by decide +kernel
theorem dX5_logs_27 : decode cX5_logs 27 = .ok (.getfield 25, 3) := by decide +kernel
theorem dX5_logs_30 : decode cX5_logs 30 = .ok (.iload_n 2, 1) := by decide +kernel
theorem dX5_logs_31 : decode cX5_logs 31 = .ok (.iconst 1, 1) := by decide +kernel
theorem dX5_logs_32 : decode cX5_logs 32 = .ok (.isub, 1) := by decide +kernel
theorem dX5_logs_33 : decode cX5_logs 33 = .ok (.iaload, 1) := by decide +kernel
theorem dX5_logs_34 : decode cX5_logs 34 = .ok (.iastore, 1) := by decide +kernel
theorem dX5_logs_35 : decode cX5_logs 35 = .ok (.aload_n 0, 1) := by decide +kernel
theorem dX5_logs_36 : decode cX5_logs 36 = .ok (.getfield 28, 3) := by decide +kernel
theorem dX5_logs_39 : decode cX5_logs 39 = .ok (.iload_n 2, 1) := by decide +kernel
theorem dX5_logs_40 : decode cX5_logs 40 = .ok (.aload_n 0, 1) := by decide +kernel
theorem dX5_logs_41 : decode cX5_logs 41 = .ok (.getfield 28, 3) := by decide +kernel
theorem dX5_logs_44 : decode cX5_logs 44 = .ok (.iload_n 2, 1) := by decide +kernel
theorem dX5_logs_45 : decode cX5_logs 45 = .ok (.iconst 1, 1) := by decide +kernel
theorem dX5_logs_46 : decode cX5_logs 46 = .ok (.isub, 1) := by decide +kernel
theorem dX5_logs_47 : decode cX5_logs 47 = .ok (.iaload, 1) := by decide +kernel
theorem dX5_logs_48 : decode cX5_logs 48 = .ok (.iastore, 1) := by decide +kernel
theorem dX5_logs_49 : decode cX5_logs 49 = .ok (.iinc 2 (-1), 3) := by decide +kernel
theorem dX5_logs_52 : decode cX5_logs 52 = .ok (.goto (-49), 3) := by decide +kernel
theorem dX5_logs_55 : decode cX5_logs 55 = .ok (.aload_n 0, 1) := by decide +kernel
theorem dX5_logs_56 : decode cX5_logs 56 = .ok (.getfield 22, 3) := by decide +kernel
theorem dX5_logs_59 : decode cX5_logs 59 = .ok (.iconst 0, 1) := by decide +kernel
theorem dX5_logs_60 : decode cX5_logs 60 = .ok (.aload_n 0, 1) := by decide +kernel
theorem dX5_logs_61 : decode cX5_logs 61 = .ok (.getfield 57, 3) := by decide +kernel
theorem dX5_logs_64 : decode cX5_logs 64 = .ok (.iastore, 1) := by decide +kernel
theorem dX5_logs_65 : decode cX5_logs 65 = .ok (.aload_n 0, 1) := by decide +kernel
theorem dX5_logs_66 : decode cX5_logs 66 = .ok (.getfield 25, 3) := by decide +kernel
theorem dX5_logs_69 : decode cX5_logs 69 = .ok (.iconst 0, 1) := by decide +kernel
theorem dX5_logs_70 : decode cX5_logs 70 = .ok (.iload_n 1, 1) := by decide +kernel
theorem dX5_logs_71 : decode cX5_logs 71 = .ok (.iastore, 1) := by decide +kernel
theorem dX5_logs_72 : decode cX5_logs 72 = .ok (.aload_n 0, 1) := by decide +kernel
theorem dX5_logs_73 : decode cX5_logs 73 = .ok (.getfield 28, 3) := by decide +kernel
theorem dX5_logs_76 : decode cX5_logs 76 = .ok (.iconst 0, 1) := by decide +kernel
theorem dX5_logs_77 : decode cX5_logs 77 = .ok (.aload_n 0, 1) := by decide +kernel
theorem dX5_logs_78 : decode cX5_logs 78 = .ok (.getfield 51, 3) := by decide +kernel
theorem dX5_logs_81 : decode cX5_logs 81 = .ok (.iastore, 1) := by decide +kernel
theorem dX5_logs_82 : decode cX5_logs 82 = .ok (.aload_n 0, 1) := by decide +kernel
theorem dX5_logs_83 : decode cX5_logs 83 = .ok (.aload_n 0, 1) := by decide +kernel
theorem dX5_logs_84 : decode cX5_logs 84 = .ok (.getfield 66, 3) := by decide +kernel
theorem dX5_logs_87 : decode cX5_logs 87 = .ok (.bipush 16, 2) := by decide +kernel
theorem dX5_logs_89 : decode cX5_logs 89 = .ok (.if_icmp .ge 12, 3) := by decide +kernel
theorem dX5_logs_92 : decode cX5_logs 92 = .ok (.aload_n 0, 1) := by decide +kernel
theorem dX5_logs_93 : decode cX5_logs 93 = .ok (.getfield 66, 3) := by decide +kernel
theorem dX5_logs_96 : decode cX5_logs 96 = .ok (.iconst 1, 1) := by decide +kernel
theorem dX5_logs_97 : decode cX5_logs 97 = .ok (.iadd, 1) := by decide +kernel
theorem dX5_logs_98 : decode cX5_logs 98 = .ok (.goto 5, 3) := by decide +kernel
theorem dX5_logs_101 : decode cX5_logs 101 = .ok (.bipush 16, 2) := by decide +kernel
theorem dX5_logs_103 : decode cX5_logs 103 = .ok (.putfield 66, 3) := by decide +kernel
theorem dX5_logs_106 : decode cX5_logs 106 = .ok (.return_, 1) := by decide +kernel
theorem dX5_all_0 : decode cX5_all 0 = .ok (.iconst 0, 1) := by decide +kernel
theorem dX5_all_1 : decode cX5_all 1 = .ok (.istore_n 3, 1) := by decide +kernel
theorem dX5_all_2 : decode cX5_all 2 = .ok (.iload_n 3, 1) := by decide +kernel
theorem dX5_all_3 : decode cX5_all 3 = .ok (.aload_n 0, 1) := by decide +kernel
theorem dX5_all_4 : decode cX5_all 4 = .ok (.getfield 44, 3) := by decide +kernel
theorem dX5_all_7 : decode cX5_all 7 = .ok (.if_icmp .ge 16, 3) := by decide +kernel
theorem dX5_all_10 : decode cX5_all 10 = .ok (.aload_n 0, 1) := by decide +kernel
theorem dX5_all_11 : decode cX5_all 11 = .ok (.iload_n 3, 1) := by decide +kernel
theorem dX5_all_12 : decode cX5_all 12 = .ok (.iload_n 1, 1) := by decide +kernel
theorem dX5_all_13 : decode cX5_all 13 = .ok (.iload_n 2, 1) := by decide +kernel
theorem dX5_all_14 : decode cX5_all 14 = .ok (.invokevirtual 47, 3) := by decide +kernel
theorem dX5_all_17 : decode cX5_all 17 = .ok (.iinc 3 1, 3) := by decide +kernel
theorem dX5_all_20 : decode cX5_all 20 = .ok (.goto (-18), 3) := by decide +kernel
theorem dX5_all_23 : decode cX5_all 23 = .ok (.return_, 1) := by decide +kernel
theorem dX5_sends_0 : decode cX5_sends 0 = .ok (.aload_n 0, 1) := by decide +kernel
theorem dX5_sends_1 : decode cX5_sends 1 = .ok (.iload_n 1, 1) := by decide +kernel
theorem dX5_sends_2 : decode cX5_sends 2 = .ok (.invokevirtual 126, 3) := by decide +kernel
theorem dX5_sends_5 : decode cX5_sends 5 = .ok (.aload_n 0, 1) := by decide +kernel
theorem dX5_sends_6 : decode cX5_sends 6 = .ok (.getfield 19, 3) := by decide +kernel
theorem dX5_sends_9 : decode cX5_sends 9 = .ok (.iconst 0, 1) := by decide +kernel
theorem dX5_sends_10 : decode cX5_sends 10 = .ok (.dup2, 1) := by decide +kernel
theorem dX5_sends_11 : decode cX5_sends 11 = .ok (.iaload, 1) := by decide +kernel
theorem dX5_sends_12 : decode cX5_sends 12 = .ok (.iconst 1, 1) := by decide +kernel
theorem dX5_sends_13 : decode cX5_sends 13 = .ok (.iadd, 1) := by decide +kernel
theorem dX5_sends_14 : decode cX5_sends 14 = .ok (.iastore, 1) := by decide +kernel
theorem dX5_sends_15 : decode cX5_sends 15 = .ok (.aload_n 0, 1) := by decide +kernel
theorem dX5_sends_16 : decode cX5_sends 16 = .ok (.aload_n 0, 1) := by decide +kernel
theorem dX5_sends_17 : decode cX5_sends 17 = .ok (.bipush 63, 2) := by decide +kernel
theorem dX5_sends_19 : decode cX5_sends 19 = .ok (.invokevirtual 129, 3) := by decide +kernel
theorem dX5_sends_22 : decode cX5_sends 22 = .ok (.invokevirtual 107, 3) := by decide +kernel
theorem dX5_sends_25 : decode cX5_sends 25 = .ok (.iconst 0, 1) := by decide +kernel
theorem dX5_sends_26 : decode cX5_sends 26 = .ok (.istore_n 2, 1) := by decide +kernel
theorem dX5_sends_27 : decode cX5_sends 27 = .ok (.iconst 0, 1) := by decide +kernel
theorem dX5_sends_28 : decode cX5_sends 28 = .ok (.istore_n 3, 1) := by decide +kernel
theorem dX5_sends_29 : decode cX5_sends 29 = .ok (.iconst 0, 1) := by decide +kernel
theorem dX5_sends_30 : decode cX5_sends 30 = .ok (.istore 4, 2) := by decide +kernel
theorem dX5_sends_32 : decode cX5_sends 32 = .ok (.iload 4, 2) := by decide +kernel
theorem dX5_sends_34 : decode cX5_sends 34 = .ok (.aload_n 0, 1) := by decide +kernel
theorem dX5_sends_35 : decode cX5_sends 35 = .ok (.getfield 44, 3) := by decide +kernel
theorem dX5_sends_38 : decode cX5_sends 38 = .ok (.if_icmp .ge 64, 3) := by decide +kernel
theorem dX5_sends_41 : decode cX5_sends 41 = .ok (.iload_n 2, 1) := by decide +kernel
theorem dX5_sends_42 : decode cX5_sends 42 = .ok (.aload_n 0, 1) := by decide +kernel
theorem dX5_sends_43 : decode cX5_sends 43 = .ok (.iload 4, 2) := by decide +kernel
theorem dX5_sends_45 : decode cX5_sends 45 = .ok (.bipush 17, 2) := by decide +kernel
theorem dX5_sends_47 : decode cX5_sends 47 = .ok (.invokevirtual 100, 3) := by decide +kernel
theorem dX5_sends_50 : decode cX5_sends 50 = .ok (.iconst 1, 1) := by decide +kernel
theorem dX5_sends_51 : decode cX5_sends 51 = .ok (.if_icmp .ne 10, 3) := by decide +kernel
theorem dX5_sends_54 : decode cX5_sends 54 = .ok (.iconst 1, 1) := by decide +kernel
theorem dX5_sends_55 : decode cX5_sends 55 = .ok (.iload 4, 2) := by decide +kernel
theorem dX5_sends_57 : decode cX5_sends 57 = .ok (.ishl, 1) := by decide +kernel
theorem dX5_sends_58 : decode cX5_sends 58 = .ok (.goto 4, 3) := by decide +kernel
theorem dX5_sends_61 : decode cX5_sends 61 = .ok (.iconst 0, 1) := by decide +kernel
theorem dX5_sends_62 : decode cX5_sends 62 = .ok (.ior, 1) := by decide +kernel
theorem dX5_sends_63 : decode cX5_sends 63 = .ok (.istore_n 2, 1) := by decide +kernel
theorem dX5_sends_64 : decode cX5_sends 64 = .ok (.iload_n 3, 1) := by decide +kernel
theorem dX5_sends_65 : decode cX5_sends 65 = .ok (.aload_n 0, 1) := by decide +kernel
theorem dX5_sends_66 : decode cX5_sends 66 = .ok (.iload 4, 2) := by decide +kernel
theorem dX5_sends_68 : decode cX5_sends 68 = .ok (.bipush 17, 2) := by decide +kernel
theorem dX5_sends_70 : decode cX5_sends 70 = .ok (.invokevirtual 100, 3) := by decide +kernel
theorem dX5_sends_73 : decode cX5_sends 73 = .ok (.iconst 2, 1) := by decide +kernel
theorem dX5_sends_74 : decode cX5_sends 74 = .ok (.if_icmp .ne 10, 3) := by decide +kernel
theorem dX5_sends_77 : decode cX5_sends 77 = .ok (.iconst 1, 1) := by decide +kernel
theorem dX5_sends_78 : decode cX5_sends 78 = .ok (.iload 4, 2) := by decide +kernel
theorem dX5_sends_80 : decode cX5_sends 80 = .ok (.ishl, 1) := by decide +kernel
theorem dX5_sends_81 : decode cX5_sends 81 = .ok (.goto 4, 3) := by decide +kernel
theorem dX5_sends_84 : decode cX5_sends 84 = .ok (.iconst 0, 1) := by decide +kernel
theorem dX5_sends_85 : decode cX5_sends 85 = .ok (.ior, 1) := by decide +kernel
theorem dX5_sends_86 : decode cX5_sends 86 = .ok (.istore_n 3, 1) := by decide +kernel
theorem dX5_sends_87 : decode cX5_sends 87 = .ok (.aload_n 0, 1) := by decide +kernel
theorem dX5_sends_88 : decode cX5_sends 88 = .ok (.iload 4, 2) := by decide +kernel
theorem dX5_sends_90 : decode cX5_sends 90 = .ok (.bipush 17, 2) := by decide +kernel
theorem dX5_sends_92 : decode cX5_sends 92 = .ok (.iconst 0, 1) := by decide +kernel
theorem dX5_sends_93 : decode cX5_sends 93 = .ok (.invokevirtual 47, 3) := by decide +kernel
theorem dX5_sends_96 : decode cX5_sends 96 = .ok (.iinc 4 1, 3) := by decide +kernel
theorem dX5_sends_99 : decode cX5_sends 99 = .ok (.goto (-67), 3) := by decide +kernel
theorem dX5_sends_102 : decode cX5_sends 102 = .ok (.aload_n 0, 1) := by decide +kernel
theorem dX5_sends_103 : decode cX5_sends 103 = .ok (.invokevirtual 132, 3) := by decide +kernel
theorem dX5_sends_106 : decode cX5_sends 106 = .ok (.istore 4, 2) := by decide +kernel
theorem dX5_sends_108 : decode cX5_sends 108 = .ok (.iload_n 1, 1) := by decide +kernel
theorem dX5_sends_109 : decode cX5_sends 109 = .ok (.bipush 9, 2) := by decide +kernel
theorem dX5_sends_111 : decode cX5_sends 111 = .ok (.if_icmp .lt 9, 3) := by decide +kernel
theorem dX5_sends_114 : decode cX5_sends 114 = .ok (.iload_n 1, 1) := by decide +kernel
theorem dX5_sends_115 : decode cX5_sends 115 = .ok (.bipush 20, 2) := by decide +kernel
theorem dX5_sends_117 : decode cX5_sends 117 = .ok (.if_icmp .ne 61, 3) := by decide +kernel
theorem dX5_sends_120 : decode cX5_sends 120 = .ok (.iconst 0, 1) := by decide +kernel
theorem dX5_sends_121 : decode cX5_sends 121 = .ok (.istore 5, 2) := by decide +kernel
theorem dX5_sends_123 : decode cX5_sends 123 = .ok (.iload 5, 2) := by decide +kernel
theorem dX5_sends_125 : decode cX5_sends 125 = .ok (.aload_n 0, 1) := by decide +kernel
theorem dX5_sends_126 : decode cX5_sends 126 = .ok (.getfield 44, 3) := by decide +kernel
theorem dX5_sends_129 : decode cX5_sends 129 = .ok (.if_icmp .ge 42, 3) := by decide +kernel
theorem dX5_sends_132 : decode cX5_sends 132 = .ok (.iload_n 1, 1) := by decide +kernel
theorem dX5_sends_133 : decode cX5_sends 133 = .ok (.bipush 20, 2) := by decide +kernel
theorem dX5_sends_135 : decode cX5_sends 135 = .ok (.if_icmp .ne 12, 3) := by decide +kernel
theorem dX5_sends_138 : decode cX5_sends 138 = .ok (.aload_n 0, 1) := by decide +kernel
theorem dX5_sends_139 : decode cX5_sends 139 = .ok (.iload 5, 2) := by decide +kernel
theorem dX5_sends_141 : decode cX5_sends 141 = .ok (.invokevirtual 111, 3) := by decide +kernel
theorem dX5_sends_144 : decode cX5_sends 144 = .ok (.goto 21, 3) := by decide +kernel
theorem dX5_sends_147 : decode cX5_sends 147 = .ok (.iload 4, 2) := by decide +kernel
theorem dX5_sends_149 : decode cX5_sends 149 = .ok (.iload 5, 2) := by decide +kernel
theorem dX5_sends_151 : decode cX5_sends 151 = .ok (.ishr, 1) := by decide +kernel
theorem dX5_sends_152 : decode cX5_sends 152 = .ok (.iconst 1, 1) := by decide +kernel
theorem dX5_sends_153 : decode cX5_sends 153 = .ok (.iand, 1) := by decide +kernel
theorem dX5_sends_154 : decode cX5_sends 154 = .ok (.iconst 1, 1) := by decide +kernel
theorem dX5_sends_155 : decode cX5_sends 155 = .ok (.if_icmp .ne 10, 3) := by decide +kernel
theorem dX5_sends_158 : decode cX5_sends 158 = .ok (.aload_n 0, 1) := by decide +kernel
theorem dX5_sends_159 : decode cX5_sends 159 = .ok (.iload 5, 2) := by decide +kernel
theorem dX5_sends_161 : decode cX5_sends 161 = .ok (.iload_n 1, 1) := by decide +kernel
theorem dX5_sends_162 : decode cX5_sends 162 = .ok (.invokevirtual 135, 3) := by decide +kernel
theorem dX5_sends_165 : decode cX5_sends 165 = .ok (.iinc 5 1, 3) := by decide +kernel
theorem dX5_sends_168 : decode cX5_sends 168 = .ok (.goto (-45), 3) := by decide +kernel
theorem dX5_sends_171 : decode cX5_sends 171 = .ok (.aload_n 0, 1) := by decide +kernel
theorem dX5_sends_172 : decode cX5_sends 172 = .ok (.invokevirtual 104, 3) := by decide +kernel
theorem dX5_sends_175 : decode cX5_sends 175 = .ok (.goto 187, 3) := by decide +kernel
theorem dX5_sends_178 : decode cX5_sends 178 = .ok (.iload_n 1, 1) := by decide +kernel
theorem dX5_sends_179 : decode cX5_sends 179 = .ok (.bipush 9, 2) := by decide +kernel
theorem dX5_sends_181 : decode cX5_sends 181 = .ok (.if_icmp .ne 10, 3) := by decide +kernel
theorem dX5_sends_184 : decode cX5_sends 184 = .ok (.aload_n 0, 1) := by decide +kernel
theorem dX5_sends_185 : decode cX5_sends 185 = .ok (.invokevirtual 139, 3) := by decide +kernel
theorem dX5_sends_188 : decode cX5_sends 188 = .ok (.goto 174, 3) := by decide +kernel
theorem dX5_sends_191 : decode cX5_sends 191 = .ok (.iload_n 1, 1) := by decide +kernel
theorem dX5_sends_192 : decode cX5_sends 192 = .ok (.bipush 17, 2) := by decide +kernel
theorem dX5_sends_194 : decode cX5_sends 194 = .ok (.if_icmp .ne 13, 3) := by decide +kernel
theorem dX5_sends_197 : decode cX5_sends 197 = .ok (.aload_n 0, 1) := by decide +kernel
theorem dX5_sends_198 : decode cX5_sends 198 = .ok (.bipush 8, 2) := by decide +kernel
theorem dX5_sends_200 : decode cX5_sends 200 = .ok (.iconst 1, 1) := by decide +kernel
theorem dX5_sends_201 : decode cX5_sends 201 = .ok (.invokevirtual 142, 3) := by decide +kernel
theorem dX5_sends_204 : decode cX5_sends 204 = .ok (.goto 158, 3) := by decide +kernel
theorem dX5_sends_207 : decode cX5_sends 207 = .ok (.iload_n 1, 1) := by decide +kernel
theorem dX5_sends_208 : decode cX5_sends 208 = .ok (.bipush 21, 2) := by decide +kernel
theorem dX5_sends_210 : decode cX5_sends 210 = .ok (.if_icmp .ne 14, 3) := by decide +kernel
theorem dX5_sends_213 : decode cX5_sends 213 = .ok (.aload_n 0, 1) := by decide +kernel
theorem dX5_sends_214 : decode cX5_sends 214 = .ok (.bipush 11, 2) := by decide +kernel
theorem dX5_sends_216 : decode cX5_sends 216 = .ok (.bipush (-4), 2) := by decide +kernel
theorem dX5_sends_218 : decode cX5_sends 218 = .ok (.invokevirtual 142, 3) := by decide +kernel
theorem dX5_sends_221 : decode cX5_sends 221 = .ok (.goto 141, 3) := by decide +kernel
theorem dX5_sends_224 : decode cX5_sends 224 = .ok (.iload_n 1, 1) := by decide +kernel
theorem dX5_sends_225 : decode cX5_sends 225 = .ok (.bipush 24, 2) := by decide +kernel
theorem dX5_sends_227 : decode cX5_sends 227 = .ok (.if_icmp .eq 9, 3) := by decide +kernel
theorem dX5_sends_230 : decode cX5_sends 230 = .ok (.iload_n 1, 1) := by decide +kernel
theorem dX5_sends_231 : decode cX5_sends 231 = .ok (.bipush 25, 2) := by decide +kernel
theorem dX5_sends_233 : decode cX5_sends 233 = .ok (.if_icmp .ne 14, 3) := by decide +kernel
theorem dX5_sends_236 : decode cX5_sends 236 = .ok (.aload_n 0, 1) := by decide +kernel
theorem dX5_sends_237 : decode cX5_sends 237 = .ok (.bipush 25, 2) := by decide +kernel
theorem dX5_sends_239 : decode cX5_sends 239 = .ok (.iload_n 1, 1) := by decide +kernel
theorem dX5_sends_240 : decode cX5_sends 240 = .ok (.isub, 1) := by decide +kernel
theorem dX5_sends_241 : decode cX5_sends 241 = .ok (.putfield 54, 3) := by decide +kernel
theorem dX5_sends_244 : decode cX5_sends 244 = .ok (.goto 118, 3) := by decide +kernel
theorem dX5_sends_247 : decode cX5_sends 247 = .ok (.iload_n 1, 1) := by decide +kernel
theorem dX5_sends_248 : decode cX5_sends 248 = .ok (.bipush 63, 2) := by decide +kernel
theorem dX5_sends_250 : decode cX5_sends 250 = .ok (.if_icmp .ne 13, 3) := by decide +kernel
theorem dX5_sends_253 : decode cX5_sends 253 = .ok (.aload_n 0, 1) := by decide +kernel
theorem dX5_sends_254 : decode cX5_sends 254 = .ok (.bipush 6, 2) := by decide +kernel
theorem dX5_sends_256 : decode cX5_sends 256 = .ok (.iconst 0, 1) := by decide +kernel
theorem dX5_sends_257 : decode cX5_sends 257 = .ok (.invokevirtual 142, 3) := by decide +kernel
theorem dX5_sends_260 : decode cX5_sends 260 = .ok (.goto 102, 3) := by decide +kernel
theorem dX5_sends_263 : decode cX5_sends 263 = .ok (.iload_n 1, 1) := by decide +kernel
theorem dX5_sends_264 : decode cX5_sends 264 = .ok (.bipush 32, 2) := by decide +kernel
theorem dX5_sends_266 : decode cX5_sends 266 = .ok (.bipush 62, 2) := by decide +kernel
theorem dX5_sends_268 : decode cX5_sends 268 = .ok (.invokestatic 82, 3) := by decide +kernel
theorem dX5_sends_271 : decode cX5_sends 271 = .ok (.ifCond .eq 15, 3) := by decide +kernel
theorem dX5_sends_274 : decode cX5_sends 274 = .ok (.aload_n 0, 1) := by decide +kernel
theorem dX5_sends_275 : decode cX5_sends 275 = .ok (.iload_n 1, 1) := by decide +kernel
theorem dX5_sends_276 : decode cX5_sends 276 = .ok (.bipush 32, 2) := by decide +kernel
theorem dX5_sends_278 : decode cX5_sends 278 = .ok (.isub, 1) := by decide +kernel
theorem dX5_sends_279 : decode cX5_sends 279 = .ok (.iconst 1, 1) := by decide +kernel
theorem dX5_sends_280 : decode cX5_sends 280 = .ok (.invokevirtual 145, 3) := by decide +kernel
theorem dX5_sends_283 : decode cX5_sends 283 = .ok (.goto 79, 3) := by decide +kernel
theorem dX5_sends_286 : decode cX5_sends 286 = .ok (.iload_n 1, 1) := by decide +kernel
theorem dX5_sends_287 : decode cX5_sends 287 = .ok (.bipush 64, 2) := by decide +kernel
theorem dX5_sends_289 : decode cX5_sends 289 = .ok (.bipush 95, 2) := by decide +kernel
theorem dX5_sends_291 : decode cX5_sends 291 = .ok (.invokestatic 82, 3) := by decide +kernel
theorem dX5_sends_294 : decode cX5_sends 294 = .ok (.ifCond .eq 30, 3) := by decide +kernel
theorem dX5_sends_297 : decode cX5_sends 297 = .ok (.aload_n 0, 1) := by decide +kernel
theorem dX5_sends_298 : decode cX5_sends 298 = .ok (.invokevirtual 123, 3) := by decide +kernel
theorem dX5_sends_301 : decode cX5_sends 301 = .ok (.aload_n 0, 1) := by decide +kernel
theorem dX5_sends_302 : decode cX5_sends 302 = .ok (.iload_n 1, 1) := by decide +kernel
theorem dX5_sends_303 : decode cX5_sends 303 = .ok (.bipush 95, 2) := by decide +kernel
theorem dX5_sends_305 : decode cX5_sends 305 = .ok (.if_icmp .ne 8, 3) := by decide +kernel
theorem dX5_sends_308 : decode cX5_sends 308 = .ok (.bipush (-4), 2) := by decide +kernel
theorem dX5_sends_310 : decode cX5_sends 310 = .ok (.goto 7, 3) := by decide +kernel
theorem dX5_sends_313 : decode cX5_sends 313 = .ok (.iload_n 1, 1) := by decide +kernel
theorem dX5_sends_314 : decode cX5_sends 314 = .ok (.bipush 64, 2) := by decide +kernel
theorem dX5_sends_316 : decode cX5_sends 316 = .ok (.isub, 1) := by decide +kernel
theorem dX5_sends_317 : decode cX5_sends 317 = .ok (.iconst 2, 1) := by decide +kernel
theorem dX5_sends_318 : decode cX5_sends 318 = .ok (.invokevirtual 145, 3) := by decide +kernel
theorem dX5_sends_321 : decode cX5_sends 321 = .ok (.goto 41, 3) := by decide +kernel
theorem dX5_sends_324 : decode cX5_sends 324 = .ok (.iload_n 1, 1) := by decide +kernel
theorem dX5_sends_325 : decode cX5_sends 325 = .ok (.bipush 95, 2) := by decide +kernel
theorem dX5_sends_327 : decode cX5_sends 327 = .ok (.if_icmp .le 35, 3) := by decide +kernel
theorem dX5_sends_330 : decode cX5_sends 330 = .ok (.aload_n 0, 1) := by decide +kernel
theorem dX5_sends_331 : decode cX5_sends 331 = .ok (.getfield 60, 3) := by decide +kernel
theorem dX5_sends_334 : decode cX5_sends 334 = .ok (.iconst 5, 1) := by decide +kernel
theorem dX5_sends_335 : decode cX5_sends 335 = .ok (.if_icmp .ne 11, 3) := by decide +kernel
theorem dX5_sends_338 : decode cX5_sends 338 = .ok (.aload_n 0, 1) := by decide +kernel
theorem dX5_sends_339 : decode cX5_sends 339 = .ok (.iload_n 1, 1) := by decide +kernel
theorem dX5_sends_340 : decode cX5_sends 340 = .ok (.invokevirtual 148, 3) := by decide +kernel
theorem dX5_sends_343 : decode cX5_sends 343 = .ok (.goto 19, 3) := by decide +kernel
theorem dX5_sends_346 : decode cX5_sends 346 = .ok (.iload_n 1, 1) := by decide +kernel
theorem dX5_sends_347 : decode cX5_sends 347 = .ok (.bipush 127, 2) := by decide +kernel
theorem dX5_sends_349 : decode cX5_sends 349 = .ok (.if_icmp .ge 13, 3) := by decide +kernel
theorem dX5_sends_352 : decode cX5_sends 352 = .ok (.aload_n 0, 1) := by decide +kernel
theorem dX5_sends_353 : decode cX5_sends 353 = .ok (.iload_n 1, 1) := by decide +kernel
theorem dX5_sends_354 : decode cX5_sends 354 = .ok (.bipush 96, 2) := by decide +kernel
theorem dX5_sends_356 : decode cX5_sends 356 = .ok (.isub, 1) := by decide +kernel
theorem dX5_sends_357 : decode cX5_sends 357 = .ok (.iload_n 2, 1) := by decide +kernel
theorem dX5_sends_358 : decode cX5_sends 358 = .ok (.iload_n 3, 1) := by decide +kernel
theorem dX5_sends_359 : decode cX5_sends 359 = .ok (.invokevirtual 151, 3) := by decide +kernel
theorem dX5_sends_362 : decode cX5_sends 362 = .ok (.aload_n 0, 1) := by decide +kernel
theorem dX5_sends_363 : decode cX5_sends 363 = .ok (.iload_n 1, 1) := by decide +kernel
theorem dX5_sends_364 : decode cX5_sends 364 = .ok (.iconst 5, 1) := by decide +kernel
theorem dX5_sends_365 : decode cX5_sends 365 = .ok (.if_icmp .ne 8, 3) := by decide +kernel
theorem dX5_sends_368 : decode cX5_sends 368 = .ok (.iload 4, 2) := by decide +kernel
theorem dX5_sends_370 : decode cX5_sends 370 = .ok (.goto 4, 3) := by decide +kernel
theorem dX5_sends_373 : decode cX5_sends 373 = .ok (.iconst 0, 1) := by decide +kernel
theorem dX5_sends_374 : decode cX5_sends 374 = .ok (.putfield 63, 3) := by decide +kernel
theorem dX5_sends_377 : decode cX5_sends 377 = .ok (.aload_n 0, 1) := by decide +kernel
theorem dX5_sends_378 : decode cX5_sends 378 = .ok (.iload_n 1, 1) := by decide +kernel
theorem dX5_sends_379 : decode cX5_sends 379 = .ok (.putfield 60, 3) := by decide +kernel
theorem dX5_sends_382 : decode cX5_sends 382 = .ok (.return_, 1) := by decide +kernel
theorem dX5_command_0 : decode cX5_command 0 = .ok (.iload_n 1, 1) := by decide +kernel
theorem dX5_command_1 : decode cX5_command 1 = .ok (.iconst 0, 1) := by decide +kernel
theorem dX5_command_2 : decode cX5_command 2 = .ok (.bipush 127, 2) := by decide +kernel
theorem dX5_command_4 : decode cX5_command 4 = .ok (.invokestatic 82, 3) := by decide +kernel
theorem dX5_command_7 : decode cX5_command 7 = .ok (.ifCond .ne 5, 3) := by decide +kernel
theorem dX5_command_10 : decode cX5_command 10 = .ok (.iconst (-1), 1) := by decide +kernel
theorem dX5_command_11 : decode cX5_command 11 = .ok (.ireturn, 1) := by decide +kernel
theorem dX5_command_12 : decode cX5_command 12 = .ok (.aload_n 0, 1) := by decide +kernel
theorem dX5_command_13 : decode cX5_command 13 = .ok (.iload_n 1, 1) := by decide +kernel
theorem dX5_command_14 : decode cX5_command 14 = .ok (.invokevirtual 154, 3) := by decide +kernel
theorem dX5_command_17 : decode cX5_command 17 = .ok (.aload_n 0, 1) := by decide +kernel
theorem dX5_command_18 : decode cX5_command 18 = .ok (.getfield 57, 3) := by decide +kernel
theorem dX5_command_21 : decode cX5_command 21 = .ok (.ireturn, 1) := by decide +kernel
theorem dX5_takers_0 : decode cX5_takers 0 = .ok (.aload_n 0, 1) := by decide +kernel
theorem dX5_takers_1 : decode cX5_takers 1 = .ok (.invokevirtual 117, 3) := by decide +kernel
theorem dX5_takers_4 : decode cX5_takers 4 = .ok (.istore_n 1, 1) := by decide +kernel
theorem dX5_takers_5 : decode cX5_takers 5 = .ok (.iload_n 1, 1) := by decide +kernel
theorem dX5_takers_6 : decode cX5_takers 6 = .ok (.ifCond .ge 7, 3) := by decide +kernel
theorem dX5_takers_9 : decode cX5_takers 9 = .ok (.iconst 0, 1) := by decide +kernel
theorem dX5_takers_10 : decode cX5_takers 10 = .ok (.goto 13, 3) := by decide +kernel
theorem dX5_takers_13 : decode cX5_takers 13 = .ok (.aload_n 0, 1) := by decide +kernel
theorem dX5_takers_14 : decode cX5_takers 14 = .ok (.invokevirtual 132, 3) := by decide +kernel
theorem dX5_takers_17 : decode cX5_takers 17 = .ok (.iconst 1, 1) := by decide +kernel
theorem dX5_takers_18 : decode cX5_takers 18 = .ok (.iload_n 1, 1) := by decide +kernel
theorem dX5_takers_19 : decode cX5_takers 19 = .ok (.ishl, 1) := by decide +kernel
theorem dX5_takers_20 : decode cX5_takers 20 = .ok (.iconst (-1), 1) := by decide +kernel
theorem dX5_takers_21 : decode cX5_takers 21 = .ok (.ixor, 1) := by decide +kernel
theorem dX5_takers_22 : decode cX5_takers 22 = .ok (.iand, 1) := by decide +kernel
theorem dX5_takers_23 : decode cX5_takers 23 = .ok (.istore_n 2, 1) := by decide +kernel
theorem dX5_takers_24 : decode cX5_takers 24 = .ok (.iload_n 2, 1) := by decide +kernel
theorem dX5_takers_25 : decode cX5_takers 25 = .ok (.ifCond .eq 20, 3) := by decide +kernel
theorem dX5_takers_28 : decode cX5_takers 28 = .ok (.aload_n 0, 1) := by decide +kernel
theorem dX5_takers_29 : decode cX5_takers 29 = .ok (.getfield 54, 3) := by decide +kernel
theorem dX5_takers_32 : decode cX5_takers 32 = .ok (.ifCond .ne 15, 3) := by decide +kernel
theorem dX5_takers_35 : decode cX5_takers 35 = .ok (.aload_n 0, 1) := by decide +kernel
theorem dX5_takers_36 : decode cX5_takers 36 = .ok (.iload_n 1, 1) := by decide +kernel
theorem dX5_takers_37 : decode cX5_takers 37 = .ok (.bipush 15, 2) := by decide +kernel
theorem dX5_takers_39 : decode cX5_takers 39 = .ok (.invokevirtual 100, 3) := by decide +kernel
theorem dX5_takers_42 : decode cX5_takers 42 = .ok (.ifCond .ne 5, 3) := by decide +kernel
theorem dX5_takers_45 : decode cX5_takers 45 = .ok (.iconst 0, 1) := by decide +kernel
theorem dX5_takers_46 : decode cX5_takers 46 = .ok (.ireturn, 1) := by decide +kernel
theorem dX5_takers_47 : decode cX5_takers 47 = .ok (.iconst 0, 1) := by decide +kernel
theorem dX5_takers_48 : decode cX5_takers 48 = .ok (.istore_n 3, 1) := by decide +kernel
theorem dX5_takers_49 : decode cX5_takers 49 = .ok (.iload_n 3, 1) := by decide +kernel
theorem dX5_takers_50 : decode cX5_takers 50 = .ok (.aload_n 0, 1) := by decide +kernel
theorem dX5_takers_51 : decode cX5_takers 51 = .ok (.getfield 44, 3) := by decide +kernel
theorem dX5_takers_54 : decode cX5_takers 54 = .ok (.if_icmp .ge 32, 3) := by decide +kernel
theorem dX5_takers_57 : decode cX5_takers 57 = .ok (.iload_n 2, 1) := by decide +kernel
theorem dX5_takers_58 : decode cX5_takers 58 = .ok (.iload_n 3, 1) := by decide +kernel
theorem dX5_takers_59 : decode cX5_takers 59 = .ok (.ishr, 1) := by decide +kernel
theorem dX5_takers_60 : decode cX5_takers 60 = .ok (.iconst 1, 1) := by decide +kernel
theorem dX5_takers_61 : decode cX5_takers 61 = .ok (.iand, 1) := by decide +kernel
theorem dX5_takers_62 : decode cX5_takers 62 = .ok (.iconst 1, 1) := by decide +kernel
theorem dX5_takers_63 : decode cX5_takers 63 = .ok (.if_icmp .ne 17, 3) := by decide +kernel
theorem dX5_takers_66 : decode cX5_takers 66 = .ok (.aload_n 0, 1) := by decide +kernel
theorem dX5_takers_67 : decode cX5_takers 67 = .ok (.iload_n 3, 1) := by decide +kernel
theorem dX5_takers_68 : decode cX5_takers 68 = .ok (.bipush 16, 2) := by decide +kernel
theorem dX5_takers_70 : decode cX5_takers 70 = .ok (.invokevirtual 100, 3) := by decide +kernel
theorem dX5_takers_73 : decode cX5_takers 73 = .ok (.bipush 12, 2) := by decide +kernel
theorem dX5_takers_75 : decode cX5_takers 75 = .ok (.if_icmp .ne 5, 3) := by decide +kernel
theorem dX5_takers_78 : decode cX5_takers 78 = .ok (.iconst 0, 1) := by decide +kernel
theorem dX5_takers_79 : decode cX5_takers 79 = .ok (.ireturn, 1) := by decide +kernel
theorem dX5_takers_80 : decode cX5_takers 80 = .ok (.iinc 3 1, 3) := by decide +kernel
theorem dX5_takers_83 : decode cX5_takers 83 = .ok (.goto (-34), 3) := by decide +kernel
theorem dX5_takers_86 : decode cX5_takers 86 = .ok (.iload_n 2, 1) := by decide +kernel
theorem dX5_takers_87 : decode cX5_takers 87 = .ok (.ireturn, 1) := by decide +kernel
theorem dX5_firstOf_0 : decode cX5_firstOf 0 = .ok (.aload_n 0, 1) := by decide +kernel
theorem dX5_firstOf_1 : decode cX5_firstOf 1 = .ok (.getfield 16, 3) := by decide +kernel
theorem dX5_firstOf_4 : decode cX5_firstOf 4 = .ok (.bipush 24, 2) := by decide +kernel
theorem dX5_firstOf_6 : decode cX5_firstOf 6 = .ok (.iload_n 1, 1) := by decide +kernel
theorem dX5_firstOf_7 : decode cX5_firstOf 7 = .ok (.imul, 1) := by decide +kernel
theorem dX5_firstOf_8 : decode cX5_firstOf 8 = .ok (.iload_n 2, 1) := by decide +kernel
theorem dX5_firstOf_9 : decode cX5_firstOf 9 = .ok (.iadd, 1) := by decide +kernel
theorem dX5_firstOf_10 : decode cX5_firstOf 10 = .ok (.iaload, 1) := by decide +kernel
theorem dX5_firstOf_11 : decode cX5_firstOf 11 = .ok (.istore 4, 2) := by decide +kernel
theorem dX5_firstOf_13 : decode cX5_firstOf 13 = .ok (.aload_n 0, 1) := by decide +kernel
theorem dX5_firstOf_14 : decode cX5_firstOf 14 = .ok (.iload_n 1, 1) := by decide +kernel
theorem dX5_firstOf_15 : decode cX5_firstOf 15 = .ok (.iload_n 3, 1) := by decide +kernel
theorem dX5_firstOf_16 : decode cX5_firstOf 16 = .ok (.aload_n 0, 1) := by decide +kernel
theorem dX5_firstOf_17 : decode cX5_firstOf 17 = .ok (.iload_n 1, 1) := by decide +kernel
theorem dX5_firstOf_18 : decode cX5_firstOf 18 = .ok (.iload_n 3, 1) := by decide +kernel
theorem dX5_firstOf_19 : decode cX5_firstOf 19 = .ok (.invokevirtual 100, 3) := by decide +kernel
theorem dX5_firstOf_22 : decode cX5_firstOf 22 = .ok (.iconst 1, 1) := by decide +kernel
theorem dX5_firstOf_23 : decode cX5_firstOf 23 = .ok (.isub, 1) := by decide +kernel
theorem dX5_firstOf_24 : decode cX5_firstOf 24 = .ok (.invokevirtual 47, 3) := by decide +kernel
theorem dX5_firstOf_27 : decode cX5_firstOf 27 = .ok (.iconst 0, 1) := by decide +kernel
theorem dX5_firstOf_28 : decode cX5_firstOf 28 = .ok (.istore 5, 2) := by decide +kernel
theorem dX5_firstOf_30 : decode cX5_firstOf 30 = .ok (.iload 5, 2) := by decide +kernel
theorem dX5_firstOf_32 : decode cX5_firstOf 32 = .ok (.aload_n 0, 1) := by decide +kernel
theorem dX5_firstOf_33 : decode cX5_firstOf 33 = .ok (.iload_n 1, 1) := by decide +kernel
theorem dX5_firstOf_34 : decode cX5_firstOf 34 = .ok (.iload_n 3, 1) := by decide +kernel
theorem dX5_firstOf_35 : decode cX5_firstOf 35 = .ok (.invokevirtual 100, 3) := by decide +kernel
theorem dX5_firstOf_38 : decode cX5_firstOf 38 = .ok (.if_icmp .ge 39, 3) := by decide +kernel
theorem dX5_firstOf_41 : decode cX5_firstOf 41 = .ok (.aload_n 0, 1) := by decide +kernel
theorem dX5_firstOf_42 : decode cX5_firstOf 42 = .ok (.getfield 16, 3) := by decide +kernel
theorem dX5_firstOf_45 : decode cX5_firstOf 45 = .ok (.bipush 24, 2) := by decide +kernel
theorem dX5_firstOf_47 : decode cX5_firstOf 47 = .ok (.iload_n 1, 1) := by decide +kernel
theorem dX5_firstOf_48 : decode cX5_firstOf 48 = .ok (.imul, 1) := by decide +kernel
theorem dX5_firstOf_49 : decode cX5_firstOf 49 = .ok (.iload_n 2, 1) := by decide +kernel
theorem dX5_firstOf_50 : decode cX5_firstOf 50 = .ok (.iadd, 1) := by decide +kernel
theorem dX5_firstOf_51 : decode cX5_firstOf 51 = .ok (.iload 5, 2) := by decide +kernel
theorem dX5_firstOf_53 : decode cX5_firstOf 53 = .ok (.iadd, 1) := by decide +kernel
theorem dX5_firstOf_54 : decode cX5_firstOf 54 = .ok (.aload_n 0, 1) := by decide +kernel
theorem dX5_firstOf_55 : decode cX5_firstOf 55 = .ok (.getfield 16, 3) := by decide +kernel
theorem dX5_firstOf_58 : decode cX5_firstOf 58 = .ok (.bipush 24, 2) := by decide +kernel
theorem dX5_firstOf_60 : decode cX5_firstOf 60 = .ok (.iload_n 1, 1) := by decide +kernel
theorem dX5_firstOf_61 : decode cX5_firstOf 61 = .ok (.imul, 1) := by decide +kernel
theorem dX5_firstOf_62 : decode cX5_firstOf 62 = .ok (.iload_n 2, 1) := by decide +kernel
theorem dX5_firstOf_63 : decode cX5_firstOf 63 = .ok (.iadd, 1) := by decide +kernel
theorem dX5_firstOf_64 : decode cX5_firstOf 64 = .ok (.iload 5, 2) := by decide +kernel
theorem dX5_firstOf_66 : decode cX5_firstOf 66 = .ok (.iadd, 1) := by decide +kernel
theorem dX5_firstOf_67 : decode cX5_firstOf 67 = .ok (.iconst 1, 1) := by decide +kernel
theorem dX5_firstOf_68 : decode cX5_firstOf 68 = .ok (.iadd, 1) := by decide +kernel
theorem dX5_firstOf_69 : decode cX5_firstOf 69 = .ok (.iaload, 1) := by decide +kernel
theorem dX5_firstOf_70 : decode cX5_firstOf 70 = .ok (.iastore, 1) := by decide +kernel
theorem dX5_firstOf_71 : decode cX5_firstOf 71 = .ok (.iinc 5 1, 3) := by decide +kernel
theorem dX5_firstOf_74 : decode cX5_firstOf 74 = .ok (.goto (-44), 3) := by decide +kernel
theorem dX5_firstOf_77 : decode cX5_firstOf 77 = .ok (.iload 4, 2) := by decide +kernel
theorem dX5_firstOf_79 : decode cX5_firstOf 79 = .ok (.ireturn, 1) := by decide +kernel
theorem dX5_gives_0 : decode cX5_gives 0 = .ok (.aload_n 0, 1) := by decide +kernel
theorem dX5_gives_1 : decode cX5_gives 1 = .ok (.invokevirtual 157, 3) := by decide +kernel
theorem dX5_gives_4 : decode cX5_gives 4 = .ok (.istore_n 1, 1) := by decide +kernel
theorem dX5_gives_5 : decode cX5_gives 5 = .ok (.iload_n 1, 1) := by decide +kernel
theorem dX5_gives_6 : decode cX5_gives 6 = .ok (.ifCond .ne 6, 3) := by decide +kernel
theorem dX5_gives_9 : decode cX5_gives 9 = .ok (.bipush (-2), 2) := by decide +kernel
theorem dX5_gives_11 : decode cX5_gives 11 = .ok (.ireturn, 1) := by decide +kernel
theorem dX5_gives_12 : decode cX5_gives 12 = .ok (.aload_n 0, 1) := by decide +kernel
theorem dX5_gives_13 : decode cX5_gives 13 = .ok (.invokevirtual 117, 3) := by decide +kernel
theorem dX5_gives_16 : decode cX5_gives 16 = .ok (.istore_n 2, 1) := by decide +kernel
theorem dX5_gives_17 : decode cX5_gives 17 = .ok (.aload_n 0, 1) := by decide +kernel
theorem dX5_gives_18 : decode cX5_gives 18 = .ok (.aload_n 0, 1) := by decide +kernel
theorem dX5_gives_19 : decode cX5_gives 19 = .ok (.iload_n 1, 1) := by decide +kernel
theorem dX5_gives_20 : decode cX5_gives 20 = .ok (.invokevirtual 129, 3) := by decide +kernel
theorem dX5_gives_23 : decode cX5_gives 23 = .ok (.iconst 2, 1) := by decide +kernel
theorem dX5_gives_24 : decode cX5_gives 24 = .ok (.iadd, 1) := by decide +kernel
theorem dX5_gives_25 : decode cX5_gives 25 = .ok (.invokevirtual 107, 3) := by decide +kernel
theorem dX5_gives_28 : decode cX5_gives 28 = .ok (.aload_n 0, 1) := by decide +kernel
theorem dX5_gives_29 : decode cX5_gives 29 = .ok (.getfield 54, 3) := by decide +kernel
theorem dX5_gives_32 : decode cX5_gives 32 = .ok (.iconst 1, 1) := by decide +kernel
theorem dX5_gives_33 : decode cX5_gives 33 = .ok (.if_icmp .ne 33, 3) := by decide +kernel
theorem dX5_gives_36 : decode cX5_gives 36 = .ok (.aload_n 0, 1) := by decide +kernel
theorem dX5_gives_37 : decode cX5_gives 37 = .ok (.iload_n 2, 1) := by decide +kernel
theorem dX5_gives_38 : decode cX5_gives 38 = .ok (.bipush 9, 2) := by decide +kernel
theorem dX5_gives_40 : decode cX5_gives 40 = .ok (.invokevirtual 100, 3) := by decide +kernel
theorem dX5_gives_43 : decode cX5_gives 43 = .ok (.bipush 64, 2) := by decide +kernel
theorem dX5_gives_45 : decode cX5_gives 45 = .ok (.aload_n 0, 1) := by decide +kernel
theorem dX5_gives_46 : decode cX5_gives 46 = .ok (.iload_n 2, 1) := by decide +kernel
theorem dX5_gives_47 : decode cX5_gives 47 = .ok (.bipush 10, 2) := by decide +kernel
theorem dX5_gives_49 : decode cX5_gives 49 = .ok (.invokevirtual 100, 3) := by decide +kernel
theorem dX5_gives_52 : decode cX5_gives 52 = .ok (.imul, 1) := by decide +kernel
theorem dX5_gives_53 : decode cX5_gives 53 = .ok (.iadd, 1) := by decide +kernel
theorem dX5_gives_54 : decode cX5_gives 54 = .ok (.istore_n 3, 1) := by decide +kernel
theorem dX5_gives_55 : decode cX5_gives 55 = .ok (.aload_n 0, 1) := by decide +kernel
theorem dX5_gives_56 : decode cX5_gives 56 = .ok (.iload_n 2, 1) := by decide +kernel
theorem dX5_gives_57 : decode cX5_gives 57 = .ok (.bipush 10, 2) := by decide +kernel
theorem dX5_gives_59 : decode cX5_gives 59 = .ok (.iconst 0, 1) := by decide +kernel
theorem dX5_gives_60 : decode cX5_gives 60 = .ok (.invokevirtual 47, 3) := by decide +kernel
theorem dX5_gives_63 : decode cX5_gives 63 = .ok (.goto 12, 3) := by decide +kernel
theorem dX5_gives_66 : decode cX5_gives 66 = .ok (.aload_n 0, 1) := by decide +kernel
theorem dX5_gives_67 : decode cX5_gives 67 = .ok (.iload_n 2, 1) := by decide +kernel
theorem dX5_gives_68 : decode cX5_gives 68 = .ok (.iconst 0, 1) := by decide +kernel
theorem dX5_gives_69 : decode cX5_gives 69 = .ok (.bipush 15, 2) := by decide +kernel
theorem dX5_gives_71 : decode cX5_gives 71 = .ok (.invokevirtual 160, 3) := by decide +kernel
theorem dX5_gives_74 : decode cX5_gives 74 = .ok (.istore_n 3, 1) := by decide +kernel
theorem dX5_gives_75 : decode cX5_gives 75 = .ok (.iconst 0, 1) := by decide +kernel
theorem dX5_gives_76 : decode cX5_gives 76 = .ok (.istore 4, 2) := by decide +kernel
theorem dX5_gives_78 : decode cX5_gives 78 = .ok (.iload 4, 2) := by decide +kernel
theorem dX5_gives_80 : decode cX5_gives 80 = .ok (.aload_n 0, 1) := by decide +kernel
theorem dX5_gives_81 : decode cX5_gives 81 = .ok (.getfield 44, 3) := by decide +kernel
theorem dX5_gives_84 : decode cX5_gives 84 = .ok (.if_icmp .ge 70, 3) := by decide +kernel
theorem dX5_gives_87 : decode cX5_gives 87 = .ok (.iload_n 1, 1) := by decide +kernel
theorem dX5_gives_88 : decode cX5_gives 88 = .ok (.iload 4, 2) := by decide +kernel
theorem dX5_gives_90 : decode cX5_gives 90 = .ok (.ishr, 1) := by decide +kernel
theorem dX5_gives_91 : decode cX5_gives 91 = .ok (.iconst 1, 1) := by decide +kernel
theorem dX5_gives_92 : decode cX5_gives 92 = .ok (.iand, 1) := by decide +kernel
theorem dX5_gives_93 : decode cX5_gives 93 = .ok (.iconst 1, 1) := by decide +kernel
theorem dX5_gives_94 : decode cX5_gives 94 = .ok (.if_icmp .ne 54, 3) := by decide +kernel
theorem dX5_gives_97 : decode cX5_gives 97 = .ok (.aload_n 0, 1) := by decide +kernel
theorem dX5_gives_98 : decode cX5_gives 98 = .ok (.getfield 16, 3) := by decide +kernel
theorem dX5_gives_101 : decode cX5_gives 101 = .ok (.bipush 24, 2) := by decide +kernel
theorem dX5_gives_103 : decode cX5_gives 103 = .ok (.iload 4, 2) := by decide +kernel
theorem dX5_gives_105 : decode cX5_gives 105 = .ok (.imul, 1) := by decide +kernel
theorem dX5_gives_106 : decode cX5_gives 106 = .ok (.bipush 12, 2) := by decide +kernel
theorem dX5_gives_108 : decode cX5_gives 108 = .ok (.iadd, 1) := by decide +kernel
theorem dX5_gives_109 : decode cX5_gives 109 = .ok (.aload_n 0, 1) := by decide +kernel
theorem dX5_gives_110 : decode cX5_gives 110 = .ok (.iload 4, 2) := by decide +kernel
theorem dX5_gives_112 : decode cX5_gives 112 = .ok (.bipush 16, 2) := by decide +kernel
theorem dX5_gives_114 : decode cX5_gives 114 = .ok (.invokevirtual 100, 3) := by decide +kernel
theorem dX5_gives_117 : decode cX5_gives 117 = .ok (.iadd, 1) := by decide +kernel
theorem dX5_gives_118 : decode cX5_gives 118 = .ok (.iload_n 3, 1) := by decide +kernel
theorem dX5_gives_119 : decode cX5_gives 119 = .ok (.iastore, 1) := by decide +kernel
theorem dX5_gives_120 : decode cX5_gives 120 = .ok (.aload_n 0, 1) := by decide +kernel
theorem dX5_gives_121 : decode cX5_gives 121 = .ok (.iload 4, 2) := by decide +kernel
theorem dX5_gives_123 : decode cX5_gives 123 = .ok (.bipush 16, 2) := by decide +kernel
theorem dX5_gives_125 : decode cX5_gives 125 = .ok (.aload_n 0, 1) := by decide +kernel
theorem dX5_gives_126 : decode cX5_gives 126 = .ok (.iload 4, 2) := by decide +kernel
theorem dX5_gives_128 : decode cX5_gives 128 = .ok (.bipush 16, 2) := by decide +kernel
theorem dX5_gives_130 : decode cX5_gives 130 = .ok (.invokevirtual 100, 3) := by decide +kernel
theorem dX5_gives_133 : decode cX5_gives 133 = .ok (.iconst 1, 1) := by decide +kernel
theorem dX5_gives_134 : decode cX5_gives 134 = .ok (.iadd, 1) := by decide +kernel
theorem dX5_gives_135 : decode cX5_gives 135 = .ok (.invokevirtual 47, 3) := by decide +kernel
theorem dX5_gives_138 : decode cX5_gives 138 = .ok (.aload_n 0, 1) := by decide +kernel
theorem dX5_gives_139 : decode cX5_gives 139 = .ok (.getfield 19, 3) := by decide +kernel
theorem dX5_gives_142 : decode cX5_gives 142 = .ok (.iconst 2, 1) := by decide +kernel
theorem dX5_gives_143 : decode cX5_gives 143 = .ok (.dup2, 1) := by decide +kernel
theorem dX5_gives_144 : decode cX5_gives 144 = .ok (.iaload, 1) := by decide +kernel
theorem dX5_gives_145 : decode cX5_gives 145 = .ok (.iconst 1, 1) := by decide +kernel
theorem dX5_gives_146 : decode cX5_gives 146 = .ok (.iadd, 1) := by decide +kernel
theorem dX5_gives_147 : decode cX5_gives 147 = .ok (.iastore, 1) := by decide +kernel
theorem dX5_gives_148 : decode cX5_gives 148 = .ok (.iinc 4 1, 3) := by decide +kernel
theorem dX5_gives_151 : decode cX5_gives 151 = .ok (.goto (-73), 3) := by decide +kernel
theorem dX5_gives_154 : decode cX5_gives 154 = .ok (.aload_n 0, 1) := by decide +kernel
theorem dX5_gives_155 : decode cX5_gives 155 = .ok (.getfield 19, 3) := by decide +kernel
theorem dX5_gives_158 : decode cX5_gives 158 = .ok (.iconst 1, 1) := by decide +kernel
theorem dX5_gives_159 : decode cX5_gives 159 = .ok (.dup2, 1) := by decide +kernel
theorem dX5_gives_160 : decode cX5_gives 160 = .ok (.iaload, 1) := by decide +kernel
theorem dX5_gives_161 : decode cX5_gives 161 = .ok (.iconst 1, 1) := by decide +kernel
theorem dX5_gives_162 : decode cX5_gives 162 = .ok (.iadd, 1) := by decide +kernel
theorem dX5_gives_163 : decode cX5_gives 163 = .ok (.iastore, 1) := by decide +kernel
theorem dX5_gives_164 : decode cX5_gives 164 = .ok (.iload_n 3, 1) := by decide +kernel
theorem dX5_gives_165 : decode cX5_gives 165 = .ok (.ireturn, 1) := by decide +kernel
theorem dX5_give_0 : decode cX5_give 0 = .ok (.aload_n 0, 1) := by decide +kernel
theorem dX5_give_1 : decode cX5_give 1 = .ok (.invokevirtual 164, 3) := by decide +kernel
theorem dX5_give_4 : decode cX5_give 4 = .ok (.ireturn, 1) := by decide +kernel
theorem dX5_sendsTo_0 : decode cX5_sendsTo 0 = .ok (.aload_n 0, 1) := by decide +kernel
theorem dX5_sendsTo_1 : decode cX5_sendsTo 1 = .ok (.iload_n 2, 1) := by decide +kernel
theorem dX5_sendsTo_2 : decode cX5_sendsTo 2 = .ok (.aload_n 0, 1) := by decide +kernel
theorem dX5_sendsTo_3 : decode cX5_sendsTo 3 = .ok (.iload_n 1, 1) := by decide +kernel
theorem dX5_sendsTo_4 : decode cX5_sendsTo 4 = .ok (.iconst 1, 1) := by decide +kernel
theorem dX5_sendsTo_5 : decode cX5_sendsTo 5 = .ok (.invokevirtual 100, 3) := by decide +kernel
theorem dX5_sendsTo_8 : decode cX5_sendsTo 8 = .ok (.iadd, 1) := by decide +kernel
theorem dX5_sendsTo_9 : decode cX5_sendsTo 9 = .ok (.invokevirtual 154, 3) := by decide +kernel
theorem dX5_sendsTo_12 : decode cX5_sendsTo 12 = .ok (.aload_n 0, 1) := by decide +kernel
theorem dX5_sendsTo_13 : decode cX5_sendsTo 13 = .ok (.iload_n 1, 1) := by decide +kernel
theorem dX5_sendsTo_14 : decode cX5_sendsTo 14 = .ok (.iconst 2, 1) := by decide +kernel
theorem dX5_sendsTo_15 : decode cX5_sendsTo 15 = .ok (.invokevirtual 100, 3) := by decide +kernel
theorem dX5_sendsTo_18 : decode cX5_sendsTo 18 = .ok (.bipush 31, 2) := by decide +kernel
theorem dX5_sendsTo_20 : decode cX5_sendsTo 20 = .ok (.if_icmp .ge 16, 3) := by decide +kernel
theorem dX5_sendsTo_23 : decode cX5_sendsTo 23 = .ok (.aload_n 0, 1) := by decide +kernel
theorem dX5_sendsTo_24 : decode cX5_sendsTo 24 = .ok (.bipush 96, 2) := by decide +kernel
theorem dX5_sendsTo_26 : decode cX5_sendsTo 26 = .ok (.aload_n 0, 1) := by decide +kernel
theorem dX5_sendsTo_27 : decode cX5_sendsTo 27 = .ok (.iload_n 1, 1) := by decide +kernel
theorem dX5_sendsTo_28 : decode cX5_sendsTo 28 = .ok (.iconst 2, 1) := by decide +kernel
theorem dX5_sendsTo_29 : decode cX5_sendsTo 29 = .ok (.invokevirtual 100, 3) := by decide +kernel
theorem dX5_sendsTo_32 : decode cX5_sendsTo 32 = .ok (.iadd, 1) := by decide +kernel
theorem dX5_sendsTo_33 : decode cX5_sendsTo 33 = .ok (.invokevirtual 154, 3) := by decide +kernel
theorem dX5_sendsTo_36 : decode cX5_sendsTo 36 = .ok (.return_, 1) := by decide +kernel
theorem dX5_poll_0 : decode cX5_poll 0 = .ok (.aload_n 0, 1) := by decide +kernel
theorem dX5_poll_1 : decode cX5_poll 1 = .ok (.getfield 19, 3) := by decide +kernel
theorem dX5_poll_4 : decode cX5_poll 4 = .ok (.iconst 4, 1) := by decide +kernel
theorem dX5_poll_5 : decode cX5_poll 5 = .ok (.dup2, 1) := by decide +kernel
theorem dX5_poll_6 : decode cX5_poll 6 = .ok (.iaload, 1) := by decide +kernel
theorem dX5_poll_7 : decode cX5_poll 7 = .ok (.iconst 1, 1) := by decide +kernel
theorem dX5_poll_8 : decode cX5_poll 8 = .ok (.iadd, 1) := by decide +kernel
theorem dX5_poll_9 : decode cX5_poll 9 = .ok (.iastore, 1) := by decide +kernel
theorem dX5_poll_10 : decode cX5_poll 10 = .ok (.aload_n 0, 1) := by decide +kernel
theorem dX5_poll_11 : decode cX5_poll 11 = .ok (.bipush 63, 2) := by decide +kernel
theorem dX5_poll_13 : decode cX5_poll 13 = .ok (.invokevirtual 154, 3) := by decide +kernel
theorem dX5_poll_16 : decode cX5_poll 16 = .ok (.aload_n 0, 1) := by decide +kernel
theorem dX5_poll_17 : decode cX5_poll 17 = .ok (.aload_n 0, 1) := by decide +kernel
theorem dX5_poll_18 : decode cX5_poll 18 = .ok (.getfield 51, 3) := by decide +kernel
theorem dX5_poll_21 : decode cX5_poll 21 = .ok (.bipush 32, 2) := by decide +kernel
theorem dX5_poll_23 : decode cX5_poll 23 = .ok (.invokevirtual 167, 3) := by decide +kernel
theorem dX5_poll_26 : decode cX5_poll 26 = .ok (.aload_n 0, 1) := by decide +kernel
theorem dX5_poll_27 : decode cX5_poll 27 = .ok (.bipush 24, 2) := by decide +kernel
theorem dX5_poll_29 : decode cX5_poll 29 = .ok (.invokevirtual 154, 3) := by decide +kernel
theorem dX5_poll_32 : decode cX5_poll 32 = .ok (.bipush (-4), 2) := by decide +kernel
theorem dX5_poll_34 : decode cX5_poll 34 = .ok (.istore_n 1, 1) := by decide +kernel
theorem dX5_poll_35 : decode cX5_poll 35 = .ok (.iconst 0, 1) := by decide +kernel
theorem dX5_poll_36 : decode cX5_poll 36 = .ok (.istore_n 2, 1) := by decide +kernel
theorem dX5_poll_37 : decode cX5_poll 37 = .ok (.iload_n 2, 1) := by decide +kernel
theorem dX5_poll_38 : decode cX5_poll 38 = .ok (.aload_n 0, 1) := by decide +kernel
theorem dX5_poll_39 : decode cX5_poll 39 = .ok (.getfield 44, 3) := by decide +kernel
theorem dX5_poll_42 : decode cX5_poll 42 = .ok (.if_icmp .ge 44, 3) := by decide +kernel
theorem dX5_poll_45 : decode cX5_poll 45 = .ok (.iload_n 1, 1) := by decide +kernel
theorem dX5_poll_46 : decode cX5_poll 46 = .ok (.ifCond .ge 40, 3) := by decide +kernel
theorem dX5_poll_49 : decode cX5_poll 49 = .ok (.iload_n 2, 1) := by decide +kernel
theorem dX5_poll_50 : decode cX5_poll 50 = .ok (.aload_n 0, 1) := by decide +kernel
theorem dX5_poll_51 : decode cX5_poll 51 = .ok (.getfield 51, 3) := by decide +kernel
theorem dX5_poll_54 : decode cX5_poll 54 = .ok (.if_icmp .eq 26, 3) := by decide +kernel
theorem dX5_poll_57 : decode cX5_poll 57 = .ok (.aload_n 0, 1) := by decide +kernel
theorem dX5_poll_58 : decode cX5_poll 58 = .ok (.iload_n 2, 1) := by decide +kernel
theorem dX5_poll_59 : decode cX5_poll 59 = .ok (.bipush 64, 2) := by decide +kernel
theorem dX5_poll_61 : decode cX5_poll 61 = .ok (.invokevirtual 167, 3) := by decide +kernel
theorem dX5_poll_64 : decode cX5_poll 64 = .ok (.aload_n 0, 1) := by decide +kernel
theorem dX5_poll_65 : decode cX5_poll 65 = .ok (.invokevirtual 164, 3) := by decide +kernel
theorem dX5_poll_68 : decode cX5_poll 68 = .ok (.bipush 64, 2) := by decide +kernel
theorem dX5_poll_70 : decode cX5_poll 70 = .ok (.if_icmp .lt 7, 3) := by decide +kernel
theorem dX5_poll_73 : decode cX5_poll 73 = .ok (.iload_n 2, 1) := by decide +kernel
theorem dX5_poll_74 : decode cX5_poll 74 = .ok (.goto 5, 3) := by decide +kernel
theorem dX5_poll_77 : decode cX5_poll 77 = .ok (.bipush (-4), 2) := by decide +kernel
theorem dX5_poll_79 : decode cX5_poll 79 = .ok (.istore_n 1, 1) := by decide +kernel
theorem dX5_poll_80 : decode cX5_poll 80 = .ok (.iinc 2 1, 3) := by decide +kernel
theorem dX5_poll_83 : decode cX5_poll 83 = .ok (.goto (-46), 3) := by decide +kernel
theorem dX5_poll_86 : decode cX5_poll 86 = .ok (.aload_n 0, 1) := by decide +kernel
theorem dX5_poll_87 : decode cX5_poll 87 = .ok (.bipush 25, 2) := by decide +kernel
theorem dX5_poll_89 : decode cX5_poll 89 = .ok (.invokevirtual 154, 3) := by decide +kernel
theorem dX5_poll_92 : decode cX5_poll 92 = .ok (.aload_n 0, 1) := by decide +kernel
theorem dX5_poll_93 : decode cX5_poll 93 = .ok (.bipush 95, 2) := by decide +kernel
theorem dX5_poll_95 : decode cX5_poll 95 = .ok (.invokevirtual 154, 3) := by decide +kernel
theorem dX5_poll_98 : decode cX5_poll 98 = .ok (.aload_n 0, 1) := by decide +kernel
theorem dX5_poll_99 : decode cX5_poll 99 = .ok (.getfield 19, 3) := by decide +kernel
theorem dX5_poll_102 : decode cX5_poll 102 = .ok (.iconst 5, 1) := by decide +kernel
theorem dX5_poll_103 : decode cX5_poll 103 = .ok (.dup2, 1) := by decide +kernel
theorem dX5_poll_104 : decode cX5_poll 104 = .ok (.iaload, 1) := by decide +kernel
theorem dX5_poll_105 : decode cX5_poll 105 = .ok (.iload_n 1, 1) := by decide +kernel
theorem dX5_poll_106 : decode cX5_poll 106 = .ok (.ifCond .ge 7, 3) := by decide +kernel
theorem dX5_poll_109 : decode cX5_poll 109 = .ok (.iconst 0, 1) := by decide +kernel
theorem dX5_poll_110 : decode cX5_poll 110 = .ok (.goto 4, 3) := by decide +kernel
theorem dX5_poll_113 : decode cX5_poll 113 = .ok (.iconst 1, 1) := by decide +kernel
theorem dX5_poll_114 : decode cX5_poll 114 = .ok (.iadd, 1) := by decide +kernel
theorem dX5_poll_115 : decode cX5_poll 115 = .ok (.iastore, 1) := by decide +kernel
theorem dX5_poll_116 : decode cX5_poll 116 = .ok (.iload_n 1, 1) := by decide +kernel
theorem dX5_poll_117 : decode cX5_poll 117 = .ok (.ireturn, 1) := by decide +kernel
theorem dX5_parallel_0 : decode cX5_parallel 0 = .ok (.aload_n 0, 1) := by decide +kernel
theorem dX5_parallel_1 : decode cX5_parallel 1 = .ok (.iconst 1, 1) := by decide +kernel
theorem dX5_parallel_2 : decode cX5_parallel 2 = .ok (.invokevirtual 107, 3) := by decide +kernel
theorem dX5_parallel_5 : decode cX5_parallel 5 = .ok (.iconst 0, 1) := by decide +kernel
theorem dX5_parallel_6 : decode cX5_parallel 6 = .ok (.istore_n 1, 1) := by decide +kernel
theorem dX5_parallel_7 : decode cX5_parallel 7 = .ok (.iconst 0, 1) := by decide +kernel
theorem dX5_parallel_8 : decode cX5_parallel 8 = .ok (.istore_n 2, 1) := by decide +kernel
theorem dX5_parallel_9 : decode cX5_parallel 9 = .ok (.iload_n 2, 1) := by decide +kernel
theorem dX5_parallel_10 : decode cX5_parallel 10 = .ok (.aload_n 0, 1) := by decide +kernel
theorem dX5_parallel_11 : decode cX5_parallel 11 = .ok (.getfield 44, 3) := by decide +kernel
theorem dX5_parallel_14 : decode cX5_parallel 14 = .ok (.if_icmp .ge 52, 3) := by decide +kernel
theorem dX5_parallel_17 : decode cX5_parallel 17 = .ok (.iload_n 1, 1) := by decide +kernel
theorem dX5_parallel_18 : decode cX5_parallel 18 = .ok (.aload_n 0, 1) := by decide +kernel
theorem dX5_parallel_19 : decode cX5_parallel 19 = .ok (.iload_n 2, 1) := by decide +kernel
theorem dX5_parallel_20 : decode cX5_parallel 20 = .ok (.bipush 11, 2) := by decide +kernel
theorem dX5_parallel_22 : decode cX5_parallel 22 = .ok (.invokevirtual 100, 3) := by decide +kernel
theorem dX5_parallel_25 : decode cX5_parallel 25 = .ok (.ifCond .lt 32, 3) := by decide +kernel
theorem dX5_parallel_28 : decode cX5_parallel 28 = .ok (.aload_n 0, 1) := by decide +kernel
theorem dX5_parallel_29 : decode cX5_parallel 29 = .ok (.iload_n 2, 1) := by decide +kernel
theorem dX5_parallel_30 : decode cX5_parallel 30 = .ok (.bipush 10, 2) := by decide +kernel
theorem dX5_parallel_32 : decode cX5_parallel 32 = .ok (.invokevirtual 100, 3) := by decide +kernel
theorem dX5_parallel_35 : decode cX5_parallel 35 = .ok (.aload_n 0, 1) := by decide +kernel
theorem dX5_parallel_36 : decode cX5_parallel 36 = .ok (.iload_n 2, 1) := by decide +kernel
theorem dX5_parallel_37 : decode cX5_parallel 37 = .ok (.bipush 12, 2) := by decide +kernel
theorem dX5_parallel_39 : decode cX5_parallel 39 = .ok (.invokevirtual 100, 3) := by decide +kernel
theorem dX5_parallel_42 : decode cX5_parallel 42 = .ok (.if_icmp .ne 15, 3) := by decide +kernel
theorem dX5_parallel_45 : decode cX5_parallel 45 = .ok (.iconst 1, 1) := by decide +kernel
theorem dX5_parallel_46 : decode cX5_parallel 46 = .ok (.aload_n 0, 1) := by decide +kernel
theorem dX5_parallel_47 : decode cX5_parallel 47 = .ok (.iload_n 2, 1) := by decide +kernel
theorem dX5_parallel_48 : decode cX5_parallel 48 = .ok (.bipush 11, 2) := by decide +kernel
theorem dX5_parallel_50 : decode cX5_parallel 50 = .ok (.invokevirtual 100, 3) := by decide +kernel
theorem dX5_parallel_53 : decode cX5_parallel 53 = .ok (.ishl, 1) := by decide +kernel
theorem dX5_parallel_54 : decode cX5_parallel 54 = .ok (.goto 4, 3) := by decide +kernel
theorem dX5_parallel_57 : decode cX5_parallel 57 = .ok (.iconst 0, 1) := by decide +kernel
theorem dX5_parallel_58 : decode cX5_parallel 58 = .ok (.ior, 1) := by decide +kernel
theorem dX5_parallel_59 : decode cX5_parallel 59 = .ok (.istore_n 1, 1) := by decide +kernel
theorem dX5_parallel_60 : decode cX5_parallel 60 = .ok (.iinc 2 1, 3) := by decide +kernel
theorem dX5_parallel_63 : decode cX5_parallel 63 = .ok (.goto (-54), 3) := by decide +kernel
theorem dX5_parallel_66 : decode cX5_parallel 66 = .ok (.iload_n 1, 1) := by decide +kernel
theorem dX5_parallel_67 : decode cX5_parallel 67 = .ok (.ireturn, 1) := by decide +kernel
theorem dX5_takeBack_0 : decode cX5_takeBack 0 = .ok (.aload_n 0, 1) := by decide +kernel
theorem dX5_takeBack_1 : decode cX5_takeBack 1 = .ok (.getfield 51, 3) := by decide +kernel
theorem dX5_takeBack_4 : decode cX5_takeBack 4 = .ok (.istore_n 1, 1) := by decide +kernel
theorem dX5_takeBack_5 : decode cX5_takeBack 5 = .ok (.aload_n 0, 1) := by decide +kernel
theorem dX5_takeBack_6 : decode cX5_takeBack 6 = .ok (.iconst 5, 1) := by decide +kernel
theorem dX5_takeBack_7 : decode cX5_takeBack 7 = .ok (.iconst 0, 1) := by decide +kernel
theorem dX5_takeBack_8 : decode cX5_takeBack 8 = .ok (.invokevirtual 142, 3) := by decide +kernel
theorem dX5_takeBack_11 : decode cX5_takeBack 11 = .ok (.aload_n 0, 1) := by decide +kernel
theorem dX5_takeBack_12 : decode cX5_takeBack 12 = .ok (.bipush 6, 2) := by decide +kernel
theorem dX5_takeBack_14 : decode cX5_takeBack 14 = .ok (.iconst 0, 1) := by decide +kernel
theorem dX5_takeBack_15 : decode cX5_takeBack 15 = .ok (.invokevirtual 142, 3) := by decide +kernel
theorem dX5_takeBack_18 : decode cX5_takeBack 18 = .ok (.aload_n 0, 1) := by decide +kernel
theorem dX5_takeBack_19 : decode cX5_takeBack 19 = .ok (.bipush 17, 2) := by decide +kernel
theorem dX5_takeBack_21 : decode cX5_takeBack 21 = .ok (.iconst 0, 1) := by decide +kernel
theorem dX5_takeBack_22 : decode cX5_takeBack 22 = .ok (.invokevirtual 142, 3) := by decide +kernel
theorem dX5_takeBack_25 : decode cX5_takeBack 25 = .ok (.aload_n 0, 1) := by decide +kernel
theorem dX5_takeBack_26 : decode cX5_takeBack 26 = .ok (.iconst 0, 1) := by decide +kernel
theorem dX5_takeBack_27 : decode cX5_takeBack 27 = .ok (.putfield 63, 3) := by decide +kernel
theorem dX5_takeBack_30 : decode cX5_takeBack 30 = .ok (.aload_n 0, 1) := by decide +kernel
theorem dX5_takeBack_31 : decode cX5_takeBack 31 = .ok (.iconst 0, 1) := by decide +kernel
theorem dX5_takeBack_32 : decode cX5_takeBack 32 = .ok (.putfield 54, 3) := by decide +kernel
theorem dX5_takeBack_35 : decode cX5_takeBack 35 = .ok (.aload_n 0, 1) := by decide +kernel
theorem dX5_takeBack_36 : decode cX5_takeBack 36 = .ok (.iconst 0, 1) := by decide +kernel
theorem dX5_takeBack_37 : decode cX5_takeBack 37 = .ok (.putfield 51, 3) := by decide +kernel
theorem dX5_takeBack_40 : decode cX5_takeBack 40 = .ok (.iload_n 1, 1) := by decide +kernel
theorem dX5_takeBack_41 : decode cX5_takeBack 41 = .ok (.ireturn, 1) := by decide +kernel
theorem dX5_isDevice_0 : decode cX5_isDevice 0 = .ok (.iload_n 1, 1) := by decide +kernel
theorem dX5_isDevice_1 : decode cX5_isDevice 1 = .ok (.iconst 0, 1) := by decide +kernel
theorem dX5_isDevice_2 : decode cX5_isDevice 2 = .ok (.aload_n 0, 1) := by decide +kernel
theorem dX5_isDevice_3 : decode cX5_isDevice 3 = .ok (.getfield 44, 3) := by decide +kernel
theorem dX5_isDevice_6 : decode cX5_isDevice 6 = .ok (.iconst 1, 1) := by decide +kernel
theorem dX5_isDevice_7 : decode cX5_isDevice 7 = .ok (.isub, 1) := by decide +kernel
theorem dX5_isDevice_8 : decode cX5_isDevice 8 = .ok (.invokestatic 82, 3) := by decide +kernel
theorem dX5_isDevice_11 : decode cX5_isDevice 11 = .ok (.ireturn, 1) := by decide +kernel
theorem dX5_put_0 : decode cX5_put 0 = .ok (.aload_n 0, 1) := by decide +kernel
theorem dX5_put_1 : decode cX5_put 1 = .ok (.iload_n 1, 1) := by decide +kernel
theorem dX5_put_2 : decode cX5_put 2 = .ok (.invokevirtual 170, 3) := by decide +kernel
theorem dX5_put_5 : decode cX5_put 5 = .ok (.ifCond .eq 14, 3) := by decide +kernel
theorem dX5_put_8 : decode cX5_put 8 = .ok (.iload_n 2, 1) := by decide +kernel
theorem dX5_put_9 : decode cX5_put 9 = .ok (.iconst 0, 1) := by decide +kernel
theorem dX5_put_10 : decode cX5_put 10 = .ok (.sipush 255, 3) := by decide +kernel
theorem dX5_put_13 : decode cX5_put 13 = .ok (.invokestatic 82, 3) := by decide +kernel
theorem dX5_put_16 : decode cX5_put 16 = .ok (.ifCond .ne 5, 3) := by decide +kernel
theorem dX5_put_19 : decode cX5_put 19 = .ok (.iconst (-1), 1) := by decide +kernel
theorem dX5_put_20 : decode cX5_put 20 = .ok (.ireturn, 1) := by decide +kernel
theorem dX5_put_21 : decode cX5_put 21 = .ok (.aload_n 0, 1) := by decide +kernel
theorem dX5_put_22 : decode cX5_put 22 = .ok (.iload_n 1, 1) := by decide +kernel
theorem dX5_put_23 : decode cX5_put 23 = .ok (.bipush 15, 2) := by decide +kernel
theorem dX5_put_25 : decode cX5_put 25 = .ok (.invokevirtual 100, 3) := by decide +kernel
theorem dX5_put_28 : decode cX5_put 28 = .ok (.istore_n 3, 1) := by decide +kernel
theorem dX5_put_29 : decode cX5_put 29 = .ok (.iload_n 3, 1) := by decide +kernel
theorem dX5_put_30 : decode cX5_put 30 = .ok (.bipush 12, 2) := by decide +kernel
theorem dX5_put_32 : decode cX5_put 32 = .ok (.if_icmp .ne 6, 3) := by decide +kernel
theorem dX5_put_35 : decode cX5_put 35 = .ok (.bipush (-3), 2) := by decide +kernel
theorem dX5_put_37 : decode cX5_put 37 = .ok (.ireturn, 1) := by decide +kernel
theorem dX5_put_38 : decode cX5_put 38 = .ok (.aload_n 0, 1) := by decide +kernel
theorem dX5_put_39 : decode cX5_put 39 = .ok (.getfield 16, 3) := by decide +kernel
theorem dX5_put_42 : decode cX5_put 42 = .ok (.bipush 24, 2) := by decide +kernel
theorem dX5_put_44 : decode cX5_put 44 = .ok (.iload_n 1, 1) := by decide +kernel
theorem dX5_put_45 : decode cX5_put 45 = .ok (.imul, 1) := by decide +kernel
theorem dX5_put_46 : decode cX5_put 46 = .ok (.iload_n 3, 1) := by decide +kernel
theorem dX5_put_47 : decode cX5_put 47 = .ok (.iadd, 1) := by decide +kernel
theorem dX5_put_48 : decode cX5_put 48 = .ok (.iload_n 2, 1) := by decide +kernel
theorem dX5_put_49 : decode cX5_put 49 = .ok (.iastore, 1) := by decide +kernel
theorem dX5_put_50 : decode cX5_put 50 = .ok (.aload_n 0, 1) := by decide +kernel
theorem dX5_put_51 : decode cX5_put 51 = .ok (.iload_n 1, 1) := by decide +kernel
theorem dX5_put_52 : decode cX5_put 52 = .ok (.bipush 15, 2) := by decide +kernel
theorem dX5_put_54 : decode cX5_put 54 = .ok (.iload_n 3, 1) := by decide +kernel
theorem dX5_put_55 : decode cX5_put 55 = .ok (.iconst 1, 1) := by decide +kernel
theorem dX5_put_56 : decode cX5_put 56 = .ok (.iadd, 1) := by decide +kernel
theorem dX5_put_57 : decode cX5_put 57 = .ok (.invokevirtual 47, 3) := by decide +kernel
theorem dX5_put_60 : decode cX5_put 60 = .ok (.iload_n 3, 1) := by decide +kernel
theorem dX5_put_61 : decode cX5_put 61 = .ok (.iconst 1, 1) := by decide +kernel
theorem dX5_put_62 : decode cX5_put 62 = .ok (.iadd, 1) := by decide +kernel
theorem dX5_put_63 : decode cX5_put 63 = .ok (.ireturn, 1) := by decide +kernel
theorem dX5_take_0 : decode cX5_take 0 = .ok (.aload_n 0, 1) := by decide +kernel
theorem dX5_take_1 : decode cX5_take 1 = .ok (.iload_n 1, 1) := by decide +kernel
theorem dX5_take_2 : decode cX5_take 2 = .ok (.invokevirtual 170, 3) := by decide +kernel
theorem dX5_take_5 : decode cX5_take 5 = .ok (.ifCond .ne 5, 3) := by decide +kernel
theorem dX5_take_8 : decode cX5_take 8 = .ok (.iconst (-1), 1) := by decide +kernel
theorem dX5_take_9 : decode cX5_take 9 = .ok (.ireturn, 1) := by decide +kernel
theorem dX5_take_10 : decode cX5_take 10 = .ok (.aload_n 0, 1) := by decide +kernel
theorem dX5_take_11 : decode cX5_take 11 = .ok (.iload_n 1, 1) := by decide +kernel
theorem dX5_take_12 : decode cX5_take 12 = .ok (.bipush 16, 2) := by decide +kernel
theorem dX5_take_14 : decode cX5_take 14 = .ok (.invokevirtual 100, 3) := by decide +kernel
theorem dX5_take_17 : decode cX5_take 17 = .ok (.ifCond .ne 8, 3) := by decide +kernel
theorem dX5_take_20 : decode cX5_take 20 = .ok (.bipush (-4), 2) := by decide +kernel
theorem dX5_take_22 : decode cX5_take 22 = .ok (.goto 12, 3) := by decide +kernel
theorem dX5_take_25 : decode cX5_take 25 = .ok (.aload_n 0, 1) := by decide +kernel
theorem dX5_take_26 : decode cX5_take 26 = .ok (.iload_n 1, 1) := by decide +kernel
theorem dX5_take_27 : decode cX5_take 27 = .ok (.bipush 12, 2) := by decide +kernel
theorem dX5_take_29 : decode cX5_take 29 = .ok (.bipush 16, 2) := by decide +kernel
theorem dX5_take_31 : decode cX5_take 31 = .ok (.invokevirtual 160, 3) := by decide +kernel
theorem dX5_take_34 : decode cX5_take 34 = .ok (.ireturn, 1) := by decide +kernel
theorem dX5_ask_0 : decode cX5_ask 0 = .ok (.aload_n 0, 1) := by decide +kernel
theorem dX5_ask_1 : decode cX5_ask 1 = .ok (.iload_n 1, 1) := by decide +kernel
theorem dX5_ask_2 : decode cX5_ask 2 = .ok (.invokevirtual 170, 3) := by decide +kernel
theorem dX5_ask_5 : decode cX5_ask 5 = .ok (.ifCond .eq 22, 3) := by decide +kernel
theorem dX5_ask_8 : decode cX5_ask 8 = .ok (.iload_n 2, 1) := by decide +kernel
theorem dX5_ask_9 : decode cX5_ask 9 = .ok (.iconst 0, 1) := by decide +kernel
theorem dX5_ask_10 : decode cX5_ask 10 = .ok (.bipush 63, 2) := by decide +kernel
theorem dX5_ask_12 : decode cX5_ask 12 = .ok (.invokestatic 82, 3) := by decide +kernel
theorem dX5_ask_15 : decode cX5_ask 15 = .ok (.ifCond .eq 12, 3) := by decide +kernel
theorem dX5_ask_18 : decode cX5_ask 18 = .ok (.iload_n 3, 1) := by decide +kernel
theorem dX5_ask_19 : decode cX5_ask 19 = .ok (.iconst 0, 1) := by decide +kernel
theorem dX5_ask_20 : decode cX5_ask 20 = .ok (.iconst 1, 1) := by decide +kernel
theorem dX5_ask_21 : decode cX5_ask 21 = .ok (.invokestatic 82, 3) := by decide +kernel
theorem dX5_ask_24 : decode cX5_ask 24 = .ok (.ifCond .ne 5, 3) := by decide +kernel
theorem dX5_ask_27 : decode cX5_ask 27 = .ok (.iconst (-1), 1) := by decide +kernel
theorem dX5_ask_28 : decode cX5_ask 28 = .ok (.ireturn, 1) := by decide +kernel
theorem dX5_ask_29 : decode cX5_ask 29 = .ok (.aload_n 0, 1) := by decide +kernel
theorem dX5_ask_30 : decode cX5_ask 30 = .ok (.iload_n 1, 1) := by decide +kernel
theorem dX5_ask_31 : decode cX5_ask 31 = .ok (.bipush 9, 2) := by decide +kernel
theorem dX5_ask_33 : decode cX5_ask 33 = .ok (.invokevirtual 100, 3) := by decide +kernel
theorem dX5_ask_36 : decode cX5_ask 36 = .ok (.bipush 64, 2) := by decide +kernel
theorem dX5_ask_38 : decode cX5_ask 38 = .ok (.aload_n 0, 1) := by decide +kernel
theorem dX5_ask_39 : decode cX5_ask 39 = .ok (.iload_n 1, 1) := by decide +kernel
theorem dX5_ask_40 : decode cX5_ask 40 = .ok (.bipush 10, 2) := by decide +kernel
theorem dX5_ask_42 : decode cX5_ask 42 = .ok (.invokevirtual 100, 3) := by decide +kernel
theorem dX5_ask_45 : decode cX5_ask 45 = .ok (.imul, 1) := by decide +kernel
theorem dX5_ask_46 : decode cX5_ask 46 = .ok (.iadd, 1) := by decide +kernel
theorem dX5_ask_47 : decode cX5_ask 47 = .ok (.istore 4, 2) := by decide +kernel
theorem dX5_ask_49 : decode cX5_ask 49 = .ok (.aload_n 0, 1) := by decide +kernel
theorem dX5_ask_50 : decode cX5_ask 50 = .ok (.iload_n 1, 1) := by decide +kernel
theorem dX5_ask_51 : decode cX5_ask 51 = .ok (.bipush 9, 2) := by decide +kernel
theorem dX5_ask_53 : decode cX5_ask 53 = .ok (.iload_n 2, 1) := by decide +kernel
theorem dX5_ask_54 : decode cX5_ask 54 = .ok (.invokevirtual 47, 3) := by decide +kernel
theorem dX5_ask_57 : decode cX5_ask 57 = .ok (.aload_n 0, 1) := by decide +kernel
theorem dX5_ask_58 : decode cX5_ask 58 = .ok (.iload_n 1, 1) := by decide +kernel
theorem dX5_ask_59 : decode cX5_ask 59 = .ok (.bipush 10, 2) := by decide +kernel
theorem dX5_ask_61 : decode cX5_ask 61 = .ok (.iload_n 3, 1) := by decide +kernel
theorem dX5_ask_62 : decode cX5_ask 62 = .ok (.invokevirtual 47, 3) := by decide +kernel
theorem dX5_ask_65 : decode cX5_ask 65 = .ok (.iload 4, 2) := by decide +kernel
theorem dX5_ask_67 : decode cX5_ask 67 = .ok (.ireturn, 1) := by decide +kernel
theorem dX5_front_0 : decode cX5_front 0 = .ok (.aload_n 0, 1) := by decide +kernel
theorem dX5_front_1 : decode cX5_front 1 = .ok (.iload_n 1, 1) := by decide +kernel
theorem dX5_front_2 : decode cX5_front 2 = .ok (.invokevirtual 170, 3) := by decide +kernel
theorem dX5_front_5 : decode cX5_front 5 = .ok (.ifCond .ne 5, 3) := by decide +kernel
theorem dX5_front_8 : decode cX5_front 8 = .ok (.iconst (-1), 1) := by decide +kernel
theorem dX5_front_9 : decode cX5_front 9 = .ok (.ireturn, 1) := by decide +kernel
theorem dX5_front_10 : decode cX5_front 10 = .ok (.aload_n 0, 1) := by decide +kernel
theorem dX5_front_11 : decode cX5_front 11 = .ok (.iload_n 1, 1) := by decide +kernel
theorem dX5_front_12 : decode cX5_front 12 = .ok (.bipush 8, 2) := by decide +kernel
theorem dX5_front_14 : decode cX5_front 14 = .ok (.invokevirtual 100, 3) := by decide +kernel
theorem dX5_front_17 : decode cX5_front 17 = .ok (.ifCond .ne 11, 3) := by decide +kernel
theorem dX5_front_20 : decode cX5_front 20 = .ok (.aload_n 0, 1) := by decide +kernel
theorem dX5_front_21 : decode cX5_front 21 = .ok (.iload_n 1, 1) := by decide +kernel
theorem dX5_front_22 : decode cX5_front 22 = .ok (.bipush 7, 2) := by decide +kernel
theorem dX5_front_24 : decode cX5_front 24 = .ok (.iconst 0, 1) := by decide +kernel
theorem dX5_front_25 : decode cX5_front 25 = .ok (.invokevirtual 47, 3) := by decide +kernel
theorem dX5_front_28 : decode cX5_front 28 = .ok (.iconst 1, 1) := by decide +kernel
theorem dX5_front_29 : decode cX5_front 29 = .ok (.aload_n 0, 1) := by decide +kernel
theorem dX5_front_30 : decode cX5_front 30 = .ok (.iload_n 1, 1) := by decide +kernel
theorem dX5_front_31 : decode cX5_front 31 = .ok (.bipush 7, 2) := by decide +kernel
theorem dX5_front_33 : decode cX5_front 33 = .ok (.invokevirtual 100, 3) := by decide +kernel
theorem dX5_front_36 : decode cX5_front 36 = .ok (.isub, 1) := by decide +kernel
theorem dX5_front_37 : decode cX5_front 37 = .ok (.ireturn, 1) := by decide +kernel
theorem dX5_tune_0 : decode cX5_tune 0 = .ok (.aload_n 0, 1) := by decide +kernel
theorem dX5_tune_1 : decode cX5_tune 1 = .ok (.iload_n 1, 1) := by decide +kernel
theorem dX5_tune_2 : decode cX5_tune 2 = .ok (.invokevirtual 170, 3) := by decide +kernel
theorem dX5_tune_5 : decode cX5_tune 5 = .ok (.ifCond .eq 28, 3) := by decide +kernel
theorem dX5_tune_8 : decode cX5_tune 8 = .ok (.iload_n 2, 1) := by decide +kernel
theorem dX5_tune_9 : decode cX5_tune 9 = .ok (.iconst 0, 1) := by decide +kernel
theorem dX5_tune_10 : decode cX5_tune 10 = .ok (.iconst 1, 1) := by decide +kernel
theorem dX5_tune_11 : decode cX5_tune 11 = .ok (.invokestatic 82, 3) := by decide +kernel
theorem dX5_tune_14 : decode cX5_tune 14 = .ok (.ifCond .eq 19, 3) := by decide +kernel
theorem dX5_tune_17 : decode cX5_tune 17 = .ok (.iload_n 3, 1) := by decide +kernel
theorem dX5_tune_18 : decode cX5_tune 18 = .ok (.iconst 1, 1) := by decide +kernel
theorem dX5_tune_19 : decode cX5_tune 19 = .ok (.iload_n 2, 1) := by decide +kernel
theorem dX5_tune_20 : decode cX5_tune 20 = .ok (.isub, 1) := by decide +kernel
theorem dX5_tune_21 : decode cX5_tune 21 = .ok (.iconst 3, 1) := by decide +kernel
theorem dX5_tune_22 : decode cX5_tune 22 = .ok (.iload_n 2, 1) := by decide +kernel
theorem dX5_tune_23 : decode cX5_tune 23 = .ok (.iadd, 1) := by decide +kernel
theorem dX5_tune_24 : decode cX5_tune 24 = .ok (.invokestatic 86, 3) := by decide +kernel
theorem dX5_tune_27 : decode cX5_tune 27 = .ok (.invokestatic 82, 3) := by decide +kernel
theorem dX5_tune_30 : decode cX5_tune 30 = .ok (.ifCond .ne 5, 3) := by decide +kernel
theorem dX5_tune_33 : decode cX5_tune 33 = .ok (.iconst (-1), 1) := by decide +kernel
theorem dX5_tune_34 : decode cX5_tune 34 = .ok (.ireturn, 1) := by decide +kernel
theorem dX5_tune_35 : decode cX5_tune 35 = .ok (.aload_n 0, 1) := by decide +kernel
theorem dX5_tune_36 : decode cX5_tune 36 = .ok (.iload_n 1, 1) := by decide +kernel
theorem dX5_tune_37 : decode cX5_tune 37 = .ok (.iconst 3, 1) := by decide +kernel
theorem dX5_tune_38 : decode cX5_tune 38 = .ok (.iload_n 2, 1) := by decide +kernel
theorem dX5_tune_39 : decode cX5_tune 39 = .ok (.iadd, 1) := by decide +kernel
theorem dX5_tune_40 : decode cX5_tune 40 = .ok (.invokevirtual 100, 3) := by decide +kernel
theorem dX5_tune_43 : decode cX5_tune 43 = .ok (.istore 4, 2) := by decide +kernel
theorem dX5_tune_45 : decode cX5_tune 45 = .ok (.iload 4, 2) := by decide +kernel
theorem dX5_tune_47 : decode cX5_tune 47 = .ok (.iload_n 3, 1) := by decide +kernel
theorem dX5_tune_48 : decode cX5_tune 48 = .ok (.if_icmp .ne 6, 3) := by decide +kernel
theorem dX5_tune_51 : decode cX5_tune 51 = .ok (.bipush (-2), 2) := by decide +kernel
theorem dX5_tune_53 : decode cX5_tune 53 = .ok (.ireturn, 1) := by decide +kernel
theorem dX5_tune_54 : decode cX5_tune 54 = .ok (.aload_n 0, 1) := by decide +kernel
theorem dX5_tune_55 : decode cX5_tune 55 = .ok (.iload_n 1, 1) := by decide +kernel
theorem dX5_tune_56 : decode cX5_tune 56 = .ok (.iconst 3, 1) := by decide +kernel
theorem dX5_tune_57 : decode cX5_tune 57 = .ok (.iload_n 2, 1) := by decide +kernel
theorem dX5_tune_58 : decode cX5_tune 58 = .ok (.iadd, 1) := by decide +kernel
theorem dX5_tune_59 : decode cX5_tune 59 = .ok (.iload_n 3, 1) := by decide +kernel
theorem dX5_tune_60 : decode cX5_tune 60 = .ok (.invokevirtual 47, 3) := by decide +kernel
theorem dX5_tune_63 : decode cX5_tune 63 = .ok (.iload 4, 2) := by decide +kernel
theorem dX5_tune_65 : decode cX5_tune 65 = .ok (.ireturn, 1) := by decide +kernel
theorem dX5_device_0 : decode cX5_device 0 = .ok (.aload_n 0, 1) := by decide +kernel
theorem dX5_device_1 : decode cX5_device 1 = .ok (.iload_n 1, 1) := by decide +kernel
theorem dX5_device_2 : decode cX5_device 2 = .ok (.invokevirtual 170, 3) := by decide +kernel
theorem dX5_device_5 : decode cX5_device 5 = .ok (.ifCond .eq 13, 3) := by decide +kernel
theorem dX5_device_8 : decode cX5_device 8 = .ok (.iload_n 2, 1) := by decide +kernel
theorem dX5_device_9 : decode cX5_device 9 = .ok (.iconst 0, 1) := by decide +kernel
theorem dX5_device_10 : decode cX5_device 10 = .ok (.bipush 17, 2) := by decide +kernel
theorem dX5_device_12 : decode cX5_device 12 = .ok (.invokestatic 82, 3) := by decide +kernel
theorem dX5_device_15 : decode cX5_device 15 = .ok (.ifCond .ne 5, 3) := by decide +kernel
theorem dX5_device_18 : decode cX5_device 18 = .ok (.iconst (-1), 1) := by decide +kernel
theorem dX5_device_19 : decode cX5_device 19 = .ok (.ireturn, 1) := by decide +kernel
theorem dX5_device_20 : decode cX5_device 20 = .ok (.iload_n 2, 1) := by decide +kernel
theorem dX5_device_21 : decode cX5_device 21 = .ok (.bipush 12, 2) := by decide +kernel
theorem dX5_device_23 : decode cX5_device 23 = .ok (.if_icmp .ne 26, 3) := by decide +kernel
theorem dX5_device_26 : decode cX5_device 26 = .ok (.aload_n 0, 1) := by decide +kernel
theorem dX5_device_27 : decode cX5_device 27 = .ok (.iload_n 1, 1) := by decide +kernel
theorem dX5_device_28 : decode cX5_device 28 = .ok (.bipush 11, 2) := by decide +kernel
theorem dX5_device_30 : decode cX5_device 30 = .ok (.invokevirtual 100, 3) := by decide +kernel
theorem dX5_device_33 : decode cX5_device 33 = .ok (.ifCond .ge 8, 3) := by decide +kernel
theorem dX5_device_36 : decode cX5_device 36 = .ok (.bipush (-4), 2) := by decide +kernel
theorem dX5_device_38 : decode cX5_device 38 = .ok (.goto 10, 3) := by decide +kernel
theorem dX5_device_41 : decode cX5_device 41 = .ok (.aload_n 0, 1) := by decide +kernel
theorem dX5_device_42 : decode cX5_device 42 = .ok (.iload_n 1, 1) := by decide +kernel
theorem dX5_device_43 : decode cX5_device 43 = .ok (.bipush 12, 2) := by decide +kernel
theorem dX5_device_45 : decode cX5_device 45 = .ok (.invokevirtual 100, 3) := by decide +kernel
theorem dX5_device_48 : decode cX5_device 48 = .ok (.ireturn, 1) := by decide +kernel
theorem dX5_device_49 : decode cX5_device 49 = .ok (.iload_n 2, 1) := by decide +kernel
theorem dX5_device_50 : decode cX5_device 50 = .ok (.bipush 14, 2) := by decide +kernel
theorem dX5_device_52 : decode cX5_device 52 = .ok (.if_icmp .ne 28, 3) := by decide +kernel
theorem dX5_device_55 : decode cX5_device 55 = .ok (.aload_n 0, 1) := by decide +kernel
theorem dX5_device_56 : decode cX5_device 56 = .ok (.iload_n 1, 1) := by decide +kernel
theorem dX5_device_57 : decode cX5_device 57 = .ok (.bipush 14, 2) := by decide +kernel
theorem dX5_device_59 : decode cX5_device 59 = .ok (.invokevirtual 100, 3) := by decide +kernel
theorem dX5_device_62 : decode cX5_device 62 = .ok (.ifCond .lt 18, 3) := by decide +kernel
theorem dX5_device_65 : decode cX5_device 65 = .ok (.aload_n 0, 1) := by decide +kernel
theorem dX5_device_66 : decode cX5_device 66 = .ok (.iload_n 1, 1) := by decide +kernel
theorem dX5_device_67 : decode cX5_device 67 = .ok (.bipush 14, 2) := by decide +kernel
theorem dX5_device_69 : decode cX5_device 69 = .ok (.invokevirtual 100, 3) := by decide +kernel
theorem dX5_device_72 : decode cX5_device 72 = .ok (.aload_n 0, 1) := by decide +kernel
theorem dX5_device_73 : decode cX5_device 73 = .ok (.getfield 57, 3) := by decide +kernel
theorem dX5_device_76 : decode cX5_device 76 = .ok (.isub, 1) := by decide +kernel
theorem dX5_device_77 : decode cX5_device 77 = .ok (.goto 9, 3) := by decide +kernel
theorem dX5_device_80 : decode cX5_device 80 = .ok (.aload_n 0, 1) := by decide +kernel
theorem dX5_device_81 : decode cX5_device 81 = .ok (.iload_n 1, 1) := by decide +kernel
theorem dX5_device_82 : decode cX5_device 82 = .ok (.iload_n 2, 1) := by decide +kernel
theorem dX5_device_83 : decode cX5_device 83 = .ok (.invokevirtual 100, 3) := by decide +kernel
theorem dX5_device_86 : decode cX5_device 86 = .ok (.ireturn, 1) := by decide +kernel
theorem dX5_row_0 : decode cX5_row 0 = .ok (.aload_n 0, 1) := by decide +kernel
theorem dX5_row_1 : decode cX5_row 1 = .ok (.iload_n 1, 1) := by decide +kernel
theorem dX5_row_2 : decode cX5_row 2 = .ok (.invokevirtual 170, 3) := by decide +kernel
theorem dX5_row_5 : decode cX5_row 5 = .ok (.ifCond .eq 16, 3) := by decide +kernel
theorem dX5_row_8 : decode cX5_row 8 = .ok (.iload_n 2, 1) := by decide +kernel
theorem dX5_row_9 : decode cX5_row 9 = .ok (.iconst 0, 1) := by decide +kernel
theorem dX5_row_10 : decode cX5_row 10 = .ok (.iconst 1, 1) := by decide +kernel
theorem dX5_row_11 : decode cX5_row 11 = .ok (.invokestatic 82, 3) := by decide +kernel
theorem dX5_row_14 : decode cX5_row 14 = .ok (.ifCond .eq 7, 3) := by decide +kernel
theorem dX5_row_17 : decode cX5_row 17 = .ok (.iload_n 3, 1) := by decide +kernel
theorem dX5_row_18 : decode cX5_row 18 = .ok (.ifCond .ge 5, 3) := by decide +kernel
theorem dX5_row_21 : decode cX5_row 21 = .ok (.iconst (-1), 1) := by decide +kernel
theorem dX5_row_22 : decode cX5_row 22 = .ok (.ireturn, 1) := by decide +kernel
theorem dX5_row_23 : decode cX5_row 23 = .ok (.iload_n 3, 1) := by decide +kernel
theorem dX5_row_24 : decode cX5_row 24 = .ok (.aload_n 0, 1) := by decide +kernel
theorem dX5_row_25 : decode cX5_row 25 = .ok (.iload_n 1, 1) := by decide +kernel
theorem dX5_row_26 : decode cX5_row 26 = .ok (.bipush 15, 2) := by decide +kernel
theorem dX5_row_28 : decode cX5_row 28 = .ok (.iload_n 2, 1) := by decide +kernel
theorem dX5_row_29 : decode cX5_row 29 = .ok (.iadd, 1) := by decide +kernel
theorem dX5_row_30 : decode cX5_row 30 = .ok (.invokevirtual 100, 3) := by decide +kernel
theorem dX5_row_33 : decode cX5_row 33 = .ok (.if_icmp .ge 22, 3) := by decide +kernel
theorem dX5_row_36 : decode cX5_row 36 = .ok (.aload_n 0, 1) := by decide +kernel
theorem dX5_row_37 : decode cX5_row 37 = .ok (.getfield 16, 3) := by decide +kernel
theorem dX5_row_40 : decode cX5_row 40 = .ok (.bipush 24, 2) := by decide +kernel
theorem dX5_row_42 : decode cX5_row 42 = .ok (.iload_n 1, 1) := by decide +kernel
theorem dX5_row_43 : decode cX5_row 43 = .ok (.imul, 1) := by decide +kernel
theorem dX5_row_44 : decode cX5_row 44 = .ok (.bipush 12, 2) := by decide +kernel
theorem dX5_row_46 : decode cX5_row 46 = .ok (.iload_n 2, 1) := by decide +kernel
theorem dX5_row_47 : decode cX5_row 47 = .ok (.imul, 1) := by decide +kernel
theorem dX5_row_48 : decode cX5_row 48 = .ok (.iadd, 1) := by decide +kernel
theorem dX5_row_49 : decode cX5_row 49 = .ok (.iload_n 3, 1) := by decide +kernel
theorem dX5_row_50 : decode cX5_row 50 = .ok (.iadd, 1) := by decide +kernel
theorem dX5_row_51 : decode cX5_row 51 = .ok (.iaload, 1) := by decide +kernel
theorem dX5_row_52 : decode cX5_row 52 = .ok (.goto 5, 3) := by decide +kernel
theorem dX5_row_55 : decode cX5_row 55 = .ok (.bipush (-4), 2) := by decide +kernel
theorem dX5_row_57 : decode cX5_row 57 = .ok (.ireturn, 1) := by decide +kernel
theorem dX5_anyAsks_0 : decode cX5_anyAsks 0 = .ok (.iconst 0, 1) := by decide +kernel
theorem dX5_anyAsks_1 : decode cX5_anyAsks 1 = .ok (.istore_n 1, 1) := by decide +kernel
theorem dX5_anyAsks_2 : decode cX5_anyAsks 2 = .ok (.iconst 0, 1) := by decide +kernel
theorem dX5_anyAsks_3 : decode cX5_anyAsks 3 = .ok (.istore_n 2, 1) := by decide +kernel
theorem dX5_anyAsks_4 : decode cX5_anyAsks 4 = .ok (.iload_n 2, 1) := by decide +kernel
theorem dX5_anyAsks_5 : decode cX5_anyAsks 5 = .ok (.aload_n 0, 1) := by decide +kernel
theorem dX5_anyAsks_6 : decode cX5_anyAsks 6 = .ok (.getfield 44, 3) := by decide +kernel
theorem dX5_anyAsks_9 : decode cX5_anyAsks 9 = .ok (.if_icmp .ge 19, 3) := by decide +kernel
theorem dX5_anyAsks_12 : decode cX5_anyAsks 12 = .ok (.iload_n 1, 1) := by decide +kernel
theorem dX5_anyAsks_13 : decode cX5_anyAsks 13 = .ok (.aload_n 0, 1) := by decide +kernel
theorem dX5_anyAsks_14 : decode cX5_anyAsks 14 = .ok (.iload_n 2, 1) := by decide +kernel
theorem dX5_anyAsks_15 : decode cX5_anyAsks 15 = .ok (.bipush 10, 2) := by decide +kernel
theorem dX5_anyAsks_17 : decode cX5_anyAsks 17 = .ok (.invokevirtual 100, 3) := by decide +kernel
theorem dX5_anyAsks_20 : decode cX5_anyAsks 20 = .ok (.ior, 1) := by decide +kernel
theorem dX5_anyAsks_21 : decode cX5_anyAsks 21 = .ok (.istore_n 1, 1) := by decide +kernel
theorem dX5_anyAsks_22 : decode cX5_anyAsks 22 = .ok (.iinc 2 1, 3) := by decide +kernel
theorem dX5_anyAsks_25 : decode cX5_anyAsks 25 = .ok (.goto (-21), 3) := by decide +kernel
theorem dX5_anyAsks_28 : decode cX5_anyAsks 28 = .ok (.iload_n 1, 1) := by decide +kernel
theorem dX5_anyAsks_29 : decode cX5_anyAsks 29 = .ok (.ireturn, 1) := by decide +kernel
theorem dX5_bus_0 : decode cX5_bus 0 = .ok (.iload_n 1, 1) := by decide +kernel
theorem dX5_bus_1 : decode cX5_bus 1 = .ok (.tableswitch 114 0 8 #[51, 56, 61, 66, 71, 76, 81, 104, 109], 51) := by decide +kernel
theorem dX5_bus_52 : decode cX5_bus 52 = .ok (.aload_n 0, 1) := by decide +kernel
theorem dX5_bus_53 : decode cX5_bus 53 = .ok (.invokevirtual 117, 3) := by decide +kernel
theorem dX5_bus_56 : decode cX5_bus 56 = .ok (.ireturn, 1) := by decide +kernel
theorem dX5_bus_57 : decode cX5_bus 57 = .ok (.aload_n 0, 1) := by decide +kernel
theorem dX5_bus_58 : decode cX5_bus 58 = .ok (.invokevirtual 132, 3) := by decide +kernel
theorem dX5_bus_61 : decode cX5_bus 61 = .ok (.ireturn, 1) := by decide +kernel
theorem dX5_bus_62 : decode cX5_bus 62 = .ok (.aload_n 0, 1) := by decide +kernel
theorem dX5_bus_63 : decode cX5_bus 63 = .ok (.getfield 51, 3) := by decide +kernel
theorem dX5_bus_66 : decode cX5_bus 66 = .ok (.ireturn, 1) := by decide +kernel
theorem dX5_bus_67 : decode cX5_bus 67 = .ok (.aload_n 0, 1) := by decide +kernel
theorem dX5_bus_68 : decode cX5_bus 68 = .ok (.getfield 54, 3) := by decide +kernel
theorem dX5_bus_71 : decode cX5_bus 71 = .ok (.ireturn, 1) := by decide +kernel
theorem dX5_bus_72 : decode cX5_bus 72 = .ok (.aload_n 0, 1) := by decide +kernel
theorem dX5_bus_73 : decode cX5_bus 73 = .ok (.getfield 57, 3) := by decide +kernel
theorem dX5_bus_76 : decode cX5_bus 76 = .ok (.ireturn, 1) := by decide +kernel
theorem dX5_bus_77 : decode cX5_bus 77 = .ok (.aload_n 0, 1) := by decide +kernel
theorem dX5_bus_78 : decode cX5_bus 78 = .ok (.invokevirtual 173, 3) := by decide +kernel
theorem dX5_bus_81 : decode cX5_bus 81 = .ok (.ireturn, 1) := by decide +kernel
theorem dX5_bus_82 : decode cX5_bus 82 = .ok (.aload_n 0, 1) := by decide +kernel
theorem dX5_bus_83 : decode cX5_bus 83 = .ok (.invokevirtual 157, 3) := by decide +kernel
theorem dX5_bus_86 : decode cX5_bus 86 = .ok (.ifCond .ne 8, 3) := by decide +kernel
theorem dX5_bus_89 : decode cX5_bus 89 = .ok (.bipush (-2), 2) := by decide +kernel
theorem dX5_bus_91 : decode cX5_bus 91 = .ok (.goto 13, 3) := by decide +kernel
theorem dX5_bus_94 : decode cX5_bus 94 = .ok (.aload_n 0, 1) := by decide +kernel
theorem dX5_bus_95 : decode cX5_bus 95 = .ok (.aload_n 0, 1) := by decide +kernel
theorem dX5_bus_96 : decode cX5_bus 96 = .ok (.invokevirtual 157, 3) := by decide +kernel
theorem dX5_bus_99 : decode cX5_bus 99 = .ok (.invokevirtual 129, 3) := by decide +kernel
theorem dX5_bus_102 : decode cX5_bus 102 = .ok (.iconst 2, 1) := by decide +kernel
theorem dX5_bus_103 : decode cX5_bus 103 = .ok (.iadd, 1) := by decide +kernel
theorem dX5_bus_104 : decode cX5_bus 104 = .ok (.ireturn, 1) := by decide +kernel
theorem dX5_bus_105 : decode cX5_bus 105 = .ok (.aload_n 0, 1) := by decide +kernel
theorem dX5_bus_106 : decode cX5_bus 106 = .ok (.getfield 44, 3) := by decide +kernel
theorem dX5_bus_109 : decode cX5_bus 109 = .ok (.ireturn, 1) := by decide +kernel
theorem dX5_bus_110 : decode cX5_bus 110 = .ok (.aload_n 0, 1) := by decide +kernel
theorem dX5_bus_111 : decode cX5_bus 111 = .ok (.getfield 69, 3) := by decide +kernel
theorem dX5_bus_114 : decode cX5_bus 114 = .ok (.ireturn, 1) := by decide +kernel
theorem dX5_bus_115 : decode cX5_bus 115 = .ok (.iconst (-1), 1) := by decide +kernel
theorem dX5_bus_116 : decode cX5_bus 116 = .ok (.ireturn, 1) := by decide +kernel
theorem dX5_sum_0 : decode cX5_sum 0 = .ok (.iload_n 1, 1) := by decide +kernel
theorem dX5_sum_1 : decode cX5_sum 1 = .ok (.iconst 0, 1) := by decide +kernel
theorem dX5_sum_2 : decode cX5_sum 2 = .ok (.bipush 7, 2) := by decide +kernel
theorem dX5_sum_4 : decode cX5_sum 4 = .ok (.invokestatic 82, 3) := by decide +kernel
theorem dX5_sum_7 : decode cX5_sum 7 = .ok (.ifCond .eq 12, 3) := by decide +kernel
theorem dX5_sum_10 : decode cX5_sum 10 = .ok (.aload_n 0, 1) := by decide +kernel
theorem dX5_sum_11 : decode cX5_sum 11 = .ok (.getfield 19, 3) := by decide +kernel
theorem dX5_sum_14 : decode cX5_sum 14 = .ok (.iload_n 1, 1) := by decide +kernel
theorem dX5_sum_15 : decode cX5_sum 15 = .ok (.iaload, 1) := by decide +kernel
theorem dX5_sum_16 : decode cX5_sum 16 = .ok (.goto 4, 3) := by decide +kernel
theorem dX5_sum_19 : decode cX5_sum 19 = .ok (.iconst (-1), 1) := by decide +kernel
theorem dX5_sum_20 : decode cX5_sum 20 = .ok (.ireturn, 1) := by decide +kernel
theorem dX5_log_0 : decode cX5_log 0 = .ok (.iload_n 1, 1) := by decide +kernel
theorem dX5_log_1 : decode cX5_log 1 = .ok (.iconst (-1), 1) := by decide +kernel
theorem dX5_log_2 : decode cX5_log 2 = .ok (.if_icmp .lt 12, 3) := by decide +kernel
theorem dX5_log_5 : decode cX5_log 5 = .ok (.iload_n 2, 1) := by decide +kernel
theorem dX5_log_6 : decode cX5_log 6 = .ok (.iconst 0, 1) := by decide +kernel
theorem dX5_log_7 : decode cX5_log 7 = .ok (.iconst 2, 1) := by decide +kernel
theorem dX5_log_8 : decode cX5_log 8 = .ok (.invokestatic 82, 3) := by decide +kernel
theorem dX5_log_11 : decode cX5_log 11 = .ok (.ifCond .ne 5, 3) := by decide +kernel
theorem dX5_log_14 : decode cX5_log 14 = .ok (.iconst (-1), 1) := by decide +kernel
theorem dX5_log_15 : decode cX5_log 15 = .ok (.ireturn, 1) := by decide +kernel
theorem dX5_log_16 : decode cX5_log 16 = .ok (.iload_n 1, 1) := by decide +kernel
theorem dX5_log_17 : decode cX5_log 17 = .ok (.ifCond .ge 8, 3) := by decide +kernel
theorem dX5_log_20 : decode cX5_log 20 = .ok (.aload_n 0, 1) := by decide +kernel
theorem dX5_log_21 : decode cX5_log 21 = .ok (.getfield 66, 3) := by decide +kernel
theorem dX5_log_24 : decode cX5_log 24 = .ok (.ireturn, 1) := by decide +kernel
theorem dX5_log_25 : decode cX5_log 25 = .ok (.iload_n 1, 1) := by decide +kernel
theorem dX5_log_26 : decode cX5_log 26 = .ok (.aload_n 0, 1) := by decide +kernel
theorem dX5_log_27 : decode cX5_log 27 = .ok (.getfield 66, 3) := by decide +kernel
theorem dX5_log_30 : decode cX5_log 30 = .ok (.if_icmp .lt 8, 3) := by decide +kernel
theorem dX5_log_33 : decode cX5_log 33 = .ok (.bipush (-4), 2) := by decide +kernel
theorem dX5_log_35 : decode cX5_log 35 = .ok (.goto 36, 3) := by decide +kernel
theorem dX5_log_38 : decode cX5_log 38 = .ok (.iload_n 2, 1) := by decide +kernel
theorem dX5_log_39 : decode cX5_log 39 = .ok (.ifCond .ne 12, 3) := by decide +kernel
theorem dX5_log_42 : decode cX5_log 42 = .ok (.aload_n 0, 1) := by decide +kernel
theorem dX5_log_43 : decode cX5_log 43 = .ok (.getfield 22, 3) := by decide +kernel
theorem dX5_log_46 : decode cX5_log 46 = .ok (.iload_n 1, 1) := by decide +kernel
theorem dX5_log_47 : decode cX5_log 47 = .ok (.iaload, 1) := by decide +kernel
theorem dX5_log_48 : decode cX5_log 48 = .ok (.goto 23, 3) := by decide +kernel
theorem dX5_log_51 : decode cX5_log 51 = .ok (.iload_n 2, 1) := by decide +kernel
theorem dX5_log_52 : decode cX5_log 52 = .ok (.iconst 1, 1) := by decide +kernel
theorem dX5_log_53 : decode cX5_log 53 = .ok (.if_icmp .ne 12, 3) := by decide +kernel
theorem dX5_log_56 : decode cX5_log 56 = .ok (.aload_n 0, 1) := by decide +kernel
theorem dX5_log_57 : decode cX5_log 57 = .ok (.getfield 25, 3) := by decide +kernel
theorem dX5_log_60 : decode cX5_log 60 = .ok (.iload_n 1, 1) := by decide +kernel
theorem dX5_log_61 : decode cX5_log 61 = .ok (.iaload, 1) := by decide +kernel
theorem dX5_log_62 : decode cX5_log 62 = .ok (.goto 9, 3) := by decide +kernel
theorem dX5_log_65 : decode cX5_log 65 = .ok (.aload_n 0, 1) := by decide +kernel
theorem dX5_log_66 : decode cX5_log 66 = .ok (.getfield 28, 3) := by decide +kernel
theorem dX5_log_69 : decode cX5_log 69 = .ok (.iload_n 1, 1) := by decide +kernel
theorem dX5_log_70 : decode cX5_log 70 = .ok (.iaload, 1) := by decide +kernel
theorem dX5_log_71 : decode cX5_log 71 = .ok (.ireturn, 1) := by decide +kernel
end
section
theorem dL_law_0 : decode cL_law 0 = .ok (.new 7, 3) := by decide +kernel
theorem dL_law_3 : decode cL_law 3 = .ok (.dup, 1) := by decide +kernel
theorem dL_law_4 : decode cL_law 4 = .ok (.invokespecial 9, 3) := by decide +kernel
theorem dL_law_7 : decode cL_law 7 = .ok (.astore_n 1, 1) := by decide +kernel
theorem dL_law_8 : decode cL_law 8 = .ok (.new 10, 3) := by decide +kernel
theorem dL_law_11 : decode cL_law 11 = .ok (.dup, 1) := by decide +kernel
theorem dL_law_12 : decode cL_law 12 = .ok (.invokespecial 12, 3) := by decide +kernel
theorem dL_law_15 : decode cL_law 15 = .ok (.astore_n 2, 1) := by decide +kernel
theorem dL_law_16 : decode cL_law 16 = .ok (.iconst 0, 1) := by decide +kernel
theorem dL_law_17 : decode cL_law 17 = .ok (.istore_n 3, 1) := by decide +kernel
theorem dL_law_18 : decode cL_law 18 = .ok (.iload_n 3, 1) := by decide +kernel
theorem dL_law_19 : decode cL_law 19 = .ok (.aload_n 0, 1) := by decide +kernel
theorem dL_law_20 : decode cL_law 20 = .ok (.arraylength, 1) := by decide +kernel
theorem dL_law_21 : decode cL_law 21 = .ok (.iconst 4, 1) := by decide +kernel
theorem dL_law_22 : decode cL_law 22 = .ok (.isub, 1) := by decide +kernel
theorem dL_law_23 : decode cL_law 23 = .ok (.if_icmp .gt 591, 3) := by decide +kernel
theorem dL_law_26 : decode cL_law 26 = .ok (.aload_n 0, 1) := by decide +kernel
theorem dL_law_27 : decode cL_law 27 = .ok (.iload_n 3, 1) := by decide +kernel
theorem dL_law_28 : decode cL_law 28 = .ok (.iaload, 1) := by decide +kernel
theorem dL_law_29 : decode cL_law 29 = .ok (.bipush 31, 2) := by decide +kernel
theorem dL_law_31 : decode cL_law 31 = .ok (.iand, 1) := by decide +kernel
theorem dL_law_32 : decode cL_law 32 = .ok (.tableswitch 576 0 19 #[96, 119, 132, 145, 158, 181, 194, 217, 230, 243, 256, 289, 312, 355, 378, 421, 454, 497, 520, 543], 96) := by decide +kernel
theorem dL_law_128 : decode cL_law 128 = .ok (.aload_n 1, 1) := by decide +kernel
theorem dL_law_129 : decode cL_law 129 = .ok (.aload_n 0, 1) := by decide +kernel
theorem dL_law_130 : decode cL_law 130 = .ok (.iload_n 3, 1) := by decide +kernel
theorem dL_law_131 : decode cL_law 131 = .ok (.iconst 1, 1) := by decide +kernel
theorem dL_law_132 : decode cL_law 132 = .ok (.iadd, 1) := by decide +kernel
theorem dL_law_133 : decode cL_law 133 = .ok (.iaload, 1) := by decide +kernel
theorem dL_law_134 : decode cL_law 134 = .ok (.invokevirtual 13, 3) := by decide +kernel
theorem dL_law_137 : decode cL_law 137 = .ok (.aload_n 2, 1) := by decide +kernel
theorem dL_law_138 : decode cL_law 138 = .ok (.aload_n 0, 1) := by decide +kernel
theorem dL_law_139 : decode cL_law 139 = .ok (.iload_n 3, 1) := by decide +kernel
theorem dL_law_140 : decode cL_law 140 = .ok (.iconst 1, 1) := by decide +kernel
theorem dL_law_141 : decode cL_law 141 = .ok (.iadd, 1) := by decide +kernel
theorem dL_law_142 : decode cL_law 142 = .ok (.iaload, 1) := by decide +kernel
theorem dL_law_143 : decode cL_law 143 = .ok (.invokevirtual 17, 3) := by decide +kernel
theorem dL_law_146 : decode cL_law 146 = .ok (.if_icmp .eq 462, 3) := by decide +kernel
theorem dL_law_149 : decode cL_law 149 = .ok (.iconst 0, 1) := by decide +kernel
theorem dL_law_150 : decode cL_law 150 = .ok (.ireturn, 1) := by decide +kernel
theorem dL_law_151 : decode cL_law 151 = .ok (.aload_n 1, 1) := by decide +kernel
theorem dL_law_152 : decode cL_law 152 = .ok (.invokevirtual 18, 3) := by decide +kernel
theorem dL_law_155 : decode cL_law 155 = .ok (.aload_n 2, 1) := by decide +kernel
theorem dL_law_156 : decode cL_law 156 = .ok (.invokevirtual 22, 3) := by decide +kernel
theorem dL_law_159 : decode cL_law 159 = .ok (.if_icmp .eq 449, 3) := by decide +kernel
theorem dL_law_162 : decode cL_law 162 = .ok (.iconst 0, 1) := by decide +kernel
theorem dL_law_163 : decode cL_law 163 = .ok (.ireturn, 1) := by decide +kernel
theorem dL_law_164 : decode cL_law 164 = .ok (.aload_n 1, 1) := by decide +kernel
theorem dL_law_165 : decode cL_law 165 = .ok (.invokevirtual 23, 3) := by decide +kernel
theorem dL_law_168 : decode cL_law 168 = .ok (.aload_n 2, 1) := by decide +kernel
theorem dL_law_169 : decode cL_law 169 = .ok (.invokevirtual 26, 3) := by decide +kernel
theorem dL_law_172 : decode cL_law 172 = .ok (.if_icmp .eq 436, 3) := by decide +kernel
theorem dL_law_175 : decode cL_law 175 = .ok (.iconst 0, 1) := by decide +kernel
theorem dL_law_176 : decode cL_law 176 = .ok (.ireturn, 1) := by decide +kernel
theorem dL_law_177 : decode cL_law 177 = .ok (.aload_n 1, 1) := by decide +kernel
theorem dL_law_178 : decode cL_law 178 = .ok (.invokevirtual 27, 3) := by decide +kernel
theorem dL_law_181 : decode cL_law 181 = .ok (.aload_n 2, 1) := by decide +kernel
theorem dL_law_182 : decode cL_law 182 = .ok (.invokevirtual 30, 3) := by decide +kernel
theorem dL_law_185 : decode cL_law 185 = .ok (.if_icmp .eq 423, 3) := by decide +kernel
theorem dL_law_188 : decode cL_law 188 = .ok (.iconst 0, 1) := by decide +kernel
theorem dL_law_189 : decode cL_law 189 = .ok (.ireturn, 1) := by decide +kernel
theorem dL_law_190 : decode cL_law 190 = .ok (.aload_n 1, 1) := by decide +kernel
theorem dL_law_191 : decode cL_law 191 = .ok (.aload_n 0, 1) := by decide +kernel
theorem dL_law_192 : decode cL_law 192 = .ok (.iload_n 3, 1) := by decide +kernel
theorem dL_law_193 : decode cL_law 193 = .ok (.iconst 1, 1) := by decide +kernel
theorem dL_law_194 : decode cL_law 194 = .ok (.iadd, 1) := by decide +kernel
theorem dL_law_195 : decode cL_law 195 = .ok (.iaload, 1) := by decide +kernel
theorem dL_law_196 : decode cL_law 196 = .ok (.invokevirtual 31, 3) := by decide +kernel
theorem dL_law_199 : decode cL_law 199 = .ok (.aload_n 2, 1) := by decide +kernel
theorem dL_law_200 : decode cL_law 200 = .ok (.aload_n 0, 1) := by decide +kernel
theorem dL_law_201 : decode cL_law 201 = .ok (.iload_n 3, 1) := by decide +kernel
theorem dL_law_202 : decode cL_law 202 = .ok (.iconst 1, 1) := by decide +kernel
theorem dL_law_203 : decode cL_law 203 = .ok (.iadd, 1) := by decide +kernel
theorem dL_law_204 : decode cL_law 204 = .ok (.iaload, 1) := by decide +kernel
theorem dL_law_205 : decode cL_law 205 = .ok (.invokevirtual 34, 3) := by decide +kernel
theorem dL_law_208 : decode cL_law 208 = .ok (.if_icmp .eq 400, 3) := by decide +kernel
theorem dL_law_211 : decode cL_law 211 = .ok (.iconst 0, 1) := by decide +kernel
theorem dL_law_212 : decode cL_law 212 = .ok (.ireturn, 1) := by decide +kernel
theorem dL_law_213 : decode cL_law 213 = .ok (.aload_n 1, 1) := by decide +kernel
theorem dL_law_214 : decode cL_law 214 = .ok (.invokevirtual 35, 3) := by decide +kernel
theorem dL_law_217 : decode cL_law 217 = .ok (.aload_n 2, 1) := by decide +kernel
theorem dL_law_218 : decode cL_law 218 = .ok (.invokevirtual 38, 3) := by decide +kernel
theorem dL_law_221 : decode cL_law 221 = .ok (.if_icmp .eq 387, 3) := by decide +kernel
theorem dL_law_224 : decode cL_law 224 = .ok (.iconst 0, 1) := by decide +kernel
theorem dL_law_225 : decode cL_law 225 = .ok (.ireturn, 1) := by decide +kernel
theorem dL_law_226 : decode cL_law 226 = .ok (.aload_n 1, 1) := by decide +kernel
theorem dL_law_227 : decode cL_law 227 = .ok (.aload_n 0, 1) := by decide +kernel
theorem dL_law_228 : decode cL_law 228 = .ok (.iload_n 3, 1) := by decide +kernel
theorem dL_law_229 : decode cL_law 229 = .ok (.iconst 1, 1) := by decide +kernel
theorem dL_law_230 : decode cL_law 230 = .ok (.iadd, 1) := by decide +kernel
theorem dL_law_231 : decode cL_law 231 = .ok (.iaload, 1) := by decide +kernel
theorem dL_law_232 : decode cL_law 232 = .ok (.invokevirtual 39, 3) := by decide +kernel
theorem dL_law_235 : decode cL_law 235 = .ok (.aload_n 2, 1) := by decide +kernel
theorem dL_law_236 : decode cL_law 236 = .ok (.aload_n 0, 1) := by decide +kernel
theorem dL_law_237 : decode cL_law 237 = .ok (.iload_n 3, 1) := by decide +kernel
theorem dL_law_238 : decode cL_law 238 = .ok (.iconst 1, 1) := by decide +kernel
theorem dL_law_239 : decode cL_law 239 = .ok (.iadd, 1) := by decide +kernel
theorem dL_law_240 : decode cL_law 240 = .ok (.iaload, 1) := by decide +kernel
theorem dL_law_241 : decode cL_law 241 = .ok (.invokevirtual 42, 3) := by decide +kernel
theorem dL_law_244 : decode cL_law 244 = .ok (.if_icmp .eq 364, 3) := by decide +kernel
theorem dL_law_247 : decode cL_law 247 = .ok (.iconst 0, 1) := by decide +kernel
theorem dL_law_248 : decode cL_law 248 = .ok (.ireturn, 1) := by decide +kernel
theorem dL_law_249 : decode cL_law 249 = .ok (.aload_n 1, 1) := by decide +kernel
theorem dL_law_250 : decode cL_law 250 = .ok (.invokevirtual 43, 3) := by decide +kernel
theorem dL_law_253 : decode cL_law 253 = .ok (.aload_n 2, 1) := by decide +kernel
theorem dL_law_254 : decode cL_law 254 = .ok (.invokevirtual 46, 3) := by decide +kernel
theorem dL_law_257 : decode cL_law 257 = .ok (.if_icmp .eq 351, 3) := by decide +kernel
theorem dL_law_260 : decode cL_law 260 = .ok (.iconst 0, 1) := by decide +kernel
theorem dL_law_261 : decode cL_law 261 = .ok (.ireturn, 1) := by decide +kernel
theorem dL_law_262 : decode cL_law 262 = .ok (.aload_n 1, 1) := by decide +kernel
theorem dL_law_263 : decode cL_law 263 = .ok (.invokevirtual 47, 3) := by decide +kernel
theorem dL_law_266 : decode cL_law 266 = .ok (.aload_n 2, 1) := by decide +kernel
theorem dL_law_267 : decode cL_law 267 = .ok (.invokevirtual 50, 3) := by decide +kernel
theorem dL_law_270 : decode cL_law 270 = .ok (.if_icmp .eq 338, 3) := by decide +kernel
theorem dL_law_273 : decode cL_law 273 = .ok (.iconst 0, 1) := by decide +kernel
theorem dL_law_274 : decode cL_law 274 = .ok (.ireturn, 1) := by decide +kernel
theorem dL_law_275 : decode cL_law 275 = .ok (.aload_n 1, 1) := by decide +kernel
theorem dL_law_276 : decode cL_law 276 = .ok (.invokevirtual 51, 3) := by decide +kernel
theorem dL_law_279 : decode cL_law 279 = .ok (.aload_n 2, 1) := by decide +kernel
theorem dL_law_280 : decode cL_law 280 = .ok (.invokevirtual 54, 3) := by decide +kernel
theorem dL_law_283 : decode cL_law 283 = .ok (.if_icmp .eq 325, 3) := by decide +kernel
theorem dL_law_286 : decode cL_law 286 = .ok (.iconst 0, 1) := by decide +kernel
theorem dL_law_287 : decode cL_law 287 = .ok (.ireturn, 1) := by decide +kernel
theorem dL_law_288 : decode cL_law 288 = .ok (.aload_n 1, 1) := by decide +kernel
theorem dL_law_289 : decode cL_law 289 = .ok (.aload_n 0, 1) := by decide +kernel
theorem dL_law_290 : decode cL_law 290 = .ok (.iload_n 3, 1) := by decide +kernel
theorem dL_law_291 : decode cL_law 291 = .ok (.iconst 1, 1) := by decide +kernel
theorem dL_law_292 : decode cL_law 292 = .ok (.iadd, 1) := by decide +kernel
theorem dL_law_293 : decode cL_law 293 = .ok (.iaload, 1) := by decide +kernel
theorem dL_law_294 : decode cL_law 294 = .ok (.aload_n 0, 1) := by decide +kernel
theorem dL_law_295 : decode cL_law 295 = .ok (.iload_n 3, 1) := by decide +kernel
theorem dL_law_296 : decode cL_law 296 = .ok (.iconst 2, 1) := by decide +kernel
theorem dL_law_297 : decode cL_law 297 = .ok (.iadd, 1) := by decide +kernel
theorem dL_law_298 : decode cL_law 298 = .ok (.iaload, 1) := by decide +kernel
theorem dL_law_299 : decode cL_law 299 = .ok (.invokevirtual 55, 3) := by decide +kernel
theorem dL_law_302 : decode cL_law 302 = .ok (.aload_n 2, 1) := by decide +kernel
theorem dL_law_303 : decode cL_law 303 = .ok (.aload_n 0, 1) := by decide +kernel
theorem dL_law_304 : decode cL_law 304 = .ok (.iload_n 3, 1) := by decide +kernel
theorem dL_law_305 : decode cL_law 305 = .ok (.iconst 1, 1) := by decide +kernel
theorem dL_law_306 : decode cL_law 306 = .ok (.iadd, 1) := by decide +kernel
theorem dL_law_307 : decode cL_law 307 = .ok (.iaload, 1) := by decide +kernel
theorem dL_law_308 : decode cL_law 308 = .ok (.aload_n 0, 1) := by decide +kernel
theorem dL_law_309 : decode cL_law 309 = .ok (.iload_n 3, 1) := by decide +kernel
theorem dL_law_310 : decode cL_law 310 = .ok (.iconst 2, 1) := by decide +kernel
theorem dL_law_311 : decode cL_law 311 = .ok (.iadd, 1) := by decide +kernel
theorem dL_law_312 : decode cL_law 312 = .ok (.iaload, 1) := by decide +kernel
theorem dL_law_313 : decode cL_law 313 = .ok (.invokevirtual 59, 3) := by decide +kernel
theorem dL_law_316 : decode cL_law 316 = .ok (.if_icmp .eq 292, 3) := by decide +kernel
theorem dL_law_319 : decode cL_law 319 = .ok (.iconst 0, 1) := by decide +kernel
theorem dL_law_320 : decode cL_law 320 = .ok (.ireturn, 1) := by decide +kernel
theorem dL_law_321 : decode cL_law 321 = .ok (.aload_n 1, 1) := by decide +kernel
theorem dL_law_322 : decode cL_law 322 = .ok (.aload_n 0, 1) := by decide +kernel
theorem dL_law_323 : decode cL_law 323 = .ok (.iload_n 3, 1) := by decide +kernel
theorem dL_law_324 : decode cL_law 324 = .ok (.iconst 1, 1) := by decide +kernel
theorem dL_law_325 : decode cL_law 325 = .ok (.iadd, 1) := by decide +kernel
theorem dL_law_326 : decode cL_law 326 = .ok (.iaload, 1) := by decide +kernel
theorem dL_law_327 : decode cL_law 327 = .ok (.invokevirtual 60, 3) := by decide +kernel
theorem dL_law_330 : decode cL_law 330 = .ok (.aload_n 2, 1) := by decide +kernel
theorem dL_law_331 : decode cL_law 331 = .ok (.aload_n 0, 1) := by decide +kernel
theorem dL_law_332 : decode cL_law 332 = .ok (.iload_n 3, 1) := by decide +kernel
theorem dL_law_333 : decode cL_law 333 = .ok (.iconst 1, 1) := by decide +kernel
theorem dL_law_334 : decode cL_law 334 = .ok (.iadd, 1) := by decide +kernel
theorem dL_law_335 : decode cL_law 335 = .ok (.iaload, 1) := by decide +kernel
theorem dL_law_336 : decode cL_law 336 = .ok (.invokevirtual 63, 3) := by decide +kernel
theorem dL_law_339 : decode cL_law 339 = .ok (.if_icmp .eq 269, 3) := by decide +kernel
theorem dL_law_342 : decode cL_law 342 = .ok (.iconst 0, 1) := by decide +kernel
theorem dL_law_343 : decode cL_law 343 = .ok (.ireturn, 1) := by decide +kernel
theorem dL_law_344 : decode cL_law 344 = .ok (.aload_n 1, 1) := by decide +kernel
theorem dL_law_345 : decode cL_law 345 = .ok (.aload_n 0, 1) := by decide +kernel
theorem dL_law_346 : decode cL_law 346 = .ok (.iload_n 3, 1) := by decide +kernel
theorem dL_law_347 : decode cL_law 347 = .ok (.iconst 1, 1) := by decide +kernel
theorem dL_law_348 : decode cL_law 348 = .ok (.iadd, 1) := by decide +kernel
theorem dL_law_349 : decode cL_law 349 = .ok (.iaload, 1) := by decide +kernel
theorem dL_law_350 : decode cL_law 350 = .ok (.aload_n 0, 1) := by decide +kernel
theorem dL_law_351 : decode cL_law 351 = .ok (.iload_n 3, 1) := by decide +kernel
theorem dL_law_352 : decode cL_law 352 = .ok (.iconst 2, 1) := by decide +kernel
theorem dL_law_353 : decode cL_law 353 = .ok (.iadd, 1) := by decide +kernel
theorem dL_law_354 : decode cL_law 354 = .ok (.iaload, 1) := by decide +kernel
theorem dL_law_355 : decode cL_law 355 = .ok (.aload_n 0, 1) := by decide +kernel
theorem dL_law_356 : decode cL_law 356 = .ok (.iload_n 3, 1) := by decide +kernel
theorem dL_law_357 : decode cL_law 357 = .ok (.iconst 3, 1) := by decide +kernel
theorem dL_law_358 : decode cL_law 358 = .ok (.iadd, 1) := by decide +kernel
theorem dL_law_359 : decode cL_law 359 = .ok (.iaload, 1) := by decide +kernel
theorem dL_law_360 : decode cL_law 360 = .ok (.invokevirtual 64, 3) := by decide +kernel
theorem dL_law_363 : decode cL_law 363 = .ok (.aload_n 2, 1) := by decide +kernel
theorem dL_law_364 : decode cL_law 364 = .ok (.aload_n 0, 1) := by decide +kernel
theorem dL_law_365 : decode cL_law 365 = .ok (.iload_n 3, 1) := by decide +kernel
theorem dL_law_366 : decode cL_law 366 = .ok (.iconst 1, 1) := by decide +kernel
theorem dL_law_367 : decode cL_law 367 = .ok (.iadd, 1) := by decide +kernel
theorem dL_law_368 : decode cL_law 368 = .ok (.iaload, 1) := by decide +kernel
theorem dL_law_369 : decode cL_law 369 = .ok (.aload_n 0, 1) := by decide +kernel
theorem dL_law_370 : decode cL_law 370 = .ok (.iload_n 3, 1) := by decide +kernel
theorem dL_law_371 : decode cL_law 371 = .ok (.iconst 2, 1) := by decide +kernel
theorem dL_law_372 : decode cL_law 372 = .ok (.iadd, 1) := by decide +kernel
theorem dL_law_373 : decode cL_law 373 = .ok (.iaload, 1) := by decide +kernel
theorem dL_law_374 : decode cL_law 374 = .ok (.aload_n 0, 1) := by decide +kernel
theorem dL_law_375 : decode cL_law 375 = .ok (.iload_n 3, 1) := by decide +kernel
theorem dL_law_376 : decode cL_law 376 = .ok (.iconst 3, 1) := by decide +kernel
theorem dL_law_377 : decode cL_law 377 = .ok (.iadd, 1) := by decide +kernel
theorem dL_law_378 : decode cL_law 378 = .ok (.iaload, 1) := by decide +kernel
theorem dL_law_379 : decode cL_law 379 = .ok (.invokevirtual 68, 3) := by decide +kernel
theorem dL_law_382 : decode cL_law 382 = .ok (.if_icmp .eq 226, 3) := by decide +kernel
theorem dL_law_385 : decode cL_law 385 = .ok (.iconst 0, 1) := by decide +kernel
theorem dL_law_386 : decode cL_law 386 = .ok (.ireturn, 1) := by decide +kernel
theorem dL_law_387 : decode cL_law 387 = .ok (.aload_n 1, 1) := by decide +kernel
theorem dL_law_388 : decode cL_law 388 = .ok (.aload_n 0, 1) := by decide +kernel
theorem dL_law_389 : decode cL_law 389 = .ok (.iload_n 3, 1) := by decide +kernel
theorem dL_law_390 : decode cL_law 390 = .ok (.iconst 1, 1) := by decide +kernel
theorem dL_law_391 : decode cL_law 391 = .ok (.iadd, 1) := by decide +kernel
theorem dL_law_392 : decode cL_law 392 = .ok (.iaload, 1) := by decide +kernel
theorem dL_law_393 : decode cL_law 393 = .ok (.invokevirtual 69, 3) := by decide +kernel
theorem dL_law_396 : decode cL_law 396 = .ok (.aload_n 2, 1) := by decide +kernel
theorem dL_law_397 : decode cL_law 397 = .ok (.aload_n 0, 1) := by decide +kernel
theorem dL_law_398 : decode cL_law 398 = .ok (.iload_n 3, 1) := by decide +kernel
theorem dL_law_399 : decode cL_law 399 = .ok (.iconst 1, 1) := by decide +kernel
theorem dL_law_400 : decode cL_law 400 = .ok (.iadd, 1) := by decide +kernel
theorem dL_law_401 : decode cL_law 401 = .ok (.iaload, 1) := by decide +kernel
theorem dL_law_402 : decode cL_law 402 = .ok (.invokevirtual 72, 3) := by decide +kernel
theorem dL_law_405 : decode cL_law 405 = .ok (.if_icmp .eq 203, 3) := by decide +kernel
theorem dL_law_408 : decode cL_law 408 = .ok (.iconst 0, 1) := by decide +kernel
theorem dL_law_409 : decode cL_law 409 = .ok (.ireturn, 1) := by decide +kernel
theorem dL_law_410 : decode cL_law 410 = .ok (.aload_n 1, 1) := by decide +kernel
theorem dL_law_411 : decode cL_law 411 = .ok (.aload_n 0, 1) := by decide +kernel
theorem dL_law_412 : decode cL_law 412 = .ok (.iload_n 3, 1) := by decide +kernel
theorem dL_law_413 : decode cL_law 413 = .ok (.iconst 1, 1) := by decide +kernel
theorem dL_law_414 : decode cL_law 414 = .ok (.iadd, 1) := by decide +kernel
theorem dL_law_415 : decode cL_law 415 = .ok (.iaload, 1) := by decide +kernel
theorem dL_law_416 : decode cL_law 416 = .ok (.aload_n 0, 1) := by decide +kernel
theorem dL_law_417 : decode cL_law 417 = .ok (.iload_n 3, 1) := by decide +kernel
theorem dL_law_418 : decode cL_law 418 = .ok (.iconst 2, 1) := by decide +kernel
theorem dL_law_419 : decode cL_law 419 = .ok (.iadd, 1) := by decide +kernel
theorem dL_law_420 : decode cL_law 420 = .ok (.iaload, 1) := by decide +kernel
theorem dL_law_421 : decode cL_law 421 = .ok (.aload_n 0, 1) := by decide +kernel
theorem dL_law_422 : decode cL_law 422 = .ok (.iload_n 3, 1) := by decide +kernel
theorem dL_law_423 : decode cL_law 423 = .ok (.iconst 3, 1) := by decide +kernel
theorem dL_law_424 : decode cL_law 424 = .ok (.iadd, 1) := by decide +kernel
theorem dL_law_425 : decode cL_law 425 = .ok (.iaload, 1) := by decide +kernel
theorem dL_law_426 : decode cL_law 426 = .ok (.invokevirtual 73, 3) := by decide +kernel
theorem dL_law_429 : decode cL_law 429 = .ok (.aload_n 2, 1) := by decide +kernel
theorem dL_law_430 : decode cL_law 430 = .ok (.aload_n 0, 1) := by decide +kernel
theorem dL_law_431 : decode cL_law 431 = .ok (.iload_n 3, 1) := by decide +kernel
theorem dL_law_432 : decode cL_law 432 = .ok (.iconst 1, 1) := by decide +kernel
theorem dL_law_433 : decode cL_law 433 = .ok (.iadd, 1) := by decide +kernel
theorem dL_law_434 : decode cL_law 434 = .ok (.iaload, 1) := by decide +kernel
theorem dL_law_435 : decode cL_law 435 = .ok (.aload_n 0, 1) := by decide +kernel
theorem dL_law_436 : decode cL_law 436 = .ok (.iload_n 3, 1) := by decide +kernel
theorem dL_law_437 : decode cL_law 437 = .ok (.iconst 2, 1) := by decide +kernel
theorem dL_law_438 : decode cL_law 438 = .ok (.iadd, 1) := by decide +kernel
theorem dL_law_439 : decode cL_law 439 = .ok (.iaload, 1) := by decide +kernel
theorem dL_law_440 : decode cL_law 440 = .ok (.aload_n 0, 1) := by decide +kernel
theorem dL_law_441 : decode cL_law 441 = .ok (.iload_n 3, 1) := by decide +kernel
theorem dL_law_442 : decode cL_law 442 = .ok (.iconst 3, 1) := by decide +kernel
theorem dL_law_443 : decode cL_law 443 = .ok (.iadd, 1) := by decide +kernel
theorem dL_law_444 : decode cL_law 444 = .ok (.iaload, 1) := by decide +kernel
theorem dL_law_445 : decode cL_law 445 = .ok (.invokevirtual 76, 3) := by decide +kernel
theorem dL_law_448 : decode cL_law 448 = .ok (.if_icmp .eq 160, 3) := by decide +kernel
theorem dL_law_451 : decode cL_law 451 = .ok (.iconst 0, 1) := by decide +kernel
theorem dL_law_452 : decode cL_law 452 = .ok (.ireturn, 1) := by decide +kernel
theorem dL_law_453 : decode cL_law 453 = .ok (.aload_n 1, 1) := by decide +kernel
theorem dL_law_454 : decode cL_law 454 = .ok (.aload_n 0, 1) := by decide +kernel
theorem dL_law_455 : decode cL_law 455 = .ok (.iload_n 3, 1) := by decide +kernel
theorem dL_law_456 : decode cL_law 456 = .ok (.iconst 1, 1) := by decide +kernel
theorem dL_law_457 : decode cL_law 457 = .ok (.iadd, 1) := by decide +kernel
theorem dL_law_458 : decode cL_law 458 = .ok (.iaload, 1) := by decide +kernel
theorem dL_law_459 : decode cL_law 459 = .ok (.aload_n 0, 1) := by decide +kernel
theorem dL_law_460 : decode cL_law 460 = .ok (.iload_n 3, 1) := by decide +kernel
theorem dL_law_461 : decode cL_law 461 = .ok (.iconst 2, 1) := by decide +kernel
theorem dL_law_462 : decode cL_law 462 = .ok (.iadd, 1) := by decide +kernel
theorem dL_law_463 : decode cL_law 463 = .ok (.iaload, 1) := by decide +kernel
theorem dL_law_464 : decode cL_law 464 = .ok (.invokevirtual 77, 3) := by decide +kernel
theorem dL_law_467 : decode cL_law 467 = .ok (.aload_n 2, 1) := by decide +kernel
theorem dL_law_468 : decode cL_law 468 = .ok (.aload_n 0, 1) := by decide +kernel
theorem dL_law_469 : decode cL_law 469 = .ok (.iload_n 3, 1) := by decide +kernel
theorem dL_law_470 : decode cL_law 470 = .ok (.iconst 1, 1) := by decide +kernel
theorem dL_law_471 : decode cL_law 471 = .ok (.iadd, 1) := by decide +kernel
theorem dL_law_472 : decode cL_law 472 = .ok (.iaload, 1) := by decide +kernel
theorem dL_law_473 : decode cL_law 473 = .ok (.aload_n 0, 1) := by decide +kernel
theorem dL_law_474 : decode cL_law 474 = .ok (.iload_n 3, 1) := by decide +kernel
theorem dL_law_475 : decode cL_law 475 = .ok (.iconst 2, 1) := by decide +kernel
theorem dL_law_476 : decode cL_law 476 = .ok (.iadd, 1) := by decide +kernel
theorem dL_law_477 : decode cL_law 477 = .ok (.iaload, 1) := by decide +kernel
theorem dL_law_478 : decode cL_law 478 = .ok (.invokevirtual 80, 3) := by decide +kernel
theorem dL_law_481 : decode cL_law 481 = .ok (.if_icmp .eq 127, 3) := by decide +kernel
theorem dL_law_484 : decode cL_law 484 = .ok (.iconst 0, 1) := by decide +kernel
theorem dL_law_485 : decode cL_law 485 = .ok (.ireturn, 1) := by decide +kernel
theorem dL_law_486 : decode cL_law 486 = .ok (.aload_n 1, 1) := by decide +kernel
theorem dL_law_487 : decode cL_law 487 = .ok (.aload_n 0, 1) := by decide +kernel
theorem dL_law_488 : decode cL_law 488 = .ok (.iload_n 3, 1) := by decide +kernel
theorem dL_law_489 : decode cL_law 489 = .ok (.iconst 1, 1) := by decide +kernel
theorem dL_law_490 : decode cL_law 490 = .ok (.iadd, 1) := by decide +kernel
theorem dL_law_491 : decode cL_law 491 = .ok (.iaload, 1) := by decide +kernel
theorem dL_law_492 : decode cL_law 492 = .ok (.aload_n 0, 1) := by decide +kernel
theorem dL_law_493 : decode cL_law 493 = .ok (.iload_n 3, 1) := by decide +kernel
theorem dL_law_494 : decode cL_law 494 = .ok (.iconst 2, 1) := by decide +kernel
theorem dL_law_495 : decode cL_law 495 = .ok (.iadd, 1) := by decide +kernel
theorem dL_law_496 : decode cL_law 496 = .ok (.iaload, 1) := by decide +kernel
theorem dL_law_497 : decode cL_law 497 = .ok (.aload_n 0, 1) := by decide +kernel
theorem dL_law_498 : decode cL_law 498 = .ok (.iload_n 3, 1) := by decide +kernel
theorem dL_law_499 : decode cL_law 499 = .ok (.iconst 3, 1) := by decide +kernel
theorem dL_law_500 : decode cL_law 500 = .ok (.iadd, 1) := by decide +kernel
theorem dL_law_501 : decode cL_law 501 = .ok (.iaload, 1) := by decide +kernel
theorem dL_law_502 : decode cL_law 502 = .ok (.invokevirtual 81, 3) := by decide +kernel
theorem dL_law_505 : decode cL_law 505 = .ok (.aload_n 2, 1) := by decide +kernel
theorem dL_law_506 : decode cL_law 506 = .ok (.aload_n 0, 1) := by decide +kernel
theorem dL_law_507 : decode cL_law 507 = .ok (.iload_n 3, 1) := by decide +kernel
theorem dL_law_508 : decode cL_law 508 = .ok (.iconst 1, 1) := by decide +kernel
theorem dL_law_509 : decode cL_law 509 = .ok (.iadd, 1) := by decide +kernel
theorem dL_law_510 : decode cL_law 510 = .ok (.iaload, 1) := by decide +kernel
theorem dL_law_511 : decode cL_law 511 = .ok (.aload_n 0, 1) := by decide +kernel
theorem dL_law_512 : decode cL_law 512 = .ok (.iload_n 3, 1) := by decide +kernel
theorem dL_law_513 : decode cL_law 513 = .ok (.iconst 2, 1) := by decide +kernel
theorem dL_law_514 : decode cL_law 514 = .ok (.iadd, 1) := by decide +kernel
theorem dL_law_515 : decode cL_law 515 = .ok (.iaload, 1) := by decide +kernel
theorem dL_law_516 : decode cL_law 516 = .ok (.aload_n 0, 1) := by decide +kernel
theorem dL_law_517 : decode cL_law 517 = .ok (.iload_n 3, 1) := by decide +kernel
theorem dL_law_518 : decode cL_law 518 = .ok (.iconst 3, 1) := by decide +kernel
theorem dL_law_519 : decode cL_law 519 = .ok (.iadd, 1) := by decide +kernel
theorem dL_law_520 : decode cL_law 520 = .ok (.iaload, 1) := by decide +kernel
theorem dL_law_521 : decode cL_law 521 = .ok (.invokevirtual 84, 3) := by decide +kernel
theorem dL_law_524 : decode cL_law 524 = .ok (.if_icmp .eq 84, 3) := by decide +kernel
theorem dL_law_527 : decode cL_law 527 = .ok (.iconst 0, 1) := by decide +kernel
theorem dL_law_528 : decode cL_law 528 = .ok (.ireturn, 1) := by decide +kernel
theorem dL_law_529 : decode cL_law 529 = .ok (.aload_n 1, 1) := by decide +kernel
theorem dL_law_530 : decode cL_law 530 = .ok (.aload_n 0, 1) := by decide +kernel
theorem dL_law_531 : decode cL_law 531 = .ok (.iload_n 3, 1) := by decide +kernel
theorem dL_law_532 : decode cL_law 532 = .ok (.iconst 1, 1) := by decide +kernel
theorem dL_law_533 : decode cL_law 533 = .ok (.iadd, 1) := by decide +kernel
theorem dL_law_534 : decode cL_law 534 = .ok (.iaload, 1) := by decide +kernel
theorem dL_law_535 : decode cL_law 535 = .ok (.invokevirtual 85, 3) := by decide +kernel
theorem dL_law_538 : decode cL_law 538 = .ok (.aload_n 2, 1) := by decide +kernel
theorem dL_law_539 : decode cL_law 539 = .ok (.aload_n 0, 1) := by decide +kernel
theorem dL_law_540 : decode cL_law 540 = .ok (.iload_n 3, 1) := by decide +kernel
theorem dL_law_541 : decode cL_law 541 = .ok (.iconst 1, 1) := by decide +kernel
theorem dL_law_542 : decode cL_law 542 = .ok (.iadd, 1) := by decide +kernel
theorem dL_law_543 : decode cL_law 543 = .ok (.iaload, 1) := by decide +kernel
theorem dL_law_544 : decode cL_law 544 = .ok (.invokevirtual 88, 3) := by decide +kernel
theorem dL_law_547 : decode cL_law 547 = .ok (.if_icmp .eq 61, 3) := by decide +kernel
theorem dL_law_550 : decode cL_law 550 = .ok (.iconst 0, 1) := by decide +kernel
theorem dL_law_551 : decode cL_law 551 = .ok (.ireturn, 1) := by decide +kernel
theorem dL_law_552 : decode cL_law 552 = .ok (.aload_n 1, 1) := by decide +kernel
theorem dL_law_553 : decode cL_law 553 = .ok (.aload_n 0, 1) := by decide +kernel
theorem dL_law_554 : decode cL_law 554 = .ok (.iload_n 3, 1) := by decide +kernel
theorem dL_law_555 : decode cL_law 555 = .ok (.iconst 1, 1) := by decide +kernel
theorem dL_law_556 : decode cL_law 556 = .ok (.iadd, 1) := by decide +kernel
theorem dL_law_557 : decode cL_law 557 = .ok (.iaload, 1) := by decide +kernel
theorem dL_law_558 : decode cL_law 558 = .ok (.invokevirtual 89, 3) := by decide +kernel
theorem dL_law_561 : decode cL_law 561 = .ok (.aload_n 2, 1) := by decide +kernel
theorem dL_law_562 : decode cL_law 562 = .ok (.aload_n 0, 1) := by decide +kernel
theorem dL_law_563 : decode cL_law 563 = .ok (.iload_n 3, 1) := by decide +kernel
theorem dL_law_564 : decode cL_law 564 = .ok (.iconst 1, 1) := by decide +kernel
theorem dL_law_565 : decode cL_law 565 = .ok (.iadd, 1) := by decide +kernel
theorem dL_law_566 : decode cL_law 566 = .ok (.iaload, 1) := by decide +kernel
theorem dL_law_567 : decode cL_law 567 = .ok (.invokevirtual 92, 3) := by decide +kernel
theorem dL_law_570 : decode cL_law 570 = .ok (.if_icmp .eq 38, 3) := by decide +kernel
theorem dL_law_573 : decode cL_law 573 = .ok (.iconst 0, 1) := by decide +kernel
theorem dL_law_574 : decode cL_law 574 = .ok (.ireturn, 1) := by decide +kernel
theorem dL_law_575 : decode cL_law 575 = .ok (.aload_n 1, 1) := by decide +kernel
theorem dL_law_576 : decode cL_law 576 = .ok (.aload_n 0, 1) := by decide +kernel
theorem dL_law_577 : decode cL_law 577 = .ok (.iload_n 3, 1) := by decide +kernel
theorem dL_law_578 : decode cL_law 578 = .ok (.iconst 1, 1) := by decide +kernel
theorem dL_law_579 : decode cL_law 579 = .ok (.iadd, 1) := by decide +kernel
theorem dL_law_580 : decode cL_law 580 = .ok (.iaload, 1) := by decide +kernel
theorem dL_law_581 : decode cL_law 581 = .ok (.aload_n 0, 1) := by decide +kernel
theorem dL_law_582 : decode cL_law 582 = .ok (.iload_n 3, 1) := by decide +kernel
theorem dL_law_583 : decode cL_law 583 = .ok (.iconst 2, 1) := by decide +kernel
theorem dL_law_584 : decode cL_law 584 = .ok (.iadd, 1) := by decide +kernel
theorem dL_law_585 : decode cL_law 585 = .ok (.iaload, 1) := by decide +kernel
theorem dL_law_586 : decode cL_law 586 = .ok (.invokevirtual 93, 3) := by decide +kernel
theorem dL_law_589 : decode cL_law 589 = .ok (.aload_n 2, 1) := by decide +kernel
theorem dL_law_590 : decode cL_law 590 = .ok (.aload_n 0, 1) := by decide +kernel
theorem dL_law_591 : decode cL_law 591 = .ok (.iload_n 3, 1) := by decide +kernel
theorem dL_law_592 : decode cL_law 592 = .ok (.iconst 1, 1) := by decide +kernel
theorem dL_law_593 : decode cL_law 593 = .ok (.iadd, 1) := by decide +kernel
theorem dL_law_594 : decode cL_law 594 = .ok (.iaload, 1) := by decide +kernel
theorem dL_law_595 : decode cL_law 595 = .ok (.aload_n 0, 1) := by decide +kernel
theorem dL_law_596 : decode cL_law 596 = .ok (.iload_n 3, 1) := by decide +kernel
theorem dL_law_597 : decode cL_law 597 = .ok (.iconst 2, 1) := by decide +kernel
theorem dL_law_598 : decode cL_law 598 = .ok (.iadd, 1) := by decide +kernel
theorem dL_law_599 : decode cL_law 599 = .ok (.iaload, 1) := by decide +kernel
theorem dL_law_600 : decode cL_law 600 = .ok (.invokevirtual 96, 3) := by decide +kernel
theorem dL_law_603 : decode cL_law 603 = .ok (.if_icmp .eq 5, 3) := by decide +kernel
theorem dL_law_606 : decode cL_law 606 = .ok (.iconst 0, 1) := by decide +kernel
theorem dL_law_607 : decode cL_law 607 = .ok (.ireturn, 1) := by decide +kernel
theorem dL_law_608 : decode cL_law 608 = .ok (.iinc 3 4, 3) := by decide +kernel
theorem dL_law_611 : decode cL_law 611 = .ok (.goto (-593), 3) := by decide +kernel
theorem dL_law_614 : decode cL_law 614 = .ok (.iconst 1, 1) := by decide +kernel
theorem dL_law_615 : decode cL_law 615 = .ok (.ireturn, 1) := by decide +kernel
end
section
/-! FLAT STORES: a world of cells at fixed numbers (offsets), its ints in one store 'Int → Int'; a judgement 'Ev' over it that hides the machine -/
abbrev ev_V : Type := Int ⊕ Int
abbrev ev_M : Type := Int → Int
abbrev iv (i : Int) : ev_V := Sum.inl i
abbrev rv (o : Int) : ev_V := Sum.inr o
def ev_in (i : Int) : Prop := -2147483648 ≤ i ∧ i < 2147483648
def ev_ok (v : ev_V) : Prop := ∀ i, v = Sum.inl i → ev_in i
/-- a cell of the layout: offset, size, kind (0 object, 1 int row, 2 char row, 3 row of devices, 4 static int row), class or number of the static -/
abbrev ev_Q : Type := Int × Nat × Nat × Nat
abbrev ev_Y : Type := List ev_Q
/-- addresses; class ids and slots; the row classes (int, char, device) -/
abbrev ev_E : Type := (Int → Nat) × va_G × (ClassId × ClassId × ClassId)
def ev_vl (ad : Int → Nat) : ev_V → Value
  | .inl i => .int (Int32.ofInt i)
  | .inr o => .ref (ad o)
/-- where a field that holds a reference points to, from its object's offset -/
def ev_dl (ci k : Nat) : Option Int :=
  if ci = 0 then (if k = 0 then some 10 else none)
  else if ci = 1 then (if k = 0 then some 70 else if k = 1 then some 90 else if k = 2 then some 110 else none)
  else if ci = 2 then (if k = 0 then some 20 else if k = 1 then some 50 else none)
  else if ci = 3 then (if k = 0 then some 180 else if k = 1 then some 40 else none)
  else if ci = 4 then (if k = 0 then some 20 else if k = 1 then some 50 else if k = 2 then some 30 else if k = 3 then some 40 else none)
  else (if k = 1 then some 100 else if k = 3 then some 300 else if k = 4 then some 420 else if k = 10 then some 570 else if k = 12 then some 580 else if k = 13 then some 600 else if k = 14 then some 620 else if k = 16 then some 640 else if k = 19 then some 680 else none)
def ev_sn (k : Nat) : String := if k = 0 then "LEAST" else if k = 1 then "GREATEST" else "FIRST_DEVICES"
def ev_fv (ad : Int → Nat) (σ : ev_M) (q : ev_Q) (k : Nat) : Value := (ev_dl q.2.2.2 k).elim (Value.int (Int32.ofInt (σ (q.1 + (k : Int))))) (fun d => Value.ref (ad (q.1 + d)))
def ev_fs (ad : Int → Nat) (σ : ev_M) (q : ev_Q) : List Value := (List.range q.2.1).map (ev_fv ad σ q)
def ev_av (σ : ev_M) (q : ev_Q) : Nat → Int32 := fun j => if j < q.2.1 then Int32.ofInt (σ (q.1 + (j : Int))) else 0
def ev_cell (E : ev_E) (σ : ev_M) (q : ev_Q) : va_E :=
  if q.2.2.1 = 0 then .inr (q.2.2.2, ev_fs E.1 σ q)
  else if q.2.2.1 = 1 then .inl (E.2.2.1, q.2.1, .inl (ev_av σ q))
  else if q.2.2.1 = 2 then .inl (E.2.2.2.1, q.2.1, .inl (ev_av σ q))
  else .inl (E.2.2.2.2, q.2.1, .inr (.inr (.inr (.inr (fun j => some (E.1 (1000 + 100 * (j : Int))))))))
def ev_cs (lay : ev_Y) : ev_Y := lay.filter (fun q => q.2.2.1 != 4)
def ev_ws (lay : ev_Y) (E : ev_E) (σ : ev_M) : va_W := (ev_cs lay).map (fun q => (E.1 q.1, ev_cell E σ q))
def ev_A (lay : ev_Y) (E : ev_E) : Nat → Prop := fun a => ∃ q ∈ ev_cs lay, a = E.1 q.1
def ev_tys (E : ev_E) : List (ClassId × FieldType) := [(E.2.2.1, .int), (E.2.2.2.1, .char), (E.2.2.2.2, .object "TalkBus$Device")]
def ev_isN : Cond → Bool
  | .fieldLinkNest .. => true
  | .methodLinkNest .. => true
  | _ => false
def ev_nw : List Cond := lw_tbl.filter ev_isN
def ev_aw : List Cond := lw_tbl.filter goodWord
def ev_sep (lay : ev_Y) : Prop := lay.Pairwise (fun q q' => q.1 + (q.2.1 : Int) ≤ q'.1)
def ev_St (lay : ev_Y) (E : ev_E) (σ : ev_M) (U : State) : Prop := ∀ q ∈ lay, q.2.2.1 = 4 → va_Z "TalkBus" (ev_sn q.2.2.2) "[I" (.ref (E.1 q.1)) (ev_A lay E) U U.heap ∧ va_T .int (E.1 q.1) q.2.1 (fun j => .int (ev_av σ q j)) (ev_A lay E) U U.heap
def ev_W (lay : ev_Y) (E : ev_E) (σ : ev_M) (U : State) (H : Heap) : Prop :=
  va_P E.2.1 vwCl (ev_ws lay E σ) H ∧ va_D (ev_A lay E) (ev_ws lay E σ) ∧ va_K E.2.1 vwCl (ev_tys E) U ∧ (∀ w ∈ ev_nw, va_Nw w U) ∧ ev_St lay E σ U ∧ (∀ n, ev_in (σ n)) ∧ ev_sep lay
def ev_up (σ : ev_M) (n v : Int) : ev_M := fun k => if k = n then v else σ k
/-- a method: name, code, locals, what it returns, its room -/
abbrev ev_I : Type := MethodName × ByteArray × Nat × Option FieldType × Room
def ev_ts (I : ev_I) : List Cond := .code I.1 I.2.1 I.2.2.1 I.2.2.2.1 :: ev_aw
def ev_post (I : ev_I) (lay : ev_Y) (E : ev_E) (Q : Int → ev_M → Prop) : Array Value → State → Outcome → State → Prop :=
  if I.2.2.2.1 = none then va_Qv (fun σ' : ev_M => Q 0 σ') (fun σ' t => ev_W lay E σ' t t.heap) (ev_A lay E)
  else va_Qi (fun (r : Int32) (σ' : ev_M) => ∃ i, ev_in i ∧ r = Int32.ofInt i ∧ Q i σ') (fun σ' t => ev_W lay E σ' t t.heap) (ev_A lay E)
def ev_Fx (I : ev_I) (p : Program) (s : State) (m : MethodId) (args : Array Value) (meth : Method) (c : Code) : Prop :=
  p.tables.exec = Jvm.exec ∧ c.code = I.2.1 ∧ c.maxLocals = I.2.2.1 ∧ meth.sig.returnType = I.2.2.2.1 ∧ meth.locks = false ∧ s.vm.findClass I.1.cls = some m.cls ∧ ∀ w ∈ ev_ts I, w.before args s = true
def ev_L (ad : Int → Nat) (ls : Array Slot) (nL : Nat) (L : List (Option ev_V)) : Prop :=
  ls.size = nL ∧ lv_wf ls ∧ L.length = nL ∧ (∀ (k : Nat) (v : ev_V), L[k]? = some (some v) → ls[k]? = some (.val (ev_vl ad v))) ∧ ∀ v, some v ∈ L → ev_ok v
/-- the machine, at pc, with locals L, stack S, store σ, comes to the method's end, answering r with store σ' such that Q r σ' -/
def Ev (I : ev_I) (lay : ev_Y) (pc : Nat) (L : List (Option ev_V)) (S : List ev_V) (σ : ev_M) (Q : Int → ev_M → Prop) : Prop :=
  ∀ (p : Program) (l : Launch) (e : Env) (s : State) (m : MethodId) (args : Array Value) (below : List Frame) (meth : Method) (c : Code) (E : ev_E) (ls : Array Slot) (H : Heap) (locs : List Loc),
    ev_Fx I p s m args meth c → ev_L E.1 ls I.2.2.1 L → (∀ v ∈ S, ev_ok v) → ev_W lay E σ s H → va_S (ev_A lay E) s.heap H locs →
    W p l e I.2.2.2.2 s m args below meth c H locs 0 0 (MQ below (ev_post I lay E Q) args s 0 0 (ev_A lay E)) (F0 m pc ls (S.map (ev_vl E.1)))
theorem ev_cat (ad : Int → Nat) (v : ev_V) : (ev_vl ad v).category = 1 := by cases v <;> rfl
theorem ev_aw_of {w : Cond} (i : Nat) (h : lw_tbl[i]? = some w) (g : goodWord w = true) : w ∈ ev_aw := List.mem_filter.mpr ⟨List.mem_of_getElem? h, g⟩
theorem ev_nw_of {w : Cond} (i : Nat) (h : lw_tbl[i]? = some w) (g : ev_isN w = true) : w ∈ ev_nw := List.mem_filter.mpr ⟨List.mem_of_getElem? h, g⟩
theorem ev_aw_ts {I : ev_I} {w : Cond} (h : w ∈ ev_aw) : w ∈ ev_ts I := List.mem_cons_of_mem _ h
theorem ev_toInt {i : Int} (h : ev_in i) : (Int32.ofInt i).toInt = i := Int32.toInt_ofInt_of_le (by have := h.1; omega) (by have := h.2; omega)
theorem ev_ofInt (x : Int32) : Int32.ofInt x.toInt = x := Int32.ofInt_toInt x
theorem ev_in_toInt (x : Int32) : ev_in x.toInt := ⟨by have := Int32.le_toInt x; omega, by have := Int32.toInt_lt x; omega⟩
theorem ev_lt {a b : Int} (ha : ev_in a) (hb : ev_in b) : Int32.ofInt a < Int32.ofInt b ↔ a < b := by rw [Int32.lt_iff_toInt_lt, ev_toInt ha, ev_toInt hb]
theorem ev_le {a b : Int} (ha : ev_in a) (hb : ev_in b) : Int32.ofInt a ≤ Int32.ofInt b ↔ a ≤ b := by rw [Int32.le_iff_toInt_le, ev_toInt ha, ev_toInt hb]
theorem ev_eq {a b : Int} (ha : ev_in a) (hb : ev_in b) : Int32.ofInt a = Int32.ofInt b ↔ a = b := by
  constructor
  · intro h
    have := congrArg Int32.toInt h
    rwa [ev_toInt ha, ev_toInt hb] at this
  · intro h; rw [h]
theorem ev_clamp {i : Int} (h : ev_in i) (h0 : 0 ≤ i) : (Int32.ofInt i).toNatClampNeg = i.toNat := by
  have := Int32.toNat_toInt (Int32.ofInt i)
  rw [ev_toInt h] at this
  exact this.symm
theorem ev_vpin {i : Int} {n : Nat} (h : ev_in i) (h0 : 0 ≤ i) (h1 : i < n) : vp_in (Int32.ofInt i) n := vp_in_iff.mpr (by rw [ev_toInt h]; exact ⟨h0, h1⟩)
theorem ev_pw {α : Type} {R : α → α → Prop} : ∀ {l : List α}, l.Pairwise R → ∀ (i j : Nat) (a b : α), l[i]? = some a → l[j]? = some b → i < j → R a b := by
  intro l hl i j a b hi hj hij
  obtain ⟨h1, e1⟩ := List.getElem?_eq_some_iff.mp hi
  obtain ⟨h2, e2⟩ := List.getElem?_eq_some_iff.mp hj
  have := List.pairwise_iff_getElem.mp hl i j h1 h2 hij
  rwa [e1, e2] at this
theorem ev_pwm {α : Type} {R : α → α → Prop} {l : List α} (hl : l.Pairwise R) {a b : α} (ha : a ∈ l) (hb : b ∈ l) : a = b ∨ R a b ∨ R b a := by
  obtain ⟨i, hi⟩ := List.getElem?_of_mem ha
  obtain ⟨j, hj⟩ := List.getElem?_of_mem hb
  rcases Nat.lt_trichotomy i j with h | h | h
  · exact Or.inr (Or.inl (ev_pw hl i j a b hi hj h))
  · subst h; rw [hi] at hj; exact Or.inl (Option.some.inj hj)
  · exact Or.inr (Or.inr (ev_pw hl j i b a hj hi h))
theorem ev_cs_mem {lay : ev_Y} {q : ev_Q} (h : q ∈ lay) (h4 : q.2.2.1 ≠ 4) : q ∈ ev_cs lay := List.mem_filter.mpr ⟨h, by simp [h4]⟩
theorem ev_place {lay : ev_Y} {q : ev_Q} (h : q ∈ lay) (h4 : q.2.2.1 ≠ 4) : ∃ k : Nat, (ev_cs lay)[k]? = some q := List.getElem?_of_mem (ev_cs_mem h h4)
theorem ev_at {lay : ev_Y} {E : ev_E} {σ : ev_M} {q : ev_Q} {k : Nat} (h : (ev_cs lay)[k]? = some q) : (ev_ws lay E σ)[k]? = some (E.1 q.1, ev_cell E σ q) := by
  unfold ev_ws; rw [List.getElem?_map, h]; rfl
theorem ev_up_ne {σ : ev_M} {n v k : Int} (h : k ≠ n) : ev_up σ n v k = σ k := if_neg h
theorem ev_up_eq {σ : ev_M} {n v : Int} : ev_up σ n v n = v := if_pos rfl
/-- stores that agree on a cell's numbers give the same cell -/
theorem ev_cell_eq {E : ev_E} {σ σ' : ev_M} {q : ev_Q} (h : ∀ j : Nat, j < q.2.1 → σ' (q.1 + (j : Int)) = σ (q.1 + (j : Int))) : ev_cell E σ' q = ev_cell E σ q := by
  have h1 : ev_fs E.1 σ' q = ev_fs E.1 σ q := by
    unfold ev_fs
    apply List.map_congr_left
    intro k hk
    unfold ev_fv
    rw [h k (List.mem_range.mp hk)]
  have h2 : ev_av σ' q = ev_av σ q := by
    funext j
    unfold ev_av
    by_cases hj : j < q.2.1
    · rw [if_pos hj, if_pos hj, h j hj]
    · rw [if_neg hj, if_neg hj]
  unfold ev_cell
  rw [h1, h2]
/-- a number of one cell is changed: no other cell is -/
theorem ev_ws_set {lay : ev_Y} {E : ev_E} {σ : ev_M} {q : ev_Q} {k : Nat} (hs : ev_sep lay) (hk : (ev_cs lay)[k]? = some q) {n v : Int} (h0 : q.1 ≤ n) (h1 : n < q.1 + (q.2.1 : Int)) {x : va_E} (hx : x = ev_cell E (ev_up σ n v) q) :
    (ev_ws lay E σ).set k (E.1 q.1, x) = ev_ws lay E (ev_up σ n v) := by
  subst hx
  have hsf : (ev_cs lay).Pairwise (fun q q' => q.1 + (q.2.1 : Int) ≤ q'.1) := List.Pairwise.filter _ hs
  have hkl : k < (ev_cs lay).length := (List.getElem?_eq_some_iff.mp hk).1
  apply List.ext_getElem?
  intro j
  by_cases hj : j = k
  · subst hj
    rw [List.getElem?_set_self (by unfold ev_ws; rw [List.length_map]; exact hkl), ev_at hk]
  · rw [List.getElem?_set_ne (Ne.symm hj)]
    unfold ev_ws
    rw [List.getElem?_map, List.getElem?_map]
    cases hq : (ev_cs lay)[j]? with
    | none => rfl
    | some q' =>
      show some (E.1 q'.1, ev_cell E σ q') = some (E.1 q'.1, ev_cell E (ev_up σ n v) q')
      rw [ev_cell_eq (σ := σ) (σ' := ev_up σ n v)]
      intro i hi
      refine ev_up_ne ?_
      rcases Nat.lt_or_gt_of_ne hj with h | h
      · have := ev_pw hsf j k q' q hq hk h
        intro z; omega
      · have := ev_pw hsf k j q q' hk hq h
        intro z; omega
theorem ev_St_up {lay : ev_Y} {E : ev_E} {σ : ev_M} {U : State} (hs : ev_sep lay) {q : ev_Q} (hq : q ∈ lay) (h4 : q.2.2.1 ≠ 4) {n v : Int} (h0 : q.1 ≤ n) (h1 : n < q.1 + (q.2.1 : Int)) (h : ev_St lay E σ U) : ev_St lay E (ev_up σ n v) U := by
  intro q' hq' h4'
  obtain ⟨a, b⟩ := h q' hq' h4'
  refine ⟨a, ?_⟩
  have he : ev_av (ev_up σ n v) q' = ev_av σ q' := by
    funext j
    unfold ev_av
    by_cases hj : j < q'.2.1
    · rw [if_pos hj, if_pos hj, ev_up_ne]
      rcases ev_pwm hs hq hq' with h | h | h
      · exact absurd (by rw [h]; exact h4') h4
      · intro z; omega
      · intro z; omega
    · rw [if_neg hj, if_neg hj]
  rw [he]
  exact b
theorem ev_in_up {σ : ev_M} {n v : Int} (h : ∀ k, ev_in (σ k)) (hv : ev_in v) : ∀ k, ev_in (ev_up σ n v k) := by
  intro k
  unfold ev_up
  split
  · exact hv
  · exact h k
theorem ev_nw_moved {s U : State} (hW : s.WarmedH U.vm) (h : ∀ w ∈ ev_nw, va_Nw w s) : ∀ w ∈ ev_nw, va_Nw w U := by
  intro w hw
  have h1 := h w hw
  have h2 : ev_isN w = true := (List.mem_filter.mp hw).2
  cases w <;> first | exact va_Nw.warmF hW h1 | exact va_Nw.warmM hW h1 | (simp [ev_isN] at h2)
theorem ev_nw_same {u U : State} (hv : u.vm = U.vm) (h : ∀ w ∈ ev_nw, va_Nw w u) : ∀ w ∈ ev_nw, va_Nw w U := by
  intro w hw
  have h1 := h w hw
  have h2 : ev_isN w = true := (List.mem_filter.mp hw).2
  cases w <;> first | exact va_Nw.same rfl hv h1 | (simp [ev_isN] at h2)
theorem ev_W.moved {lay : ev_Y} {E : ev_E} {σ : ev_M} {s U : State} {H : Heap} {locs : List Loc} (h : ev_W lay E σ s H) (hS : va_S (ev_A lay E) s.heap H locs) (hU : U.heap = H) (hW : s.WarmedH U.vm) : ev_W lay E σ U U.heap := by
  obtain ⟨h1, h2, h3, h4, h5, h6, h7⟩ := h
  refine ⟨by rw [hU]; exact h1, h2, h3.moved hW.alike, ev_nw_moved hW h4, ?_, h6, h7⟩
  intro q hq h4
  obtain ⟨a, b⟩ := h5 q hq h4
  rw [hU]
  exact ⟨(a.kept (fun x h1 h2 => hS.2.1 x h1 h2)).moved hW.alike, (b.kept (fun x h1 h2 => hS.2.1 x h1 h2)).moved hW.alike⟩
theorem ev_W.blind {lay : ev_Y} {E : ev_E} {σ : ev_M} {U V : State} (h : ev_W lay E σ U U.heap) (hh : V.heap = U.heap) (hv : U.vm = V.vm) : ev_W lay E σ V V.heap := by
  obtain ⟨h1, h2, h3, h4, h5, h6, h7⟩ := h
  have ha : U.vm.Alike V.vm := by rw [hv]; exact Vm.Alike.refl _
  refine ⟨by rw [hh]; exact h1, h2, h3.moved ha, ev_nw_same hv h4, ?_, h6, h7⟩
  intro q hq h4
  obtain ⟨a, b⟩ := h5 q hq h4
  rw [hh]
  exact ⟨a.moved ha, b.moved ha⟩
/-- behind a call: the callee's end, seen from the caller's start -/
theorem ev_W.back {lay : ev_Y} {E : ev_E} {σ σ' : ev_M} {s t : State} {H H1 : Heap} {locs : List Loc} (h : ev_W lay E σ s H) (g : ev_W lay E σ' t t.heap) (ht : t.heap = H1) (hS : va_S (ev_A lay E) s.heap H1 locs) : ev_W lay E σ' s H1 := by
  obtain ⟨h1, h2, h3, h4, h5, h6, h7⟩ := h
  obtain ⟨g1, g2, g3, g4, g5, g6, g7⟩ := g
  refine ⟨by rw [← ht]; exact g1, g2, h3, h4, ?_, g6, g7⟩
  intro q hq h4
  obtain ⟨a, cell, b1, b2, b3, b4, b5, b6, b7⟩ := h5 q hq h4
  obtain ⟨-, cell', c1, c2, c3, c4, c5, c6, c7⟩ := g5 q hq h4
  refine ⟨a, cell, b1, b2, b3, b4, b5, ?_, b7⟩
  have hc : cell' = cell := by
    have := hS.2.1 (E.1 q.1) (Array.getElem?_eq_some_iff.mp b1).1 b7
    rw [← ht, c1, b1] at this
    exact Option.some.inj this
  rw [← hc]
  exact c6
end
section
theorem ev_okc {a : ev_V} {S : List ev_V} (ha : ev_ok a) (h : ∀ v ∈ S, ev_ok v) : ∀ v ∈ a :: S, ev_ok v := by
  intro v hv
  rcases List.mem_cons.mp hv with h1 | h1
  · rw [h1]; exact ha
  · exact h v h1
theorem ev_oki {i : Int} (h : ev_in i) : ev_ok (iv i) := fun j e => by cases e; exact h
theorem ev_okr (o : Int) : ev_ok (rv o) := fun j e => by cases e
theorem ev_okt {a : ev_V} {S : List ev_V} (h : ∀ v ∈ a :: S, ev_ok v) : ∀ v ∈ S, ev_ok v := fun v hv => h v (List.mem_cons_of_mem _ hv)
theorem ev_okh {i : Int} {S : List ev_V} (h : ∀ v ∈ iv i :: S, ev_ok v) : ev_in i := h _ List.mem_cons_self i rfl
def ev_and (a b : Int) : Int := (Int32.ofInt a &&& Int32.ofInt b).toInt
def ev_or (a b : Int) : Int := (Int32.ofInt a ||| Int32.ofInt b).toInt
def ev_xor (a b : Int) : Int := (Int32.ofInt a ^^^ Int32.ofInt b).toInt
def ev_shl (a b : Int) : Int := (Int32.ofInt a <<< (Int32.ofInt b &&& 31)).toInt
def ev_shr (a b : Int) : Int := (Int32.ofInt a >>> (Int32.ofInt b &&& 31)).toInt
section EVR
variable {I : ev_I} {lay : ev_Y} {pc : Nat} {L : List (Option ev_V)} {S : List ev_V} {σ : ev_M} {Q : Int → ev_M → Prop} {a b : Int}
theorem Ev.iconst {n : Int} (hd : decode I.2.1 pc = .ok (.iconst n, 1)) (hv : ev_in n) (k : Ev I lay (pc + 1) L (iv n :: S) σ Q) : Ev I lay pc L S σ Q := by
  intro p l e s m args below meth c E ls H locs X hL hS hW hV
  exact lv_iconst X.1 X.2.1 hd rfl (k p l e s m args below meth c E ls H locs X hL (ev_okc (ev_oki hv) hS) hW hV)
theorem Ev.bipush {n : Int} (hd : decode I.2.1 pc = .ok (.bipush n, 2)) (hv : ev_in n) (hc : (Int8.ofInt n).toInt32 = Int32.ofInt n) (k : Ev I lay (pc + 2) L (iv n :: S) σ Q) : Ev I lay pc L S σ Q := by
  intro p l e s m args below meth c E ls H locs X hL hS hW hV
  exact lv_bipush X.1 X.2.1 hd hc (k p l e s m args below meth c E ls H locs X hL (ev_okc (ev_oki hv) hS) hW hV)
theorem Ev.sipush {n : Int} (hd : decode I.2.1 pc = .ok (.sipush n, 3)) (hv : ev_in n) (hc : (Int16.ofInt n).toInt32 = Int32.ofInt n) (k : Ev I lay (pc + 3) L (iv n :: S) σ Q) : Ev I lay pc L S σ Q := by
  intro p l e s m args below meth c E ls H locs X hL hS hW hV
  exact lv_sipush X.1 X.2.1 hd hc (k p l e s m args below meth c E ls H locs X hL (ev_okc (ev_oki hv) hS) hW hV)
theorem Ev.iload_n {k : Fin 4} (hd : decode I.2.1 pc = .ok (.iload_n k, 1)) (hv : L[(k : Nat)]? = some (some (iv a))) (kk : Ev I lay (pc + 1) L (iv a :: S) σ Q) : Ev I lay pc L S σ Q := by
  intro p l e s m args below meth c E ls H locs X hL hS hW hV
  exact lv_iload_n X.1 X.2.1 hd rfl (hL.2.2.2.1 _ _ hv) (kk p l e s m args below meth c E ls H locs X hL (ev_okc (hL.2.2.2.2 _ (List.mem_of_getElem? hv)) hS) hW hV)
theorem Ev.iload {i : Nat} (hd : decode I.2.1 pc = .ok (.iload i, 2)) (hv : L[i]? = some (some (iv a))) (kk : Ev I lay (pc + 2) L (iv a :: S) σ Q) : Ev I lay pc L S σ Q := by
  intro p l e s m args below meth c E ls H locs X hL hS hW hV
  exact lv_iload X.1 X.2.1 hd (hL.2.2.2.1 _ _ hv) (kk p l e s m args below meth c E ls H locs X hL (ev_okc (hL.2.2.2.2 _ (List.mem_of_getElem? hv)) hS) hW hV)
theorem Ev.aload_n {k : Fin 4} (hd : decode I.2.1 pc = .ok (.aload_n k, 1)) (hv : L[(k : Nat)]? = some (some (rv a))) (kk : Ev I lay (pc + 1) L (rv a :: S) σ Q) : Ev I lay pc L S σ Q := by
  intro p l e s m args below meth c E ls H locs X hL hS hW hV
  exact lv_aload_n X.1 X.2.1 hd rfl (hL.2.2.2.1 _ _ hv) (kk p l e s m args below meth c E ls H locs X hL (ev_okc (hL.2.2.2.2 _ (List.mem_of_getElem? hv)) hS) hW hV)
theorem Ev.aload {i : Nat} (hd : decode I.2.1 pc = .ok (.aload i, 2)) (hv : L[i]? = some (some (rv a))) (kk : Ev I lay (pc + 2) L (rv a :: S) σ Q) : Ev I lay pc L S σ Q := by
  intro p l e s m args below meth c E ls H locs X hL hS hW hV
  exact lv_aload X.1 X.2.1 hd (hL.2.2.2.1 _ _ hv) (kk p l e s m args below meth c E ls H locs X hL (ev_okc (hL.2.2.2.2 _ (List.mem_of_getElem? hv)) hS) hW hV)
def ev_lv (ad : Int → Nat) (L : List (Option ev_V)) : List (Nat × Value) := (List.range L.length).filterMap (fun k => (L[k]?.join).map (fun v => (k, ev_vl ad v)))
theorem ev_lv_in {ad : Int → Nat} {k : Nat} {v : ev_V} (h : L[k]? = some (some v)) : (k, ev_vl ad v) ∈ ev_lv ad L := by
  unfold ev_lv
  refine List.mem_filterMap.mpr ⟨k, List.mem_range.mpr (List.getElem?_eq_some_iff.mp h).1, ?_⟩
  rw [h]; rfl
theorem ev_lv_has {ad : Int → Nat} {ls : Array Slot} {nL : Nat} (h : ev_L ad ls nL L) : lv_has ls nL (ev_lv ad L) := by
  refine ⟨h.1, h.2.1, fun q hq => ?_⟩
  obtain ⟨k, -, hk⟩ := List.mem_filterMap.mp hq
  cases hl : L[k]? with
  | none => rw [hl] at hk; cases hk
  | some x =>
    cases x with
    | none => rw [hl] at hk; cases hk
    | some v =>
      rw [hl] at hk
      have e : (k, ev_vl ad v) = q := Option.some.inj hk
      rw [← e]
      exact h.2.2.2.1 k v hl
theorem ev_lv_set {ad : Int → Nat} {ls : Array Slot} {nL i : Nat} {v : ev_V} (hn : L.length = nL) (hok : ∀ w, some w ∈ L → ev_ok w) (hv : ev_ok v) (h : lv_has ls nL ((i, ev_vl ad v) :: (ev_lv ad L).filter (fun q => !(q.1 == i) && !(q.1 + 1 == i && q.2.category == 2)))) : ev_L ad ls nL (L.set i (some v)) := by
  refine ⟨h.1, h.2.1, by rw [List.length_set]; exact hn, fun k w hk => ?_, fun w hw => ?_⟩
  · by_cases hki : k = i
    · subst hki
      have hl : k < L.length := by
        have := (List.getElem?_eq_some_iff.mp hk).1
        rwa [List.length_set] at this
      rw [List.getElem?_set_self hl] at hk
      have e : v = w := Option.some.inj (Option.some.inj hk)
      rw [← e]
      exact h.2.2 _ List.mem_cons_self
    · rw [List.getElem?_set_ne (Ne.symm hki)] at hk
      refine h.2.2 (k, ev_vl ad w) (List.mem_cons_of_mem _ (List.mem_filter.mpr ⟨ev_lv_in hk, ?_⟩))
      simp [hki, ev_cat]
  · rcases List.mem_or_eq_of_mem_set hw with h1 | h1
    · exact hok w h1
    · rw [Option.some.inj h1]; exact hv
theorem Ev.istore_n {k : Fin 4} {i : Nat} (hi : (k : Nat) = i) (hd : decode I.2.1 pc = .ok (.istore_n k, 1)) (hn : i < L.length) (kk : Ev I lay (pc + 1) (L.set i (some (iv a))) S σ Q) : Ev I lay pc L (iv a :: S) σ Q := by
  intro p l e s m args below meth c E ls H locs X hL hS hW hV
  exact lv_istore_n X.1 X.2.1 hd hi (ev_lv_has hL) (by rw [← hL.2.2.1]; exact hn) rfl (fun ls' h' => kk p l e s m args below meth c E ls' H locs X (ev_lv_set hL.2.2.1 hL.2.2.2.2 (ev_oki (ev_okh hS)) h') (ev_okt hS) hW hV)
theorem Ev.istore {i : Nat} (hd : decode I.2.1 pc = .ok (.istore i, 2)) (hn : i < L.length) (kk : Ev I lay (pc + 2) (L.set i (some (iv a))) S σ Q) : Ev I lay pc L (iv a :: S) σ Q := by
  intro p l e s m args below meth c E ls H locs X hL hS hW hV
  exact lv_istore X.1 X.2.1 hd  (ev_lv_has hL) (by rw [← hL.2.2.1]; exact hn) rfl (fun ls' h' => kk p l e s m args below meth c E ls' H locs X (ev_lv_set hL.2.2.1 hL.2.2.2.2 (ev_oki (ev_okh hS)) h') (ev_okt hS) hW hV)
theorem Ev.astore_n {k : Fin 4} {i : Nat} (hi : (k : Nat) = i) (hd : decode I.2.1 pc = .ok (.astore_n k, 1)) (hn : i < L.length) (kk : Ev I lay (pc + 1) (L.set i (some (rv a))) S σ Q) : Ev I lay pc L (rv a :: S) σ Q := by
  intro p l e s m args below meth c E ls H locs X hL hS hW hV
  exact lv_astore_n X.1 X.2.1 hd hi (ev_lv_has hL) (by rw [← hL.2.2.1]; exact hn) rfl (fun ls' h' => kk p l e s m args below meth c E ls' H locs X (ev_lv_set hL.2.2.1 hL.2.2.2.2 (ev_okr a) h') (ev_okt hS) hW hV)
theorem Ev.astore {i : Nat} (hd : decode I.2.1 pc = .ok (.astore i, 2)) (hn : i < L.length) (kk : Ev I lay (pc + 2) (L.set i (some (rv a))) S σ Q) : Ev I lay pc L (rv a :: S) σ Q := by
  intro p l e s m args below meth c E ls H locs X hL hS hW hV
  exact lv_astore X.1 X.2.1 hd  (ev_lv_has hL) (by rw [← hL.2.2.1]; exact hn) rfl (fun ls' h' => kk p l e s m args below meth c E ls' H locs X (ev_lv_set hL.2.2.1 hL.2.2.2.2 (ev_okr a) h') (ev_okt hS) hW hV)
theorem Ev.iinc {i : Nat} {n : Int} (hd : decode I.2.1 pc = .ok (.iinc i n, 3)) (hv : L[i]? = some (some (iv a))) (hr : ev_in (a + n)) (kk : Ev I lay (pc + 3) (L.set i (some (iv (a + n)))) S σ Q) : Ev I lay pc L S σ Q := by
  intro p l e s m args below meth c E ls H locs X hL hS hW hV
  obtain ⟨k, hk⟩ := List.getElem?_of_mem (ev_lv_in (ad := E.1) hv)
  exact lv_iinc X.1 X.2.1 hd (ev_lv_has hL) hk (by rw [← Int32.ofInt_add]) (by rw [← hL.2.2.1]; exact (List.getElem?_eq_some_iff.mp hv).1) rfl (fun ls' h' => kk p l e s m args below meth c E ls' H locs X (ev_lv_set (v := iv (a + n)) hL.2.2.1 hL.2.2.2.2 (ev_oki hr) h') hS hW hV)
theorem Ev.istore0 {x0 : Option ev_V} {k : Fin 4} (hi : (k : Nat) = 0) (hd : decode I.2.1 pc = .ok (.istore_n k, 1)) (kk : Ev I lay (pc + 1) (some (iv a) :: L) S σ Q) : Ev I lay pc (x0 :: L) (iv a :: S) σ Q := Ev.istore_n hi hd (by simp) kk
theorem Ev.astore0 {x0 : Option ev_V} {k : Fin 4} (hi : (k : Nat) = 0) (hd : decode I.2.1 pc = .ok (.astore_n k, 1)) (kk : Ev I lay (pc + 1) (some (rv a) :: L) S σ Q) : Ev I lay pc (x0 :: L) (rv a :: S) σ Q := Ev.astore_n hi hd (by simp) kk
theorem Ev.iinc0  {d : Int} (hd : decode I.2.1 pc = .ok (.iinc 0 d, 3)) (hr : ev_in (a + d)) (kk : Ev I lay (pc + 3) (some (iv (a + d)) :: L) S σ Q) : Ev I lay pc (some (iv a) :: L) S σ Q := Ev.iinc hd rfl hr kk
theorem Ev.istore1 {x0 x1 : Option ev_V} {k : Fin 4} (hi : (k : Nat) = 1) (hd : decode I.2.1 pc = .ok (.istore_n k, 1)) (kk : Ev I lay (pc + 1) (x0 :: some (iv a) :: L) S σ Q) : Ev I lay pc (x0 :: x1 :: L) (iv a :: S) σ Q := Ev.istore_n hi hd (by simp) kk
theorem Ev.astore1 {x0 x1 : Option ev_V} {k : Fin 4} (hi : (k : Nat) = 1) (hd : decode I.2.1 pc = .ok (.astore_n k, 1)) (kk : Ev I lay (pc + 1) (x0 :: some (rv a) :: L) S σ Q) : Ev I lay pc (x0 :: x1 :: L) (rv a :: S) σ Q := Ev.astore_n hi hd (by simp) kk
theorem Ev.iinc1 {x0 : Option ev_V} {d : Int} (hd : decode I.2.1 pc = .ok (.iinc 1 d, 3)) (hr : ev_in (a + d)) (kk : Ev I lay (pc + 3) (x0 :: some (iv (a + d)) :: L) S σ Q) : Ev I lay pc (x0 :: some (iv a) :: L) S σ Q := Ev.iinc hd rfl hr kk
theorem Ev.istore2 {x0 x1 x2 : Option ev_V} {k : Fin 4} (hi : (k : Nat) = 2) (hd : decode I.2.1 pc = .ok (.istore_n k, 1)) (kk : Ev I lay (pc + 1) (x0 :: x1 :: some (iv a) :: L) S σ Q) : Ev I lay pc (x0 :: x1 :: x2 :: L) (iv a :: S) σ Q := Ev.istore_n hi hd (by simp) kk
theorem Ev.astore2 {x0 x1 x2 : Option ev_V} {k : Fin 4} (hi : (k : Nat) = 2) (hd : decode I.2.1 pc = .ok (.astore_n k, 1)) (kk : Ev I lay (pc + 1) (x0 :: x1 :: some (rv a) :: L) S σ Q) : Ev I lay pc (x0 :: x1 :: x2 :: L) (rv a :: S) σ Q := Ev.astore_n hi hd (by simp) kk
theorem Ev.iinc2 {x0 x1 : Option ev_V} {d : Int} (hd : decode I.2.1 pc = .ok (.iinc 2 d, 3)) (hr : ev_in (a + d)) (kk : Ev I lay (pc + 3) (x0 :: x1 :: some (iv (a + d)) :: L) S σ Q) : Ev I lay pc (x0 :: x1 :: some (iv a) :: L) S σ Q := Ev.iinc hd rfl hr kk
theorem Ev.istore3 {x0 x1 x2 x3 : Option ev_V} {k : Fin 4} (hi : (k : Nat) = 3) (hd : decode I.2.1 pc = .ok (.istore_n k, 1)) (kk : Ev I lay (pc + 1) (x0 :: x1 :: x2 :: some (iv a) :: L) S σ Q) : Ev I lay pc (x0 :: x1 :: x2 :: x3 :: L) (iv a :: S) σ Q := Ev.istore_n hi hd (by simp) kk
theorem Ev.astore3 {x0 x1 x2 x3 : Option ev_V} {k : Fin 4} (hi : (k : Nat) = 3) (hd : decode I.2.1 pc = .ok (.astore_n k, 1)) (kk : Ev I lay (pc + 1) (x0 :: x1 :: x2 :: some (rv a) :: L) S σ Q) : Ev I lay pc (x0 :: x1 :: x2 :: x3 :: L) (rv a :: S) σ Q := Ev.astore_n hi hd (by simp) kk
theorem Ev.iinc3 {x0 x1 x2 : Option ev_V} {d : Int} (hd : decode I.2.1 pc = .ok (.iinc 3 d, 3)) (hr : ev_in (a + d)) (kk : Ev I lay (pc + 3) (x0 :: x1 :: x2 :: some (iv (a + d)) :: L) S σ Q) : Ev I lay pc (x0 :: x1 :: x2 :: some (iv a) :: L) S σ Q := Ev.iinc hd rfl hr kk
theorem Ev.istore4 {x0 x1 x2 x3 x4 : Option ev_V} (hd : decode I.2.1 pc = .ok (.istore 4, 2)) (kk : Ev I lay (pc + 2) (x0 :: x1 :: x2 :: x3 :: some (iv a) :: L) S σ Q) : Ev I lay pc (x0 :: x1 :: x2 :: x3 :: x4 :: L) (iv a :: S) σ Q := Ev.istore hd (by simp) kk
theorem Ev.astore4 {x0 x1 x2 x3 x4 : Option ev_V} (hd : decode I.2.1 pc = .ok (.astore 4, 2)) (kk : Ev I lay (pc + 2) (x0 :: x1 :: x2 :: x3 :: some (rv a) :: L) S σ Q) : Ev I lay pc (x0 :: x1 :: x2 :: x3 :: x4 :: L) (rv a :: S) σ Q := Ev.astore hd (by simp) kk
theorem Ev.iinc4 {x0 x1 x2 x3 : Option ev_V} {d : Int} (hd : decode I.2.1 pc = .ok (.iinc 4 d, 3)) (hr : ev_in (a + d)) (kk : Ev I lay (pc + 3) (x0 :: x1 :: x2 :: x3 :: some (iv (a + d)) :: L) S σ Q) : Ev I lay pc (x0 :: x1 :: x2 :: x3 :: some (iv a) :: L) S σ Q := Ev.iinc hd rfl hr kk
theorem Ev.istore5 {x0 x1 x2 x3 x4 x5 : Option ev_V} (hd : decode I.2.1 pc = .ok (.istore 5, 2)) (kk : Ev I lay (pc + 2) (x0 :: x1 :: x2 :: x3 :: x4 :: some (iv a) :: L) S σ Q) : Ev I lay pc (x0 :: x1 :: x2 :: x3 :: x4 :: x5 :: L) (iv a :: S) σ Q := Ev.istore hd (by simp) kk
theorem Ev.astore5 {x0 x1 x2 x3 x4 x5 : Option ev_V} (hd : decode I.2.1 pc = .ok (.astore 5, 2)) (kk : Ev I lay (pc + 2) (x0 :: x1 :: x2 :: x3 :: x4 :: some (rv a) :: L) S σ Q) : Ev I lay pc (x0 :: x1 :: x2 :: x3 :: x4 :: x5 :: L) (rv a :: S) σ Q := Ev.astore hd (by simp) kk
theorem Ev.iinc5 {x0 x1 x2 x3 x4 : Option ev_V} {d : Int} (hd : decode I.2.1 pc = .ok (.iinc 5 d, 3)) (hr : ev_in (a + d)) (kk : Ev I lay (pc + 3) (x0 :: x1 :: x2 :: x3 :: x4 :: some (iv (a + d)) :: L) S σ Q) : Ev I lay pc (x0 :: x1 :: x2 :: x3 :: x4 :: some (iv a) :: L) S σ Q := Ev.iinc hd rfl hr kk
theorem Ev.istore6 {x0 x1 x2 x3 x4 x5 x6 : Option ev_V} (hd : decode I.2.1 pc = .ok (.istore 6, 2)) (kk : Ev I lay (pc + 2) (x0 :: x1 :: x2 :: x3 :: x4 :: x5 :: some (iv a) :: L) S σ Q) : Ev I lay pc (x0 :: x1 :: x2 :: x3 :: x4 :: x5 :: x6 :: L) (iv a :: S) σ Q := Ev.istore hd (by simp) kk
theorem Ev.astore6 {x0 x1 x2 x3 x4 x5 x6 : Option ev_V} (hd : decode I.2.1 pc = .ok (.astore 6, 2)) (kk : Ev I lay (pc + 2) (x0 :: x1 :: x2 :: x3 :: x4 :: x5 :: some (rv a) :: L) S σ Q) : Ev I lay pc (x0 :: x1 :: x2 :: x3 :: x4 :: x5 :: x6 :: L) (rv a :: S) σ Q := Ev.astore hd (by simp) kk
theorem Ev.iinc6 {x0 x1 x2 x3 x4 x5 : Option ev_V} {d : Int} (hd : decode I.2.1 pc = .ok (.iinc 6 d, 3)) (hr : ev_in (a + d)) (kk : Ev I lay (pc + 3) (x0 :: x1 :: x2 :: x3 :: x4 :: x5 :: some (iv (a + d)) :: L) S σ Q) : Ev I lay pc (x0 :: x1 :: x2 :: x3 :: x4 :: x5 :: some (iv a) :: L) S σ Q := Ev.iinc hd rfl hr kk
theorem Ev.istore7 {x0 x1 x2 x3 x4 x5 x6 x7 : Option ev_V} (hd : decode I.2.1 pc = .ok (.istore 7, 2)) (kk : Ev I lay (pc + 2) (x0 :: x1 :: x2 :: x3 :: x4 :: x5 :: x6 :: some (iv a) :: L) S σ Q) : Ev I lay pc (x0 :: x1 :: x2 :: x3 :: x4 :: x5 :: x6 :: x7 :: L) (iv a :: S) σ Q := Ev.istore hd (by simp) kk
theorem Ev.astore7 {x0 x1 x2 x3 x4 x5 x6 x7 : Option ev_V} (hd : decode I.2.1 pc = .ok (.astore 7, 2)) (kk : Ev I lay (pc + 2) (x0 :: x1 :: x2 :: x3 :: x4 :: x5 :: x6 :: some (rv a) :: L) S σ Q) : Ev I lay pc (x0 :: x1 :: x2 :: x3 :: x4 :: x5 :: x6 :: x7 :: L) (rv a :: S) σ Q := Ev.astore hd (by simp) kk
theorem Ev.iinc7 {x0 x1 x2 x3 x4 x5 x6 : Option ev_V} {d : Int} (hd : decode I.2.1 pc = .ok (.iinc 7 d, 3)) (hr : ev_in (a + d)) (kk : Ev I lay (pc + 3) (x0 :: x1 :: x2 :: x3 :: x4 :: x5 :: x6 :: some (iv (a + d)) :: L) S σ Q) : Ev I lay pc (x0 :: x1 :: x2 :: x3 :: x4 :: x5 :: x6 :: some (iv a) :: L) S σ Q := Ev.iinc hd rfl hr kk
theorem Ev.istore8 {x0 x1 x2 x3 x4 x5 x6 x7 x8 : Option ev_V} (hd : decode I.2.1 pc = .ok (.istore 8, 2)) (kk : Ev I lay (pc + 2) (x0 :: x1 :: x2 :: x3 :: x4 :: x5 :: x6 :: x7 :: some (iv a) :: L) S σ Q) : Ev I lay pc (x0 :: x1 :: x2 :: x3 :: x4 :: x5 :: x6 :: x7 :: x8 :: L) (iv a :: S) σ Q := Ev.istore hd (by simp) kk
theorem Ev.astore8 {x0 x1 x2 x3 x4 x5 x6 x7 x8 : Option ev_V} (hd : decode I.2.1 pc = .ok (.astore 8, 2)) (kk : Ev I lay (pc + 2) (x0 :: x1 :: x2 :: x3 :: x4 :: x5 :: x6 :: x7 :: some (rv a) :: L) S σ Q) : Ev I lay pc (x0 :: x1 :: x2 :: x3 :: x4 :: x5 :: x6 :: x7 :: x8 :: L) (rv a :: S) σ Q := Ev.astore hd (by simp) kk
theorem Ev.iinc8 {x0 x1 x2 x3 x4 x5 x6 x7 : Option ev_V} {d : Int} (hd : decode I.2.1 pc = .ok (.iinc 8 d, 3)) (hr : ev_in (a + d)) (kk : Ev I lay (pc + 3) (x0 :: x1 :: x2 :: x3 :: x4 :: x5 :: x6 :: x7 :: some (iv (a + d)) :: L) S σ Q) : Ev I lay pc (x0 :: x1 :: x2 :: x3 :: x4 :: x5 :: x6 :: x7 :: some (iv a) :: L) S σ Q := Ev.iinc hd rfl hr kk
theorem Ev.istore9 {x0 x1 x2 x3 x4 x5 x6 x7 x8 x9 : Option ev_V} (hd : decode I.2.1 pc = .ok (.istore 9, 2)) (kk : Ev I lay (pc + 2) (x0 :: x1 :: x2 :: x3 :: x4 :: x5 :: x6 :: x7 :: x8 :: some (iv a) :: L) S σ Q) : Ev I lay pc (x0 :: x1 :: x2 :: x3 :: x4 :: x5 :: x6 :: x7 :: x8 :: x9 :: L) (iv a :: S) σ Q := Ev.istore hd (by simp) kk
theorem Ev.astore9 {x0 x1 x2 x3 x4 x5 x6 x7 x8 x9 : Option ev_V} (hd : decode I.2.1 pc = .ok (.astore 9, 2)) (kk : Ev I lay (pc + 2) (x0 :: x1 :: x2 :: x3 :: x4 :: x5 :: x6 :: x7 :: x8 :: some (rv a) :: L) S σ Q) : Ev I lay pc (x0 :: x1 :: x2 :: x3 :: x4 :: x5 :: x6 :: x7 :: x8 :: x9 :: L) (rv a :: S) σ Q := Ev.astore hd (by simp) kk
theorem Ev.iinc9 {x0 x1 x2 x3 x4 x5 x6 x7 x8 : Option ev_V} {d : Int} (hd : decode I.2.1 pc = .ok (.iinc 9 d, 3)) (hr : ev_in (a + d)) (kk : Ev I lay (pc + 3) (x0 :: x1 :: x2 :: x3 :: x4 :: x5 :: x6 :: x7 :: x8 :: some (iv (a + d)) :: L) S σ Q) : Ev I lay pc (x0 :: x1 :: x2 :: x3 :: x4 :: x5 :: x6 :: x7 :: x8 :: some (iv a) :: L) S σ Q := Ev.iinc hd rfl hr kk
theorem Ev.iadd (hd : decode I.2.1 pc = .ok (.iadd, 1)) (hr : ev_in (a + b)) (k : Ev I lay (pc + 1) L (iv (a + b) :: S) σ Q) : Ev I lay pc L (iv b :: iv a :: S) σ Q := by
  intro p l e s m args below meth c E ls H locs X hL hS hW hV
  refine lv_iadd (x := Int32.ofInt a) (y := Int32.ofInt b) (rest := S.map (ev_vl E.1)) X.1 X.2.1 hd ?_
  rw [← Int32.ofInt_add]
  exact k p l e s m args below meth c E ls H locs X hL (ev_okc (ev_oki hr) (ev_okt (ev_okt hS))) hW hV
theorem Ev.isub (hd : decode I.2.1 pc = .ok (.isub, 1)) (hr : ev_in (a - b)) (k : Ev I lay (pc + 1) L (iv (a - b) :: S) σ Q) : Ev I lay pc L (iv b :: iv a :: S) σ Q := by
  intro p l e s m args below meth c E ls H locs X hL hS hW hV
  refine lv_isub (x := Int32.ofInt a) (y := Int32.ofInt b) (rest := S.map (ev_vl E.1)) X.1 X.2.1 hd ?_
  rw [← Int32.ofInt_sub]
  exact k p l e s m args below meth c E ls H locs X hL (ev_okc (ev_oki hr) (ev_okt (ev_okt hS))) hW hV
theorem Ev.imul (hd : decode I.2.1 pc = .ok (.imul, 1)) (hr : ev_in (a * b)) (k : Ev I lay (pc + 1) L (iv (a * b) :: S) σ Q) : Ev I lay pc L (iv b :: iv a :: S) σ Q := by
  intro p l e s m args below meth c E ls H locs X hL hS hW hV
  refine lv_imul (x := Int32.ofInt a) (y := Int32.ofInt b) (rest := S.map (ev_vl E.1)) X.1 X.2.1 hd ?_
  rw [← Int32.ofInt_mul]
  exact k p l e s m args below meth c E ls H locs X hL (ev_okc (ev_oki hr) (ev_okt (ev_okt hS))) hW hV
theorem Ev.iand (hd : decode I.2.1 pc = .ok (.iand, 1)) (k : Ev I lay (pc + 1) L (iv (ev_and a b) :: S) σ Q) : Ev I lay pc L (iv b :: iv a :: S) σ Q := by
  intro p l e s m args below meth c E ls H locs X hL hS hW hV
  refine lv_iand (x := Int32.ofInt a) (y := Int32.ofInt b) (rest := S.map (ev_vl E.1)) X.1 X.2.1 hd ?_
  have := k p l e s m args below meth c E ls H locs X hL (ev_okc (ev_oki (ev_in_toInt _)) (ev_okt (ev_okt hS))) hW hV
  rw [List.map_cons, show ev_vl E.1 (iv (ev_and a b)) = Value.int (Int32.ofInt (ev_and a b)) from rfl] at this
  unfold ev_and at this
  rwa [ev_ofInt] at this
theorem Ev.ior (hd : decode I.2.1 pc = .ok (.ior, 1)) (k : Ev I lay (pc + 1) L (iv (ev_or a b) :: S) σ Q) : Ev I lay pc L (iv b :: iv a :: S) σ Q := by
  intro p l e s m args below meth c E ls H locs X hL hS hW hV
  refine lv_ior (x := Int32.ofInt a) (y := Int32.ofInt b) (rest := S.map (ev_vl E.1)) X.1 X.2.1 hd ?_
  have := k p l e s m args below meth c E ls H locs X hL (ev_okc (ev_oki (ev_in_toInt _)) (ev_okt (ev_okt hS))) hW hV
  rw [List.map_cons, show ev_vl E.1 (iv (ev_or a b)) = Value.int (Int32.ofInt (ev_or a b)) from rfl] at this
  unfold ev_or at this
  rwa [ev_ofInt] at this
theorem Ev.ixor (hd : decode I.2.1 pc = .ok (.ixor, 1)) (k : Ev I lay (pc + 1) L (iv (ev_xor a b) :: S) σ Q) : Ev I lay pc L (iv b :: iv a :: S) σ Q := by
  intro p l e s m args below meth c E ls H locs X hL hS hW hV
  refine lv_ixor (x := Int32.ofInt a) (y := Int32.ofInt b) (rest := S.map (ev_vl E.1)) X.1 X.2.1 hd ?_
  have := k p l e s m args below meth c E ls H locs X hL (ev_okc (ev_oki (ev_in_toInt _)) (ev_okt (ev_okt hS))) hW hV
  rw [List.map_cons, show ev_vl E.1 (iv (ev_xor a b)) = Value.int (Int32.ofInt (ev_xor a b)) from rfl] at this
  unfold ev_xor at this
  rwa [ev_ofInt] at this
theorem Ev.ishl (hd : decode I.2.1 pc = .ok (.ishl, 1)) (k : Ev I lay (pc + 1) L (iv (ev_shl a b) :: S) σ Q) : Ev I lay pc L (iv b :: iv a :: S) σ Q := by
  intro p l e s m args below meth c E ls H locs X hL hS hW hV
  refine lv_ishl (x := Int32.ofInt a) (y := Int32.ofInt b) (rest := S.map (ev_vl E.1)) X.1 X.2.1 hd ?_
  have := k p l e s m args below meth c E ls H locs X hL (ev_okc (ev_oki (ev_in_toInt _)) (ev_okt (ev_okt hS))) hW hV
  rw [List.map_cons, show ev_vl E.1 (iv (ev_shl a b)) = Value.int (Int32.ofInt (ev_shl a b)) from rfl] at this
  unfold ev_shl at this
  rwa [ev_ofInt] at this
theorem Ev.ishr (hd : decode I.2.1 pc = .ok (.ishr, 1)) (k : Ev I lay (pc + 1) L (iv (ev_shr a b) :: S) σ Q) : Ev I lay pc L (iv b :: iv a :: S) σ Q := by
  intro p l e s m args below meth c E ls H locs X hL hS hW hV
  refine lv_ishr (x := Int32.ofInt a) (y := Int32.ofInt b) (rest := S.map (ev_vl E.1)) X.1 X.2.1 hd ?_
  have := k p l e s m args below meth c E ls H locs X hL (ev_okc (ev_oki (ev_in_toInt _)) (ev_okt (ev_okt hS))) hW hV
  rw [List.map_cons, show ev_vl E.1 (iv (ev_shr a b)) = Value.int (Int32.ofInt (ev_shr a b)) from rfl] at this
  unfold ev_shr at this
  rwa [ev_ofInt] at this
theorem ev_div {a b : Int} (ha : ev_in a) (hb : ev_in b) (h0 : 0 ≤ a) (h1 : 0 < b) : Int32.ofInt a / Int32.ofInt b = Int32.ofInt (a / b) := by
  have hq : 0 ≤ a / b := Int.ediv_nonneg h0 (by omega)
  have hq2 : a / b ≤ a := Int.ediv_le_self b h0
  have hr : ev_in (a / b) := ⟨by omega, by have := ha.2; omega⟩
  apply Int32.toInt_inj.mp
  rw [Int32.toInt_div, ev_toInt ha, ev_toInt hb, ev_toInt hr, Int.tdiv_eq_ediv_of_nonneg h0]
  apply Int.bmod_eq_of_le <;> (have := hr.1; have := hr.2; omega)
theorem Ev.idiv (hd : decode I.2.1 pc = .ok (.idiv, 1)) (h0 : 0 ≤ a) (h1 : 0 < b) (k : Ev I lay (pc + 1) L (iv (a / b) :: S) σ Q) : Ev I lay pc L (iv b :: iv a :: S) σ Q := by
  intro p l e s m args below meth c E ls H locs X hL hS hW hV
  have hb := ev_okh hS
  have ha := ev_okh (ev_okt hS)
  have hq : 0 ≤ a / b := Int.ediv_nonneg h0 (by omega)
  have hq2 : a / b ≤ a := Int.ediv_le_self b h0
  refine lv_idiv (x := Int32.ofInt a) (y := Int32.ofInt b) (rest := S.map (ev_vl E.1)) X.1 X.2.1 hd (fun z => by have := (ev_eq hb ⟨by decide, by decide⟩ (b := 0)).mp z; omega) ?_
  rw [ev_div ha hb h0 h1]
  exact k p l e s m args below meth c E ls H locs X hL (ev_okc (ev_oki ⟨by omega, by have := ha.2; omega⟩) (ev_okt (ev_okt hS))) hW hV
theorem Ev.irem (hd : decode I.2.1 pc = .ok (.irem, 1)) (h0 : 0 ≤ a) (h1 : 0 < b) (k : Ev I lay (pc + 1) L (iv (a % b) :: S) σ Q) : Ev I lay pc L (iv b :: iv a :: S) σ Q := by
  intro p l e s m args below meth c E ls H locs X hL hS hW hV
  have hb := ev_okh hS
  have ha := ev_okh (ev_okt hS)
  have hq := Int.emod_nonneg a (b := b) (by omega)
  have hq2 := Int.emod_lt_of_pos a h1
  refine lv_irem (x := Int32.ofInt a) (y := Int32.ofInt b) (rest := S.map (ev_vl E.1)) X.1 X.2.1 hd (fun z => by have := (ev_eq hb ⟨by decide, by decide⟩ (b := 0)).mp z; omega) ?_
  rw [ev_div ha hb h0 h1, ← Int32.ofInt_mul, ← Int32.ofInt_sub, show a - a / b * b = a % b by rw [Int.emod_def, Int.mul_comm]]
  exact k p l e s m args below meth c E ls H locs X hL (ev_okc (ev_oki ⟨by omega, by have := hb.2; omega⟩) (ev_okt (ev_okt hS))) hW hV
theorem Ev.i2c (hd : decode I.2.1 pc = .ok (.i2c, 1)) (h0 : 0 ≤ a) (h1 : a < 65536) (hc : ((Int32.ofInt a).toUInt32 % 65536).toInt32 = Int32.ofInt a) (k : Ev I lay (pc + 1) L (iv a :: S) σ Q) : Ev I lay pc L (iv a :: S) σ Q := by
  intro p l e s m args below meth c E ls H locs X hL hS hW hV
  exact lv_i2c (x := Int32.ofInt a) (rest := S.map (ev_vl E.1)) X.1 X.2.1 hd hc (k p l e s m args below meth c E ls H locs X hL hS hW hV)
theorem Ev.dup {v : ev_V} (hd : decode I.2.1 pc = .ok (.dup, 1)) (k : Ev I lay (pc + 1) L (v :: v :: S) σ Q) : Ev I lay pc L (v :: S) σ Q := by
  intro p l e s m args below meth c E ls H locs X hL hS hW hV
  exact lv_dup (rest := S.map (ev_vl E.1)) X.1 X.2.1 hd (ev_cat E.1 v) (k p l e s m args below meth c E ls H locs X hL (ev_okc (hS v List.mem_cons_self) hS) hW hV)
theorem Ev.pop {v : ev_V} (hd : decode I.2.1 pc = .ok (.pop, 1)) (k : Ev I lay (pc + 1) L S σ Q) : Ev I lay pc L (v :: S) σ Q := by
  intro p l e s m args below meth c E ls H locs X hL hS hW hV
  exact lv_pop (rest := S.map (ev_vl E.1)) X.1 X.2.1 hd (ev_cat E.1 v) (k p l e s m args below meth c E ls H locs X hL (ev_okt hS) hW hV)
theorem Ev.dup2 {v u : ev_V} (hd : decode I.2.1 pc = .ok (.dup2, 1)) (k : Ev I lay (pc + 1) L (v :: u :: v :: u :: S) σ Q) : Ev I lay pc L (v :: u :: S) σ Q := by
  intro p l e s m args below meth c E ls H locs X hL hS hW hV
  exact lv_dup2_11 (rest := S.map (ev_vl E.1)) X.1 X.2.1 hd (ev_cat E.1 v) (ev_cat E.1 u) (k p l e s m args below meth c E ls H locs X hL (ev_okc (hS v List.mem_cons_self) (ev_okc (hS u (List.mem_cons_of_mem _ List.mem_cons_self)) hS)) hW hV)
theorem Ev.goto {off : Int} {tgt : Nat} (hd : decode I.2.1 pc = .ok (.goto off, 3)) (ht : (pc : Int) + off = (tgt : Int)) (k : Ev I lay tgt L S σ Q) : Ev I lay pc L S σ Q := by
  intro p l e s m args below meth c E ls H locs X hL hS hW hV
  exact lv_goto X.1 X.2.1 hd ht (k p l e s m args below meth c E ls H locs X hL hS hW hV)
theorem Ev.icmp_eq {off : Int} {tgt : Nat} (hd : decode I.2.1 pc = .ok (.if_icmp .eq off, 3)) (ht : (pc : Int) + off = (tgt : Int)) (kt : a = b → Ev I lay tgt L S σ Q) (kf : a ≠ b → Ev I lay (pc + 3) L S σ Q) : Ev I lay pc L (iv b :: iv a :: S) σ Q := by
  intro p l e s m args below meth c E ls H locs X hL hS hW hV
  have hb := ev_okh hS
  have ha := ev_okh (ev_okt hS)
  have hT := ev_okt (ev_okt hS)
  exact lv_icmp_eq (x := Int32.ofInt a) (y := Int32.ofInt b) (rest := S.map (ev_vl E.1)) X.1 X.2.1 hd ht (fun z => kt ((ev_eq ha hb).mp z) p l e s m args below meth c E ls H locs X hL hT hW hV) (fun z => kf (fun y => z ((ev_eq ha hb).mpr y)) p l e s m args below meth c E ls H locs X hL hT hW hV)
theorem Ev.if_eq {off : Int} {tgt : Nat} (hd : decode I.2.1 pc = .ok (.ifCond .eq off, 3)) (ht : (pc : Int) + off = (tgt : Int)) (kt : a = 0 → Ev I lay tgt L S σ Q) (kf : a ≠ 0 → Ev I lay (pc + 3) L S σ Q) : Ev I lay pc L (iv a :: S) σ Q := by
  intro p l e s m args below meth c E ls H locs X hL hS hW hV
  have ha := ev_okh hS
  have hb : ev_in 0 := ⟨by decide, by decide⟩
  have hT := ev_okt hS
  exact lv_if_eq (x := Int32.ofInt a) (rest := S.map (ev_vl E.1)) X.1 X.2.1 hd ht (fun z => kt ((ev_eq ha hb).mp z) p l e s m args below meth c E ls H locs X hL hT hW hV) (fun z => kf (fun y => z ((ev_eq ha hb).mpr y)) p l e s m args below meth c E ls H locs X hL hT hW hV)
theorem Ev.icmp_ne {off : Int} {tgt : Nat} (hd : decode I.2.1 pc = .ok (.if_icmp .ne off, 3)) (ht : (pc : Int) + off = (tgt : Int)) (kt : a ≠ b → Ev I lay tgt L S σ Q) (kf : a = b → Ev I lay (pc + 3) L S σ Q) : Ev I lay pc L (iv b :: iv a :: S) σ Q := by
  intro p l e s m args below meth c E ls H locs X hL hS hW hV
  have hb := ev_okh hS
  have ha := ev_okh (ev_okt hS)
  have hT := ev_okt (ev_okt hS)
  exact lv_icmp_ne (x := Int32.ofInt a) (y := Int32.ofInt b) (rest := S.map (ev_vl E.1)) X.1 X.2.1 hd ht (fun z => kt (fun y => z ((ev_eq ha hb).mpr y)) p l e s m args below meth c E ls H locs X hL hT hW hV) (fun z => kf ((ev_eq ha hb).mp z) p l e s m args below meth c E ls H locs X hL hT hW hV)
theorem Ev.if_ne {off : Int} {tgt : Nat} (hd : decode I.2.1 pc = .ok (.ifCond .ne off, 3)) (ht : (pc : Int) + off = (tgt : Int)) (kt : a ≠ 0 → Ev I lay tgt L S σ Q) (kf : a = 0 → Ev I lay (pc + 3) L S σ Q) : Ev I lay pc L (iv a :: S) σ Q := by
  intro p l e s m args below meth c E ls H locs X hL hS hW hV
  have ha := ev_okh hS
  have hb : ev_in 0 := ⟨by decide, by decide⟩
  have hT := ev_okt hS
  exact lv_if_ne (x := Int32.ofInt a) (rest := S.map (ev_vl E.1)) X.1 X.2.1 hd ht (fun z => kt (fun y => z ((ev_eq ha hb).mpr y)) p l e s m args below meth c E ls H locs X hL hT hW hV) (fun z => kf ((ev_eq ha hb).mp z) p l e s m args below meth c E ls H locs X hL hT hW hV)
theorem Ev.icmp_lt {off : Int} {tgt : Nat} (hd : decode I.2.1 pc = .ok (.if_icmp .lt off, 3)) (ht : (pc : Int) + off = (tgt : Int)) (kt : a < b → Ev I lay tgt L S σ Q) (kf : b ≤ a → Ev I lay (pc + 3) L S σ Q) : Ev I lay pc L (iv b :: iv a :: S) σ Q := by
  intro p l e s m args below meth c E ls H locs X hL hS hW hV
  have hb := ev_okh hS
  have ha := ev_okh (ev_okt hS)
  have hT := ev_okt (ev_okt hS)
  exact lv_icmp_lt (x := Int32.ofInt a) (y := Int32.ofInt b) (rest := S.map (ev_vl E.1)) X.1 X.2.1 hd ht (fun z => kt ((ev_lt ha hb).mp z) p l e s m args below meth c E ls H locs X hL hT hW hV) (fun z => kf (by have := (not_congr (ev_lt ha hb)).mp z; omega) p l e s m args below meth c E ls H locs X hL hT hW hV)
theorem Ev.if_lt {off : Int} {tgt : Nat} (hd : decode I.2.1 pc = .ok (.ifCond .lt off, 3)) (ht : (pc : Int) + off = (tgt : Int)) (kt : a < 0 → Ev I lay tgt L S σ Q) (kf : 0 ≤ a → Ev I lay (pc + 3) L S σ Q) : Ev I lay pc L (iv a :: S) σ Q := by
  intro p l e s m args below meth c E ls H locs X hL hS hW hV
  have ha := ev_okh hS
  have hb : ev_in 0 := ⟨by decide, by decide⟩
  have hT := ev_okt hS
  exact lv_if_lt (x := Int32.ofInt a) (rest := S.map (ev_vl E.1)) X.1 X.2.1 hd ht (fun z => kt ((ev_lt ha hb).mp z) p l e s m args below meth c E ls H locs X hL hT hW hV) (fun z => kf (by have := (not_congr (ev_lt ha hb)).mp z; omega) p l e s m args below meth c E ls H locs X hL hT hW hV)
theorem Ev.icmp_ge {off : Int} {tgt : Nat} (hd : decode I.2.1 pc = .ok (.if_icmp .ge off, 3)) (ht : (pc : Int) + off = (tgt : Int)) (kt : b ≤ a → Ev I lay tgt L S σ Q) (kf : a < b → Ev I lay (pc + 3) L S σ Q) : Ev I lay pc L (iv b :: iv a :: S) σ Q := by
  intro p l e s m args below meth c E ls H locs X hL hS hW hV
  have hb := ev_okh hS
  have ha := ev_okh (ev_okt hS)
  have hT := ev_okt (ev_okt hS)
  exact lv_icmp_ge (x := Int32.ofInt a) (y := Int32.ofInt b) (rest := S.map (ev_vl E.1)) X.1 X.2.1 hd ht (fun z => kt ((ev_le hb ha).mp z) p l e s m args below meth c E ls H locs X hL hT hW hV) (fun z => kf (by have := (not_congr (ev_le hb ha)).mp z; omega) p l e s m args below meth c E ls H locs X hL hT hW hV)
theorem Ev.if_ge {off : Int} {tgt : Nat} (hd : decode I.2.1 pc = .ok (.ifCond .ge off, 3)) (ht : (pc : Int) + off = (tgt : Int)) (kt : 0 ≤ a → Ev I lay tgt L S σ Q) (kf : a < 0 → Ev I lay (pc + 3) L S σ Q) : Ev I lay pc L (iv a :: S) σ Q := by
  intro p l e s m args below meth c E ls H locs X hL hS hW hV
  have ha := ev_okh hS
  have hb : ev_in 0 := ⟨by decide, by decide⟩
  have hT := ev_okt hS
  exact lv_if_ge (x := Int32.ofInt a) (rest := S.map (ev_vl E.1)) X.1 X.2.1 hd ht (fun z => kt ((ev_le hb ha).mp z) p l e s m args below meth c E ls H locs X hL hT hW hV) (fun z => kf (by have := (not_congr (ev_le hb ha)).mp z; omega) p l e s m args below meth c E ls H locs X hL hT hW hV)
theorem Ev.icmp_gt {off : Int} {tgt : Nat} (hd : decode I.2.1 pc = .ok (.if_icmp .gt off, 3)) (ht : (pc : Int) + off = (tgt : Int)) (kt : b < a → Ev I lay tgt L S σ Q) (kf : a ≤ b → Ev I lay (pc + 3) L S σ Q) : Ev I lay pc L (iv b :: iv a :: S) σ Q := by
  intro p l e s m args below meth c E ls H locs X hL hS hW hV
  have hb := ev_okh hS
  have ha := ev_okh (ev_okt hS)
  have hT := ev_okt (ev_okt hS)
  exact lv_icmp_gt (x := Int32.ofInt a) (y := Int32.ofInt b) (rest := S.map (ev_vl E.1)) X.1 X.2.1 hd ht (fun z => kt ((ev_lt hb ha).mp z) p l e s m args below meth c E ls H locs X hL hT hW hV) (fun z => kf (by have := (not_congr (ev_lt hb ha)).mp z; omega) p l e s m args below meth c E ls H locs X hL hT hW hV)
theorem Ev.if_gt {off : Int} {tgt : Nat} (hd : decode I.2.1 pc = .ok (.ifCond .gt off, 3)) (ht : (pc : Int) + off = (tgt : Int)) (kt : 0 < a → Ev I lay tgt L S σ Q) (kf : a ≤ 0 → Ev I lay (pc + 3) L S σ Q) : Ev I lay pc L (iv a :: S) σ Q := by
  intro p l e s m args below meth c E ls H locs X hL hS hW hV
  have ha := ev_okh hS
  have hb : ev_in 0 := ⟨by decide, by decide⟩
  have hT := ev_okt hS
  exact lv_if_gt (x := Int32.ofInt a) (rest := S.map (ev_vl E.1)) X.1 X.2.1 hd ht (fun z => kt ((ev_lt hb ha).mp z) p l e s m args below meth c E ls H locs X hL hT hW hV) (fun z => kf (by have := (not_congr (ev_lt hb ha)).mp z; omega) p l e s m args below meth c E ls H locs X hL hT hW hV)
theorem Ev.icmp_le {off : Int} {tgt : Nat} (hd : decode I.2.1 pc = .ok (.if_icmp .le off, 3)) (ht : (pc : Int) + off = (tgt : Int)) (kt : a ≤ b → Ev I lay tgt L S σ Q) (kf : b < a → Ev I lay (pc + 3) L S σ Q) : Ev I lay pc L (iv b :: iv a :: S) σ Q := by
  intro p l e s m args below meth c E ls H locs X hL hS hW hV
  have hb := ev_okh hS
  have ha := ev_okh (ev_okt hS)
  have hT := ev_okt (ev_okt hS)
  exact lv_icmp_le (x := Int32.ofInt a) (y := Int32.ofInt b) (rest := S.map (ev_vl E.1)) X.1 X.2.1 hd ht (fun z => kt ((ev_le ha hb).mp z) p l e s m args below meth c E ls H locs X hL hT hW hV) (fun z => kf (by have := (not_congr (ev_le ha hb)).mp z; omega) p l e s m args below meth c E ls H locs X hL hT hW hV)
theorem Ev.if_le {off : Int} {tgt : Nat} (hd : decode I.2.1 pc = .ok (.ifCond .le off, 3)) (ht : (pc : Int) + off = (tgt : Int)) (kt : a ≤ 0 → Ev I lay tgt L S σ Q) (kf : 0 < a → Ev I lay (pc + 3) L S σ Q) : Ev I lay pc L (iv a :: S) σ Q := by
  intro p l e s m args below meth c E ls H locs X hL hS hW hV
  have ha := ev_okh hS
  have hb : ev_in 0 := ⟨by decide, by decide⟩
  have hT := ev_okt hS
  exact lv_if_le (x := Int32.ofInt a) (rest := S.map (ev_vl E.1)) X.1 X.2.1 hd ht (fun z => kt ((ev_le ha hb).mp z) p l e s m args below meth c E ls H locs X hL hT hW hV) (fun z => kf (by have := (not_congr (ev_le ha hb)).mp z; omega) p l e s m args below meth c E ls H locs X hL hT hW hV)
theorem Ev.tabIn {dflt lo hi : Int} {offs : Array Int} {len : Nat} {off : Int} {tgt : Nat} (hd : decode I.2.1 pc = .ok (.tableswitch dflt lo hi offs, len)) (h1 : lo ≤ a) (h2 : a ≤ hi) (ho : offs[(a - lo).toNat]? = some off) (ht : (pc : Int) + off = (tgt : Int)) (k : Ev I lay tgt L S σ Q) : Ev I lay pc L (iv a :: S) σ Q := by
  intro p l e s m args below meth c E ls H locs X hL hS hW hV
  have ha := ev_okh hS
  exact lv_tableIn (x := Int32.ofInt a) (rest := S.map (ev_vl E.1)) X.1 X.2.1 hd (by rw [ev_toInt ha]; omega) (by rw [ev_toInt ha]; omega) (by rw [ev_toInt ha]; exact ho) ht (k p l e s m args below meth c E ls H locs X hL (ev_okt hS) hW hV)
theorem Ev.tabOut {dflt lo hi : Int} {offs : Array Int} {len : Nat} {tgt : Nat} (hd : decode I.2.1 pc = .ok (.tableswitch dflt lo hi offs, len)) (h : a < lo ∨ hi < a) (ht : (pc : Int) + dflt = (tgt : Int)) (k : Ev I lay tgt L S σ Q) : Ev I lay pc L (iv a :: S) σ Q := by
  intro p l e s m args below meth c E ls H locs X hL hS hW hV
  have ha := ev_okh hS
  exact lv_tableOut (x := Int32.ofInt a) (rest := S.map (ev_vl E.1)) X.1 X.2.1 hd (by rw [ev_toInt ha]; exact h) ht (k p l e s m args below meth c E ls H locs X hL (ev_okt hS) hW hV)
theorem Ev.lookup {dflt : Int} {ps : Array (Int × Int)} {len : Nat} {off : Int} {tgt : Nat} (hd : decode I.2.1 pc = .ok (.lookupswitch dflt ps, len)) (hp : (ps.toList.zip (ps.toList.drop 1)).all (fun (a, next) => a.1 < next.1) = true) (ho : Op.lookupswitch.offset ps.toList dflt a = off) (ht : (pc : Int) + off = (tgt : Int)) (k : Ev I lay tgt L S σ Q) : Ev I lay pc L (iv a :: S) σ Q := by
  intro p l e s m args below meth c E ls H locs X hL hS hW hV
  have ha := ev_okh hS
  exact lv_lookup (x := Int32.ofInt a) (rest := S.map (ev_vl E.1)) X.1 X.2.1 hd hp (by rw [ev_toInt ha]; exact ho) ht (k p l e s m args below meth c E ls H locs X hL (ev_okt hS) hW hV)
theorem Ev.iret (hd : decode I.2.1 pc = .ok (.ireturn, 1)) {ty : FieldType} (hr : I.2.2.2.1 = some ty) (hn : narrow ty (.int (Int32.ofInt a)) = .int (Int32.ofInt a)) (h : Q a σ) : Ev I lay pc L [iv a] σ Q := by
  intro p l e s m args below meth c E ls H locs X hL hS hW hV
  have hpo : ev_post I lay E Q = va_Qi (fun (r : Int32) (σ' : ev_M) => ∃ i, ev_in i ∧ r = Int32.ofInt i ∧ Q i σ') (fun σ' t => ev_W lay E σ' t t.heap) (ev_A lay E) := by unfold ev_post; rw [if_neg (by rw [hr]; simp)]
  rw [hpo]
  exact W.zret (v := Int32.ofInt a) (ty := ty) X.1 X.2.1 (by rw [X.2.2.2.1]; exact hr) hn (fun t ht hWm => ⟨⟨Int32.ofInt a, σ, rfl, ⟨a, ev_okh hS, rfl, h⟩, hW.moved hV ht hWm⟩, hV.F ht⟩) hV.2.2 hd X.2.2.2.2.1
theorem Ev.vret (hd : decode I.2.1 pc = .ok (.return_, 1)) (hr : I.2.2.2.1 = none) (h : Q 0 σ) : Ev I lay pc L [] σ Q := by
  intro p l e s m args below meth c E ls H locs X hL hS hW hV
  have hpo : ev_post I lay E Q = va_Qv (fun σ' : ev_M => Q 0 σ') (fun σ' t => ev_W lay E σ' t t.heap) (ev_A lay E) := by unfold ev_post; rw [if_pos hr]
  rw [hpo]
  exact W.vret X.1 X.2.1 (by rw [X.2.2.2.1]; exact hr) (fun t ht hWm => ⟨⟨σ, rfl, h, hW.moved hV ht hWm⟩, hV.F ht⟩) hV.2.2 hd X.2.2.2.2.1
theorem Ev.int (hr : I.2.2.2.1 = some .int) (hd : decode I.2.1 pc = .ok (.ireturn, 1)) (h : Q a σ) : Ev I lay pc L [iv a] σ Q := Ev.iret hd hr rfl h
theorem Ev.bool (hr : I.2.2.2.1 = some .boolean) (hd : decode I.2.1 pc = .ok (.ireturn, 1)) (hb : a = 0 ∨ a = 1) (h : Q a σ) : Ev I lay pc L [iv a] σ Q := Ev.iret hd hr (by rcases hb with rfl | rfl <;> rfl) h
end EVR
end
section
/-! fields, rows, calls over flat stores -/
def ev_C (ci : Nat) (C : String) (T : u_T) (N : Nat) : Prop := vwCl[ci]? = some (C, T, N) ∧ (∀ w ∈ u_ws C T N, w ∈ ev_aw) ∧ (∃ ty0 : Nat → FieldType, ∀ k, k < N → parseFieldDescriptor (T k).2.2.1 = some (ty0 k)) ∧ ∀ a, a < N → ∀ b, b < N → a ≠ b → (T a).2.1 ≠ (T b).2.1
/-- the entry idx of own's pool names field k of class ci -/
def ev_F (own : String) (idx ci k : Nat) : Prop := ∃ (C : String) (T : u_T) (N : Nat), ev_C ci C T N ∧ k < N ∧ (Cond.fieldLink own idx (T k).1 (T k).2.1 (T k).2.2.1 ∈ ev_aw ∨ ∃ host, Cond.fieldLinkNest own idx (T k).1 (T k).2.1 (T k).2.2.1 host ∈ ev_nw)
def ev_Ft (ci k : Nat) (ty : FieldType) : Prop := ∃ (C : String) (T : u_T) (N : Nat), vwCl[ci]? = some (C, T, N) ∧ (T k).2.2.2 = false ∧ parseFieldDescriptor (T k).2.2.1 = some ty
/-- what a callee with n parameters needs of the tables -/
def ev_Yv (I' : ev_I) (n : Nat) : Prop := Cond.instanceMethod I'.1 ∈ ev_aw ∧ Cond.selects I'.1.cls I'.1 I'.1 ∈ ev_aw ∧ Cond.initialized I'.1.cls ∈ ev_aw ∧ Cond.code I'.1 I'.2.1 I'.2.2.1 I'.2.2.2.1 ∈ ev_aw ∧ (I'.1.cls ≠ "java/lang/invoke/MethodHandle" ∧ I'.1.cls ≠ "java/lang/invoke/VarHandle" ∧ (parseMethodDescriptor I'.1.desc).map (fun d => d.parameters.length) = some n) ∧ plainName I'.1.cls = true ∧ I'.2.2.2.2.cells = 0 ∧ I'.2.2.2.2.slots = 0
def ev_Ys (I' : ev_I) (n : Nat) : Prop := Cond.static I'.1 ∈ ev_aw ∧ Cond.initialized I'.1.cls ∈ ev_aw ∧ Cond.code I'.1 I'.2.1 I'.2.2.1 I'.2.2.2.1 ∈ ev_aw ∧ (I'.1.cls ≠ "java/lang/invoke/MethodHandle" ∧ I'.1.cls ≠ "java/lang/invoke/VarHandle" ∧ (parseMethodDescriptor I'.1.desc).map (fun d => d.parameters.length) = some n) ∧ plainName I'.1.cls = true ∧ I'.2.2.2.2.cells = 0 ∧ I'.2.2.2.2.slots = 0
def ev_Rm (I I' : ev_I) : Prop := I'.2.2.2.2.frames + 1 ≤ I.2.2.2.2.frames ∧ 8 + (I'.2.2.1 + 11) + I'.2.2.2.2.locals ≤ I.2.2.2.2.locals
theorem ev_fs_at {ad : Int → Nat} {σ : ev_M} {q : ev_Q} {k : Nat} (h : k < q.2.1) : (ev_fs ad σ q)[k]? = some (ev_fv ad σ q k) := by
  unfold ev_fs
  rw [List.getElem?_map, List.getElem?_range h]
  rfl
theorem ev_fs_len {ad : Int → Nat} {σ : ev_M} {q : ev_Q} : (ev_fs ad σ q).length = q.2.1 := by unfold ev_fs; rw [List.length_map, List.length_range]
theorem ev_fs_set {ad : Int → Nat} {σ : ev_M} {q : ev_Q} {k : Nat} (hk : k < q.2.1) (hd : ev_dl q.2.2.2 k = none) (v : Int) : (ev_fs ad σ q).set k (.int (Int32.ofInt v)) = ev_fs ad (ev_up σ (q.1 + (k : Int)) v) q := by
  apply List.ext_getElem?
  intro j
  by_cases hj : j = k
  · subst hj
    rw [List.getElem?_set_self (by rw [ev_fs_len]; exact hk), ev_fs_at hk]
    unfold ev_fv
    rw [hd, ev_up_eq]; rfl
  · rw [List.getElem?_set_ne (Ne.symm hj)]
    by_cases hl : j < q.2.1
    · rw [ev_fs_at hl, ev_fs_at hl]
      unfold ev_fv
      rw [ev_up_ne (by intro z; apply hj; omega)]
    · rw [List.getElem?_eq_none (by rw [ev_fs_len]; omega), List.getElem?_eq_none (by rw [ev_fs_len]; omega)]
theorem ev_av_at {σ : ev_M} {q : ev_Q} {j : Int} (h0 : 0 ≤ j) (h1 : j < (q.2.1 : Int)) : ev_av σ q j.toNat = Int32.ofInt (σ (q.1 + j)) := by
  unfold ev_av
  rw [if_pos (by omega), show ((j.toNat : Nat) : Int) = j by omega]
theorem ev_av_up {σ : ev_M} {q : ev_Q} {j : Int} (h0 : 0 ≤ j) (h1 : j < (q.2.1 : Int)) (v : Int) : upd (ev_av σ q) j.toNat (Int32.ofInt v) = ev_av (ev_up σ (q.1 + j) v) q := by
  funext i
  by_cases hi : i = j.toNat
  · subst hi
    rw [pk_us, ev_av_at h0 h1, ev_up_eq]
  · rw [pk_un hi]
    unfold ev_av
    by_cases hl : i < q.2.1
    · rw [if_pos hl, if_pos hl, ev_up_ne (by intro z; apply hi; omega)]
    · rw [if_neg hl, if_neg hl]
section EVH
variable {I : ev_I} {lay : ev_Y} {pc : Nat} {L : List (Option ev_V)} {S : List ev_V} {σ : ev_M} {Q : Int → ev_M → Prop} {a b o : Int} {sz ci k idx : Nat}
theorem ev_hts {I : ev_I} {args : Array Value} {s : State} {w : Cond} (h : ∀ w ∈ ev_ts I, w.before args s = true) (hw : w ∈ ev_aw) : w.before args s = true := h w (ev_aw_ts hw)
theorem Ev.getv (hd : decode I.2.1 pc = .ok (.getfield idx, 3)) (hf : ev_F I.1.cls idx ci k) (hm : (o, sz, 0, ci) ∈ lay) (hk : k < sz) {v : ev_V} (hv : ∀ ad, ev_fv ad σ (o, sz, 0, ci) k = ev_vl ad v) (hok : (∀ n, ev_in (σ n)) → ev_ok v) (kk : Ev I lay (pc + 3) L (v :: S) σ Q) : Ev I lay pc L (rv o :: S) σ Q := by
  intro p l e s m args below meth c E ls H locs X hL hS hW hV
  obtain ⟨C, T, N, ⟨c1, c2, -, -⟩, hkN, hlk⟩ := hf
  obtain ⟨w1, w2, w3, w4, w5, w6, w7⟩ := id hW
  obtain ⟨x1, x2, x3, x4, x5, x6, x7⟩ := id X
  obtain ⟨q0, hq0⟩ := ev_place hm (by simp)
  have he := ev_at (E := E) (σ := σ) hq0
  have hfs : (ev_fs E.1 σ (o, sz, 0, ci))[k]? = some (ev_vl E.1 v) := by rw [ev_fs_at (q := (o, sz, 0, ci)) hk, hv E.1]
  have kkk := kk p l e s m args below meth c E ls H locs X hL (ev_okc (hok w6) (ev_okt hS)) hW hV
  rcases hlk with hlk | ⟨host, hlk⟩
  · exact va_get (Ts := ev_ts I) (T := T) x1 x2 x7 (fun w h => ev_aw_ts (c2 w h)) x6 w3 w1 q0 he c1 k hkN (ev_hts x7 hlk) (fun _ h => h) hfs hd kkk
  · exact va_getN (Ts := ev_ts I) (T := T) x1 x2 x7 (fun w h => ev_aw_ts (c2 w h)) x6 w3 w1 q0 he c1 k hkN (va_Nw.use rfl (w4 _ hlk)) (fun _ h => h) hfs hd kkk
/-- getfield of a number at the place n -/
theorem Ev.geti (n : Int) (hd : decode I.2.1 pc = .ok (.getfield idx, 3)) (hf : ev_F I.1.cls idx ci k) (hm : (o, sz, 0, ci) ∈ lay) (hk : k < sz) (hdl : ev_dl ci k = none) (hn : o + (k : Int) = n) (kk : Ev I lay (pc + 3) L (iv (σ n) :: S) σ Q) : Ev I lay pc L (rv o :: S) σ Q :=
  Ev.getv hd hf hm hk (fun ad => by unfold ev_fv; show Option.elim (ev_dl ci k) _ _ = _; rw [hdl]; show Value.int (Int32.ofInt (σ (o + (k : Int)))) = _; rw [hn]; rfl) (fun h => ev_oki (h n)) kk
/-- getfield of a reference -/
theorem Ev.getr (o' : Int) {d : Int} (hd : decode I.2.1 pc = .ok (.getfield idx, 3)) (hf : ev_F I.1.cls idx ci k) (hm : (o, sz, 0, ci) ∈ lay) (hk : k < sz) (hdl : ev_dl ci k = some d) (hn : o + d = o') (kk : Ev I lay (pc + 3) L (rv o' :: S) σ Q) : Ev I lay pc L (rv o :: S) σ Q :=
  Ev.getv hd hf hm hk (fun ad => by unfold ev_fv; show Option.elim (ev_dl ci k) _ _ = _; rw [hdl]; show Value.ref (ad (o + d)) = _; rw [hn]; rfl) (fun _ => ev_okr o') kk
theorem Ev.putv (hd : decode I.2.1 pc = .ok (.putfield idx, 3)) (hf : ev_F I.1.cls idx ci k) {ty : FieldType} (ht : ev_Ft ci k ty) (hm : (o, sz, 0, ci) ∈ lay) (hk : k < sz) (hdl : ev_dl ci k = none) (hn : narrow ty (.int (Int32.ofInt a)) = .int (Int32.ofInt a)) (hfit : fits ty (.int (Int32.ofInt a)) = true) (kk : Ev I lay (pc + 3) L S (ev_up σ (o + (k : Int)) a) Q) : Ev I lay pc L (iv a :: rv o :: S) σ Q := by
  intro p l e s m args below meth c E ls H locs X hL hS hW hV
  obtain ⟨C, T, N, ⟨c1, c2, ⟨ty0, c3⟩, c4⟩, hkN, hlk⟩ := hf
  obtain ⟨C', T', N', t1, t2, t3⟩ := ht
  rw [c1] at t1
  obtain ⟨rfl, rfl, rfl⟩ : C = C' ∧ T = T' ∧ N = N' := by cases t1; exact ⟨rfl, rfl, rfl⟩
  obtain ⟨w1, w2, w3, w4, w5, w6, w7⟩ := id hW
  obtain ⟨x1, x2, x3, x4, x5, x6, x7⟩ := id X
  obtain ⟨q0, hq0⟩ := ev_place hm (by simp)
  have he := ev_at (E := E) (σ := σ) hq0
  have ha := ev_okh hS
  have hcell : ∀ x, x = (Sum.inr (ci, (ev_fs E.1 σ (o, sz, 0, ci)).set k (.int (Int32.ofInt a))) : va_E) → x = ev_cell E (ev_up σ (o + (k : Int)) a) (o, sz, 0, ci) := by
    intro x hx
    rw [hx, ev_fs_set (q := (o, sz, 0, ci)) hk hdl a]
    rfl
  have key : ∀ (H1 : Heap) (locs1 : List Loc), va_P E.2.1 vwCl ((ev_ws lay E σ).set q0 (E.1 o, .inr (ci, (ev_fs E.1 σ (o, sz, 0, ci)).set k (.int (Int32.ofInt a))))) H1 → va_D (ev_A lay E) ((ev_ws lay E σ).set q0 (E.1 o, .inr (ci, (ev_fs E.1 σ (o, sz, 0, ci)).set k (.int (Int32.ofInt a))))) → va_S (ev_A lay E) s.heap H1 locs1 → W p l e I.2.2.2.2 s m args below meth c H1 locs1 0 0 (MQ below (ev_post I lay E Q) args s 0 0 (ev_A lay E)) (F0 m (pc + 3) ls (S.map (ev_vl E.1))) := by
    intro H1 locs1 hP1 hD1 hS1
    have hset : (ev_ws lay E σ).set q0 (E.1 o, .inr (ci, (ev_fs E.1 σ (o, sz, 0, ci)).set k (.int (Int32.ofInt a)))) = ev_ws lay E (ev_up σ (o + (k : Int)) a) := ev_ws_set (q := (o, sz, 0, ci)) w7 hq0 (by show o ≤ o + (k : Int); omega) (by show o + (k : Int) < o + (sz : Int); omega) (hcell _ rfl)
    rw [hset] at hP1 hD1
    exact kk p l e s m args below meth c E ls H1 locs1 X hL (ev_okt (ev_okt hS)) ⟨hP1, hD1, w3, w4, ev_St_up (q := (o, sz, 0, ci)) w7 hm (by simp) (by show o ≤ o + (k : Int); omega) (by show o + (k : Int) < o + (sz : Int); omega) w5, ev_in_up w6 ha, w7⟩ hS1
  have hl : k < (ev_fs E.1 σ (o, sz, 0, ci)).length := by rw [ev_fs_len]; exact hk
  rcases hlk with hlk | ⟨host, hlk⟩
  · exact va_put (Ts := ev_ts I) (T := T) x1 x2 x7 (fun w h => ev_aw_ts (c2 w h)) ty0 c3 c4 x6 w3 w1 w2 hV q0 he c1 k hkN (ev_hts x7 hlk) (fun _ h => h) t2 t3 hn hfit hl hd key
  · exact va_putN (Ts := ev_ts I) (T := T) x1 x2 x7 (fun w h => ev_aw_ts (c2 w h)) ty0 c3 c4 x6 w3 w1 w2 hV q0 he c1 k hkN (va_Nw.use rfl (w4 _ hlk)) (fun _ h => h) t2 t3 hn hfit hl hd key
theorem Ev.puti (n : Int) (hd : decode I.2.1 pc = .ok (.putfield idx, 3)) (hf : ev_F I.1.cls idx ci k) (ht : ev_Ft ci k .int) (hm : (o, sz, 0, ci) ∈ lay) (hk : k < sz) (hdl : ev_dl ci k = none) (hn : o + (k : Int) = n) (kk : Ev I lay (pc + 3) L S (ev_up σ n a) Q) : Ev I lay pc L (iv a :: rv o :: S) σ Q :=
  Ev.putv hd hf ht hm hk hdl rfl rfl (by rw [hn]; exact kk)
theorem Ev.putz (n : Int) (hd : decode I.2.1 pc = .ok (.putfield idx, 3)) (hf : ev_F I.1.cls idx ci k) (ht : ev_Ft ci k .boolean) (hm : (o, sz, 0, ci) ∈ lay) (hk : k < sz) (hdl : ev_dl ci k = none) (hn : o + (k : Int) = n) (hb : a = 0 ∨ a = 1) (kk : Ev I lay (pc + 3) L S (ev_up σ n a) Q) : Ev I lay pc L (iv a :: rv o :: S) σ Q :=
  Ev.putv hd hf ht hm hk hdl (by rcases hb with rfl | rfl <;> rfl) (by rcases hb with rfl | rfl <;> rfl) (by rw [hn]; exact kk)
theorem Ev.iald {kd : Nat} (hd : decode I.2.1 pc = .ok (.iaload, 1)) (hm : (o, sz, kd, ci) ∈ lay) (hkd : kd = 1 ∨ kd = 4) (h0 : 0 ≤ a) (h1 : a < (sz : Int)) (kk : Ev I lay (pc + 1) L (iv (σ (o + a)) :: S) σ Q) : Ev I lay pc L (iv a :: rv o :: S) σ Q := by
  intro p l e s m args below meth c E ls H locs X hL hS hW hV
  obtain ⟨w1, w2, w3, w4, w5, w6, w7⟩ := id hW
  obtain ⟨x1, x2, x3, x4, x5, x6, x7⟩ := id X
  have ha := ev_okh hS
  have kkk := kk p l e s m args below meth c E ls H locs X hL (ev_okc (ev_oki (w6 _)) (ev_okt (ev_okt hS))) hW hV
  have hval : ev_av σ (o, sz, kd, ci) (Int32.ofInt a).toNatClampNeg = Int32.ofInt (σ (o + a)) := by rw [ev_clamp ha h0]; exact ev_av_at (q := (o, sz, kd, ci)) h0 h1
  rcases hkd with rfl | rfl
  · obtain ⟨q0, hq0⟩ := ev_place hm (by simp)
    have he := ev_at (E := E) (σ := σ) hq0
    refine va_iald x1 x2 w3 w1 q0 0 he rfl (ev_vpin ha h0 h1) hd ?_
    rw [hval]
    exact kkk
  · obtain ⟨-, hT⟩ := w5 _ hm rfl
    refine va_ti x1 x2 hT hV (ev_vpin ha h0 h1) (v := .int (Int32.ofInt (σ (o + a)))) (by rw [hval]) hd kkk
theorem Ev.cald (hd : decode I.2.1 pc = .ok (.caload, 1)) (hm : (o, sz, 2, ci) ∈ lay) (h0 : 0 ≤ a) (h1 : a < (sz : Int)) (kk : Ev I lay (pc + 1) L (iv (σ (o + a)) :: S) σ Q) : Ev I lay pc L (iv a :: rv o :: S) σ Q := by
  intro p l e s m args below meth c E ls H locs X hL hS hW hV
  obtain ⟨w1, w2, w3, w4, w5, w6, w7⟩ := id hW
  obtain ⟨x1, x2, x3, x4, x5, x6, x7⟩ := id X
  have ha := ev_okh hS
  have kkk := kk p l e s m args below meth c E ls H locs X hL (ev_okc (ev_oki (w6 _)) (ev_okt (ev_okt hS))) hW hV
  have hval : ev_av σ (o, sz, 2, ci) (Int32.ofInt a).toNatClampNeg = Int32.ofInt (σ (o + a)) := by rw [ev_clamp ha h0]; exact ev_av_at (q := (o, sz, 2, ci)) h0 h1
  obtain ⟨q0, hq0⟩ := ev_place hm (by simp)
  have he := ev_at (E := E) (σ := σ) hq0
  refine va_cald x1 x2 w3 w1 q0 1 he rfl (ev_vpin ha h0 h1) hd ?_
  rw [hval]
  exact kkk
theorem Ev.aald (hd : decode I.2.1 pc = .ok (.aaload, 1)) (hm : (o, sz, 3, ci) ∈ lay) (h0 : 0 ≤ a) (h1 : a < (sz : Int)) (kk : Ev I lay (pc + 1) L (rv (1000 + 100 * a) :: S) σ Q) : Ev I lay pc L (iv a :: rv o :: S) σ Q := by
  intro p l e s m args below meth c E ls H locs X hL hS hW hV
  obtain ⟨w1, w2, w3, w4, w5, w6, w7⟩ := id hW
  obtain ⟨x1, x2, x3, x4, x5, x6, x7⟩ := id X
  have ha := ev_okh hS
  have kkk := kk p l e s m args below meth c E ls H locs X hL (ev_okc (ev_okr _) (ev_okt (ev_okt hS))) hW hV
  obtain ⟨q0, hq0⟩ := ev_place hm (by simp)
  have he := ev_at (E := E) (σ := σ) hq0
  refine va_aldq x1 x2 w3 w1 q0 2 he rfl (ev_vpin ha h0 h1) hd ?_
  have e1 : E.1 (1000 + 100 * (((Int32.ofInt a).toNatClampNeg : Nat) : Int)) = E.1 (1000 + 100 * a) := by rw [ev_clamp ha h0, show ((a.toNat : Nat) : Int) = a by omega]
  show W p l e I.2.2.2.2 s m args below meth c H locs 0 0 _ (F0 m (pc + 1) ls (Value.ref (E.1 (1000 + 100 * (((Int32.ofInt a).toNatClampNeg : Nat) : Int))) :: S.map (ev_vl E.1)))
  rw [e1]
  exact kkk
theorem Ev.iast (hd : decode I.2.1 pc = .ok (.iastore, 1)) (hm : (o, sz, 1, ci) ∈ lay) (h0 : 0 ≤ a) (h1 : a < (sz : Int)) (kk : Ev I lay (pc + 1) L S (ev_up σ (o + a) b) Q) : Ev I lay pc L (iv b :: iv a :: rv o :: S) σ Q := by
  intro p l e s m args below meth c E ls H locs X hL hS hW hV
  obtain ⟨w1, w2, w3, w4, w5, w6, w7⟩ := id hW
  obtain ⟨x1, x2, x3, x4, x5, x6, x7⟩ := id X
  have hb := ev_okh hS
  have ha := ev_okh (ev_okt hS)
  obtain ⟨q0, hq0⟩ := ev_place hm (by simp)
  have he := ev_at (E := E) (σ := σ) hq0
  refine va_iast x1 x2 w3 w1 w2 hV q0 0 he rfl (ev_vpin ha h0 h1) hd (fun H1 locs1 hP1 hD1 hS1 => ?_)
  rw [ev_clamp ha h0] at hP1 hD1
  have hset := ev_ws_set (E := E) (σ := σ) (q := (o, sz, 1, ci)) w7 hq0 (n := o + a) (v := b) (by show o ≤ o + a; omega) (by show o + a < o + (sz : Int); omega) (x := .inl (E.2.2.1, sz, .inl (upd (ev_av σ (o, sz, 1, ci)) a.toNat (Int32.ofInt b)))) (by rw [ev_av_up (q := (o, sz, 1, ci)) h0 h1 b]; rfl)
  rw [hset] at hP1 hD1
  exact kk p l e s m args below meth c E ls H1 locs1 X hL (ev_okt (ev_okt (ev_okt hS))) ⟨hP1, hD1, w3, w4, ev_St_up (q := (o, sz, 1, ci)) w7 hm (by simp) (by show o ≤ o + a; omega) (by show o + a < o + (sz : Int); omega) w5, ev_in_up w6 hb, w7⟩ hS1
theorem Ev.cast (hd : decode I.2.1 pc = .ok (.castore, 1)) (hm : (o, sz, 2, ci) ∈ lay) (h0 : 0 ≤ a) (h1 : a < (sz : Int)) (hc : vp_nar .char (Int32.ofInt b) = Int32.ofInt b) (kk : Ev I lay (pc + 1) L S (ev_up σ (o + a) b) Q) : Ev I lay pc L (iv b :: iv a :: rv o :: S) σ Q := by
  intro p l e s m args below meth c E ls H locs X hL hS hW hV
  obtain ⟨w1, w2, w3, w4, w5, w6, w7⟩ := id hW
  obtain ⟨x1, x2, x3, x4, x5, x6, x7⟩ := id X
  have hb := ev_okh hS
  have ha := ev_okh (ev_okt hS)
  obtain ⟨q0, hq0⟩ := ev_place hm (by simp)
  have he := ev_at (E := E) (σ := σ) hq0
  refine va_cast x1 x2 w3 w1 w2 hV q0 1 he rfl (ev_vpin ha h0 h1) hd (fun H1 locs1 hP1 hD1 hS1 => ?_)
  rw [ev_clamp ha h0, hc] at hP1 hD1
  have hset := ev_ws_set (E := E) (σ := σ) (q := (o, sz, 2, ci)) w7 hq0 (n := o + a) (v := b) (by show o ≤ o + a; omega) (by show o + a < o + (sz : Int); omega) (x := .inl (E.2.2.2.1, sz, .inl (upd (ev_av σ (o, sz, 2, ci)) a.toNat (Int32.ofInt b)))) (by rw [ev_av_up (q := (o, sz, 2, ci)) h0 h1 b]; rfl)
  rw [hset] at hP1 hD1
  exact kk p l e s m args below meth c E ls H1 locs1 X hL (ev_okt (ev_okt (ev_okt hS))) ⟨hP1, hD1, w3, w4, ev_St_up (q := (o, sz, 2, ci)) w7 hm (by simp) (by show o ≤ o + a; omega) (by show o + a < o + (sz : Int); omega) w5, ev_in_up w6 hb, w7⟩ hS1
theorem Ev.gets (hd : decode I.2.1 pc = .ok (.getstatic idx, 3)) (hm : (o, sz, 4, k) ∈ lay) (hl : Cond.fieldLink I.1.cls idx "TalkBus" (ev_sn k) "[I" ∈ ev_aw ∨ ∃ host, Cond.fieldLinkNest I.1.cls idx "TalkBus" (ev_sn k) "[I" host ∈ ev_nw) (kk : Ev I lay (pc + 3) L (rv o :: S) σ Q) : Ev I lay pc L S σ Q := by
  intro p l e s m args below meth c E ls H locs X hL hS hW hV
  obtain ⟨w1, w2, w3, w4, w5, w6, w7⟩ := id hW
  obtain ⟨x1, x2, x3, x4, x5, x6, x7⟩ := id X
  have kkk := kk p l e s m args below meth c E ls H locs X hL (ev_okc (ev_okr _) hS) hW hV
  obtain ⟨hZ, -⟩ := w5 _ hm rfl
  rcases hl with hl | ⟨host, hl⟩
  · exact va_gets x1 x2 hZ hV x6 (ev_hts x7 hl) (fun _ h => h) hd kkk
  · exact va_getsN x1 x2 hZ hV x6 (va_Nw.use rfl (w4 _ hl)) (fun _ h => h) hd kkk
end EVH
end
section
/-! calls over flat stores -/
theorem ev_sl {ad : Int → Nat} : ∀ As : List ev_V, lg_sl (As.map (ev_vl ad)) = As.map (fun v => Slot.val (ev_vl ad v))
  | [] => rfl
  | a :: As => by
    show (if (ev_vl ad a).category = 2 then _ else _) ++ lg_sl (As.map (ev_vl ad)) = _
    rw [ev_cat, if_neg (by decide), ev_sl As]
    rfl
theorem ev_args {ad : Int → Nat} : ∀ (As : List ev_V) (i k : Nat) (v : ev_V), As[k]? = some v → (i + k, ev_vl ad v) ∈ lv_args i (As.map (ev_vl ad))
  | [], _, k, v, h => by simp at h
  | a :: As, i, k, v, h => by
    show _ ∈ (i, ev_vl ad a) :: lv_args (if (ev_vl ad a).category = 2 then i + 2 else i + 1) (As.map (ev_vl ad))
    rw [ev_cat, if_neg (by decide)]
    cases k with
    | zero =>
      have e : a = v := Option.some.inj h
      rw [e]
      exact List.mem_cons_self
    | succ k =>
      have := ev_args (ad := ad) As (i + 1) k v h
      rw [show i + 1 + k = i + (k + 1) by omega] at this
      exact List.mem_cons_of_mem _ this
theorem ev_met {I' : ev_I} {lay : ev_Y} {σ : ev_M} {Q' : Int → ev_M → Prop} (l : Launch) (E : ev_E) (As : List ev_V) (hA : ∀ v ∈ As, ev_ok v) (hlen : As.length ≤ I'.2.2.1) (hpl : plainName I'.1.cls = true) (h : Ev I' lay 0 (As.map some ++ List.replicate (I'.2.2.1 - As.length) none) [] σ Q') :
    Met l I'.1 (ev_ts I') I'.2.2.2.2 (va_Pc (As.map (ev_vl E.1)) (fun U => ev_W lay E σ U U.heap)) (ev_post I' lay E Q') 0 0 (ev_A lay E) := by
  refine Met.ofW (cc := I'.2.1) (maxL := I'.2.2.1) (ret := I'.2.2.2.1) hpl rfl ?_
  intro p e s m args below meth c s₁ B hml hv
  obtain ⟨rfl, hW⟩ := hv
  have hl := lv_entry (As.map (ev_vl E.1)) (n := I'.2.2.1) (by rw [ev_sl, List.length_map]; exact hlen)
  rw [lg_entry_eq]
  generalize (lg_sl (As.map (ev_vl E.1)) ++ List.replicate (I'.2.2.1 - (lg_sl (As.map (ev_vl E.1))).length) Slot.unset).toArray = ls at hl ⊢
  refine h p l e s m _ below meth c E ls s.heap [] ⟨B.exec, B.bytes, hml, B.returns, B.notSynchronized, findClass_of_methodNamed B.named, atoms_spec (ws := ev_ts I') B.pre⟩ ⟨hl.1, hl.2.1, ?_, ?_, ?_⟩ (fun v hv => by simp at hv) hW va_S.rf
  · simp; omega
  · intro k v hk
    have hk2 : As[k]? = some v := by
      by_cases hlt : k < As.length
      · rw [List.getElem?_append_left (by rw [List.length_map]; exact hlt), List.getElem?_map] at hk
        cases hq : As[k]? with
        | none => rw [hq] at hk; cases hk
        | some x => rw [hq] at hk; rw [Option.some.inj (Option.some.inj hk)]
      · rw [List.getElem?_append_right (by rw [List.length_map]; omega)] at hk
        have := List.mem_of_getElem? hk
        rw [List.mem_replicate] at this
        cases this.2
    have := hl.2.2 _ (ev_args (ad := E.1) As 0 k v hk2)
    rw [Nat.zero_add] at this
    exact this
  · intro v hv
    rcases List.mem_append.mp hv with h1 | h1
    · obtain ⟨x, hx, e1⟩ := List.mem_map.mp h1
      rw [← Option.some.inj e1]
      exact hA x hx
    · rw [List.mem_replicate] at h1
      cases h1.2
theorem ev_goodv {I I' : ev_I} {idx n : Nat} (hl : Cond.methodLink I.1.cls idx I'.1 ∈ ev_aw) (hy : ev_Yv I' n) : GoodIn (ev_ts I) (wsV I.1.cls idx I'.1.cls I'.1 (ev_ts I')) := by
  have g : ∀ w ∈ ev_aw, w ∈ ev_ts I ∧ ((w.onTables && w.keeps) = true ∨ ∃ ty, w = .arrayClass ty) := fun w h => ⟨ev_aw_ts h, good_of_word (List.mem_filter.mp h).2⟩
  obtain ⟨y1, y2, y3, y4, -⟩ := hy
  intro w hw
  unfold wsV ev_ts at hw
  rcases List.mem_append.mp hw with h | h
  · simp only [List.mem_cons, List.not_mem_nil, or_false] at h
    rcases h with rfl | rfl | rfl | rfl
    · exact g _ hl
    · exact g _ y1
    · exact g _ y2
    · exact g _ y3
  · rcases List.mem_cons.mp h with rfl | h
    · exact g _ y4
    · exact g _ h
theorem ev_goods {I I' : ev_I} {idx n : Nat} (hl : Cond.methodLink I.1.cls idx I'.1 ∈ ev_aw) (hy : ev_Ys I' n) : GoodIn (ev_ts I) (va_wsS I.1.cls idx I'.1 (ev_ts I')) := by
  have g : ∀ w ∈ ev_aw, w ∈ ev_ts I ∧ ((w.onTables && w.keeps) = true ∨ ∃ ty, w = .arrayClass ty) := fun w h => ⟨ev_aw_ts h, good_of_word (List.mem_filter.mp h).2⟩
  obtain ⟨y1, y3, y4, -⟩ := hy
  intro w hw
  unfold va_wsS ev_ts at hw
  rcases List.mem_append.mp hw with h | h
  · simp only [List.mem_cons, List.not_mem_nil, or_false] at h
    rcases h with rfl | rfl | rfl
    · exact g _ hl
    · exact g _ y1
    · exact g _ y3
  · rcases List.mem_cons.mp h with rfl | h
    · exact g _ y4
    · exact g _ h
theorem ev_goodt {I I' : ev_I} {n : Nat} (hy : ev_Ys I' n) : GoodIn (ev_ts I) (ev_ts I') := by
  have g : ∀ w ∈ ev_aw, w ∈ ev_ts I ∧ ((w.onTables && w.keeps) = true ∨ ∃ ty, w = .arrayClass ty) := fun w h => ⟨ev_aw_ts h, good_of_word (List.mem_filter.mp h).2⟩
  obtain ⟨y1, y3, y4, -⟩ := hy
  intro w hw
  rcases List.mem_cons.mp hw with rfl | h
  · exact g _ y4
  · exact g _ h
theorem ev_sumc {ad : Int → Nat} : ∀ S : List ev_V, ((S.map (ev_vl ad)).map fun v => v.category).sum = S.length
  | [] => rfl
  | a :: S => by
    rw [List.map_cons, List.map_cons, List.sum_cons, ev_sumc S, ev_cat, List.length_cons]; omega
theorem ev_blind {lay : ev_Y} {E : ev_E} {σ : ev_M} {av : List Value} : FrameBlind (va_Pc av (fun U => ev_W lay E σ U U.heap)) := fun a U g mk h => ⟨h.1, h.2.blind rfl rfl⟩
section EVC
variable {I I' : ev_I} {lay : ev_Y} {pc : Nat} {L : List (Option ev_V)} {S As : List ev_V} {σ : ev_M} {Q Q' : Int → ev_M → Prop} {o : Int} {sz ci idx n : Nat}
theorem ev_okA (h : ∀ v ∈ As.reverse ++ S, ev_ok v) : (∀ v ∈ As, ev_ok v) ∧ ∀ v ∈ S, ev_ok v := ⟨fun v hv => h v (List.mem_append_left _ (List.mem_reverse.mpr hv)), fun v hv => h v (List.mem_append_right _ hv)⟩
theorem Ev.callVi (hd : decode I.2.1 pc = .ok (.invokevirtual idx, 3)) (hl : Cond.methodLink I.1.cls idx I'.1 ∈ ev_aw) (hy : ev_Yv I' n) (hm : (o, sz, 0, ci) ∈ lay) (hci : vwCl[ci]?.map (fun q => q.1) = some I'.1.cls) (hn : As.length = n) (hLL : As.length + 1 ≤ I'.2.2.1) (hR : ev_Rm I I') (hs : S.length ≤ 8) {ty : FieldType} (hr : I'.2.2.2.1 = some ty) (h : Ev I' lay 0 ((rv o :: As).map some ++ List.replicate (I'.2.2.1 - (rv o :: As).length) none) [] σ Q') (k : ∀ r σ', ev_in r → Q' r σ' → Ev I lay (pc + 3) L (iv r :: S) σ' Q) : Ev I lay pc L (As.reverse ++ rv o :: S) σ Q := by
  intro p l e s m args below meth c E ls H locs X hL hS hW hV
  obtain ⟨w1, w2, w3, w4, w5, w6, w7⟩ := id hW
  obtain ⟨x1, x2, x3, x4, x5, x6, x7⟩ := id X
  obtain ⟨okA, okS⟩ := ev_okA hS
  obtain ⟨y1, y2, y3, y4, y5, y6, y7, y8⟩ := id hy
  obtain ⟨q0, hq0⟩ := ev_place hm (by simp)
  have he := ev_at (E := E) (σ := σ) hq0
  obtain ⟨vq, hvq, hve⟩ : ∃ vq, vwCl[ci]? = some vq ∧ vq.1 = I'.1.cls := by
    cases hx : vwCl[ci]? with
    | none => rw [hx] at hci; cases hci
    | some x => rw [hx] at hci; exact ⟨x, rfl, Option.some.inj hci⟩
  have hM := ev_met l E (rv o :: As) (ev_okc (ev_okr o) okA) (by simpa using hLL) y6 h
  have hpo : ev_post I' lay E Q' = va_Qi (fun (r : Int32) (σ' : ev_M) => ∃ i, ev_in i ∧ r = Int32.ofInt i ∧ Q' i σ') (fun σ' t => ev_W lay E σ' t t.heap) (ev_A lay E) := by unfold ev_post; rw [if_neg (by rw [hr]; simp)]
  rw [hpo] at hM
  have hrv := va_recv w3 w1 hvq he
  rw [hve] at hrv
  have hrun := va_runV (p := p) (l := l) (e := e) (R := I.2.2.2.2) (below := below) (meth := meth) (locs := locs) (cells := 0) (slots := 0) (g := F0 m pc ls ((As.reverse ++ rv o :: S).map (ev_vl E.1))) (As := As.map (ev_vl E.1)) (rest := S.map (ev_vl E.1)) ⟨x1, x2, x3, x6, x7⟩ hM (cwV n x7 (ev_goodv hl hy) rfl y7 y8 ⟨rfl, y5⟩ hR) ⟨ev_blind, hrv, fun U hU hWm => ⟨rfl, hW.moved hV hU hWm⟩⟩ rfl (by rw [List.length_map]; exact hn) hL.1 (by simp [ev_vl, List.map_append, List.map_reverse]) (lv_room (by rw [ev_sumc]; exact hs)) hd ⟨Nat.zero_le _, Nat.zero_le _⟩
  refine va_calli hrun hV (fun q _ h => h) (fun q h => h) (fun r u t H1 locs1 ht hvm hp hB hz hk hS1 => ?_)
  obtain ⟨i, hi, rfl, hq⟩ := hp
  exact k i u hi hq p l e s m args below meth c E ls H1 locs1 X hL (ev_okc (ev_oki hi) (ev_okt okS)) (hW.back hB ht hS1) hS1
theorem Ev.callVv (hd : decode I.2.1 pc = .ok (.invokevirtual idx, 3)) (hl : Cond.methodLink I.1.cls idx I'.1 ∈ ev_aw) (hy : ev_Yv I' n) (hm : (o, sz, 0, ci) ∈ lay) (hci : vwCl[ci]?.map (fun q => q.1) = some I'.1.cls) (hn : As.length = n) (hLL : As.length + 1 ≤ I'.2.2.1) (hR : ev_Rm I I') (hs : S.length ≤ 8) (hr : I'.2.2.2.1 = none) (h : Ev I' lay 0 ((rv o :: As).map some ++ List.replicate (I'.2.2.1 - (rv o :: As).length) none) [] σ Q') (k : ∀ σ', Q' 0 σ' → Ev I lay (pc + 3) L S σ' Q) : Ev I lay pc L (As.reverse ++ rv o :: S) σ Q := by
  intro p l e s m args below meth c E ls H locs X hL hS hW hV
  obtain ⟨w1, w2, w3, w4, w5, w6, w7⟩ := id hW
  obtain ⟨x1, x2, x3, x4, x5, x6, x7⟩ := id X
  obtain ⟨okA, okS⟩ := ev_okA hS
  obtain ⟨y1, y2, y3, y4, y5, y6, y7, y8⟩ := id hy
  obtain ⟨q0, hq0⟩ := ev_place hm (by simp)
  have he := ev_at (E := E) (σ := σ) hq0
  obtain ⟨vq, hvq, hve⟩ : ∃ vq, vwCl[ci]? = some vq ∧ vq.1 = I'.1.cls := by
    cases hx : vwCl[ci]? with
    | none => rw [hx] at hci; cases hci
    | some x => rw [hx] at hci; exact ⟨x, rfl, Option.some.inj hci⟩
  have hM := ev_met l E (rv o :: As) (ev_okc (ev_okr o) okA) (by simpa using hLL) y6 h
  have hpo : ev_post I' lay E Q' = va_Qv (fun σ' : ev_M => Q' 0 σ') (fun σ' t => ev_W lay E σ' t t.heap) (ev_A lay E) := by unfold ev_post; rw [if_pos hr]
  rw [hpo] at hM
  have hrv := va_recv w3 w1 hvq he
  rw [hve] at hrv
  have hrun := va_runV (p := p) (l := l) (e := e) (R := I.2.2.2.2) (below := below) (meth := meth) (locs := locs) (cells := 0) (slots := 0) (g := F0 m pc ls ((As.reverse ++ rv o :: S).map (ev_vl E.1))) (As := As.map (ev_vl E.1)) (rest := S.map (ev_vl E.1)) ⟨x1, x2, x3, x6, x7⟩ hM (cwV n x7 (ev_goodv hl hy) rfl y7 y8 ⟨rfl, y5⟩ hR) ⟨ev_blind, hrv, fun U hU hWm => ⟨rfl, hW.moved hV hU hWm⟩⟩ rfl (by rw [List.length_map]; exact hn) hL.1 (by simp [ev_vl, List.map_append, List.map_reverse]) (lv_room (by rw [ev_sumc]; exact hs)) hd ⟨Nat.zero_le _, Nat.zero_le _⟩
  refine va_callv hrun hV (fun q _ h => h) (fun q h => h) (fun u t H1 locs1 ht hvm hp hB hz hk hS1 => ?_)
  exact k u hp p l e s m args below meth c E ls H1 locs1 X hL (ev_okt okS) (hW.back hB ht hS1) hS1
theorem Ev.callSi (hd : decode I.2.1 pc = .ok (.invokestatic idx, 3)) (hl : Cond.methodLink I.1.cls idx I'.1 ∈ ev_aw) (hy : ev_Ys I' n) (hn : As.length = n) (hLL : As.length ≤ I'.2.2.1) (hR : ev_Rm I I') (hs : S.length ≤ 8) {ty : FieldType} (hr : I'.2.2.2.1 = some ty) (h : Ev I' lay 0 ((As).map some ++ List.replicate (I'.2.2.1 - (As).length) none) [] σ Q') (k : ∀ r σ', ev_in r → Q' r σ' → Ev I lay (pc + 3) L (iv r :: S) σ' Q) : Ev I lay pc L (As.reverse ++ S) σ Q := by
  intro p l e s m args below meth c E ls H locs X hL hS hW hV
  obtain ⟨w1, w2, w3, w4, w5, w6, w7⟩ := id hW
  obtain ⟨x1, x2, x3, x4, x5, x6, x7⟩ := id X
  obtain ⟨okA, okS⟩ := ev_okA hS
  obtain ⟨y1, y3, y4, y5, y6, y7, y8⟩ := id hy
  have hM := ev_met l E (As) okA (by simpa using hLL) y6 h
  have hpo : ev_post I' lay E Q' = va_Qi (fun (r : Int32) (σ' : ev_M) => ∃ i, ev_in i ∧ r = Int32.ofInt i ∧ Q' i σ') (fun σ' t => ev_W lay E σ' t t.heap) (ev_A lay E) := by unfold ev_post; rw [if_neg (by rw [hr]; simp)]
  rw [hpo] at hM
  have hrun := va_runS (p := p) (l := l) (e := e) (R := I.2.2.2.2) (below := below) (meth := meth) (locs := locs) (cells := 0) (slots := 0) (g := F0 m pc ls ((As.reverse ++ S).map (ev_vl E.1))) (As := As.map (ev_vl E.1)) (rest := S.map (ev_vl E.1)) ⟨x1, x2, x3, x6, x7⟩ hM (va_cwS n x7 (ev_goods hl hy) rfl y7 y8 y5 hR) ⟨ev_blind, fun U hU hWm => ⟨rfl, hW.moved hV hU hWm⟩⟩ rfl (by rw [List.length_map]; exact hn) hL.1 (by simp [ev_vl, List.map_append, List.map_reverse]) (lv_room (by rw [ev_sumc]; exact hs)) hd ⟨Nat.zero_le _, Nat.zero_le _⟩
  refine va_calli hrun hV (fun q _ h => h) (fun q h => h) (fun r u t H1 locs1 ht hvm hp hB hz hk hS1 => ?_)
  obtain ⟨i, hi, rfl, hq⟩ := hp
  exact k i u hi hq p l e s m args below meth c E ls H1 locs1 X hL (ev_okc (ev_oki hi) okS) (hW.back hB ht hS1) hS1
theorem Ev.callSv (hd : decode I.2.1 pc = .ok (.invokestatic idx, 3)) (hl : Cond.methodLink I.1.cls idx I'.1 ∈ ev_aw) (hy : ev_Ys I' n) (hn : As.length = n) (hLL : As.length ≤ I'.2.2.1) (hR : ev_Rm I I') (hs : S.length ≤ 8) (hr : I'.2.2.2.1 = none) (h : Ev I' lay 0 ((As).map some ++ List.replicate (I'.2.2.1 - (As).length) none) [] σ Q') (k : ∀ σ', Q' 0 σ' → Ev I lay (pc + 3) L S σ' Q) : Ev I lay pc L (As.reverse ++ S) σ Q := by
  intro p l e s m args below meth c E ls H locs X hL hS hW hV
  obtain ⟨w1, w2, w3, w4, w5, w6, w7⟩ := id hW
  obtain ⟨x1, x2, x3, x4, x5, x6, x7⟩ := id X
  obtain ⟨okA, okS⟩ := ev_okA hS
  obtain ⟨y1, y3, y4, y5, y6, y7, y8⟩ := id hy
  have hM := ev_met l E (As) okA (by simpa using hLL) y6 h
  have hpo : ev_post I' lay E Q' = va_Qv (fun σ' : ev_M => Q' 0 σ') (fun σ' t => ev_W lay E σ' t t.heap) (ev_A lay E) := by unfold ev_post; rw [if_pos hr]
  rw [hpo] at hM
  have hrun := va_runS (p := p) (l := l) (e := e) (R := I.2.2.2.2) (below := below) (meth := meth) (locs := locs) (cells := 0) (slots := 0) (g := F0 m pc ls ((As.reverse ++ S).map (ev_vl E.1))) (As := As.map (ev_vl E.1)) (rest := S.map (ev_vl E.1)) ⟨x1, x2, x3, x6, x7⟩ hM (va_cwS n x7 (ev_goods hl hy) rfl y7 y8 y5 hR) ⟨ev_blind, fun U hU hWm => ⟨rfl, hW.moved hV hU hWm⟩⟩ rfl (by rw [List.length_map]; exact hn) hL.1 (by simp [ev_vl, List.map_append, List.map_reverse]) (lv_room (by rw [ev_sumc]; exact hs)) hd ⟨Nat.zero_le _, Nat.zero_le _⟩
  refine va_callv hrun hV (fun q _ h => h) (fun q h => h) (fun u t H1 locs1 ht hvm hp hB hz hk hS1 => ?_)
  exact k u hp p l e s m args below meth c E ls H1 locs1 X hL okS (hW.back hB ht hS1) hS1
theorem Ev.callNi (hd : decode I.2.1 pc = .ok (.invokestatic idx, 3)) {host : String} (hl : Cond.methodLinkNest I.1.cls idx I'.1 host ∈ ev_nw) (hy : ev_Ys I' n) (hn : As.length = n) (hLL : As.length ≤ I'.2.2.1) (hR : ev_Rm I I') (hs : S.length ≤ 8) {ty : FieldType} (hr : I'.2.2.2.1 = some ty) (h : Ev I' lay 0 ((As).map some ++ List.replicate (I'.2.2.1 - (As).length) none) [] σ Q') (k : ∀ r σ', ev_in r → Q' r σ' → Ev I lay (pc + 3) L (iv r :: S) σ' Q) : Ev I lay pc L (As.reverse ++ S) σ Q := by
  intro p l e s m args below meth c E ls H locs X hL hS hW hV
  obtain ⟨w1, w2, w3, w4, w5, w6, w7⟩ := id hW
  obtain ⟨x1, x2, x3, x4, x5, x6, x7⟩ := id X
  obtain ⟨okA, okS⟩ := ev_okA hS
  obtain ⟨y1, y3, y4, y5, y6, y7, y8⟩ := id hy
  have hM := ev_met l E (As) okA (by simpa using hLL) y6 h
  have hpo : ev_post I' lay E Q' = va_Qi (fun (r : Int32) (σ' : ev_M) => ∃ i, ev_in i ∧ r = Int32.ofInt i ∧ Q' i σ') (fun σ' t => ev_W lay E σ' t t.heap) (ev_A lay E) := by unfold ev_post; rw [if_neg (by rw [hr]; simp)]
  rw [hpo] at hM
  have hrun := va_runSN (p := p) (l := l) (e := e) (R := I.2.2.2.2) (below := below) (meth := meth) (locs := locs) (cells := 0) (slots := 0) (g := F0 m pc ls ((As.reverse ++ S).map (ev_vl E.1))) (As := As.map (ev_vl E.1)) (rest := S.map (ev_vl E.1)) ⟨x1, x2, x3, x6, x7⟩ hM ⟨va_cnB n x7 (ev_goodt hy) rfl y7 y8 (w4 _ hl) (ev_hts x7 y3) y5 hR, ev_hts x7 y1, trivial⟩ ⟨ev_blind, fun U hU hWm => ⟨rfl, hW.moved hV hU hWm⟩⟩ rfl (by rw [List.length_map]; exact hn) hL.1 (by simp [ev_vl, List.map_append, List.map_reverse]) (lv_room (by rw [ev_sumc]; exact hs)) hd ⟨Nat.zero_le _, Nat.zero_le _⟩
  refine va_calli hrun hV (fun q _ h => h) (fun q h => h) (fun r u t H1 locs1 ht hvm hp hB hz hk hS1 => ?_)
  obtain ⟨i, hi, rfl, hq⟩ := hp
  exact k i u hi hq p l e s m args below meth c E ls H1 locs1 X hL (ev_okc (ev_oki hi) okS) (hW.back hB ht hS1) hS1
theorem Ev.Vi0  {L0 : List (Option ev_V)} (hl : Cond.methodLink I.1.cls idx I'.1 ∈ ev_aw) (hd : decode I.2.1 pc = .ok (.invokevirtual idx, 3)) (hy : ev_Yv I' 0) (hm : (o, sz, 0, ci) ∈ lay) (hci : vwCl[ci]?.map (fun q => q.1) = some I'.1.cls) (hLL : 1 ≤ I'.2.2.1) (hR : ev_Rm I I') (hs : S.length ≤ 8) {ty : FieldType} (hr : I'.2.2.2.1 = some ty) (hL0 : [some (rv o)] ++ List.replicate (I'.2.2.1 - 1) none = L0) (h : Ev I' lay 0 L0 [] σ Q') (k : ∀ r σ', ev_in r → Q' r σ' → Ev I lay (pc + 3) L (iv r :: S) σ' Q) : Ev I lay pc L (rv o :: S) σ Q :=
  Ev.callVi (As := []) hd hl hy hm hci rfl hLL hR hs hr (by rw [← hL0] at h; exact h) k
theorem Ev.Vi1 {v0 : ev_V} {L0 : List (Option ev_V)} (hl : Cond.methodLink I.1.cls idx I'.1 ∈ ev_aw) (hd : decode I.2.1 pc = .ok (.invokevirtual idx, 3)) (hy : ev_Yv I' 1) (hm : (o, sz, 0, ci) ∈ lay) (hci : vwCl[ci]?.map (fun q => q.1) = some I'.1.cls) (hLL : 2 ≤ I'.2.2.1) (hR : ev_Rm I I') (hs : S.length ≤ 8) {ty : FieldType} (hr : I'.2.2.2.1 = some ty) (hL0 : [some (rv o), some v0] ++ List.replicate (I'.2.2.1 - 2) none = L0) (h : Ev I' lay 0 L0 [] σ Q') (k : ∀ r σ', ev_in r → Q' r σ' → Ev I lay (pc + 3) L (iv r :: S) σ' Q) : Ev I lay pc L (v0 :: rv o :: S) σ Q :=
  Ev.callVi (As := [v0]) hd hl hy hm hci rfl hLL hR hs hr (by rw [← hL0] at h; exact h) k
theorem Ev.Vi2 {v0 v1 : ev_V} {L0 : List (Option ev_V)} (hl : Cond.methodLink I.1.cls idx I'.1 ∈ ev_aw) (hd : decode I.2.1 pc = .ok (.invokevirtual idx, 3)) (hy : ev_Yv I' 2) (hm : (o, sz, 0, ci) ∈ lay) (hci : vwCl[ci]?.map (fun q => q.1) = some I'.1.cls) (hLL : 3 ≤ I'.2.2.1) (hR : ev_Rm I I') (hs : S.length ≤ 8) {ty : FieldType} (hr : I'.2.2.2.1 = some ty) (hL0 : [some (rv o), some v0, some v1] ++ List.replicate (I'.2.2.1 - 3) none = L0) (h : Ev I' lay 0 L0 [] σ Q') (k : ∀ r σ', ev_in r → Q' r σ' → Ev I lay (pc + 3) L (iv r :: S) σ' Q) : Ev I lay pc L (v1 :: v0 :: rv o :: S) σ Q :=
  Ev.callVi (As := [v0, v1]) hd hl hy hm hci rfl hLL hR hs hr (by rw [← hL0] at h; exact h) k
theorem Ev.Vi3 {v0 v1 v2 : ev_V} {L0 : List (Option ev_V)} (hl : Cond.methodLink I.1.cls idx I'.1 ∈ ev_aw) (hd : decode I.2.1 pc = .ok (.invokevirtual idx, 3)) (hy : ev_Yv I' 3) (hm : (o, sz, 0, ci) ∈ lay) (hci : vwCl[ci]?.map (fun q => q.1) = some I'.1.cls) (hLL : 4 ≤ I'.2.2.1) (hR : ev_Rm I I') (hs : S.length ≤ 8) {ty : FieldType} (hr : I'.2.2.2.1 = some ty) (hL0 : [some (rv o), some v0, some v1, some v2] ++ List.replicate (I'.2.2.1 - 4) none = L0) (h : Ev I' lay 0 L0 [] σ Q') (k : ∀ r σ', ev_in r → Q' r σ' → Ev I lay (pc + 3) L (iv r :: S) σ' Q) : Ev I lay pc L (v2 :: v1 :: v0 :: rv o :: S) σ Q :=
  Ev.callVi (As := [v0, v1, v2]) hd hl hy hm hci rfl hLL hR hs hr (by rw [← hL0] at h; exact h) k
theorem Ev.Vv0  {L0 : List (Option ev_V)} (hl : Cond.methodLink I.1.cls idx I'.1 ∈ ev_aw) (hd : decode I.2.1 pc = .ok (.invokevirtual idx, 3)) (hy : ev_Yv I' 0) (hm : (o, sz, 0, ci) ∈ lay) (hci : vwCl[ci]?.map (fun q => q.1) = some I'.1.cls) (hLL : 1 ≤ I'.2.2.1) (hR : ev_Rm I I') (hs : S.length ≤ 8) (hr : I'.2.2.2.1 = none) (hL0 : [some (rv o)] ++ List.replicate (I'.2.2.1 - 1) none = L0) (h : Ev I' lay 0 L0 [] σ Q') (k : ∀ σ', Q' 0 σ' → Ev I lay (pc + 3) L S σ' Q) : Ev I lay pc L (rv o :: S) σ Q :=
  Ev.callVv (As := []) hd hl hy hm hci rfl hLL hR hs hr (by rw [← hL0] at h; exact h) k
theorem Ev.Vv1 {v0 : ev_V} {L0 : List (Option ev_V)} (hl : Cond.methodLink I.1.cls idx I'.1 ∈ ev_aw) (hd : decode I.2.1 pc = .ok (.invokevirtual idx, 3)) (hy : ev_Yv I' 1) (hm : (o, sz, 0, ci) ∈ lay) (hci : vwCl[ci]?.map (fun q => q.1) = some I'.1.cls) (hLL : 2 ≤ I'.2.2.1) (hR : ev_Rm I I') (hs : S.length ≤ 8) (hr : I'.2.2.2.1 = none) (hL0 : [some (rv o), some v0] ++ List.replicate (I'.2.2.1 - 2) none = L0) (h : Ev I' lay 0 L0 [] σ Q') (k : ∀ σ', Q' 0 σ' → Ev I lay (pc + 3) L S σ' Q) : Ev I lay pc L (v0 :: rv o :: S) σ Q :=
  Ev.callVv (As := [v0]) hd hl hy hm hci rfl hLL hR hs hr (by rw [← hL0] at h; exact h) k
theorem Ev.Vv2 {v0 v1 : ev_V} {L0 : List (Option ev_V)} (hl : Cond.methodLink I.1.cls idx I'.1 ∈ ev_aw) (hd : decode I.2.1 pc = .ok (.invokevirtual idx, 3)) (hy : ev_Yv I' 2) (hm : (o, sz, 0, ci) ∈ lay) (hci : vwCl[ci]?.map (fun q => q.1) = some I'.1.cls) (hLL : 3 ≤ I'.2.2.1) (hR : ev_Rm I I') (hs : S.length ≤ 8) (hr : I'.2.2.2.1 = none) (hL0 : [some (rv o), some v0, some v1] ++ List.replicate (I'.2.2.1 - 3) none = L0) (h : Ev I' lay 0 L0 [] σ Q') (k : ∀ σ', Q' 0 σ' → Ev I lay (pc + 3) L S σ' Q) : Ev I lay pc L (v1 :: v0 :: rv o :: S) σ Q :=
  Ev.callVv (As := [v0, v1]) hd hl hy hm hci rfl hLL hR hs hr (by rw [← hL0] at h; exact h) k
theorem Ev.Vv3 {v0 v1 v2 : ev_V} {L0 : List (Option ev_V)} (hl : Cond.methodLink I.1.cls idx I'.1 ∈ ev_aw) (hd : decode I.2.1 pc = .ok (.invokevirtual idx, 3)) (hy : ev_Yv I' 3) (hm : (o, sz, 0, ci) ∈ lay) (hci : vwCl[ci]?.map (fun q => q.1) = some I'.1.cls) (hLL : 4 ≤ I'.2.2.1) (hR : ev_Rm I I') (hs : S.length ≤ 8) (hr : I'.2.2.2.1 = none) (hL0 : [some (rv o), some v0, some v1, some v2] ++ List.replicate (I'.2.2.1 - 4) none = L0) (h : Ev I' lay 0 L0 [] σ Q') (k : ∀ σ', Q' 0 σ' → Ev I lay (pc + 3) L S σ' Q) : Ev I lay pc L (v2 :: v1 :: v0 :: rv o :: S) σ Q :=
  Ev.callVv (As := [v0, v1, v2]) hd hl hy hm hci rfl hLL hR hs hr (by rw [← hL0] at h; exact h) k
theorem Ev.Si1 {v0 : ev_V} {L0 : List (Option ev_V)} (hl : Cond.methodLink I.1.cls idx I'.1 ∈ ev_aw) (hd : decode I.2.1 pc = .ok (.invokestatic idx, 3)) (hy : ev_Ys I' 1) (hLL : 1 ≤ I'.2.2.1) (hR : ev_Rm I I') (hs : S.length ≤ 8) {ty : FieldType} (hr : I'.2.2.2.1 = some ty) (hL0 : [some v0] ++ List.replicate (I'.2.2.1 - 1) none = L0) (h : Ev I' lay 0 L0 [] σ Q') (k : ∀ r σ', ev_in r → Q' r σ' → Ev I lay (pc + 3) L (iv r :: S) σ' Q) : Ev I lay pc L (v0 :: S) σ Q :=
  Ev.callSi (As := [v0]) hd hl hy rfl hLL hR hs hr (by rw [← hL0] at h; exact h) k
theorem Ev.Si2 {v0 v1 : ev_V} {L0 : List (Option ev_V)} (hl : Cond.methodLink I.1.cls idx I'.1 ∈ ev_aw) (hd : decode I.2.1 pc = .ok (.invokestatic idx, 3)) (hy : ev_Ys I' 2) (hLL : 2 ≤ I'.2.2.1) (hR : ev_Rm I I') (hs : S.length ≤ 8) {ty : FieldType} (hr : I'.2.2.2.1 = some ty) (hL0 : [some v0, some v1] ++ List.replicate (I'.2.2.1 - 2) none = L0) (h : Ev I' lay 0 L0 [] σ Q') (k : ∀ r σ', ev_in r → Q' r σ' → Ev I lay (pc + 3) L (iv r :: S) σ' Q) : Ev I lay pc L (v1 :: v0 :: S) σ Q :=
  Ev.callSi (As := [v0, v1]) hd hl hy rfl hLL hR hs hr (by rw [← hL0] at h; exact h) k
theorem Ev.Si3 {v0 v1 v2 : ev_V} {L0 : List (Option ev_V)} (hl : Cond.methodLink I.1.cls idx I'.1 ∈ ev_aw) (hd : decode I.2.1 pc = .ok (.invokestatic idx, 3)) (hy : ev_Ys I' 3) (hLL : 3 ≤ I'.2.2.1) (hR : ev_Rm I I') (hs : S.length ≤ 8) {ty : FieldType} (hr : I'.2.2.2.1 = some ty) (hL0 : [some v0, some v1, some v2] ++ List.replicate (I'.2.2.1 - 3) none = L0) (h : Ev I' lay 0 L0 [] σ Q') (k : ∀ r σ', ev_in r → Q' r σ' → Ev I lay (pc + 3) L (iv r :: S) σ' Q) : Ev I lay pc L (v2 :: v1 :: v0 :: S) σ Q :=
  Ev.callSi (As := [v0, v1, v2]) hd hl hy rfl hLL hR hs hr (by rw [← hL0] at h; exact h) k
theorem Ev.Sv1 {v0 : ev_V} {L0 : List (Option ev_V)} (hl : Cond.methodLink I.1.cls idx I'.1 ∈ ev_aw) (hd : decode I.2.1 pc = .ok (.invokestatic idx, 3)) (hy : ev_Ys I' 1) (hLL : 1 ≤ I'.2.2.1) (hR : ev_Rm I I') (hs : S.length ≤ 8) (hr : I'.2.2.2.1 = none) (hL0 : [some v0] ++ List.replicate (I'.2.2.1 - 1) none = L0) (h : Ev I' lay 0 L0 [] σ Q') (k : ∀ σ', Q' 0 σ' → Ev I lay (pc + 3) L S σ' Q) : Ev I lay pc L (v0 :: S) σ Q :=
  Ev.callSv (As := [v0]) hd hl hy rfl hLL hR hs hr (by rw [← hL0] at h; exact h) k
theorem Ev.Sv2 {v0 v1 : ev_V} {L0 : List (Option ev_V)} (hl : Cond.methodLink I.1.cls idx I'.1 ∈ ev_aw) (hd : decode I.2.1 pc = .ok (.invokestatic idx, 3)) (hy : ev_Ys I' 2) (hLL : 2 ≤ I'.2.2.1) (hR : ev_Rm I I') (hs : S.length ≤ 8) (hr : I'.2.2.2.1 = none) (hL0 : [some v0, some v1] ++ List.replicate (I'.2.2.1 - 2) none = L0) (h : Ev I' lay 0 L0 [] σ Q') (k : ∀ σ', Q' 0 σ' → Ev I lay (pc + 3) L S σ' Q) : Ev I lay pc L (v1 :: v0 :: S) σ Q :=
  Ev.callSv (As := [v0, v1]) hd hl hy rfl hLL hR hs hr (by rw [← hL0] at h; exact h) k
theorem Ev.Sv3 {v0 v1 v2 : ev_V} {L0 : List (Option ev_V)} (hl : Cond.methodLink I.1.cls idx I'.1 ∈ ev_aw) (hd : decode I.2.1 pc = .ok (.invokestatic idx, 3)) (hy : ev_Ys I' 3) (hLL : 3 ≤ I'.2.2.1) (hR : ev_Rm I I') (hs : S.length ≤ 8) (hr : I'.2.2.2.1 = none) (hL0 : [some v0, some v1, some v2] ++ List.replicate (I'.2.2.1 - 3) none = L0) (h : Ev I' lay 0 L0 [] σ Q') (k : ∀ σ', Q' 0 σ' → Ev I lay (pc + 3) L S σ' Q) : Ev I lay pc L (v2 :: v1 :: v0 :: S) σ Q :=
  Ev.callSv (As := [v0, v1, v2]) hd hl hy rfl hLL hR hs hr (by rw [← hL0] at h; exact h) k
theorem Ev.Ni1 {v0 : ev_V} {L0 : List (Option ev_V)} {host : String} (hl : Cond.methodLinkNest I.1.cls idx I'.1 host ∈ ev_nw) (hd : decode I.2.1 pc = .ok (.invokestatic idx, 3)) (hy : ev_Ys I' 1) (hLL : 1 ≤ I'.2.2.1) (hR : ev_Rm I I') (hs : S.length ≤ 8) {ty : FieldType} (hr : I'.2.2.2.1 = some ty) (hL0 : [some v0] ++ List.replicate (I'.2.2.1 - 1) none = L0) (h : Ev I' lay 0 L0 [] σ Q') (k : ∀ r σ', ev_in r → Q' r σ' → Ev I lay (pc + 3) L (iv r :: S) σ' Q) : Ev I lay pc L (v0 :: S) σ Q :=
  Ev.callNi (As := [v0]) hd hl hy rfl hLL hR hs hr (by rw [← hL0] at h; exact h) k
theorem Ev.Ni2 {v0 v1 : ev_V} {L0 : List (Option ev_V)} {host : String} (hl : Cond.methodLinkNest I.1.cls idx I'.1 host ∈ ev_nw) (hd : decode I.2.1 pc = .ok (.invokestatic idx, 3)) (hy : ev_Ys I' 2) (hLL : 2 ≤ I'.2.2.1) (hR : ev_Rm I I') (hs : S.length ≤ 8) {ty : FieldType} (hr : I'.2.2.2.1 = some ty) (hL0 : [some v0, some v1] ++ List.replicate (I'.2.2.1 - 2) none = L0) (h : Ev I' lay 0 L0 [] σ Q') (k : ∀ r σ', ev_in r → Q' r σ' → Ev I lay (pc + 3) L (iv r :: S) σ' Q) : Ev I lay pc L (v1 :: v0 :: S) σ Q :=
  Ev.callNi (As := [v0, v1]) hd hl hy rfl hLL hR hs hr (by rw [← hL0] at h; exact h) k
theorem Ev.Ni3 {v0 v1 v2 : ev_V} {L0 : List (Option ev_V)} {host : String} (hl : Cond.methodLinkNest I.1.cls idx I'.1 host ∈ ev_nw) (hd : decode I.2.1 pc = .ok (.invokestatic idx, 3)) (hy : ev_Ys I' 3) (hLL : 3 ≤ I'.2.2.1) (hR : ev_Rm I I') (hs : S.length ≤ 8) {ty : FieldType} (hr : I'.2.2.2.1 = some ty) (hL0 : [some v0, some v1, some v2] ++ List.replicate (I'.2.2.1 - 3) none = L0) (h : Ev I' lay 0 L0 [] σ Q') (k : ∀ r σ', ev_in r → Q' r σ' → Ev I lay (pc + 3) L (iv r :: S) σ' Q) : Ev I lay pc L (v2 :: v1 :: v0 :: S) σ Q :=
  Ev.callNi (As := [v0, v1, v2]) hd hl hy rfl hLL hR hs hr (by rw [← hL0] at h; exact h) k
end EVC
section EVX
variable {I : ev_I} {lay : ev_Y} {pc : Nat} {L : List (Option ev_V)} {S : List ev_V} {σ : ev_M} {Q : Int → ev_M → Prop} {a b : Int} {idx : Nat}
theorem Ev.mmax (hd : decode I.2.1 pc = .ok (.invokestatic idx, 3)) (hl : Cond.methodLink I.1.cls idx Lib.Math.max.name ∈ ev_aw) (h1 : Cond.static Lib.Math.max.name ∈ ev_aw) (h2 : Cond.initialized "java/lang/Math" ∈ ev_aw) (h3 : Cond.code Lib.Math.max.name Lib.Math.max.code 2 (some .int) ∈ ev_aw) (hf : 1 ≤ I.2.2.2.2.frames) (hlo : S.length + 13 ≤ I.2.2.2.2.locals) (k : Ev I lay (pc + 3) L (iv (if a < b then b else a) :: S) σ Q) : Ev I lay pc L (iv b :: iv a :: S) σ Q := by
  intro p l e s m args below meth c E ls H locs X hL hS hW hV
  obtain ⟨x1, x2, x3, x4, x5, x6, x7⟩ := id X
  have hb := ev_okh hS
  have ha := ev_okh (ev_okt hS)
  have hok : ev_in (if a < b then b else a) := by split <;> assumption
  have kk := k p l e s m args below meth c E ls H locs X hL (ev_okc (ev_oki hok) (ev_okt (ev_okt hS))) hW hV
  refine va_mmax (x := Int32.ofInt a) (y := Int32.ofInt b) (rest := S.map (ev_vl E.1)) x1 x2 (x3.trans hL.1.symm) x6 (ev_hts x7 hl) (ev_hts x7 h1) (ev_hts x7 h2) (ev_hts x7 h3) hf (by rw [ev_sumc]; exact hlo) (Nat.zero_le _) (Nat.zero_le _) hd ?_
  have e1 : (if Int32.ofInt a < Int32.ofInt b then Int32.ofInt b else Int32.ofInt a) = Int32.ofInt (if a < b then b else a) := by
    by_cases h : a < b
    · rw [if_pos h, if_pos ((ev_lt ha hb).mpr h)]
    · rw [if_neg h, if_neg (fun z => h ((ev_lt ha hb).mp z))]
  rw [e1]
  exact kk
theorem Ev.mmin (hd : decode I.2.1 pc = .ok (.invokestatic idx, 3)) (hl : Cond.methodLink I.1.cls idx Lib.Math.min.name ∈ ev_aw) (h1 : Cond.static Lib.Math.min.name ∈ ev_aw) (h2 : Cond.initialized "java/lang/Math" ∈ ev_aw) (h3 : Cond.code Lib.Math.min.name Lib.Math.min.code 2 (some .int) ∈ ev_aw) (hf : 1 ≤ I.2.2.2.2.frames) (hlo : S.length + 13 ≤ I.2.2.2.2.locals) (k : Ev I lay (pc + 3) L (iv (if b < a then b else a) :: S) σ Q) : Ev I lay pc L (iv b :: iv a :: S) σ Q := by
  intro p l e s m args below meth c E ls H locs X hL hS hW hV
  obtain ⟨x1, x2, x3, x4, x5, x6, x7⟩ := id X
  have hb := ev_okh hS
  have ha := ev_okh (ev_okt hS)
  have hok : ev_in (if b < a then b else a) := by split <;> assumption
  have kk := k p l e s m args below meth c E ls H locs X hL (ev_okc (ev_oki hok) (ev_okt (ev_okt hS))) hW hV
  refine va_mmin (x := Int32.ofInt a) (y := Int32.ofInt b) (rest := S.map (ev_vl E.1)) x1 x2 (x3.trans hL.1.symm) x6 (ev_hts x7 hl) (ev_hts x7 h1) (ev_hts x7 h2) (ev_hts x7 h3) hf (by rw [ev_sumc]; exact hlo) (Nat.zero_le _) (Nat.zero_le _) hd ?_
  have e1 : (if Int32.ofInt b < Int32.ofInt a then Int32.ofInt b else Int32.ofInt a) = Int32.ofInt (if b < a then b else a) := by
    by_cases h : b < a
    · rw [if_pos h, if_pos ((ev_lt hb ha).mpr h)]
    · rw [if_neg h, if_neg (fun z => h ((ev_lt hb ha).mp z))]
  rw [e1]
  exact kk
end EVX
end
section
/-! what the tables say, by places: classes, fields, methods, links -/
set_option maxRecDepth 20000 in
theorem cl_0 : ev_C 0 RX0 TX0 2 := ⟨rfl, (fun w hw => by
  obtain ⟨k, hk, rfl⟩ := List.mem_map.mp hw
  have hk := List.mem_range.mp hk
  match k, hk with
  | 0, _ => exact ev_aw_of 116 (by decide +kernel) (by decide +kernel)
  | 1, _ => exact ev_aw_of 118 (by decide +kernel) (by decide +kernel)
  | k + 2, h => exact absurd h (by omega)), ⟨tyX0, tyX0_ok⟩, nmX0⟩
set_option maxRecDepth 20000 in
theorem cl_1 : ev_C 1 RX1 TX1 5 := ⟨rfl, (fun w hw => by
  obtain ⟨k, hk, rfl⟩ := List.mem_map.mp hw
  have hk := List.mem_range.mp hk
  match k, hk with
  | 0, _ => exact ev_aw_of 204 (by decide +kernel) (by decide +kernel)
  | 1, _ => exact ev_aw_of 206 (by decide +kernel) (by decide +kernel)
  | 2, _ => exact ev_aw_of 208 (by decide +kernel) (by decide +kernel)
  | 3, _ => exact ev_aw_of 210 (by decide +kernel) (by decide +kernel)
  | 4, _ => exact ev_aw_of 212 (by decide +kernel) (by decide +kernel)
  | k + 5, h => exact absurd h (by omega)), ⟨tyX1, tyX1_ok⟩, nmX1⟩
set_option maxRecDepth 20000 in
theorem cl_2 : ev_C 2 RX2 TX2 18 := ⟨rfl, (fun w hw => by
  obtain ⟨k, hk, rfl⟩ := List.mem_map.mp hw
  have hk := List.mem_range.mp hk
  match k, hk with
  | 0, _ => exact ev_aw_of 155 (by decide +kernel) (by decide +kernel)
  | 1, _ => exact ev_aw_of 157 (by decide +kernel) (by decide +kernel)
  | 2, _ => exact ev_aw_of 159 (by decide +kernel) (by decide +kernel)
  | 3, _ => exact ev_aw_of 161 (by decide +kernel) (by decide +kernel)
  | 4, _ => exact ev_aw_of 163 (by decide +kernel) (by decide +kernel)
  | 5, _ => exact ev_aw_of 165 (by decide +kernel) (by decide +kernel)
  | 6, _ => exact ev_aw_of 167 (by decide +kernel) (by decide +kernel)
  | 7, _ => exact ev_aw_of 169 (by decide +kernel) (by decide +kernel)
  | 8, _ => exact ev_aw_of 171 (by decide +kernel) (by decide +kernel)
  | 9, _ => exact ev_aw_of 173 (by decide +kernel) (by decide +kernel)
  | 10, _ => exact ev_aw_of 175 (by decide +kernel) (by decide +kernel)
  | 11, _ => exact ev_aw_of 177 (by decide +kernel) (by decide +kernel)
  | 12, _ => exact ev_aw_of 179 (by decide +kernel) (by decide +kernel)
  | 13, _ => exact ev_aw_of 181 (by decide +kernel) (by decide +kernel)
  | 14, _ => exact ev_aw_of 183 (by decide +kernel) (by decide +kernel)
  | 15, _ => exact ev_aw_of 185 (by decide +kernel) (by decide +kernel)
  | 16, _ => exact ev_aw_of 187 (by decide +kernel) (by decide +kernel)
  | 17, _ => exact ev_aw_of 189 (by decide +kernel) (by decide +kernel)
  | k + 18, h => exact absurd h (by omega)), ⟨tyX2, tyX2_ok⟩, nmX2⟩
set_option maxRecDepth 20000 in
theorem cl_3 : ev_C 3 RX3 TX3 4 := ⟨rfl, (fun w hw => by
  obtain ⟨k, hk, rfl⟩ := List.mem_map.mp hw
  have hk := List.mem_range.mp hk
  match k, hk with
  | 0, _ => exact ev_aw_of 88 (by decide +kernel) (by decide +kernel)
  | 1, _ => exact ev_aw_of 90 (by decide +kernel) (by decide +kernel)
  | 2, _ => exact ev_aw_of 92 (by decide +kernel) (by decide +kernel)
  | 3, _ => exact ev_aw_of 94 (by decide +kernel) (by decide +kernel)
  | k + 4, h => exact absurd h (by omega)), ⟨tyX3, tyX3_ok⟩, nmX3⟩
set_option maxRecDepth 20000 in
theorem cl_4 : ev_C 4 RX4 TX4 10 := ⟨rfl, (fun w hw => by
  obtain ⟨k, hk, rfl⟩ := List.mem_map.mp hw
  have hk := List.mem_range.mp hk
  match k, hk with
  | 0, _ => exact ev_aw_of 247 (by decide +kernel) (by decide +kernel)
  | 1, _ => exact ev_aw_of 249 (by decide +kernel) (by decide +kernel)
  | 2, _ => exact ev_aw_of 251 (by decide +kernel) (by decide +kernel)
  | 3, _ => exact ev_aw_of 253 (by decide +kernel) (by decide +kernel)
  | 4, _ => exact ev_aw_of 255 (by decide +kernel) (by decide +kernel)
  | 5, _ => exact ev_aw_of 257 (by decide +kernel) (by decide +kernel)
  | 6, _ => exact ev_aw_of 259 (by decide +kernel) (by decide +kernel)
  | 7, _ => exact ev_aw_of 261 (by decide +kernel) (by decide +kernel)
  | 8, _ => exact ev_aw_of 263 (by decide +kernel) (by decide +kernel)
  | 9, _ => exact ev_aw_of 265 (by decide +kernel) (by decide +kernel)
  | k + 10, h => exact absurd h (by omega)), ⟨tyX4, tyX4_ok⟩, nmX4⟩
set_option maxRecDepth 20000 in
theorem cl_5 : ev_C 5 RX5 TX5 20 := ⟨rfl, (fun w hw => by
  obtain ⟨k, hk, rfl⟩ := List.mem_map.mp hw
  have hk := List.mem_range.mp hk
  match k, hk with
  | 0, _ => exact ev_aw_of 581 (by decide +kernel) (by decide +kernel)
  | 1, _ => exact ev_aw_of 583 (by decide +kernel) (by decide +kernel)
  | 2, _ => exact ev_aw_of 585 (by decide +kernel) (by decide +kernel)
  | 3, _ => exact ev_aw_of 587 (by decide +kernel) (by decide +kernel)
  | 4, _ => exact ev_aw_of 589 (by decide +kernel) (by decide +kernel)
  | 5, _ => exact ev_aw_of 591 (by decide +kernel) (by decide +kernel)
  | 6, _ => exact ev_aw_of 593 (by decide +kernel) (by decide +kernel)
  | 7, _ => exact ev_aw_of 595 (by decide +kernel) (by decide +kernel)
  | 8, _ => exact ev_aw_of 597 (by decide +kernel) (by decide +kernel)
  | 9, _ => exact ev_aw_of 599 (by decide +kernel) (by decide +kernel)
  | 10, _ => exact ev_aw_of 601 (by decide +kernel) (by decide +kernel)
  | 11, _ => exact ev_aw_of 603 (by decide +kernel) (by decide +kernel)
  | 12, _ => exact ev_aw_of 605 (by decide +kernel) (by decide +kernel)
  | 13, _ => exact ev_aw_of 607 (by decide +kernel) (by decide +kernel)
  | 14, _ => exact ev_aw_of 609 (by decide +kernel) (by decide +kernel)
  | 15, _ => exact ev_aw_of 611 (by decide +kernel) (by decide +kernel)
  | 16, _ => exact ev_aw_of 613 (by decide +kernel) (by decide +kernel)
  | 17, _ => exact ev_aw_of 615 (by decide +kernel) (by decide +kernel)
  | 18, _ => exact ev_aw_of 617 (by decide +kernel) (by decide +kernel)
  | 19, _ => exact ev_aw_of 619 (by decide +kernel) (by decide +kernel)
  | k + 20, h => exact absurd h (by omega)), ⟨tyX5, tyX5_ok⟩, nmX5⟩
theorem fl_X3_9 : ev_F RX3 9 3 0 := ⟨RX3, TX3, 4, cl_3, by decide, Or.inl (ev_aw_of 81 (by decide +kernel) rfl)⟩
theorem fl_X3_15 : ev_F RX3 15 3 1 := ⟨RX3, TX3, 4, cl_3, by decide, Or.inl (ev_aw_of 82 (by decide +kernel) rfl)⟩
theorem fl_X4_56 : ev_F RX4 56 3 1 := ⟨RX3, TX3, 4, cl_3, by decide, Or.inr ⟨"TalkBus", ev_nw_of 83 (by decide +kernel) rfl⟩⟩
theorem fl_X3_19 : ev_F RX3 19 3 2 := ⟨RX3, TX3, 4, cl_3, by decide, Or.inl (ev_aw_of 84 (by decide +kernel) rfl)⟩
theorem fl_X4_169 : ev_F RX4 169 3 2 := ⟨RX3, TX3, 4, cl_3, by decide, Or.inr ⟨"TalkBus", ev_nw_of 85 (by decide +kernel) rfl⟩⟩
theorem fl_X3_23 : ev_F RX3 23 3 3 := ⟨RX3, TX3, 4, cl_3, by decide, Or.inl (ev_aw_of 86 (by decide +kernel) rfl)⟩
theorem fl_X4_59 : ev_F RX4 59 3 3 := ⟨RX3, TX3, 4, cl_3, by decide, Or.inr ⟨"TalkBus", ev_nw_of 87 (by decide +kernel) rfl⟩⟩
theorem fl_X0_9 : ev_F RX0 9 0 0 := ⟨RX0, TX0, 2, cl_0, by decide, Or.inl (ev_aw_of 112 (by decide +kernel) rfl)⟩
theorem fl_X0_15 : ev_F RX0 15 0 1 := ⟨RX0, TX0, 2, cl_0, by decide, Or.inl (ev_aw_of 113 (by decide +kernel) rfl)⟩
theorem fl_X2_91 : ev_F RX2 91 0 1 := ⟨RX0, TX0, 2, cl_0, by decide, Or.inr ⟨"TalkBus", ev_nw_of 114 (by decide +kernel) rfl⟩⟩
theorem fl_X4_269 : ev_F RX4 269 0 1 := ⟨RX0, TX0, 2, cl_0, by decide, Or.inr ⟨"TalkBus", ev_nw_of 115 (by decide +kernel) rfl⟩⟩
theorem fl_X2_12 : ev_F RX2 12 2 0 := ⟨RX2, TX2, 18, cl_2, by decide, Or.inl (ev_aw_of 121 (by decide +kernel) rfl)⟩
theorem fl_X4_106 : ev_F RX4 106 2 0 := ⟨RX2, TX2, 18, cl_2, by decide, Or.inr ⟨"TalkBus", ev_nw_of 122 (by decide +kernel) rfl⟩⟩
theorem fl_X2_18 : ev_F RX2 18 2 1 := ⟨RX2, TX2, 18, cl_2, by decide, Or.inl (ev_aw_of 123 (by decide +kernel) rfl)⟩
theorem fl_X4_113 : ev_F RX4 113 2 1 := ⟨RX2, TX2, 18, cl_2, by decide, Or.inr ⟨"TalkBus", ev_nw_of 124 (by decide +kernel) rfl⟩⟩
theorem fl_X2_21 : ev_F RX2 21 2 2 := ⟨RX2, TX2, 18, cl_2, by decide, Or.inl (ev_aw_of 125 (by decide +kernel) rfl)⟩
theorem fl_X4_251 : ev_F RX4 251 2 2 := ⟨RX2, TX2, 18, cl_2, by decide, Or.inr ⟨"TalkBus", ev_nw_of 126 (by decide +kernel) rfl⟩⟩
theorem fl_X2_25 : ev_F RX2 25 2 3 := ⟨RX2, TX2, 18, cl_2, by decide, Or.inl (ev_aw_of 127 (by decide +kernel) rfl)⟩
theorem fl_X4_197 : ev_F RX4 197 2 3 := ⟨RX2, TX2, 18, cl_2, by decide, Or.inr ⟨"TalkBus", ev_nw_of 128 (by decide +kernel) rfl⟩⟩
theorem fl_X2_28 : ev_F RX2 28 2 4 := ⟨RX2, TX2, 18, cl_2, by decide, Or.inl (ev_aw_of 129 (by decide +kernel) rfl)⟩
theorem fl_X4_200 : ev_F RX4 200 2 4 := ⟨RX2, TX2, 18, cl_2, by decide, Or.inr ⟨"TalkBus", ev_nw_of 130 (by decide +kernel) rfl⟩⟩
theorem fl_X2_31 : ev_F RX2 31 2 5 := ⟨RX2, TX2, 18, cl_2, by decide, Or.inl (ev_aw_of 131 (by decide +kernel) rfl)⟩
theorem fl_X4_144 : ev_F RX4 144 2 5 := ⟨RX2, TX2, 18, cl_2, by decide, Or.inr ⟨"TalkBus", ev_nw_of 132 (by decide +kernel) rfl⟩⟩
theorem fl_X2_34 : ev_F RX2 34 2 6 := ⟨RX2, TX2, 18, cl_2, by decide, Or.inl (ev_aw_of 133 (by decide +kernel) rfl)⟩
theorem fl_X4_147 : ev_F RX4 147 2 6 := ⟨RX2, TX2, 18, cl_2, by decide, Or.inr ⟨"TalkBus", ev_nw_of 134 (by decide +kernel) rfl⟩⟩
theorem fl_X2_68 : ev_F RX2 68 2 7 := ⟨RX2, TX2, 18, cl_2, by decide, Or.inl (ev_aw_of 135 (by decide +kernel) rfl)⟩
theorem fl_X4_122 : ev_F RX4 122 2 7 := ⟨RX2, TX2, 18, cl_2, by decide, Or.inr ⟨"TalkBus", ev_nw_of 136 (by decide +kernel) rfl⟩⟩
theorem fl_X2_71 : ev_F RX2 71 2 8 := ⟨RX2, TX2, 18, cl_2, by decide, Or.inl (ev_aw_of 137 (by decide +kernel) rfl)⟩
theorem fl_X4_125 : ev_F RX4 125 2 8 := ⟨RX2, TX2, 18, cl_2, by decide, Or.inr ⟨"TalkBus", ev_nw_of 138 (by decide +kernel) rfl⟩⟩
theorem fl_X2_40 : ev_F RX2 40 2 9 := ⟨RX2, TX2, 18, cl_2, by decide, Or.inl (ev_aw_of 139 (by decide +kernel) rfl)⟩
theorem fl_X4_229 : ev_F RX4 229 2 9 := ⟨RX2, TX2, 18, cl_2, by decide, Or.inr ⟨"TalkBus", ev_nw_of 140 (by decide +kernel) rfl⟩⟩
theorem fl_X2_44 : ev_F RX2 44 2 10 := ⟨RX2, TX2, 18, cl_2, by decide, Or.inl (ev_aw_of 141 (by decide +kernel) rfl)⟩
theorem fl_X4_131 : ev_F RX4 131 2 10 := ⟨RX2, TX2, 18, cl_2, by decide, Or.inr ⟨"TalkBus", ev_nw_of 142 (by decide +kernel) rfl⟩⟩
theorem fl_X2_47 : ev_F RX2 47 2 11 := ⟨RX2, TX2, 18, cl_2, by decide, Or.inl (ev_aw_of 143 (by decide +kernel) rfl)⟩
theorem fl_X4_128 : ev_F RX4 128 2 11 := ⟨RX2, TX2, 18, cl_2, by decide, Or.inr ⟨"TalkBus", ev_nw_of 144 (by decide +kernel) rfl⟩⟩
theorem fl_X2_50 : ev_F RX2 50 2 12 := ⟨RX2, TX2, 18, cl_2, by decide, Or.inl (ev_aw_of 145 (by decide +kernel) rfl)⟩
theorem fl_X4_241 : ev_F RX4 241 2 12 := ⟨RX2, TX2, 18, cl_2, by decide, Or.inr ⟨"TalkBus", ev_nw_of 146 (by decide +kernel) rfl⟩⟩
theorem fl_X2_53 : ev_F RX2 53 2 13 := ⟨RX2, TX2, 18, cl_2, by decide, Or.inl (ev_aw_of 147 (by decide +kernel) rfl)⟩
theorem fl_X4_257 : ev_F RX4 257 2 13 := ⟨RX2, TX2, 18, cl_2, by decide, Or.inr ⟨"TalkBus", ev_nw_of 148 (by decide +kernel) rfl⟩⟩
theorem fl_X2_56 : ev_F RX2 56 2 14 := ⟨RX2, TX2, 18, cl_2, by decide, Or.inl (ev_aw_of 149 (by decide +kernel) rfl)⟩
theorem fl_X4_238 : ev_F RX4 238 2 14 := ⟨RX2, TX2, 18, cl_2, by decide, Or.inr ⟨"TalkBus", ev_nw_of 150 (by decide +kernel) rfl⟩⟩
theorem fl_X2_59 : ev_F RX2 59 2 15 := ⟨RX2, TX2, 18, cl_2, by decide, Or.inl (ev_aw_of 151 (by decide +kernel) rfl)⟩
theorem fl_X4_266 : ev_F RX4 266 2 15 := ⟨RX2, TX2, 18, cl_2, by decide, Or.inr ⟨"TalkBus", ev_nw_of 152 (by decide +kernel) rfl⟩⟩
theorem fl_X2_62 : ev_F RX2 62 2 16 := ⟨RX2, TX2, 18, cl_2, by decide, Or.inl (ev_aw_of 153 (by decide +kernel) rfl)⟩
theorem fl_X2_74 : ev_F RX2 74 2 17 := ⟨RX2, TX2, 18, cl_2, by decide, Or.inl (ev_aw_of 154 (by decide +kernel) rfl)⟩
theorem fl_X1_9 : ev_F RX1 9 1 0 := ⟨RX1, TX1, 5, cl_1, by decide, Or.inl (ev_aw_of 198 (by decide +kernel) rfl)⟩
theorem fl_X1_15 : ev_F RX1 15 1 1 := ⟨RX1, TX1, 5, cl_1, by decide, Or.inl (ev_aw_of 199 (by decide +kernel) rfl)⟩
theorem fl_X1_18 : ev_F RX1 18 1 2 := ⟨RX1, TX1, 5, cl_1, by decide, Or.inl (ev_aw_of 200 (by decide +kernel) rfl)⟩
theorem fl_X1_21 : ev_F RX1 21 1 3 := ⟨RX1, TX1, 5, cl_1, by decide, Or.inl (ev_aw_of 201 (by decide +kernel) rfl)⟩
theorem fl_X4_172 : ev_F RX4 172 1 3 := ⟨RX1, TX1, 5, cl_1, by decide, Or.inr ⟨"TalkBus", ev_nw_of 202 (by decide +kernel) rfl⟩⟩
theorem fl_X1_25 : ev_F RX1 25 1 4 := ⟨RX1, TX1, 5, cl_1, by decide, Or.inl (ev_aw_of 203 (by decide +kernel) rfl)⟩
theorem gs_X4_34 : Cond.fieldLink RX4 34 "TalkBus" (ev_sn 2) "[I" ∈ ev_aw ∨ ∃ host, Cond.fieldLinkNest RX4 34 "TalkBus" (ev_sn 2) "[I" host ∈ ev_nw := Or.inl (ev_aw_of 215 (by decide +kernel) rfl)
theorem fl_X4_10 : ev_F RX4 10 4 0 := ⟨RX4, TX4, 10, cl_4, by decide, Or.inl (ev_aw_of 237 (by decide +kernel) rfl)⟩
theorem fl_X4_18 : ev_F RX4 18 4 1 := ⟨RX4, TX4, 10, cl_4, by decide, Or.inl (ev_aw_of 238 (by decide +kernel) rfl)⟩
theorem fl_X4_26 : ev_F RX4 26 4 2 := ⟨RX4, TX4, 10, cl_4, by decide, Or.inl (ev_aw_of 239 (by decide +kernel) rfl)⟩
theorem fl_X4_30 : ev_F RX4 30 4 3 := ⟨RX4, TX4, 10, cl_4, by decide, Or.inl (ev_aw_of 240 (by decide +kernel) rfl)⟩
theorem fl_X4_63 : ev_F RX4 63 4 4 := ⟨RX4, TX4, 10, cl_4, by decide, Or.inl (ev_aw_of 241 (by decide +kernel) rfl)⟩
theorem fl_X4_70 : ev_F RX4 70 4 5 := ⟨RX4, TX4, 10, cl_4, by decide, Or.inl (ev_aw_of 242 (by decide +kernel) rfl)⟩
theorem fl_X4_79 : ev_F RX4 79 4 6 := ⟨RX4, TX4, 10, cl_4, by decide, Or.inl (ev_aw_of 243 (by decide +kernel) rfl)⟩
theorem fl_X4_89 : ev_F RX4 89 4 7 := ⟨RX4, TX4, 10, cl_4, by decide, Or.inl (ev_aw_of 244 (by decide +kernel) rfl)⟩
theorem fl_X4_183 : ev_F RX4 183 4 8 := ⟨RX4, TX4, 10, cl_4, by decide, Or.inl (ev_aw_of 245 (by decide +kernel) rfl)⟩
theorem fl_X4_98 : ev_F RX4 98 4 9 := ⟨RX4, TX4, 10, cl_4, by decide, Or.inl (ev_aw_of 246 (by decide +kernel) rfl)⟩
theorem gs_X3_45 : Cond.fieldLink RX3 45 "TalkBus" (ev_sn 0) "[I" ∈ ev_aw ∨ ∃ host, Cond.fieldLinkNest RX3 45 "TalkBus" (ev_sn 0) "[I" host ∈ ev_nw := Or.inr ⟨"TalkBus", ev_nw_of 312 (by decide +kernel) rfl⟩
theorem gs_X3_48 : Cond.fieldLink RX3 48 "TalkBus" (ev_sn 1) "[I" ∈ ev_aw ∨ ∃ host, Cond.fieldLinkNest RX3 48 "TalkBus" (ev_sn 1) "[I" host ∈ ev_nw := Or.inr ⟨"TalkBus", ev_nw_of 314 (by decide +kernel) rfl⟩
theorem gs_X4_138 : Cond.fieldLink RX4 138 "TalkBus" (ev_sn 0) "[I" ∈ ev_aw ∨ ∃ host, Cond.fieldLinkNest RX4 138 "TalkBus" (ev_sn 0) "[I" host ∈ ev_nw := Or.inl (ev_aw_of 501 (by decide +kernel) rfl)
theorem gs_X4_141 : Cond.fieldLink RX4 141 "TalkBus" (ev_sn 1) "[I" ∈ ev_aw ∨ ∃ host, Cond.fieldLinkNest RX4 141 "TalkBus" (ev_sn 1) "[I" host ∈ ev_nw := Or.inl (ev_aw_of 502 (by decide +kernel) rfl)
theorem fl_X5_69 : ev_F RX5 69 5 0 := ⟨RX5, TX5, 20, cl_5, by decide, Or.inl (ev_aw_of 561 (by decide +kernel) rfl)⟩
theorem fl_X5_7 : ev_F RX5 7 5 1 := ⟨RX5, TX5, 20, cl_5, by decide, Or.inl (ev_aw_of 562 (by decide +kernel) rfl)⟩
theorem fl_X5_44 : ev_F RX5 44 5 2 := ⟨RX5, TX5, 20, cl_5, by decide, Or.inl (ev_aw_of 563 (by decide +kernel) rfl)⟩
theorem fl_X5_13 : ev_F RX5 13 5 3 := ⟨RX5, TX5, 20, cl_5, by decide, Or.inl (ev_aw_of 564 (by decide +kernel) rfl)⟩
theorem fl_X5_16 : ev_F RX5 16 5 4 := ⟨RX5, TX5, 20, cl_5, by decide, Or.inl (ev_aw_of 565 (by decide +kernel) rfl)⟩
theorem fl_X5_51 : ev_F RX5 51 5 5 := ⟨RX5, TX5, 20, cl_5, by decide, Or.inl (ev_aw_of 566 (by decide +kernel) rfl)⟩
theorem fl_X5_54 : ev_F RX5 54 5 6 := ⟨RX5, TX5, 20, cl_5, by decide, Or.inl (ev_aw_of 567 (by decide +kernel) rfl)⟩
theorem fl_X5_57 : ev_F RX5 57 5 7 := ⟨RX5, TX5, 20, cl_5, by decide, Or.inl (ev_aw_of 568 (by decide +kernel) rfl)⟩
theorem fl_X5_60 : ev_F RX5 60 5 8 := ⟨RX5, TX5, 20, cl_5, by decide, Or.inl (ev_aw_of 569 (by decide +kernel) rfl)⟩
theorem fl_X5_63 : ev_F RX5 63 5 9 := ⟨RX5, TX5, 20, cl_5, by decide, Or.inl (ev_aw_of 570 (by decide +kernel) rfl)⟩
theorem fl_X5_19 : ev_F RX5 19 5 10 := ⟨RX5, TX5, 20, cl_5, by decide, Or.inl (ev_aw_of 571 (by decide +kernel) rfl)⟩
theorem fl_X5_66 : ev_F RX5 66 5 11 := ⟨RX5, TX5, 20, cl_5, by decide, Or.inl (ev_aw_of 572 (by decide +kernel) rfl)⟩
theorem fl_X5_22 : ev_F RX5 22 5 12 := ⟨RX5, TX5, 20, cl_5, by decide, Or.inl (ev_aw_of 573 (by decide +kernel) rfl)⟩
theorem fl_X5_25 : ev_F RX5 25 5 13 := ⟨RX5, TX5, 20, cl_5, by decide, Or.inl (ev_aw_of 574 (by decide +kernel) rfl)⟩
theorem fl_X5_28 : ev_F RX5 28 5 14 := ⟨RX5, TX5, 20, cl_5, by decide, Or.inl (ev_aw_of 575 (by decide +kernel) rfl)⟩
theorem fl_X5_37 : ev_F RX5 37 5 15 := ⟨RX5, TX5, 20, cl_5, by decide, Or.inl (ev_aw_of 576 (by decide +kernel) rfl)⟩
theorem fl_X5_31 : ev_F RX5 31 5 16 := ⟨RX5, TX5, 20, cl_5, by decide, Or.inl (ev_aw_of 577 (by decide +kernel) rfl)⟩
theorem fl_X5_72 : ev_F RX5 72 5 17 := ⟨RX5, TX5, 20, cl_5, by decide, Or.inl (ev_aw_of 578 (by decide +kernel) rfl)⟩
theorem fl_X5_79 : ev_F RX5 79 5 18 := ⟨RX5, TX5, 20, cl_5, by decide, Or.inl (ev_aw_of 579 (by decide +kernel) rfl)⟩
theorem fl_X5_34 : ev_F RX5 34 5 19 := ⟨RX5, TX5, 20, cl_5, by decide, Or.inl (ev_aw_of 580 (by decide +kernel) rfl)⟩
theorem ft_0_1 : ev_Ft 0 1 .int := ⟨RX0, TX0, 2, rfl, rfl, by decide +kernel⟩
theorem ft_1_3 : ev_Ft 1 3 .int := ⟨RX1, TX1, 5, rfl, rfl, by decide +kernel⟩
theorem ft_1_4 : ev_Ft 1 4 .int := ⟨RX1, TX1, 5, rfl, rfl, by decide +kernel⟩
theorem ft_2_2 : ev_Ft 2 2 .int := ⟨RX2, TX2, 18, rfl, rfl, by decide +kernel⟩
theorem ft_2_3 : ev_Ft 2 3 .int := ⟨RX2, TX2, 18, rfl, rfl, by decide +kernel⟩
theorem ft_2_4 : ev_Ft 2 4 .int := ⟨RX2, TX2, 18, rfl, rfl, by decide +kernel⟩
theorem ft_2_5 : ev_Ft 2 5 .int := ⟨RX2, TX2, 18, rfl, rfl, by decide +kernel⟩
theorem ft_2_6 : ev_Ft 2 6 .int := ⟨RX2, TX2, 18, rfl, rfl, by decide +kernel⟩
theorem ft_2_7 : ev_Ft 2 7 .int := ⟨RX2, TX2, 18, rfl, rfl, by decide +kernel⟩
theorem ft_2_8 : ev_Ft 2 8 .boolean := ⟨RX2, TX2, 18, rfl, rfl, by decide +kernel⟩
theorem ft_2_9 : ev_Ft 2 9 .boolean := ⟨RX2, TX2, 18, rfl, rfl, by decide +kernel⟩
theorem ft_2_10 : ev_Ft 2 10 .boolean := ⟨RX2, TX2, 18, rfl, rfl, by decide +kernel⟩
theorem ft_2_11 : ev_Ft 2 11 .boolean := ⟨RX2, TX2, 18, rfl, rfl, by decide +kernel⟩
theorem ft_2_12 : ev_Ft 2 12 .boolean := ⟨RX2, TX2, 18, rfl, rfl, by decide +kernel⟩
theorem ft_2_13 : ev_Ft 2 13 .int := ⟨RX2, TX2, 18, rfl, rfl, by decide +kernel⟩
theorem ft_2_14 : ev_Ft 2 14 .int := ⟨RX2, TX2, 18, rfl, rfl, by decide +kernel⟩
theorem ft_2_15 : ev_Ft 2 15 .int := ⟨RX2, TX2, 18, rfl, rfl, by decide +kernel⟩
theorem ft_2_16 : ev_Ft 2 16 .int := ⟨RX2, TX2, 18, rfl, rfl, by decide +kernel⟩
theorem ft_2_17 : ev_Ft 2 17 .int := ⟨RX2, TX2, 18, rfl, rfl, by decide +kernel⟩
theorem ft_3_2 : ev_Ft 3 2 .int := ⟨RX3, TX3, 4, rfl, rfl, by decide +kernel⟩
theorem ft_3_3 : ev_Ft 3 3 .int := ⟨RX3, TX3, 4, rfl, rfl, by decide +kernel⟩
theorem ft_4_4 : ev_Ft 4 4 .int := ⟨RX4, TX4, 10, rfl, rfl, by decide +kernel⟩
theorem ft_4_5 : ev_Ft 4 5 .int := ⟨RX4, TX4, 10, rfl, rfl, by decide +kernel⟩
theorem ft_4_6 : ev_Ft 4 6 .int := ⟨RX4, TX4, 10, rfl, rfl, by decide +kernel⟩
theorem ft_4_7 : ev_Ft 4 7 .int := ⟨RX4, TX4, 10, rfl, rfl, by decide +kernel⟩
theorem ft_4_8 : ev_Ft 4 8 .int := ⟨RX4, TX4, 10, rfl, rfl, by decide +kernel⟩
theorem ft_4_9 : ev_Ft 4 9 .boolean := ⟨RX4, TX4, 10, rfl, rfl, by decide +kernel⟩
theorem ft_5_0 : ev_Ft 5 0 .int := ⟨RX5, TX5, 20, rfl, rfl, by decide +kernel⟩
theorem ft_5_2 : ev_Ft 5 2 .int := ⟨RX5, TX5, 20, rfl, rfl, by decide +kernel⟩
theorem ft_5_5 : ev_Ft 5 5 .int := ⟨RX5, TX5, 20, rfl, rfl, by decide +kernel⟩
theorem ft_5_6 : ev_Ft 5 6 .int := ⟨RX5, TX5, 20, rfl, rfl, by decide +kernel⟩
theorem ft_5_7 : ev_Ft 5 7 .int := ⟨RX5, TX5, 20, rfl, rfl, by decide +kernel⟩
theorem ft_5_8 : ev_Ft 5 8 .int := ⟨RX5, TX5, 20, rfl, rfl, by decide +kernel⟩
theorem ft_5_9 : ev_Ft 5 9 .int := ⟨RX5, TX5, 20, rfl, rfl, by decide +kernel⟩
theorem ft_5_11 : ev_Ft 5 11 .int := ⟨RX5, TX5, 20, rfl, rfl, by decide +kernel⟩
theorem ft_5_15 : ev_Ft 5 15 .int := ⟨RX5, TX5, 20, rfl, rfl, by decide +kernel⟩
theorem ft_5_17 : ev_Ft 5 17 .int := ⟨RX5, TX5, 20, rfl, rfl, by decide +kernel⟩
theorem ft_5_18 : ev_Ft 5 18 .int := ⟨RX5, TX5, 20, rfl, rfl, by decide +kernel⟩
abbrev jX0_init : ev_I := (yX0_init, cX0_init, 1, none, { frames := 1, cells := 0, slots := 0, locals := 20 })
abbrev jX0_append : ev_I := (yX0_append, cX0_append, 2, some .int, { frames := 0, cells := 0, slots := 0, locals := 0 })
theorem cyX0_append : ev_Yv jX0_append 1 := ⟨ev_aw_of 363 (by decide +kernel) rfl, ev_aw_of 364 (by decide +kernel) rfl, ev_aw_of 63 (by decide +kernel) rfl, ev_aw_of 365 (by decide +kernel) rfl, ⟨by decide +kernel, by decide +kernel, by decide +kernel⟩, by decide, rfl, rfl⟩
abbrev jX0_removeFirst : ev_I := (yX0_removeFirst, cX0_removeFirst, 3, some .int, { frames := 0, cells := 0, slots := 0, locals := 0 })
theorem cyX0_removeFirst : ev_Yv jX0_removeFirst 0 := ⟨ev_aw_of 449 (by decide +kernel) rfl, ev_aw_of 450 (by decide +kernel) rfl, ev_aw_of 63 (by decide +kernel) rfl, ev_aw_of 451 (by decide +kernel) rfl, ⟨by decide +kernel, by decide +kernel, by decide +kernel⟩, by decide, rfl, rfl⟩
abbrev jX0_at : ev_I := (yX0_at, cX0_at, 2, some .int, { frames := 0, cells := 0, slots := 0, locals := 0 })
theorem cyX0_at : ev_Yv jX0_at 1 := ⟨ev_aw_of 520 (by decide +kernel) rfl, ev_aw_of 521 (by decide +kernel) rfl, ev_aw_of 63 (by decide +kernel) rfl, ev_aw_of 522 (by decide +kernel) rfl, ⟨by decide +kernel, by decide +kernel, by decide +kernel⟩, by decide, rfl, rfl⟩
abbrev jX0_empty : ev_I := (yX0_empty, cX0_empty, 1, none, { frames := 0, cells := 0, slots := 0, locals := 0 })
theorem cyX0_empty : ev_Yv jX0_empty 0 := ⟨ev_aw_of 230 (by decide +kernel) rfl, ev_aw_of 231 (by decide +kernel) rfl, ev_aw_of 63 (by decide +kernel) rfl, ev_aw_of 232 (by decide +kernel) rfl, ⟨by decide +kernel, by decide +kernel, by decide +kernel⟩, by decide, rfl, rfl⟩
abbrev jX1_init : ev_I := (yX1_init, cX1_init, 1, none, { frames := 1, cells := 0, slots := 0, locals := 20 })
abbrev jX1_empty : ev_I := (yX1_empty, cX1_empty, 1, none, { frames := 0, cells := 0, slots := 0, locals := 0 })
theorem cyX1_empty : ev_Yv jX1_empty 0 := ⟨ev_aw_of 234 (by decide +kernel) rfl, ev_aw_of 235 (by decide +kernel) rfl, ev_aw_of 64 (by decide +kernel) rfl, ev_aw_of 236 (by decide +kernel) rfl, ⟨by decide +kernel, by decide +kernel, by decide +kernel⟩, by decide, rfl, rfl⟩
abbrev jX1_keep : ev_I := (yX1_keep, cX1_keep, 4, none, { frames := 1, cells := 0, slots := 0, locals := 21 })
theorem cyX1_keep : ev_Yv jX1_keep 3 := ⟨ev_aw_of 337 (by decide +kernel) rfl, ev_aw_of 338 (by decide +kernel) rfl, ev_aw_of 64 (by decide +kernel) rfl, ev_aw_of 339 (by decide +kernel) rfl, ⟨by decide +kernel, by decide +kernel, by decide +kernel⟩, by decide, rfl, rfl⟩
abbrev jX1_tell : ev_I := (yX1_tell, cX1_tell, 4, some .int, { frames := 0, cells := 0, slots := 0, locals := 0 })
theorem cyX1_tell : ev_Yv jX1_tell 2 := ⟨ev_aw_of 544 (by decide +kernel) rfl, ev_aw_of 545 (by decide +kernel) rfl, ev_aw_of 64 (by decide +kernel) rfl, ev_aw_of 546 (by decide +kernel) rfl, ⟨by decide +kernel, by decide +kernel, by decide +kernel⟩, by decide, rfl, rfl⟩
abbrev jX2_init : ev_I := (yX2_init, cX2_init, 1, none, { frames := 2, cells := 0, slots := 0, locals := 40 })
abbrev jX2_begin : ev_I := (yX2_begin, cX2_begin, 3, none, { frames := 2, cells := 0, slots := 0, locals := 40 })
theorem cyX2_begin : ev_Yv jX2_begin 2 := ⟨ev_aw_of 222 (by decide +kernel) rfl, ev_aw_of 223 (by decide +kernel) rfl, ev_aw_of 62 (by decide +kernel) rfl, ev_aw_of 224 (by decide +kernel) rfl, ⟨by decide +kernel, by decide +kernel, by decide +kernel⟩, by decide, rfl, rfl⟩
abbrev jX2_clear : ev_I := (yX2_clear, cX2_clear, 1, none, { frames := 1, cells := 0, slots := 0, locals := 20 })
theorem cyX2_clear : ev_Yv jX2_clear 0 := ⟨ev_aw_of 226 (by decide +kernel) rfl, ev_aw_of 227 (by decide +kernel) rfl, ev_aw_of 62 (by decide +kernel) rfl, ev_aw_of 228 (by decide +kernel) rfl, ⟨by decide +kernel, by decide +kernel, by decide +kernel⟩, by decide, rfl, rfl⟩
abbrev jX2_beginListening : ev_I := (yX2_beginListening, cX2_beginListening, 1, none, { frames := 0, cells := 0, slots := 0, locals := 0 })
theorem cyX2_beginListening : ev_Yv jX2_beginListening 0 := ⟨ev_aw_of 379 (by decide +kernel) rfl, ev_aw_of 380 (by decide +kernel) rfl, ev_aw_of 62 (by decide +kernel) rfl, ev_aw_of 381 (by decide +kernel) rfl, ⟨by decide +kernel, by decide +kernel, by decide +kernel⟩, by decide, rfl, rfl⟩
abbrev jX2_beTriggered : ev_I := (yX2_beTriggered, cX2_beTriggered, 2, none, { frames := 1, cells := 0, slots := 0, locals := 21 })
theorem cyX2_beTriggered : ev_Yv jX2_beTriggered 1 := ⟨ev_aw_of 412 (by decide +kernel) rfl, ev_aw_of 413 (by decide +kernel) rfl, ev_aw_of 62 (by decide +kernel) rfl, ev_aw_of 414 (by decide +kernel) rfl, ⟨by decide +kernel, by decide +kernel, by decide +kernel⟩, by decide, rfl, rfl⟩
abbrev jX2_isDueBy : ev_I := (yX2_isDueBy, cX2_isDueBy, 2, some .boolean, { frames := 0, cells := 0, slots := 0, locals := 0 })
theorem cyX2_isDueBy : ev_Yv jX2_isDueBy 1 := ⟨ev_aw_of 355 (by decide +kernel) rfl, ev_aw_of 356 (by decide +kernel) rfl, ev_aw_of 62 (by decide +kernel) rfl, ev_aw_of 357 (by decide +kernel) rfl, ⟨by decide +kernel, by decide +kernel, by decide +kernel⟩, by decide, rfl, rfl⟩
abbrev jX2_comeReading : ev_I := (yX2_comeReading, cX2_comeReading, 2, none, { frames := 1, cells := 0, slots := 0, locals := 21 })
theorem cyX2_comeReading : ev_Yv jX2_comeReading 0 := ⟨ev_aw_of 359 (by decide +kernel) rfl, ev_aw_of 360 (by decide +kernel) rfl, ev_aw_of 62 (by decide +kernel) rfl, ev_aw_of 361 (by decide +kernel) rfl, ⟨by decide +kernel, by decide +kernel, by decide +kernel⟩, by decide, rfl, rfl⟩
abbrev jX2_pollByte : ev_I := (yX2_pollByte, cX2_pollByte, 1, some .int, { frames := 0, cells := 0, slots := 0, locals := 0 })
theorem cyX2_pollByte : ev_Yv jX2_pollByte 0 := ⟨ev_aw_of 445 (by decide +kernel) rfl, ev_aw_of 446 (by decide +kernel) rfl, ev_aw_of 62 (by decide +kernel) rfl, ev_aw_of 447 (by decide +kernel) rfl, ⟨by decide +kernel, by decide +kernel, by decide +kernel⟩, by decide, rfl, rfl⟩
abbrev jX2_lineBit : ev_I := (yX2_lineBit, cX2_lineBit, 1, some .int, { frames := 1, cells := 0, slots := 0, locals := 20 })
theorem cyX2_lineBit : ev_Yv jX2_lineBit 0 := ⟨ev_aw_of 470 (by decide +kernel) rfl, ev_aw_of 471 (by decide +kernel) rfl, ev_aw_of 62 (by decide +kernel) rfl, ev_aw_of 472 (by decide +kernel) rfl, ⟨by decide +kernel, by decide +kernel, by decide +kernel⟩, by decide, rfl, rfl⟩
abbrev jX2_tellSetting : ev_I := (yX2_tellSetting, cX2_tellSetting, 2, some .int, { frames := 1, cells := 0, slots := 0, locals := 20 })
theorem cyX2_tellSetting : ev_Yv jX2_tellSetting 1 := ⟨ev_aw_of 508 (by decide +kernel) rfl, ev_aw_of 509 (by decide +kernel) rfl, ev_aw_of 62 (by decide +kernel) rfl, ev_aw_of 510 (by decide +kernel) rfl, ⟨by decide +kernel, by decide +kernel, by decide +kernel⟩, by decide, rfl, rfl⟩
abbrev jX2_tellState : ev_I := (yX2_tellState, cX2_tellState, 3, some .int, { frames := 1, cells := 0, slots := 0, locals := 20 })
theorem cyX2_tellState : ev_Yv jX2_tellState 2 := ⟨ev_aw_of 512 (by decide +kernel) rfl, ev_aw_of 513 (by decide +kernel) rfl, ev_aw_of 62 (by decide +kernel) rfl, ev_aw_of 514 (by decide +kernel) rfl, ⟨by decide +kernel, by decide +kernel, by decide +kernel⟩, by decide, rfl, rfl⟩
abbrev jX3_init : ev_I := (yX3_init, cX3_init, 1, none, { frames := 1, cells := 0, slots := 0, locals := 20 })
abbrev jX3_append : ev_I := (yX3_append, cX3_append, 2, some .int, { frames := 0, cells := 0, slots := 0, locals := 0 })
theorem cyX3_append : ev_Yv jX3_append 1 := ⟨ev_aw_of 273 (by decide +kernel) rfl, ev_aw_of 274 (by decide +kernel) rfl, ev_aw_of 61 (by decide +kernel) rfl, ev_aw_of 275 (by decide +kernel) rfl, ⟨by decide +kernel, by decide +kernel, by decide +kernel⟩, by decide, rfl, rfl⟩
abbrev jX3_empty : ev_I := (yX3_empty, cX3_empty, 2, some .int, { frames := 0, cells := 0, slots := 0, locals := 0 })
theorem cyX3_empty : ev_Yv jX3_empty 0 := ⟨ev_aw_of 281 (by decide +kernel) rfl, ev_aw_of 282 (by decide +kernel) rfl, ev_aw_of 61 (by decide +kernel) rfl, ev_aw_of 283 (by decide +kernel) rfl, ⟨by decide +kernel, by decide +kernel, by decide +kernel⟩, by decide, rfl, rfl⟩
abbrev jX3_firstFault : ev_I := (yX3_firstFault, cX3_firstFault, 4, some .int, { frames := 4, cells := 0, slots := 0, locals := 90 })
theorem cyX3_firstFault : ev_Yv jX3_firstFault 0 := ⟨ev_aw_of 289 (by decide +kernel) rfl, ev_aw_of 290 (by decide +kernel) rfl, ev_aw_of 61 (by decide +kernel) rfl, ev_aw_of 291 (by decide +kernel) rfl, ⟨by decide +kernel, by decide +kernel, by decide +kernel⟩, by decide, rfl, rfl⟩
abbrev jX3_beginsWithHost : ev_I := (yX3_beginsWithHost, cX3_beginsWithHost, 1, some .boolean, { frames := 0, cells := 0, slots := 0, locals := 0 })
theorem cyX3_beginsWithHost : ev_Yv jX3_beginsWithHost 0 := ⟨ev_aw_of 325 (by decide +kernel) rfl, ev_aw_of 326 (by decide +kernel) rfl, ev_aw_of 61 (by decide +kernel) rfl, ev_aw_of 327 (by decide +kernel) rfl, ⟨by decide +kernel, by decide +kernel, by decide +kernel⟩, by decide, rfl, rfl⟩
abbrev jX3_readItem : ev_I := (yX3_readItem, cX3_readItem, 7, some .int, { frames := 3, cells := 0, slots := 0, locals := 64 })
theorem cyX3_readItem : ev_Yv jX3_readItem 2 := ⟨ev_aw_of 294 (by decide +kernel) rfl, ev_aw_of 1 (by decide +kernel) rfl, ev_aw_of 61 (by decide +kernel) rfl, ev_aw_of 295 (by decide +kernel) rfl, ⟨by decide +kernel, by decide +kernel, by decide +kernel⟩, by decide, rfl, rfl⟩
abbrev jX3_letterAt : ev_I := (yX3_letterAt, cX3_letterAt, 2, some .char, { frames := 0, cells := 0, slots := 0, locals := 0 })
theorem cyX3_letterAt : ev_Yv jX3_letterAt 1 := ⟨ev_aw_of 298 (by decide +kernel) rfl, ev_aw_of 2 (by decide +kernel) rfl, ev_aw_of 61 (by decide +kernel) rfl, ev_aw_of 299 (by decide +kernel) rfl, ⟨by decide +kernel, by decide +kernel, by decide +kernel⟩, by decide, rfl, rfl⟩
abbrev jX3_isFigure : ev_I := (yX3_isFigure, cX3_isFigure, 3, some .boolean, { frames := 1, cells := 0, slots := 0, locals := 21 })
theorem cyX3_isFigure : ev_Yv jX3_isFigure 1 := ⟨ev_aw_of 306 (by decide +kernel) rfl, ev_aw_of 4 (by decide +kernel) rfl, ev_aw_of 61 (by decide +kernel) rfl, ev_aw_of 307 (by decide +kernel) rfl, ⟨by decide +kernel, by decide +kernel, by decide +kernel⟩, by decide, rfl, rfl⟩
abbrev jX3_figuresAt : ev_I := (yX3_figuresAt, cX3_figuresAt, 2, some .int, { frames := 2, cells := 0, slots := 0, locals := 43 })
theorem cyX3_figuresAt : ev_Yv jX3_figuresAt 1 := ⟨ev_aw_of 302 (by decide +kernel) rfl, ev_aw_of 3 (by decide +kernel) rfl, ev_aw_of 61 (by decide +kernel) rfl, ev_aw_of 303 (by decide +kernel) rfl, ⟨by decide +kernel, by decide +kernel, by decide +kernel⟩, by decide, rfl, rfl⟩
abbrev jX3_numberAt : ev_I := (yX3_numberAt, cX3_numberAt, 5, some .int, { frames := 1, cells := 0, slots := 0, locals := 21 })
theorem cyX3_numberAt : ev_Yv jX3_numberAt 2 := ⟨ev_aw_of 310 (by decide +kernel) rfl, ev_aw_of 5 (by decide +kernel) rfl, ev_aw_of 61 (by decide +kernel) rfl, ev_aw_of 311 (by decide +kernel) rfl, ⟨by decide +kernel, by decide +kernel, by decide +kernel⟩, by decide, rfl, rfl⟩
abbrev jX3_hasTakenAddress : ev_I := (yX3_hasTakenAddress, cX3_hasTakenAddress, 7, some .boolean, { frames := 0, cells := 0, slots := 0, locals := 0 })
theorem cyX3_hasTakenAddress : ev_Yv jX3_hasTakenAddress 1 := ⟨ev_aw_of 318 (by decide +kernel) rfl, ev_aw_of 6 (by decide +kernel) rfl, ev_aw_of 61 (by decide +kernel) rfl, ev_aw_of 319 (by decide +kernel) rfl, ⟨by decide +kernel, by decide +kernel, by decide +kernel⟩, by decide, rfl, rfl⟩
abbrev jX4_init : ev_I := (yX4_init, cX4_init, 2, none, { frames := 4, cells := 0, slots := 0, locals := 85 })
abbrev jX4_write : ev_I := (yX4_write, cX4_write, 2, some .int, { frames := 1, cells := 0, slots := 0, locals := 21 })
theorem cyX4_write : ev_Yv jX4_write 1 := ⟨ev_aw_of 269 (by decide +kernel) rfl, ev_aw_of 270 (by decide +kernel) rfl, ev_aw_of 60 (by decide +kernel) rfl, ev_aw_of 271 (by decide +kernel) rfl, ⟨by decide +kernel, by decide +kernel, by decide +kernel⟩, by decide, rfl, rfl⟩
abbrev jX4_wipe : ev_I := (yX4_wipe, cX4_wipe, 1, some .int, { frames := 1, cells := 0, slots := 0, locals := 21 })
theorem cyX4_wipe : ev_Yv jX4_wipe 0 := ⟨ev_aw_of 277 (by decide +kernel) rfl, ev_aw_of 278 (by decide +kernel) rfl, ev_aw_of 60 (by decide +kernel) rfl, ev_aw_of 279 (by decide +kernel) rfl, ⟨by decide +kernel, by decide +kernel, by decide +kernel⟩, by decide, rfl, rfl⟩
abbrev jX4_fault : ev_I := (yX4_fault, cX4_fault, 1, some .int, { frames := 5, cells := 0, slots := 0, locals := 113 })
theorem cyX4_fault : ev_Yv jX4_fault 0 := ⟨ev_aw_of 285 (by decide +kernel) rfl, ev_aw_of 286 (by decide +kernel) rfl, ev_aw_of 60 (by decide +kernel) rfl, ev_aw_of 287 (by decide +kernel) rfl, ⟨by decide +kernel, by decide +kernel, by decide +kernel⟩, by decide, rfl, rfl⟩
abbrev jX4_lay : ev_I := (yX4_lay, cX4_lay, 1, some .int, { frames := 5, cells := 0, slots := 0, locals := 113 })
theorem cyX4_lay : ev_Yv jX4_lay 0 := ⟨ev_aw_of 321 (by decide +kernel) rfl, ev_aw_of 322 (by decide +kernel) rfl, ev_aw_of 60 (by decide +kernel) rfl, ev_aw_of 323 (by decide +kernel) rfl, ⟨by decide +kernel, by decide +kernel, by decide +kernel⟩, by decide, rfl, rfl⟩
abbrev jX4_command : ev_I := (yX4_command, cX4_command, 2, some .int, { frames := 6, cells := 0, slots := 0, locals := 128 })
theorem cyX4_command : ev_Yv jX4_command 1 := ⟨ev_aw_of 329 (by decide +kernel) rfl, ev_aw_of 330 (by decide +kernel) rfl, ev_aw_of 60 (by decide +kernel) rfl, ev_aw_of 331 (by decide +kernel) rfl, ⟨by decide +kernel, by decide +kernel, by decide +kernel⟩, by decide, rfl, rfl⟩
abbrev jX4_give : ev_I := (yX4_give, cX4_give, 1, some .int, { frames := 4, cells := 0, slots := 0, locals := 87 })
theorem cyX4_give : ev_Yv jX4_give 0 := ⟨ev_aw_of 429 (by decide +kernel) rfl, ev_aw_of 430 (by decide +kernel) rfl, ev_aw_of 60 (by decide +kernel) rfl, ev_aw_of 431 (by decide +kernel) rfl, ⟨by decide +kernel, by decide +kernel, by decide +kernel⟩, by decide, rfl, rfl⟩
abbrev jX4_tick : ev_I := (yX4_tick, cX4_tick, 2, some .int, { frames := 3, cells := 0, slots := 0, locals := 64 })
theorem cyX4_tick : ev_Yv jX4_tick 1 := ⟨ev_aw_of 454 (by decide +kernel) rfl, ev_aw_of 455 (by decide +kernel) rfl, ev_aw_of 60 (by decide +kernel) rfl, ev_aw_of 456 (by decide +kernel) rfl, ⟨by decide +kernel, by decide +kernel, by decide +kernel⟩, by decide, rfl, rfl⟩
abbrev jX4_poll : ev_I := (yX4_poll, cX4_poll, 3, some .int, { frames := 7, cells := 0, slots := 0, locals := 150 })
theorem cyX4_poll : ev_Yv jX4_poll 0 := ⟨ev_aw_of 458 (by decide +kernel) rfl, ev_aw_of 459 (by decide +kernel) rfl, ev_aw_of 60 (by decide +kernel) rfl, ev_aw_of 460 (by decide +kernel) rfl, ⟨by decide +kernel, by decide +kernel, by decide +kernel⟩, by decide, rfl, rfl⟩
abbrev jX4_parallel : ev_I := (yX4_parallel, cX4_parallel, 3, some .int, { frames := 3, cells := 0, slots := 0, locals := 64 })
theorem cyX4_parallel : ev_Yv jX4_parallel 0 := ⟨ev_aw_of 466 (by decide +kernel) rfl, ev_aw_of 467 (by decide +kernel) rfl, ev_aw_of 60 (by decide +kernel) rfl, ev_aw_of 468 (by decide +kernel) rfl, ⟨by decide +kernel, by decide +kernel, by decide +kernel⟩, by decide, rfl, rfl⟩
abbrev jX4_takeBack : ev_I := (yX4_takeBack, cX4_takeBack, 2, some .int, { frames := 1, cells := 0, slots := 0, locals := 21 })
theorem cyX4_takeBack : ev_Yv jX4_takeBack 0 := ⟨ev_aw_of 477 (by decide +kernel) rfl, ev_aw_of 478 (by decide +kernel) rfl, ev_aw_of 60 (by decide +kernel) rfl, ev_aw_of 479 (by decide +kernel) rfl, ⟨by decide +kernel, by decide +kernel, by decide +kernel⟩, by decide, rfl, rfl⟩
abbrev jX4_put : ev_I := (yX4_put, cX4_put, 3, some .int, { frames := 1, cells := 0, slots := 0, locals := 21 })
theorem cyX4_put : ev_Yv jX4_put 2 := ⟨ev_aw_of 481 (by decide +kernel) rfl, ev_aw_of 482 (by decide +kernel) rfl, ev_aw_of 60 (by decide +kernel) rfl, ev_aw_of 483 (by decide +kernel) rfl, ⟨by decide +kernel, by decide +kernel, by decide +kernel⟩, by decide, rfl, rfl⟩
abbrev jX4_take : ev_I := (yX4_take, cX4_take, 2, some .int, { frames := 1, cells := 0, slots := 0, locals := 22 })
theorem cyX4_take : ev_Yv jX4_take 1 := ⟨ev_aw_of 485 (by decide +kernel) rfl, ev_aw_of 486 (by decide +kernel) rfl, ev_aw_of 60 (by decide +kernel) rfl, ev_aw_of 487 (by decide +kernel) rfl, ⟨by decide +kernel, by decide +kernel, by decide +kernel⟩, by decide, rfl, rfl⟩
abbrev jX4_ask : ev_I := (yX4_ask, cX4_ask, 5, some .int, { frames := 1, cells := 0, slots := 0, locals := 21 })
theorem cyX4_ask : ev_Yv jX4_ask 3 := ⟨ev_aw_of 489 (by decide +kernel) rfl, ev_aw_of 490 (by decide +kernel) rfl, ev_aw_of 60 (by decide +kernel) rfl, ev_aw_of 491 (by decide +kernel) rfl, ⟨by decide +kernel, by decide +kernel, by decide +kernel⟩, by decide, rfl, rfl⟩
abbrev jX4_front : ev_I := (yX4_front, cX4_front, 2, some .int, { frames := 1, cells := 0, slots := 0, locals := 21 })
theorem cyX4_front : ev_Yv jX4_front 1 := ⟨ev_aw_of 493 (by decide +kernel) rfl, ev_aw_of 494 (by decide +kernel) rfl, ev_aw_of 60 (by decide +kernel) rfl, ev_aw_of 495 (by decide +kernel) rfl, ⟨by decide +kernel, by decide +kernel, by decide +kernel⟩, by decide, rfl, rfl⟩
abbrev jX4_tune : ev_I := (yX4_tune, cX4_tune, 6, some .int, { frames := 1, cells := 0, slots := 0, locals := 21 })
theorem cyX4_tune : ev_Yv jX4_tune 3 := ⟨ev_aw_of 498 (by decide +kernel) rfl, ev_aw_of 499 (by decide +kernel) rfl, ev_aw_of 60 (by decide +kernel) rfl, ev_aw_of 500 (by decide +kernel) rfl, ⟨by decide +kernel, by decide +kernel, by decide +kernel⟩, by decide, rfl, rfl⟩
abbrev jX4_device : ev_I := (yX4_device, cX4_device, 3, some .int, { frames := 2, cells := 0, slots := 0, locals := 42 })
theorem cyX4_device : ev_Yv jX4_device 2 := ⟨ev_aw_of 504 (by decide +kernel) rfl, ev_aw_of 505 (by decide +kernel) rfl, ev_aw_of 60 (by decide +kernel) rfl, ev_aw_of 506 (by decide +kernel) rfl, ⟨by decide +kernel, by decide +kernel, by decide +kernel⟩, by decide, rfl, rfl⟩
abbrev jX4_row : ev_I := (yX4_row, cX4_row, 4, some .int, { frames := 1, cells := 0, slots := 0, locals := 21 })
theorem cyX4_row : ev_Yv jX4_row 3 := ⟨ev_aw_of 516 (by decide +kernel) rfl, ev_aw_of 517 (by decide +kernel) rfl, ev_aw_of 60 (by decide +kernel) rfl, ev_aw_of 518 (by decide +kernel) rfl, ⟨by decide +kernel, by decide +kernel, by decide +kernel⟩, by decide, rfl, rfl⟩
abbrev jX4_bus : ev_I := (yX4_bus, cX4_bus, 2, some .int, { frames := 2, cells := 0, slots := 0, locals := 43 })
theorem cyX4_bus : ev_Yv jX4_bus 1 := ⟨ev_aw_of 524 (by decide +kernel) rfl, ev_aw_of 525 (by decide +kernel) rfl, ev_aw_of 60 (by decide +kernel) rfl, ev_aw_of 526 (by decide +kernel) rfl, ⟨by decide +kernel, by decide +kernel, by decide +kernel⟩, by decide, rfl, rfl⟩
abbrev jX4_sum : ev_I := (yX4_sum, cX4_sum, 2, some .int, { frames := 0, cells := 0, slots := 0, locals := 0 })
theorem cyX4_sum : ev_Yv jX4_sum 1 := ⟨ev_aw_of 536 (by decide +kernel) rfl, ev_aw_of 537 (by decide +kernel) rfl, ev_aw_of 60 (by decide +kernel) rfl, ev_aw_of 538 (by decide +kernel) rfl, ⟨by decide +kernel, by decide +kernel, by decide +kernel⟩, by decide, rfl, rfl⟩
abbrev jX4_log : ev_I := (yX4_log, cX4_log, 3, some .int, { frames := 1, cells := 0, slots := 0, locals := 23 })
theorem cyX4_log : ev_Yv jX4_log 2 := ⟨ev_aw_of 540 (by decide +kernel) rfl, ev_aw_of 541 (by decide +kernel) rfl, ev_aw_of 60 (by decide +kernel) rfl, ev_aw_of 542 (by decide +kernel) rfl, ⟨by decide +kernel, by decide +kernel, by decide +kernel⟩, by decide, rfl, rfl⟩
abbrev jX4_beginWith : ev_I := (yX4_beginWith, cX4_beginWith, 4, none, { frames := 3, cells := 0, slots := 0, locals := 62 })
theorem cyX4_beginWith : ev_Yv jX4_beginWith 2 := ⟨ev_aw_of 219 (by decide +kernel) rfl, ev_aw_of 0 (by decide +kernel) rfl, ev_aw_of 60 (by decide +kernel) rfl, ev_aw_of 220 (by decide +kernel) rfl, ⟨by decide +kernel, by decide +kernel, by decide +kernel⟩, by decide, rfl, rfl⟩
abbrev jX4_isDevice : ev_I := (yX4_isDevice, cX4_isDevice, 2, some .boolean, { frames := 0, cells := 0, slots := 0, locals := 0 })
theorem cyX4_isDevice : ev_Yv jX4_isDevice 1 := ⟨ev_aw_of 396 (by decide +kernel) rfl, ev_aw_of 16 (by decide +kernel) rfl, ev_aw_of 60 (by decide +kernel) rfl, ev_aw_of 397 (by decide +kernel) rfl, ⟨by decide +kernel, by decide +kernel, by decide +kernel⟩, by decide, rfl, rfl⟩
abbrev jX4_bit : ev_I := (yX4_bit, cX4_bit, 1, some .int, { frames := 0, cells := 0, slots := 0, locals := 0 })
theorem cyX4_bit : ev_Ys jX4_bit 1 := ⟨ev_aw_of 474 (by decide +kernel) rfl, ev_aw_of 60 (by decide +kernel) rfl, ev_aw_of 475 (by decide +kernel) rfl, ⟨by decide +kernel, by decide +kernel, by decide +kernel⟩, by decide, rfl, rfl⟩
abbrev jX4_passTicks : ev_I := (yX4_passTicks, cX4_passTicks, 3, none, { frames := 2, cells := 0, slots := 0, locals := 42 })
theorem cyX4_passTicks : ev_Yv jX4_passTicks 1 := ⟨ev_aw_of 352 (by decide +kernel) rfl, ev_aw_of 9 (by decide +kernel) rfl, ev_aw_of 60 (by decide +kernel) rfl, ev_aw_of 353 (by decide +kernel) rfl, ⟨by decide +kernel, by decide +kernel, by decide +kernel⟩, by decide, rfl, rfl⟩
abbrev jX4_greatestPace : ev_I := (yX4_greatestPace, cX4_greatestPace, 3, some .int, { frames := 1, cells := 0, slots := 0, locals := 21 })
theorem cyX4_greatestPace : ev_Yv jX4_greatestPace 0 := ⟨ev_aw_of 345 (by decide +kernel) rfl, ev_aw_of 8 (by decide +kernel) rfl, ev_aw_of 60 (by decide +kernel) rfl, ev_aw_of 346 (by decide +kernel) rfl, ⟨by decide +kernel, by decide +kernel, by decide +kernel⟩, by decide, rfl, rfl⟩
abbrev jX4_sendAddress : ev_I := (yX4_sendAddress, cX4_sendAddress, 3, none, { frames := 6, cells := 0, slots := 0, locals := 128 })
theorem cyX4_sendAddress : ev_Yv jX4_sendAddress 2 := ⟨ev_aw_of 463 (by decide +kernel) rfl, ev_aw_of 26 (by decide +kernel) rfl, ev_aw_of 60 (by decide +kernel) rfl, ev_aw_of 464 (by decide +kernel) rfl, ⟨by decide +kernel, by decide +kernel, by decide +kernel⟩, by decide, rfl, rfl⟩
abbrev jX4_send : ev_I := (yX4_send, cX4_send, 2, none, { frames := 5, cells := 0, slots := 0, locals := 107 })
theorem cyX4_send : ev_Yv jX4_send 1 := ⟨ev_aw_of 334 (by decide +kernel) rfl, ev_aw_of 7 (by decide +kernel) rfl, ev_aw_of 60 (by decide +kernel) rfl, ev_aw_of 335 (by decide +kernel) rfl, ⟨by decide +kernel, by decide +kernel, by decide +kernel⟩, by decide, rfl, rfl⟩
abbrev jX4_obeyPlain : ev_I := (yX4_obeyPlain, cX4_obeyPlain, 3, none, { frames := 4, cells := 0, slots := 0, locals := 85 })
theorem cyX4_obeyPlain : ev_Yv jX4_obeyPlain 1 := ⟨ev_aw_of 388 (by decide +kernel) rfl, ev_aw_of 14 (by decide +kernel) rfl, ev_aw_of 60 (by decide +kernel) rfl, ev_aw_of 389 (by decide +kernel) rfl, ⟨by decide +kernel, by decide +kernel, by decide +kernel⟩, by decide, rfl, rfl⟩
abbrev jX4_obeyAsOneOfAll : ev_I := (yX4_obeyAsOneOfAll, cX4_obeyAsOneOfAll, 3, none, { frames := 2, cells := 0, slots := 0, locals := 40 })
theorem cyX4_obeyAsOneOfAll : ev_Yv jX4_obeyAsOneOfAll 2 := ⟨ev_aw_of 400 (by decide +kernel) rfl, ev_aw_of 17 (by decide +kernel) rfl, ev_aw_of 60 (by decide +kernel) rfl, ev_aw_of 401 (by decide +kernel) rfl, ⟨by decide +kernel, by decide +kernel, by decide +kernel⟩, by decide, rfl, rfl⟩
abbrev jX4_obeyAsListener : ev_I := (yX4_obeyAsListener, cX4_obeyAsListener, 3, none, { frames := 3, cells := 0, slots := 0, locals := 63 })
theorem cyX4_obeyAsListener : ev_Yv jX4_obeyAsListener 2 := ⟨ev_aw_of 405 (by decide +kernel) rfl, ev_aw_of 18 (by decide +kernel) rfl, ev_aw_of 60 (by decide +kernel) rfl, ev_aw_of 406 (by decide +kernel) rfl, ⟨by decide +kernel, by decide +kernel, by decide +kernel⟩, by decide, rfl, rfl⟩
abbrev jX4_triggerOne : ev_I := (yX4_triggerOne, cX4_triggerOne, 2, none, { frames := 2, cells := 0, slots := 0, locals := 42 })
theorem cyX4_triggerOne : ev_Yv jX4_triggerOne 1 := ⟨ev_aw_of 409 (by decide +kernel) rfl, ev_aw_of 19 (by decide +kernel) rfl, ev_aw_of 60 (by decide +kernel) rfl, ev_aw_of 410 (by decide +kernel) rfl, ⟨by decide +kernel, by decide +kernel, by decide +kernel⟩, by decide, rfl, rfl⟩
abbrev jX4_passCharge : ev_I := (yX4_passCharge, cX4_passCharge, 1, none, { frames := 1, cells := 0, slots := 0, locals := 21 })
theorem cyX4_passCharge : ev_Yv jX4_passCharge 0 := ⟨ev_aw_of 392 (by decide +kernel) rfl, ev_aw_of 15 (by decide +kernel) rfl, ev_aw_of 60 (by decide +kernel) rfl, ev_aw_of 393 (by decide +kernel) rfl, ⟨by decide +kernel, by decide +kernel, by decide +kernel⟩, by decide, rfl, rfl⟩
abbrev jX4_callListener : ev_I := (yX4_callListener, cX4_callListener, 3, none, { frames := 1, cells := 0, slots := 0, locals := 20 })
theorem cyX4_callListener : ev_Yv jX4_callListener 1 := ⟨ev_aw_of 418 (by decide +kernel) rfl, ev_aw_of 20 (by decide +kernel) rfl, ev_aw_of 60 (by decide +kernel) rfl, ev_aw_of 419 (by decide +kernel) rfl, ⟨by decide +kernel, by decide +kernel, by decide +kernel⟩, by decide, rfl, rfl⟩
abbrev jX4_callTalker : ev_I := (yX4_callTalker, cX4_callTalker, 3, none, { frames := 0, cells := 0, slots := 0, locals := 0 })
theorem cyX4_callTalker : ev_Yv jX4_callTalker 1 := ⟨ev_aw_of 426 (by decide +kernel) rfl, ev_aw_of 22 (by decide +kernel) rfl, ev_aw_of 60 (by decide +kernel) rfl, ev_aw_of 427 (by decide +kernel) rfl, ⟨by decide +kernel, by decide +kernel, by decide +kernel⟩, by decide, rfl, rfl⟩
abbrev jX4_obeySecond : ev_I := (yX4_obeySecond, cX4_obeySecond, 2, none, { frames := 2, cells := 0, slots := 0, locals := 42 })
theorem cyX4_obeySecond : ev_Yv jX4_obeySecond 1 := ⟨ev_aw_of 368 (by decide +kernel) rfl, ev_aw_of 10 (by decide +kernel) rfl, ev_aw_of 60 (by decide +kernel) rfl, ev_aw_of 369 (by decide +kernel) rfl, ⟨by decide +kernel, by decide +kernel, by decide +kernel⟩, by decide, rfl, rfl⟩
abbrev jX4_setLines : ev_I := (yX4_setLines, cX4_setLines, 3, none, { frames := 0, cells := 0, slots := 0, locals := 0 })
theorem cyX4_setLines : ev_Yv jX4_setLines 1 := ⟨ev_aw_of 372 (by decide +kernel) rfl, ev_aw_of 11 (by decide +kernel) rfl, ev_aw_of 60 (by decide +kernel) rfl, ev_aw_of 373 (by decide +kernel) rfl, ⟨by decide +kernel, by decide +kernel, by decide +kernel⟩, by decide, rfl, rfl⟩
abbrev jX4_answerSecond : ev_I := (yX4_answerSecond, cX4_answerSecond, 3, none, { frames := 1, cells := 0, slots := 0, locals := 20 })
theorem cyX4_answerSecond : ev_Yv jX4_answerSecond 1 := ⟨ev_aw_of 376 (by decide +kernel) rfl, ev_aw_of 12 (by decide +kernel) rfl, ev_aw_of 60 (by decide +kernel) rfl, ev_aw_of 377 (by decide +kernel) rfl, ⟨by decide +kernel, by decide +kernel, by decide +kernel⟩, by decide, rfl, rfl⟩
abbrev jX4_endListening : ev_I := (yX4_endListening, cX4_endListening, 2, none, { frames := 0, cells := 0, slots := 0, locals := 0 })
theorem cyX4_endListening : ev_Yv jX4_endListening 0 := ⟨ev_aw_of 422 (by decide +kernel) rfl, ev_aw_of 21 (by decide +kernel) rfl, ev_aw_of 60 (by decide +kernel) rfl, ev_aw_of 423 (by decide +kernel) rfl, ⟨by decide +kernel, by decide +kernel, by decide +kernel⟩, by decide, rfl, rfl⟩
abbrev jX4_endNamedAndPrepared : ev_I := (yX4_endNamedAndPrepared, cX4_endNamedAndPrepared, 2, none, { frames := 0, cells := 0, slots := 0, locals := 0 })
theorem cyX4_endNamedAndPrepared : ev_Yv jX4_endNamedAndPrepared 0 := ⟨ev_aw_of 384 (by decide +kernel) rfl, ev_aw_of 13 (by decide +kernel) rfl, ev_aw_of 60 (by decide +kernel) rfl, ev_aw_of 385 (by decide +kernel) rfl, ⟨by decide +kernel, by decide +kernel, by decide +kernel⟩, by decide, rfl, rfl⟩
abbrev jX4_takesBytes : ev_I := (yX4_takesBytes, cX4_takesBytes, 2, some .boolean, { frames := 0, cells := 0, slots := 0, locals := 0 })
theorem cyX4_takesBytes : ev_Yv jX4_takesBytes 1 := ⟨ev_aw_of 442 (by decide +kernel) rfl, ev_aw_of 25 (by decide +kernel) rfl, ev_aw_of 60 (by decide +kernel) rfl, ev_aw_of 443 (by decide +kernel) rfl, ⟨by decide +kernel, by decide +kernel, by decide +kernel⟩, by decide, rfl, rfl⟩
abbrev jX4_ticksOfNextByte : ev_I := (yX4_ticksOfNextByte, cX4_ticksOfNextByte, 3, some .int, { frames := 1, cells := 0, slots := 0, locals := 21 })
theorem cyX4_ticksOfNextByte : ev_Yv jX4_ticksOfNextByte 0 := ⟨ev_aw_of 438 (by decide +kernel) rfl, ev_aw_of 24 (by decide +kernel) rfl, ev_aw_of 60 (by decide +kernel) rfl, ev_aw_of 439 (by decide +kernel) rfl, ⟨by decide +kernel, by decide +kernel, by decide +kernel⟩, by decide, rfl, rfl⟩
abbrev jX4_giveByte : ev_I := (yX4_giveByte, cX4_giveByte, 4, some .int, { frames := 3, cells := 0, slots := 0, locals := 64 })
theorem cyX4_giveByte : ev_Yv jX4_giveByte 0 := ⟨ev_aw_of 434 (by decide +kernel) rfl, ev_aw_of 23 (by decide +kernel) rfl, ev_aw_of 60 (by decide +kernel) rfl, ev_aw_of 435 (by decide +kernel) rfl, ⟨by decide +kernel, by decide +kernel, by decide +kernel⟩, by decide, rfl, rfl⟩
abbrev jX4_listenerBits : ev_I := (yX4_listenerBits, cX4_listenerBits, 3, some .int, { frames := 0, cells := 0, slots := 0, locals := 0 })
theorem cyX4_listenerBits : ev_Yv jX4_listenerBits 0 := ⟨ev_aw_of 529 (by decide +kernel) rfl, ev_aw_of 27 (by decide +kernel) rfl, ev_aw_of 60 (by decide +kernel) rfl, ev_aw_of 530 (by decide +kernel) rfl, ⟨by decide +kernel, by decide +kernel, by decide +kernel⟩, by decide, rfl, rfl⟩
abbrev jX4_someoneAsks : ev_I := (yX4_someoneAsks, cX4_someoneAsks, 2, some .boolean, { frames := 0, cells := 0, slots := 0, locals := 0 })
theorem cyX4_someoneAsks : ev_Yv jX4_someoneAsks 0 := ⟨ev_aw_of 533 (by decide +kernel) rfl, ev_aw_of 28 (by decide +kernel) rfl, ev_aw_of 60 (by decide +kernel) rfl, ev_aw_of 534 (by decide +kernel) rfl, ⟨by decide +kernel, by decide +kernel, by decide +kernel⟩, by decide, rfl, rfl⟩
abbrev jX5_init : ev_I := (yX5_init, cX5_init, 2, none, { frames := 2, cells := 0, slots := 0, locals := 45 })
abbrev jX5_isIn : ev_I := (yX5_isIn, cX5_isIn, 3, some .boolean, { frames := 0, cells := 0, slots := 0, locals := 0 })
theorem cyX5_isIn : ev_Ys jX5_isIn 3 := ⟨ev_aw_of 654 (by decide +kernel) rfl, ev_aw_of 65 (by decide +kernel) rfl, ev_aw_of 655 (by decide +kernel) rfl, ⟨by decide +kernel, by decide +kernel, by decide +kernel⟩, by decide, rfl, rfl⟩
abbrev jX5_of : ev_I := (yX5_of, cX5_of, 3, some .int, { frames := 0, cells := 0, slots := 0, locals := 0 })
theorem cyX5_of : ev_Yv jX5_of 2 := ⟨ev_aw_of 674 (by decide +kernel) rfl, ev_aw_of 37 (by decide +kernel) rfl, ev_aw_of 65 (by decide +kernel) rfl, ev_aw_of 675 (by decide +kernel) rfl, ⟨by decide +kernel, by decide +kernel, by decide +kernel⟩, by decide, rfl, rfl⟩
abbrev jX5_puts : ev_I := (yX5_puts, cX5_puts, 4, none, { frames := 0, cells := 0, slots := 0, locals := 0 })
theorem cyX5_puts : ev_Yv jX5_puts 3 := ⟨ev_aw_of 559 (by decide +kernel) rfl, ev_aw_of 30 (by decide +kernel) rfl, ev_aw_of 65 (by decide +kernel) rfl, ev_aw_of 560 (by decide +kernel) rfl, ⟨by decide +kernel, by decide +kernel, by decide +kernel⟩, by decide, rfl, rfl⟩
abbrev jX5_begins : ev_I := (yX5_begins, cX5_begins, 3, none, { frames := 1, cells := 0, slots := 0, locals := 23 })
theorem cyX5_begins : ev_Yv jX5_begins 0 := ⟨ev_aw_of 555 (by decide +kernel) rfl, ev_aw_of 29 (by decide +kernel) rfl, ev_aw_of 65 (by decide +kernel) rfl, ev_aw_of 556 (by decide +kernel) rfl, ⟨by decide +kernel, by decide +kernel, by decide +kernel⟩, by decide, rfl, rfl⟩
abbrev jX5_letterAt : ev_I := (yX5_letterAt, cX5_letterAt, 2, some .int, { frames := 0, cells := 0, slots := 0, locals := 0 })
theorem cyX5_letterAt : ev_Yv jX5_letterAt 1 := ⟨ev_aw_of 644 (by decide +kernel) rfl, ev_aw_of 33 (by decide +kernel) rfl, ev_aw_of 65 (by decide +kernel) rfl, ev_aw_of 645 (by decide +kernel) rfl, ⟨by decide +kernel, by decide +kernel, by decide +kernel⟩, by decide, rfl, rfl⟩
abbrev jX5_number : ev_I := (yX5_number, cX5_number, 5, some .boolean, { frames := 1, cells := 0, slots := 0, locals := 22 })
theorem cyX5_number : ev_Yv jX5_number 3 := ⟨ev_aw_of 651 (by decide +kernel) rfl, ev_aw_of 34 (by decide +kernel) rfl, ev_aw_of 65 (by decide +kernel) rfl, ev_aw_of 652 (by decide +kernel) rfl, ⟨by decide +kernel, by decide +kernel, by decide +kernel⟩, by decide, rfl, rfl⟩
abbrev jX5_highest : ev_I := (yX5_highest, cX5_highest, 1, some .int, { frames := 0, cells := 0, slots := 0, locals := 0 })
theorem cyX5_highest : ev_Ys jX5_highest 1 := ⟨ev_aw_of 647 (by decide +kernel) rfl, ev_aw_of 65 (by decide +kernel) rfl, ev_aw_of 648 (by decide +kernel) rfl, ⟨by decide +kernel, by decide +kernel, by decide +kernel⟩, by decide, rfl, rfl⟩
abbrev jX5_readsItem : ev_I := (yX5_readsItem, cX5_readsItem, 6, some .boolean, { frames := 2, cells := 0, slots := 0, locals := 46 })
theorem cyX5_readsItem : ev_Yv jX5_readsItem 1 := ⟨ev_aw_of 640 (by decide +kernel) rfl, ev_aw_of 32 (by decide +kernel) rfl, ev_aw_of 65 (by decide +kernel) rfl, ev_aw_of 641 (by decide +kernel) rfl, ⟨by decide +kernel, by decide +kernel, by decide +kernel⟩, by decide, rfl, rfl⟩
abbrev jX5_reads : ev_I := (yX5_reads, cX5_reads, 2, some .int, { frames := 3, cells := 0, slots := 0, locals := 71 })
theorem cyX5_reads : ev_Yv jX5_reads 0 := ⟨ev_aw_of 636 (by decide +kernel) rfl, ev_aw_of 31 (by decide +kernel) rfl, ev_aw_of 65 (by decide +kernel) rfl, ev_aw_of 637 (by decide +kernel) rfl, ⟨by decide +kernel, by decide +kernel, by decide +kernel⟩, by decide, rfl, rfl⟩
abbrev jX5_write : ev_I := (yX5_write, cX5_write, 2, some .int, { frames := 0, cells := 0, slots := 0, locals := 0 })
theorem cyX5_write : ev_Yv jX5_write 1 := ⟨ev_aw_of 623 (by decide +kernel) rfl, ev_aw_of 624 (by decide +kernel) rfl, ev_aw_of 65 (by decide +kernel) rfl, ev_aw_of 625 (by decide +kernel) rfl, ⟨by decide +kernel, by decide +kernel, by decide +kernel⟩, by decide, rfl, rfl⟩
abbrev jX5_wipe : ev_I := (yX5_wipe, cX5_wipe, 2, some .int, { frames := 0, cells := 0, slots := 0, locals := 0 })
theorem cyX5_wipe : ev_Yv jX5_wipe 0 := ⟨ev_aw_of 627 (by decide +kernel) rfl, ev_aw_of 628 (by decide +kernel) rfl, ev_aw_of 65 (by decide +kernel) rfl, ev_aw_of 629 (by decide +kernel) rfl, ⟨by decide +kernel, by decide +kernel, by decide +kernel⟩, by decide, rfl, rfl⟩
abbrev jX5_fault : ev_I := (yX5_fault, cX5_fault, 1, some .int, { frames := 4, cells := 0, slots := 0, locals := 92 })
theorem cyX5_fault : ev_Yv jX5_fault 0 := ⟨ev_aw_of 631 (by decide +kernel) rfl, ev_aw_of 632 (by decide +kernel) rfl, ev_aw_of 65 (by decide +kernel) rfl, ev_aw_of 633 (by decide +kernel) rfl, ⟨by decide +kernel, by decide +kernel, by decide +kernel⟩, by decide, rfl, rfl⟩
abbrev jX5_lay : ev_I := (yX5_lay, cX5_lay, 1, some .int, { frames := 4, cells := 0, slots := 0, locals := 92 })
theorem cyX5_lay : ev_Yv jX5_lay 0 := ⟨ev_aw_of 657 (by decide +kernel) rfl, ev_aw_of 658 (by decide +kernel) rfl, ev_aw_of 65 (by decide +kernel) rfl, ev_aw_of 659 (by decide +kernel) rfl, ⟨by decide +kernel, by decide +kernel, by decide +kernel⟩, by decide, rfl, rfl⟩
abbrev jX5_comes : ev_I := (yX5_comes, cX5_comes, 3, none, { frames := 1, cells := 0, slots := 0, locals := 23 })
theorem cyX5_comes : ev_Yv jX5_comes 0 := ⟨ev_aw_of 670 (by decide +kernel) rfl, ev_aw_of 36 (by decide +kernel) rfl, ev_aw_of 65 (by decide +kernel) rfl, ev_aw_of 671 (by decide +kernel) rfl, ⟨by decide +kernel, by decide +kernel, by decide +kernel⟩, by decide, rfl, rfl⟩
abbrev jX5_ticks : ev_I := (yX5_ticks, cX5_ticks, 3, none, { frames := 2, cells := 0, slots := 0, locals := 45 })
theorem cyX5_ticks : ev_Yv jX5_ticks 1 := ⟨ev_aw_of 666 (by decide +kernel) rfl, ev_aw_of 35 (by decide +kernel) rfl, ev_aw_of 65 (by decide +kernel) rfl, ev_aw_of 667 (by decide +kernel) rfl, ⟨by decide +kernel, by decide +kernel, by decide +kernel⟩, by decide, rfl, rfl⟩
abbrev jX5_tick : ev_I := (yX5_tick, cX5_tick, 2, some .int, { frames := 3, cells := 0, slots := 0, locals := 67 })
theorem cyX5_tick : ev_Yv jX5_tick 1 := ⟨ev_aw_of 661 (by decide +kernel) rfl, ev_aw_of 662 (by decide +kernel) rfl, ev_aw_of 65 (by decide +kernel) rfl, ev_aw_of 663 (by decide +kernel) rfl, ⟨by decide +kernel, by decide +kernel, by decide +kernel⟩, by decide, rfl, rfl⟩
abbrev jX5_clears : ev_I := (yX5_clears, cX5_clears, 2, none, { frames := 1, cells := 0, slots := 0, locals := 23 })
theorem cyX5_clears : ev_Yv jX5_clears 1 := ⟨ev_aw_of 698 (by decide +kernel) rfl, ev_aw_of 42 (by decide +kernel) rfl, ev_aw_of 65 (by decide +kernel) rfl, ev_aw_of 699 (by decide +kernel) rfl, ⟨by decide +kernel, by decide +kernel, by decide +kernel⟩, by decide, rfl, rfl⟩
abbrev jX5_triggers : ev_I := (yX5_triggers, cX5_triggers, 2, none, { frames := 1, cells := 0, slots := 0, locals := 23 })
theorem cyX5_triggers : ev_Yv jX5_triggers 1 := ⟨ev_aw_of 706 (by decide +kernel) rfl, ev_aw_of 44 (by decide +kernel) rfl, ev_aw_of 65 (by decide +kernel) rfl, ev_aw_of 707 (by decide +kernel) rfl, ⟨by decide +kernel, by decide +kernel, by decide +kernel⟩, by decide, rfl, rfl⟩
abbrev jX5_toListener : ev_I := (yX5_toListener, cX5_toListener, 3, none, { frames := 2, cells := 0, slots := 0, locals := 44 })
theorem cyX5_toListener : ev_Yv jX5_toListener 2 := ⟨ev_aw_of 702 (by decide +kernel) rfl, ev_aw_of 43 (by decide +kernel) rfl, ev_aw_of 65 (by decide +kernel) rfl, ev_aw_of 703 (by decide +kernel) rfl, ⟨by decide +kernel, by decide +kernel, by decide +kernel⟩, by decide, rfl, rfl⟩
abbrev jX5_talker : ev_I := (yX5_talker, cX5_talker, 2, some .int, { frames := 1, cells := 0, slots := 0, locals := 22 })
theorem cyX5_talker : ev_Yv jX5_talker 0 := ⟨ev_aw_of 714 (by decide +kernel) rfl, ev_aw_of 46 (by decide +kernel) rfl, ev_aw_of 65 (by decide +kernel) rfl, ev_aw_of 715 (by decide +kernel) rfl, ⟨by decide +kernel, by decide +kernel, by decide +kernel⟩, by decide, rfl, rfl⟩
abbrev jX5_silences : ev_I := (yX5_silences, cX5_silences, 2, none, { frames := 1, cells := 0, slots := 0, locals := 23 })
theorem cyX5_silences : ev_Yv jX5_silences 0 := ⟨ev_aw_of 730 (by decide +kernel) rfl, ev_aw_of 50 (by decide +kernel) rfl, ev_aw_of 65 (by decide +kernel) rfl, ev_aw_of 731 (by decide +kernel) rfl, ⟨by decide +kernel, by decide +kernel, by decide +kernel⟩, by decide, rfl, rfl⟩
abbrev jX5_passes : ev_I := (yX5_passes, cX5_passes, 2, none, { frames := 2, cells := 0, slots := 0, locals := 43 })
theorem cyX5_passes : ev_Yv jX5_passes 0 := ⟨ev_aw_of 710 (by decide +kernel) rfl, ev_aw_of 45 (by decide +kernel) rfl, ev_aw_of 65 (by decide +kernel) rfl, ev_aw_of 711 (by decide +kernel) rfl, ⟨by decide +kernel, by decide +kernel, by decide +kernel⟩, by decide, rfl, rfl⟩
abbrev jX5_listens : ev_I := (yX5_listens, cX5_listens, 2, none, { frames := 1, cells := 0, slots := 0, locals := 23 })
theorem cyX5_listens : ev_Yv jX5_listens 1 := ⟨ev_aw_of 726 (by decide +kernel) rfl, ev_aw_of 49 (by decide +kernel) rfl, ev_aw_of 65 (by decide +kernel) rfl, ev_aw_of 727 (by decide +kernel) rfl, ⟨by decide +kernel, by decide +kernel, by decide +kernel⟩, by decide, rfl, rfl⟩
abbrev jX5_addresses : ev_I := (yX5_addresses, cX5_addresses, 4, none, { frames := 2, cells := 0, slots := 0, locals := 44 })
theorem cyX5_addresses : ev_Yv jX5_addresses 2 := ⟨ev_aw_of 722 (by decide +kernel) rfl, ev_aw_of 48 (by decide +kernel) rfl, ev_aw_of 65 (by decide +kernel) rfl, ev_aw_of 723 (by decide +kernel) rfl, ⟨by decide +kernel, by decide +kernel, by decide +kernel⟩, by decide, rfl, rfl⟩
abbrev jX5_seconds : ev_I := (yX5_seconds, cX5_seconds, 5, none, { frames := 2, cells := 0, slots := 0, locals := 44 })
theorem cyX5_seconds : ev_Yv jX5_seconds 3 := ⟨ev_aw_of 738 (by decide +kernel) rfl, ev_aw_of 52 (by decide +kernel) rfl, ev_aw_of 65 (by decide +kernel) rfl, ev_aw_of 739 (by decide +kernel) rfl, ⟨by decide +kernel, by decide +kernel, by decide +kernel⟩, by decide, rfl, rfl⟩
abbrev jX5_prepares : ev_I := (yX5_prepares, cX5_prepares, 3, none, { frames := 1, cells := 0, slots := 0, locals := 23 })
theorem cyX5_prepares : ev_Yv jX5_prepares 1 := ⟨ev_aw_of 734 (by decide +kernel) rfl, ev_aw_of 51 (by decide +kernel) rfl, ev_aw_of 65 (by decide +kernel) rfl, ev_aw_of 735 (by decide +kernel) rfl, ⟨by decide +kernel, by decide +kernel, by decide +kernel⟩, by decide, rfl, rfl⟩
abbrev jX5_listeners : ev_I := (yX5_listeners, cX5_listeners, 3, some .int, { frames := 1, cells := 0, slots := 0, locals := 22 })
theorem cyX5_listeners : ev_Yv jX5_listeners 0 := ⟨ev_aw_of 694 (by decide +kernel) rfl, ev_aw_of 41 (by decide +kernel) rfl, ev_aw_of 65 (by decide +kernel) rfl, ev_aw_of 695 (by decide +kernel) rfl, ⟨by decide +kernel, by decide +kernel, by decide +kernel⟩, by decide, rfl, rfl⟩
abbrev jX5_slowest : ev_I := (yX5_slowest, cX5_slowest, 4, some .int, { frames := 1, cells := 0, slots := 0, locals := 22 })
theorem cyX5_slowest : ev_Yv jX5_slowest 1 := ⟨ev_aw_of 690 (by decide +kernel) rfl, ev_aw_of 40 (by decide +kernel) rfl, ev_aw_of 65 (by decide +kernel) rfl, ev_aw_of 691 (by decide +kernel) rfl, ⟨by decide +kernel, by decide +kernel, by decide +kernel⟩, by decide, rfl, rfl⟩
abbrev jX5_logs : ev_I := (yX5_logs, cX5_logs, 3, none, { frames := 0, cells := 0, slots := 0, locals := 0 })
theorem cyX5_logs : ev_Yv jX5_logs 1 := ⟨ev_aw_of 686 (by decide +kernel) rfl, ev_aw_of 39 (by decide +kernel) rfl, ev_aw_of 65 (by decide +kernel) rfl, ev_aw_of 687 (by decide +kernel) rfl, ⟨by decide +kernel, by decide +kernel, by decide +kernel⟩, by decide, rfl, rfl⟩
abbrev jX5_all : ev_I := (yX5_all, cX5_all, 4, none, { frames := 1, cells := 0, slots := 0, locals := 23 })
theorem cyX5_all : ev_Yv jX5_all 2 := ⟨ev_aw_of 718 (by decide +kernel) rfl, ev_aw_of 47 (by decide +kernel) rfl, ev_aw_of 65 (by decide +kernel) rfl, ev_aw_of 719 (by decide +kernel) rfl, ⟨by decide +kernel, by decide +kernel, by decide +kernel⟩, by decide, rfl, rfl⟩
abbrev jX5_sends : ev_I := (yX5_sends, cX5_sends, 6, none, { frames := 3, cells := 0, slots := 0, locals := 68 })
theorem cyX5_sends : ev_Yv jX5_sends 1 := ⟨ev_aw_of 682 (by decide +kernel) rfl, ev_aw_of 38 (by decide +kernel) rfl, ev_aw_of 65 (by decide +kernel) rfl, ev_aw_of 683 (by decide +kernel) rfl, ⟨by decide +kernel, by decide +kernel, by decide +kernel⟩, by decide, rfl, rfl⟩
abbrev jX5_command : ev_I := (yX5_command, cX5_command, 2, some .int, { frames := 4, cells := 0, slots := 0, locals := 93 })
theorem cyX5_command : ev_Yv jX5_command 1 := ⟨ev_aw_of 677 (by decide +kernel) rfl, ev_aw_of 678 (by decide +kernel) rfl, ev_aw_of 65 (by decide +kernel) rfl, ev_aw_of 679 (by decide +kernel) rfl, ⟨by decide +kernel, by decide +kernel, by decide +kernel⟩, by decide, rfl, rfl⟩
abbrev jX5_takers : ev_I := (yX5_takers, cX5_takers, 4, some .int, { frames := 2, cells := 0, slots := 0, locals := 44 })
theorem cyX5_takers : ev_Yv jX5_takers 0 := ⟨ev_aw_of 750 (by decide +kernel) rfl, ev_aw_of 54 (by decide +kernel) rfl, ev_aw_of 65 (by decide +kernel) rfl, ev_aw_of 751 (by decide +kernel) rfl, ⟨by decide +kernel, by decide +kernel, by decide +kernel⟩, by decide, rfl, rfl⟩
abbrev jX5_firstOf : ev_I := (yX5_firstOf, cX5_firstOf, 6, some .int, { frames := 1, cells := 0, slots := 0, locals := 23 })
theorem cyX5_firstOf : ev_Yv jX5_firstOf 3 := ⟨ev_aw_of 754 (by decide +kernel) rfl, ev_aw_of 55 (by decide +kernel) rfl, ev_aw_of 65 (by decide +kernel) rfl, ev_aw_of 755 (by decide +kernel) rfl, ⟨by decide +kernel, by decide +kernel, by decide +kernel⟩, by decide, rfl, rfl⟩
abbrev jX5_gives : ev_I := (yX5_gives, cX5_gives, 5, some .int, { frames := 3, cells := 0, slots := 0, locals := 67 })
theorem cyX5_gives : ev_Yv jX5_gives 0 := ⟨ev_aw_of 746 (by decide +kernel) rfl, ev_aw_of 53 (by decide +kernel) rfl, ev_aw_of 65 (by decide +kernel) rfl, ev_aw_of 747 (by decide +kernel) rfl, ⟨by decide +kernel, by decide +kernel, by decide +kernel⟩, by decide, rfl, rfl⟩
abbrev jX5_give : ev_I := (yX5_give, cX5_give, 1, some .int, { frames := 4, cells := 0, slots := 0, locals := 91 })
theorem cyX5_give : ev_Yv jX5_give 0 := ⟨ev_aw_of 741 (by decide +kernel) rfl, ev_aw_of 742 (by decide +kernel) rfl, ev_aw_of 65 (by decide +kernel) rfl, ev_aw_of 743 (by decide +kernel) rfl, ⟨by decide +kernel, by decide +kernel, by decide +kernel⟩, by decide, rfl, rfl⟩
abbrev jX5_sendsTo : ev_I := (yX5_sendsTo, cX5_sendsTo, 3, none, { frames := 4, cells := 0, slots := 0, locals := 93 })
theorem cyX5_sendsTo : ev_Yv jX5_sendsTo 2 := ⟨ev_aw_of 762 (by decide +kernel) rfl, ev_aw_of 56 (by decide +kernel) rfl, ev_aw_of 65 (by decide +kernel) rfl, ev_aw_of 763 (by decide +kernel) rfl, ⟨by decide +kernel, by decide +kernel, by decide +kernel⟩, by decide, rfl, rfl⟩
abbrev jX5_poll : ev_I := (yX5_poll, cX5_poll, 3, some .int, { frames := 5, cells := 0, slots := 0, locals := 115 })
theorem cyX5_poll : ev_Yv jX5_poll 0 := ⟨ev_aw_of 757 (by decide +kernel) rfl, ev_aw_of 758 (by decide +kernel) rfl, ev_aw_of 65 (by decide +kernel) rfl, ev_aw_of 759 (by decide +kernel) rfl, ⟨by decide +kernel, by decide +kernel, by decide +kernel⟩, by decide, rfl, rfl⟩
abbrev jX5_parallel : ev_I := (yX5_parallel, cX5_parallel, 3, some .int, { frames := 3, cells := 0, slots := 0, locals := 67 })
theorem cyX5_parallel : ev_Yv jX5_parallel 0 := ⟨ev_aw_of 765 (by decide +kernel) rfl, ev_aw_of 766 (by decide +kernel) rfl, ev_aw_of 65 (by decide +kernel) rfl, ev_aw_of 767 (by decide +kernel) rfl, ⟨by decide +kernel, by decide +kernel, by decide +kernel⟩, by decide, rfl, rfl⟩
abbrev jX5_takeBack : ev_I := (yX5_takeBack, cX5_takeBack, 2, some .int, { frames := 2, cells := 0, slots := 0, locals := 46 })
theorem cyX5_takeBack : ev_Yv jX5_takeBack 0 := ⟨ev_aw_of 769 (by decide +kernel) rfl, ev_aw_of 770 (by decide +kernel) rfl, ev_aw_of 65 (by decide +kernel) rfl, ev_aw_of 771 (by decide +kernel) rfl, ⟨by decide +kernel, by decide +kernel, by decide +kernel⟩, by decide, rfl, rfl⟩
abbrev jX5_isDevice : ev_I := (yX5_isDevice, cX5_isDevice, 2, some .boolean, { frames := 1, cells := 0, slots := 0, locals := 22 })
theorem cyX5_isDevice : ev_Yv jX5_isDevice 1 := ⟨ev_aw_of 778 (by decide +kernel) rfl, ev_aw_of 57 (by decide +kernel) rfl, ev_aw_of 65 (by decide +kernel) rfl, ev_aw_of 779 (by decide +kernel) rfl, ⟨by decide +kernel, by decide +kernel, by decide +kernel⟩, by decide, rfl, rfl⟩
abbrev jX5_put : ev_I := (yX5_put, cX5_put, 4, some .int, { frames := 2, cells := 0, slots := 0, locals := 43 })
theorem cyX5_put : ev_Yv jX5_put 2 := ⟨ev_aw_of 773 (by decide +kernel) rfl, ev_aw_of 774 (by decide +kernel) rfl, ev_aw_of 65 (by decide +kernel) rfl, ev_aw_of 775 (by decide +kernel) rfl, ⟨by decide +kernel, by decide +kernel, by decide +kernel⟩, by decide, rfl, rfl⟩
abbrev jX5_take : ev_I := (yX5_take, cX5_take, 2, some .int, { frames := 2, cells := 0, slots := 0, locals := 48 })
theorem cyX5_take : ev_Yv jX5_take 1 := ⟨ev_aw_of 781 (by decide +kernel) rfl, ev_aw_of 782 (by decide +kernel) rfl, ev_aw_of 65 (by decide +kernel) rfl, ev_aw_of 783 (by decide +kernel) rfl, ⟨by decide +kernel, by decide +kernel, by decide +kernel⟩, by decide, rfl, rfl⟩
abbrev jX5_ask : ev_I := (yX5_ask, cX5_ask, 5, some .int, { frames := 2, cells := 0, slots := 0, locals := 43 })
theorem cyX5_ask : ev_Yv jX5_ask 3 := ⟨ev_aw_of 785 (by decide +kernel) rfl, ev_aw_of 786 (by decide +kernel) rfl, ev_aw_of 65 (by decide +kernel) rfl, ev_aw_of 787 (by decide +kernel) rfl, ⟨by decide +kernel, by decide +kernel, by decide +kernel⟩, by decide, rfl, rfl⟩
abbrev jX5_front : ev_I := (yX5_front, cX5_front, 2, some .int, { frames := 2, cells := 0, slots := 0, locals := 43 })
theorem cyX5_front : ev_Yv jX5_front 1 := ⟨ev_aw_of 789 (by decide +kernel) rfl, ev_aw_of 790 (by decide +kernel) rfl, ev_aw_of 65 (by decide +kernel) rfl, ev_aw_of 791 (by decide +kernel) rfl, ⟨by decide +kernel, by decide +kernel, by decide +kernel⟩, by decide, rfl, rfl⟩
abbrev jX5_tune : ev_I := (yX5_tune, cX5_tune, 5, some .int, { frames := 2, cells := 0, slots := 0, locals := 43 })
theorem cyX5_tune : ev_Yv jX5_tune 3 := ⟨ev_aw_of 793 (by decide +kernel) rfl, ev_aw_of 794 (by decide +kernel) rfl, ev_aw_of 65 (by decide +kernel) rfl, ev_aw_of 795 (by decide +kernel) rfl, ⟨by decide +kernel, by decide +kernel, by decide +kernel⟩, by decide, rfl, rfl⟩
abbrev jX5_device : ev_I := (yX5_device, cX5_device, 3, some .int, { frames := 2, cells := 0, slots := 0, locals := 43 })
theorem cyX5_device : ev_Yv jX5_device 2 := ⟨ev_aw_of 797 (by decide +kernel) rfl, ev_aw_of 798 (by decide +kernel) rfl, ev_aw_of 65 (by decide +kernel) rfl, ev_aw_of 799 (by decide +kernel) rfl, ⟨by decide +kernel, by decide +kernel, by decide +kernel⟩, by decide, rfl, rfl⟩
abbrev jX5_row : ev_I := (yX5_row, cX5_row, 4, some .int, { frames := 2, cells := 0, slots := 0, locals := 43 })
theorem cyX5_row : ev_Yv jX5_row 3 := ⟨ev_aw_of 801 (by decide +kernel) rfl, ev_aw_of 802 (by decide +kernel) rfl, ev_aw_of 65 (by decide +kernel) rfl, ev_aw_of 803 (by decide +kernel) rfl, ⟨by decide +kernel, by decide +kernel, by decide +kernel⟩, by decide, rfl, rfl⟩
abbrev jX5_anyAsks : ev_I := (yX5_anyAsks, cX5_anyAsks, 3, some .int, { frames := 1, cells := 0, slots := 0, locals := 22 })
theorem cyX5_anyAsks : ev_Yv jX5_anyAsks 0 := ⟨ev_aw_of 810 (by decide +kernel) rfl, ev_aw_of 58 (by decide +kernel) rfl, ev_aw_of 65 (by decide +kernel) rfl, ev_aw_of 811 (by decide +kernel) rfl, ⟨by decide +kernel, by decide +kernel, by decide +kernel⟩, by decide, rfl, rfl⟩
abbrev jX5_bus : ev_I := (yX5_bus, cX5_bus, 2, some .int, { frames := 3, cells := 0, slots := 0, locals := 67 })
theorem cyX5_bus : ev_Yv jX5_bus 1 := ⟨ev_aw_of 805 (by decide +kernel) rfl, ev_aw_of 806 (by decide +kernel) rfl, ev_aw_of 65 (by decide +kernel) rfl, ev_aw_of 807 (by decide +kernel) rfl, ⟨by decide +kernel, by decide +kernel, by decide +kernel⟩, by decide, rfl, rfl⟩
abbrev jX5_sum : ev_I := (yX5_sum, cX5_sum, 2, some .int, { frames := 1, cells := 0, slots := 0, locals := 22 })
theorem cyX5_sum : ev_Yv jX5_sum 1 := ⟨ev_aw_of 813 (by decide +kernel) rfl, ev_aw_of 814 (by decide +kernel) rfl, ev_aw_of 65 (by decide +kernel) rfl, ev_aw_of 815 (by decide +kernel) rfl, ⟨by decide +kernel, by decide +kernel, by decide +kernel⟩, by decide, rfl, rfl⟩
abbrev jX5_log : ev_I := (yX5_log, cX5_log, 3, some .int, { frames := 1, cells := 0, slots := 0, locals := 22 })
theorem cyX5_log : ev_Yv jX5_log 2 := ⟨ev_aw_of 817 (by decide +kernel) rfl, ev_aw_of 818 (by decide +kernel) rfl, ev_aw_of 65 (by decide +kernel) rfl, ev_aw_of 819 (by decide +kernel) rfl, ⟨by decide +kernel, by decide +kernel, by decide +kernel⟩, by decide, rfl, rfl⟩
theorem ml_X4_37 : Cond.methodLink RX4 37 yX4_beginWith ∈ ev_aw := ev_aw_of 217 (by decide +kernel) rfl
theorem ml_X4_178 : Cond.methodLink RX4 178 yX2_begin ∈ ev_aw := ev_aw_of 221 (by decide +kernel) rfl
theorem ml_X2_37 : Cond.methodLink RX2 37 yX2_clear ∈ ev_aw := ev_aw_of 225 (by decide +kernel) rfl
theorem ml_X2_65 : Cond.methodLink RX2 65 yX0_empty ∈ ev_aw := ev_aw_of 229 (by decide +kernel) rfl
theorem ml_X4_181 : Cond.methodLink RX4 181 yX1_empty ∈ ev_aw := ev_aw_of 233 (by decide +kernel) rfl
theorem ml_X4_41 : Cond.methodLink RX4 41 yX3_append ∈ ev_aw := ev_aw_of 272 (by decide +kernel) rfl
theorem ml_X4_45 : Cond.methodLink RX4 45 yX3_empty ∈ ev_aw := ev_aw_of 280 (by decide +kernel) rfl
theorem ml_X4_49 : Cond.methodLink RX4 49 yX3_firstFault ∈ ev_aw := ev_aw_of 288 (by decide +kernel) rfl
theorem ml_X3_26 : Cond.methodLink RX3 26 yX3_readItem ∈ ev_aw := ev_aw_of 292 (by decide +kernel) rfl
theorem ml_X3_34 : Cond.methodLink RX3 34 yX3_letterAt ∈ ev_aw := ev_aw_of 296 (by decide +kernel) rfl
theorem ml_X3_38 : Cond.methodLink RX3 38 yX3_figuresAt ∈ ev_aw := ev_aw_of 300 (by decide +kernel) rfl
theorem ml_X3_51 : Cond.methodLink RX3 51 yX3_isFigure ∈ ev_aw := ev_aw_of 304 (by decide +kernel) rfl
theorem ml_X3_42 : Cond.methodLink RX3 42 yX3_numberAt ∈ ev_aw := ev_aw_of 308 (by decide +kernel) rfl
theorem ml_X3_30 : Cond.methodLink RX3 30 yX3_hasTakenAddress ∈ ev_aw := ev_aw_of 316 (by decide +kernel) rfl
theorem ml_X4_52 : Cond.methodLink RX4 52 yX3_beginsWithHost ∈ ev_aw := ev_aw_of 324 (by decide +kernel) rfl
theorem ml_X4_66 : Cond.methodLink RX4 66 yX4_send ∈ ev_aw := ev_aw_of 332 (by decide +kernel) rfl
theorem ml_X4_203 : Cond.methodLink RX4 203 yX1_keep ∈ ev_aw := ev_aw_of 336 (by decide +kernel) rfl
theorem ml_X1_28 : Cond.methodLink RX1 28 Lib.Math.min.name ∈ ev_aw := ev_aw_of 340 (by decide +kernel) rfl
theorem ml_X4_207 : Cond.methodLink RX4 207 yX4_greatestPace ∈ ev_aw := ev_aw_of 343 (by decide +kernel) rfl
theorem ml_X4_192 : Cond.methodLink RX4 192 Lib.Math.max.name ∈ ev_aw := ev_aw_of 347 (by decide +kernel) rfl
theorem ml_X4_76 : Cond.methodLink RX4 76 yX4_passTicks ∈ ev_aw := ev_aw_of 350 (by decide +kernel) rfl
theorem ml_X4_186 : Cond.methodLink RX4 186 yX2_isDueBy ∈ ev_aw := ev_aw_of 354 (by decide +kernel) rfl
theorem ml_X4_189 : Cond.methodLink RX4 189 yX2_comeReading ∈ ev_aw := ev_aw_of 358 (by decide +kernel) rfl
theorem ml_X2_83 : Cond.methodLink RX2 83 yX0_append ∈ ev_aw := ev_aw_of 362 (by decide +kernel) rfl
theorem ml_X4_210 : Cond.methodLink RX4 210 yX4_obeySecond ∈ ev_aw := ev_aw_of 366 (by decide +kernel) rfl
theorem ml_X4_260 : Cond.methodLink RX4 260 yX4_setLines ∈ ev_aw := ev_aw_of 370 (by decide +kernel) rfl
theorem ml_X4_263 : Cond.methodLink RX4 263 yX4_answerSecond ∈ ev_aw := ev_aw_of 374 (by decide +kernel) rfl
theorem ml_X4_254 : Cond.methodLink RX4 254 yX2_beginListening ∈ ev_aw := ev_aw_of 378 (by decide +kernel) rfl
theorem ml_X4_95 : Cond.methodLink RX4 95 yX4_endNamedAndPrepared ∈ ev_aw := ev_aw_of 382 (by decide +kernel) rfl
theorem ml_X4_213 : Cond.methodLink RX4 213 yX4_obeyPlain ∈ ev_aw := ev_aw_of 386 (by decide +kernel) rfl
theorem ml_X4_222 : Cond.methodLink RX4 222 yX4_passCharge ∈ ev_aw := ev_aw_of 390 (by decide +kernel) rfl
theorem ml_X4_102 : Cond.methodLink RX4 102 yX4_isDevice ∈ ev_aw := ev_aw_of 394 (by decide +kernel) rfl
theorem ml_X4_225 : Cond.methodLink RX4 225 yX4_obeyAsOneOfAll ∈ ev_aw := ev_aw_of 398 (by decide +kernel) rfl
theorem ml_X4_235 : Cond.methodLink RX4 235 yX2_clear ∈ ev_aw := ev_aw_of 402 (by decide +kernel) rfl
theorem ml_X4_232 : Cond.methodLink RX4 232 yX4_obeyAsListener ∈ ev_aw := ev_aw_of 403 (by decide +kernel) rfl
theorem ml_X4_244 : Cond.methodLink RX4 244 yX4_triggerOne ∈ ev_aw := ev_aw_of 407 (by decide +kernel) rfl
theorem ml_X4_248 : Cond.methodLink RX4 248 yX2_beTriggered ∈ ev_aw := ev_aw_of 411 (by decide +kernel) rfl
theorem ml_X2_77 : Cond.methodLink RX2 77 Lib.Math.min.name ∈ ev_aw := ev_aw_of 415 (by decide +kernel) rfl
theorem ml_X4_216 : Cond.methodLink RX4 216 yX4_callListener ∈ ev_aw := ev_aw_of 416 (by decide +kernel) rfl
theorem ml_X4_92 : Cond.methodLink RX4 92 yX4_endListening ∈ ev_aw := ev_aw_of 420 (by decide +kernel) rfl
theorem ml_X4_219 : Cond.methodLink RX4 219 yX4_callTalker ∈ ev_aw := ev_aw_of 424 (by decide +kernel) rfl
theorem ml_X4_73 : Cond.methodLink RX4 73 yX4_giveByte ∈ ev_aw := ev_aw_of 432 (by decide +kernel) rfl
theorem ml_X4_166 : Cond.methodLink RX4 166 yX4_ticksOfNextByte ∈ ev_aw := ev_aw_of 436 (by decide +kernel) rfl
theorem ml_X4_270 : Cond.methodLink RX4 270 yX4_takesBytes ∈ ev_aw := ev_aw_of 440 (by decide +kernel) rfl
theorem ml_X4_119 : Cond.methodLink RX4 119 yX2_pollByte ∈ ev_aw := ev_aw_of 444 (by decide +kernel) rfl
theorem ml_X4_116 : Cond.methodLink RX4 116 yX0_removeFirst ∈ ev_aw := ev_aw_of 448 (by decide +kernel) rfl
theorem ml_X4_110 : Cond.methodLink RX4 110 yX0_append ∈ ev_aw := ev_aw_of 452 (by decide +kernel) rfl
theorem ml_X4_82 : Cond.methodLink RX4 82 yX4_sendAddress ∈ ev_aw := ev_aw_of 461 (by decide +kernel) rfl
theorem ml_X4_86 : Cond.methodLink RX4 86 yX2_lineBit ∈ ev_aw := ev_aw_of 469 (by decide +kernel) rfl
theorem ml_X4_134 : Cond.methodLink RX4 134 yX4_bit ∈ ev_aw := ev_aw_of 496 (by decide +kernel) rfl
theorem ml_X4_150 : Cond.methodLink RX4 150 yX2_tellSetting ∈ ev_aw := ev_aw_of 507 (by decide +kernel) rfl
theorem ml_X4_153 : Cond.methodLink RX4 153 yX2_tellState ∈ ev_aw := ev_aw_of 511 (by decide +kernel) rfl
theorem ml_X4_157 : Cond.methodLink RX4 157 yX0_at ∈ ev_aw := ev_aw_of 519 (by decide +kernel) rfl
theorem ml_X4_160 : Cond.methodLink RX4 160 yX4_listenerBits ∈ ev_aw := ev_aw_of 527 (by decide +kernel) rfl
theorem ml_X4_163 : Cond.methodLink RX4 163 yX4_someoneAsks ∈ ev_aw := ev_aw_of 531 (by decide +kernel) rfl
theorem ml_X4_175 : Cond.methodLink RX4 175 yX1_tell ∈ ev_aw := ev_aw_of 543 (by decide +kernel) rfl
theorem ml_X5_41 : Cond.methodLink RX5 41 yX5_begins ∈ ev_aw := ev_aw_of 553 (by decide +kernel) rfl
theorem ml_X5_47 : Cond.methodLink RX5 47 yX5_puts ∈ ev_aw := ev_aw_of 557 (by decide +kernel) rfl
theorem ml_X5_96 : Cond.methodLink RX5 96 yX5_reads ∈ ev_aw := ev_aw_of 634 (by decide +kernel) rfl
theorem ml_X5_92 : Cond.methodLink RX5 92 yX5_readsItem ∈ ev_aw := ev_aw_of 638 (by decide +kernel) rfl
theorem ml_X5_75 : Cond.methodLink RX5 75 yX5_letterAt ∈ ev_aw := ev_aw_of 642 (by decide +kernel) rfl
theorem ml_X5_86 : Cond.methodLink RX5 86 yX5_highest ∈ ev_aw := ev_aw_of 646 (by decide +kernel) rfl
theorem ml_X5_89 : Cond.methodLink RX5 89 yX5_number ∈ ev_aw := ev_aw_of 649 (by decide +kernel) rfl
theorem ml_X5_82 : Cond.methodLink RX5 82 yX5_isIn ∈ ev_aw := ev_aw_of 653 (by decide +kernel) rfl
theorem ml_X5_107 : Cond.methodLink RX5 107 yX5_ticks ∈ ev_aw := ev_aw_of 664 (by decide +kernel) rfl
theorem ml_X5_104 : Cond.methodLink RX5 104 yX5_comes ∈ ev_aw := ev_aw_of 668 (by decide +kernel) rfl
theorem ml_X5_100 : Cond.methodLink RX5 100 yX5_of ∈ ev_aw := ev_aw_of 672 (by decide +kernel) rfl
theorem ml_X5_154 : Cond.methodLink RX5 154 yX5_sends ∈ ev_aw := ev_aw_of 680 (by decide +kernel) rfl
theorem ml_X5_126 : Cond.methodLink RX5 126 yX5_logs ∈ ev_aw := ev_aw_of 684 (by decide +kernel) rfl
theorem ml_X5_129 : Cond.methodLink RX5 129 yX5_slowest ∈ ev_aw := ev_aw_of 688 (by decide +kernel) rfl
theorem ml_X5_132 : Cond.methodLink RX5 132 yX5_listeners ∈ ev_aw := ev_aw_of 692 (by decide +kernel) rfl
theorem ml_X5_111 : Cond.methodLink RX5 111 yX5_clears ∈ ev_aw := ev_aw_of 696 (by decide +kernel) rfl
theorem ml_X5_135 : Cond.methodLink RX5 135 yX5_toListener ∈ ev_aw := ev_aw_of 700 (by decide +kernel) rfl
theorem ml_X5_114 : Cond.methodLink RX5 114 yX5_triggers ∈ ev_aw := ev_aw_of 704 (by decide +kernel) rfl
theorem ml_X5_139 : Cond.methodLink RX5 139 yX5_passes ∈ ev_aw := ev_aw_of 708 (by decide +kernel) rfl
theorem ml_X5_117 : Cond.methodLink RX5 117 yX5_talker ∈ ev_aw := ev_aw_of 712 (by decide +kernel) rfl
theorem ml_X5_142 : Cond.methodLink RX5 142 yX5_all ∈ ev_aw := ev_aw_of 716 (by decide +kernel) rfl
theorem ml_X5_145 : Cond.methodLink RX5 145 yX5_addresses ∈ ev_aw := ev_aw_of 720 (by decide +kernel) rfl
theorem ml_X5_120 : Cond.methodLink RX5 120 yX5_listens ∈ ev_aw := ev_aw_of 724 (by decide +kernel) rfl
theorem ml_X5_123 : Cond.methodLink RX5 123 yX5_silences ∈ ev_aw := ev_aw_of 728 (by decide +kernel) rfl
theorem ml_X5_148 : Cond.methodLink RX5 148 yX5_prepares ∈ ev_aw := ev_aw_of 732 (by decide +kernel) rfl
theorem ml_X5_151 : Cond.methodLink RX5 151 yX5_seconds ∈ ev_aw := ev_aw_of 736 (by decide +kernel) rfl
theorem ml_X5_164 : Cond.methodLink RX5 164 yX5_gives ∈ ev_aw := ev_aw_of 744 (by decide +kernel) rfl
theorem ml_X5_157 : Cond.methodLink RX5 157 yX5_takers ∈ ev_aw := ev_aw_of 748 (by decide +kernel) rfl
theorem ml_X5_160 : Cond.methodLink RX5 160 yX5_firstOf ∈ ev_aw := ev_aw_of 752 (by decide +kernel) rfl
theorem ml_X5_167 : Cond.methodLink RX5 167 yX5_sendsTo ∈ ev_aw := ev_aw_of 760 (by decide +kernel) rfl
theorem ml_X5_170 : Cond.methodLink RX5 170 yX5_isDevice ∈ ev_aw := ev_aw_of 776 (by decide +kernel) rfl
theorem ml_X5_173 : Cond.methodLink RX5 173 yX5_anyAsks ∈ ev_aw := ev_aw_of 808 (by decide +kernel) rfl
theorem nl_X2_87 : Cond.methodLinkNest RX2 87 yX4_bit "TalkBus" ∈ ev_nw := ev_nw_of 473 (by decide +kernel) rfl
theorem ms_max : Cond.static Lib.Math.max.name ∈ ev_aw := ev_aw_of 348 (by decide +kernel) rfl
theorem mc_max : Cond.code Lib.Math.max.name Lib.Math.max.code 2 (some .int) ∈ ev_aw := ev_aw_of 349 (by decide +kernel) rfl
theorem ms_min : Cond.static Lib.Math.min.name ∈ ev_aw := ev_aw_of 341 (by decide +kernel) rfl
theorem mc_min : Cond.code Lib.Math.min.name Lib.Math.min.code 2 (some .int) ∈ ev_aw := ev_aw_of 342 (by decide +kernel) rfl
theorem mi_math : Cond.initialized "java/lang/Math" ∈ ev_aw := ev_aw_of 66 (by decide +kernel) rfl
def layX : ev_Y := [(0, 10, 0, 4), (20, 4, 0, 3), (30, 5, 0, 1), (40, 8, 1, 0), (50, 6, 3, 0), (60, 30, 1, 0), (100, 16, 1, 0), (120, 16, 1, 0), (140, 16, 1, 0), (200, 200, 2, 0), (500, 5, 4, 0), (510, 5, 4, 1), (520, 30, 4, 2), (1000, 18, 0, 2), (1020, 2, 0, 0), (1030, 12, 1, 0), (1050, 2, 0, 0), (1060, 12, 1, 0), (1100, 18, 0, 2), (1120, 2, 0, 0), (1130, 12, 1, 0), (1150, 2, 0, 0), (1160, 12, 1, 0), (1200, 18, 0, 2), (1220, 2, 0, 0), (1230, 12, 1, 0), (1250, 2, 0, 0), (1260, 12, 1, 0), (1300, 18, 0, 2), (1320, 2, 0, 0), (1330, 12, 1, 0), (1350, 2, 0, 0), (1360, 12, 1, 0), (1400, 18, 0, 2), (1420, 2, 0, 0), (1430, 12, 1, 0), (1450, 2, 0, 0), (1460, 12, 1, 0), (1500, 18, 0, 2), (1520, 2, 0, 0), (1530, 12, 1, 0), (1550, 2, 0, 0), (1560, 12, 1, 0)]
def layM : ev_Y := [(0, 20, 0, 5), (100, 200, 1, 0), (300, 108, 1, 0), (420, 144, 1, 0), (570, 8, 1, 0), (580, 16, 1, 0), (600, 16, 1, 0), (620, 16, 1, 0), (640, 30, 1, 0), (680, 30, 1, 0)]
theorem sep_X : ev_sep layX := by unfold ev_sep layX; decide
theorem sep_M : ev_sep layM := by unfold ev_sep layM; decide
theorem lx_0 : ((0 : Int), 10, 0, 4) ∈ layX := by unfold layX; decide
theorem lx_20 : ((20 : Int), 4, 0, 3) ∈ layX := by unfold layX; decide
theorem lx_30 : ((30 : Int), 5, 0, 1) ∈ layX := by unfold layX; decide
theorem lx_40 : ((40 : Int), 8, 1, 0) ∈ layX := by unfold layX; decide
theorem lx_50 : ((50 : Int), 6, 3, 0) ∈ layX := by unfold layX; decide
theorem lx_60 : ((60 : Int), 30, 1, 0) ∈ layX := by unfold layX; decide
theorem lx_100 : ((100 : Int), 16, 1, 0) ∈ layX := by unfold layX; decide
theorem lx_120 : ((120 : Int), 16, 1, 0) ∈ layX := by unfold layX; decide
theorem lx_140 : ((140 : Int), 16, 1, 0) ∈ layX := by unfold layX; decide
theorem lx_200 : ((200 : Int), 200, 2, 0) ∈ layX := by unfold layX; decide
theorem lx_500 : ((500 : Int), 5, 4, 0) ∈ layX := by unfold layX; decide
theorem lx_510 : ((510 : Int), 5, 4, 1) ∈ layX := by unfold layX; decide
theorem lx_520 : ((520 : Int), 30, 4, 2) ∈ layX := by unfold layX; decide
theorem lm_0 : ((0 : Int), 20, 0, 5) ∈ layM := by unfold layM; decide
theorem lm_100 : ((100 : Int), 200, 1, 0) ∈ layM := by unfold layM; decide
theorem lm_300 : ((300 : Int), 108, 1, 0) ∈ layM := by unfold layM; decide
theorem lm_420 : ((420 : Int), 144, 1, 0) ∈ layM := by unfold layM; decide
theorem lm_570 : ((570 : Int), 8, 1, 0) ∈ layM := by unfold layM; decide
theorem lm_580 : ((580 : Int), 16, 1, 0) ∈ layM := by unfold layM; decide
theorem lm_600 : ((600 : Int), 16, 1, 0) ∈ layM := by unfold layM; decide
theorem lm_620 : ((620 : Int), 16, 1, 0) ∈ layM := by unfold layM; decide
theorem lm_640 : ((640 : Int), 30, 1, 0) ∈ layM := by unfold layM; decide
theorem lm_680 : ((680 : Int), 30, 1, 0) ∈ layM := by unfold layM; decide
theorem lx_dev {i : Int} (h0 : 0 ≤ i) (h1 : i < 6) : (1000 + 100 * i, 18, 0, 2) ∈ layX := by
  rcases (show i = 0 ∨ i = 1 ∨ i = 2 ∨ i = 3 ∨ i = 4 ∨ i = 5 by omega) with rfl | rfl | rfl | rfl | rfl | rfl <;> (unfold layX; decide)
theorem lx_out {i : Int} (h0 : 0 ≤ i) (h1 : i < 6) : (1000 + 100 * i + 20, 2, 0, 0) ∈ layX := by
  rcases (show i = 0 ∨ i = 1 ∨ i = 2 ∨ i = 3 ∨ i = 4 ∨ i = 5 by omega) with rfl | rfl | rfl | rfl | rfl | rfl <;> (unfold layX; decide)
theorem lx_outb {i : Int} (h0 : 0 ≤ i) (h1 : i < 6) : (1000 + 100 * i + 30, 12, 1, 0) ∈ layX := by
  rcases (show i = 0 ∨ i = 1 ∨ i = 2 ∨ i = 3 ∨ i = 4 ∨ i = 5 by omega) with rfl | rfl | rfl | rfl | rfl | rfl <;> (unfold layX; decide)
theorem lx_inn {i : Int} (h0 : 0 ≤ i) (h1 : i < 6) : (1000 + 100 * i + 50, 2, 0, 0) ∈ layX := by
  rcases (show i = 0 ∨ i = 1 ∨ i = 2 ∨ i = 3 ∨ i = 4 ∨ i = 5 by omega) with rfl | rfl | rfl | rfl | rfl | rfl <;> (unfold layX; decide)
theorem lx_innb {i : Int} (h0 : 0 ≤ i) (h1 : i < 6) : (1000 + 100 * i + 60, 12, 1, 0) ∈ layX := by
  rcases (show i = 0 ∨ i = 1 ∨ i = 2 ∨ i = 3 ∨ i = 4 ∨ i = 5 by omega) with rfl | rfl | rfl | rfl | rfl | rfl <;> (unfold layX; decide)
end
section
/-! the reference: small methods -/
theorem Ev.nm {I : ev_I} {lay : ev_Y} {pc : Nat} {L : List (Option ev_V)} {S : List ev_V} {σ : ev_M} {Q : Int → ev_M → Prop} (k : ∀ σ', σ' = σ → Ev I lay pc L S σ' Q) : Ev I lay pc L S σ Q := k σ rfl
theorem Ev.okM {I : ev_I} {lay : ev_Y} {pc : Nat} {L : List (Option ev_V)} {S : List ev_V} {σ : ev_M} {Q : Int → ev_M → Prop} (k : (∀ n, ev_in (σ n)) → Ev I lay pc L S σ Q) : Ev I lay pc L S σ Q :=
  fun p l e s m args below meth c E ls H locs X hL hS hW hV => k hW.2.2.2.2.2.1 p l e s m args below meth c E ls H locs X hL hS hW hV
theorem Ev.okL {I : ev_I} {lay : ev_Y} {pc : Nat} {L : List (Option ev_V)} {S : List ev_V} {σ : ev_M} {Q : Int → ev_M → Prop} (k : (∀ i, some (iv i) ∈ L → ev_in i) → Ev I lay pc L S σ Q) : Ev I lay pc L S σ Q :=
  fun p l e s m args below meth c E ls H locs X hL hS hW hV => k (fun i hi => hL.2.2.2.2 (iv i) hi i rfl) p l e s m args below meth c E ls H locs X hL hS hW hV
theorem Ev.okS {I : ev_I} {lay : ev_Y} {pc : Nat} {L : List (Option ev_V)} {S : List ev_V} {σ : ev_M} {Q : Int → ev_M → Prop} (k : (∀ i, iv i ∈ S → ev_in i) → Ev I lay pc L S σ Q) : Ev I lay pc L S σ Q :=
  fun p l e s m args below meth c E ls H locs X hL hS hW hV => k (fun i hi => hS (iv i) hi i rfl) p l e s m args below meth c E ls H locs X hL hS hW hV
theorem Ev.mono {I : ev_I} {lay : ev_Y} {pc : Nat} {L : List (Option ev_V)} {S : List ev_V} {σ : ev_M} {Q Q2 : Int → ev_M → Prop} (h : Ev I lay pc L S σ Q) (hq : ∀ r σ', Q r σ' → Q2 r σ') : Ev I lay pc L S σ Q2 := by
  intro p l e s m args below meth c E ls H locs X hL hS hW hV T hT hX
  obtain ⟨t, a1, o, b1, b2, b3, b4⟩ := h p l e s m args below meth c E ls H locs X hL hS hW hV T hT hX
  refine ⟨t, a1, o, b1, b2, ?_, b4⟩
  unfold ev_post at b3 ⊢
  split at b3
  · next h1 =>
    rw [if_pos h1]
    obtain ⟨⟨u, c1, c2, c3⟩, c4⟩ := b3
    exact ⟨⟨u, c1, hq _ _ c2, c3⟩, c4⟩
  · next h1 =>
    rw [if_neg h1]
    obtain ⟨⟨r, u, c1, ⟨i, c5, c6, c2⟩, c3⟩, c4⟩ := b3
    exact ⟨⟨r, u, c1, ⟨i, c5, c6, hq _ _ c2⟩, c3⟩, c4⟩
theorem ev_up_eqs {σ : ev_M} {n v k : Int} (h : k = n) : ev_up σ n v k = v := by rw [h]; exact ev_up_eq
theorem Ev.ialdn {I : ev_I} {lay : ev_Y} {pc : Nat} {L : List (Option ev_V)} {S : List ev_V} {σ : ev_M} {Q : Int → ev_M → Prop} {a o : Int} {sz ci kd : Nat} (n : Int) (hd : decode I.2.1 pc = .ok (.iaload, 1)) (hm : (o, sz, kd, ci) ∈ lay) (hkd : kd = 1 ∨ kd = 4) (h0 : 0 ≤ a) (h1 : a < (sz : Int)) (hn : o + a = n) (kk : Ev I lay (pc + 1) L (iv (σ n) :: S) σ Q) : Ev I lay pc L (iv a :: rv o :: S) σ Q := Ev.iald hd hm hkd h0 h1 (by rw [hn]; exact kk)
theorem Ev.iastn {I : ev_I} {lay : ev_Y} {pc : Nat} {L : List (Option ev_V)} {S : List ev_V} {σ : ev_M} {Q : Int → ev_M → Prop} {a b o : Int} {sz ci : Nat} (n : Int) (hd : decode I.2.1 pc = .ok (.iastore, 1)) (hm : (o, sz, 1, ci) ∈ lay) (h0 : 0 ≤ a) (h1 : a < (sz : Int)) (hn : o + a = n) (kk : Ev I lay (pc + 1) L S (ev_up σ n b) Q) : Ev I lay pc L (iv b :: iv a :: rv o :: S) σ Q := Ev.iast hd hm h0 h1 (by rw [hn]; exact kk)
/-- a loop over devices: the body's transformer, for 0, 1, .. -/
def it (f : Int → ev_M → ev_M) (τ : ev_M) : Nat → ev_M
  | 0 => τ
  | k + 1 => f (k : Int) (it f τ k)
theorem it_at {f : Int → ev_M → ev_M} {τ : ev_M} {n : Int} (h : ∀ (k : Nat) (σ : ev_M), f (k : Int) σ n = σ n) : ∀ k, it f τ k n = τ n
  | 0 => rfl
  | k + 1 => by show f (k : Int) (it f τ k) n = τ n; rw [h, it_at h k]
theorem s_X5_isIn {v lo hi : Int} {σ : ev_M} : Ev jX5_isIn layM 0 [some (iv v), some (iv lo), some (iv hi)] [] σ (fun r σ' => r = (if lo ≤ v ∧ v ≤ hi then 1 else 0) ∧ σ' = σ) := by
  refine Ev.iload_n dX5_isIn_0 rfl ?_
  refine Ev.iload_n dX5_isIn_1 rfl ?_
  refine Ev.icmp_lt (tgt := 14) dX5_isIn_2 rfl (fun c2 => ?_) (fun c2 => ?_)
  · skip
    refine Ev.iconst dX5_isIn_14 ⟨by decide, by decide⟩ ?_
    refine Ev.bool rfl dX5_isIn_15 (by omega) ?_
    refine ⟨?_, rfl⟩
    split <;> omega
  · skip
    refine Ev.iload_n dX5_isIn_5 rfl ?_
    refine Ev.iload_n dX5_isIn_6 rfl ?_
    refine Ev.icmp_gt (tgt := 14) dX5_isIn_7 rfl (fun c7 => ?_) (fun c7 => ?_)
    · skip
      refine Ev.iconst dX5_isIn_14 ⟨by decide, by decide⟩ ?_
      refine Ev.bool rfl dX5_isIn_15 (by omega) ?_
      refine ⟨?_, rfl⟩
      split <;> omega
    · skip
      refine Ev.iconst dX5_isIn_10 ⟨by decide, by decide⟩ ?_
      refine Ev.goto (tgt := 15) dX5_isIn_11 rfl ?_
      refine Ev.bool rfl dX5_isIn_15 (by omega) ?_
      refine ⟨?_, rfl⟩
      split <;> omega
theorem s_X5_of {d w : Int} {σ : ev_M} (hd0 : 0 ≤ d) (hd : d < 6) (hw0 : 0 ≤ w) (hw : w < 18) : Ev jX5_of layM 0 [some (rv 0), some (iv d), some (iv w)] [] σ (fun r σ' => r = σ (300 + (18 * d + w)) ∧ σ' = σ) := by
  refine Ev.aload_n dX5_of_0 rfl ?_
  refine Ev.getr (300) dX5_of_1 fl_X5_13 lm_0 (by decide) rfl rfl ?_
  refine Ev.bipush dX5_of_4 ⟨by decide, by decide⟩ (by decide) ?_
  refine Ev.iload_n dX5_of_6 rfl ?_
  refine Ev.imul dX5_of_7 (by unfold ev_in; omega) ?_
  refine Ev.iload_n dX5_of_8 rfl ?_
  refine Ev.iadd dX5_of_9 (by unfold ev_in; omega) ?_
  refine Ev.iald dX5_of_10 lm_300 (Or.inl rfl) (by omega) (by omega) ?_
  refine Ev.int rfl dX5_of_11 ?_
  exact ⟨rfl, rfl⟩
theorem s_X5_puts {d w v : Int} {σ : ev_M} (hd0 : 0 ≤ d) (hd : d < 6) (hw0 : 0 ≤ w) (hw : w < 18) : Ev jX5_puts layM 0 [some (rv 0), some (iv d), some (iv w), some (iv v)] [] σ (fun _ σ' => σ' = ev_up σ (300 + (18 * d + w)) v) := by
  refine Ev.aload_n dX5_puts_0 rfl ?_
  refine Ev.getr (300) dX5_puts_1 fl_X5_13 lm_0 (by decide) rfl rfl ?_
  refine Ev.bipush dX5_puts_4 ⟨by decide, by decide⟩ (by decide) ?_
  refine Ev.iload_n dX5_puts_6 rfl ?_
  refine Ev.imul dX5_puts_7 (by unfold ev_in; omega) ?_
  refine Ev.iload_n dX5_puts_8 rfl ?_
  refine Ev.iadd dX5_puts_9 (by unfold ev_in; omega) ?_
  refine Ev.iload_n dX5_puts_10 rfl ?_
  refine Ev.iast dX5_puts_11 lm_300 (by omega) (by omega) ?_
  refine Ev.vret dX5_puts_12 rfl ?_
  rfl
theorem s_X5_letterAt {p : Int} {σ : ev_M} (hp : 0 ≤ p) (hl : σ 0 ≤ 200) : Ev jX5_letterAt layM 0 [some (rv 0), some (iv p)] [] σ (fun r σ' => r = (if p < σ 0 then σ (100 + p) else 0) ∧ σ' = σ) := by
  refine Ev.iload_n dX5_letterAt_0 rfl ?_
  refine Ev.aload_n dX5_letterAt_1 rfl ?_
  refine Ev.geti (0) dX5_letterAt_2 fl_X5_69 lm_0 (by decide) rfl rfl ?_
  refine Ev.icmp_ge (tgt := 17) dX5_letterAt_5 rfl (fun c5 => ?_) (fun c5 => ?_)
  · skip
    refine Ev.iconst dX5_letterAt_17 ⟨by decide, by decide⟩ ?_
    refine Ev.int rfl dX5_letterAt_18 ?_
    refine ⟨?_, rfl⟩
    split <;> first | rfl | omega
  · skip
    refine Ev.aload_n dX5_letterAt_8 rfl ?_
    refine Ev.getr (100) dX5_letterAt_9 fl_X5_7 lm_0 (by decide) rfl rfl ?_
    refine Ev.iload_n dX5_letterAt_12 rfl ?_
    refine Ev.iald dX5_letterAt_13 lm_100 (Or.inl rfl) (by omega) (by omega) ?_
    refine Ev.goto (tgt := 18) dX5_letterAt_14 rfl ?_
    refine Ev.int rfl dX5_letterAt_18 ?_
    refine ⟨?_, rfl⟩
    split <;> first | rfl | omega
theorem s_X5_highest {w : Int} {σ : ev_M} : Ev jX5_highest layM 0 [some (iv w)] [] σ (fun r σ' => r = (if w = 0 then 2 else if w = 1 then 30 else if w = 2 then 31 else if w = 3 then 9 else 60) ∧ σ' = σ) := by
  refine Ev.iload_n dX5_highest_0 rfl ?_
  refine Ev.if_ne (tgt := 8) dX5_highest_1 rfl (fun c1 => ?_) (fun c1 => ?_)
  · skip
    refine Ev.iload_n dX5_highest_8 rfl ?_
    refine Ev.iconst dX5_highest_9 ⟨by decide, by decide⟩ ?_
    refine Ev.icmp_ne (tgt := 18) dX5_highest_10 rfl (fun c10 => ?_) (fun c10 => ?_)
    · skip
      refine Ev.iload_n dX5_highest_18 rfl ?_
      refine Ev.iconst dX5_highest_19 ⟨by decide, by decide⟩ ?_
      refine Ev.icmp_ne (tgt := 28) dX5_highest_20 rfl (fun c20 => ?_) (fun c20 => ?_)
      · skip
        refine Ev.iload_n dX5_highest_28 rfl ?_
        refine Ev.iconst dX5_highest_29 ⟨by decide, by decide⟩ ?_
        refine Ev.icmp_ne (tgt := 38) dX5_highest_30 rfl (fun c30 => ?_) (fun c30 => ?_)
        · skip
          refine Ev.bipush dX5_highest_38 ⟨by decide, by decide⟩ (by decide) ?_
          refine Ev.int rfl dX5_highest_40 ?_
          refine ⟨?_, rfl⟩
          split <;> (try split) <;> (try split) <;> (try split) <;> omega
        · skip
          refine Ev.bipush dX5_highest_33 ⟨by decide, by decide⟩ (by decide) ?_
          refine Ev.goto (tgt := 40) dX5_highest_35 rfl ?_
          refine Ev.int rfl dX5_highest_40 ?_
          refine ⟨?_, rfl⟩
          split <;> (try split) <;> (try split) <;> (try split) <;> omega
      · skip
        refine Ev.bipush dX5_highest_23 ⟨by decide, by decide⟩ (by decide) ?_
        refine Ev.goto (tgt := 40) dX5_highest_25 rfl ?_
        refine Ev.int rfl dX5_highest_40 ?_
        refine ⟨?_, rfl⟩
        split <;> (try split) <;> (try split) <;> (try split) <;> omega
    · skip
      refine Ev.bipush dX5_highest_13 ⟨by decide, by decide⟩ (by decide) ?_
      refine Ev.goto (tgt := 40) dX5_highest_15 rfl ?_
      refine Ev.int rfl dX5_highest_40 ?_
      refine ⟨?_, rfl⟩
      split <;> (try split) <;> (try split) <;> (try split) <;> omega
  · skip
    refine Ev.iconst dX5_highest_4 ⟨by decide, by decide⟩ ?_
    refine Ev.goto (tgt := 40) dX5_highest_5 rfl ?_
    refine Ev.int rfl dX5_highest_40 ?_
    refine ⟨?_, rfl⟩
    split <;> (try split) <;> (try split) <;> (try split) <;> omega
theorem s_X5_wipe {σ : ev_M} : Ev jX5_wipe layM 0 [some (rv 0), none] [] σ (fun r σ' => r = σ 0 ∧ σ' = ev_up σ 0 0) := by
  refine Ev.aload_n dX5_wipe_0 rfl ?_
  refine Ev.geti (0) dX5_wipe_1 fl_X5_69 lm_0 (by decide) rfl rfl ?_
  refine Ev.istore1 rfl dX5_wipe_4 ?_
  refine Ev.aload_n dX5_wipe_5 rfl ?_
  refine Ev.iconst dX5_wipe_6 ⟨by decide, by decide⟩ ?_
  refine Ev.puti (0) dX5_wipe_7 fl_X5_69 ft_5_0 lm_0 (by decide) rfl rfl ?_
  refine Ev.iload_n dX5_wipe_10 rfl ?_
  refine Ev.int rfl dX5_wipe_11 ?_
  exact ⟨rfl, rfl⟩
theorem s_X5_write {a : Int} {σ : ev_M} (h0 : 0 ≤ σ 0) (h1 : σ 0 ≤ 200) : Ev jX5_write layM 0 [some (rv 0), some (iv a)] [] σ (fun r σ' => if a < 32 ∨ 126 < a then r = -1 ∧ σ' = σ else if σ 0 = 200 then r = -3 ∧ σ' = σ else r = σ 0 + 1 ∧ σ' = ev_up (ev_up σ (100 + σ 0) a) 0 (σ 0 + 1)) := by
  refine Ev.iload_n dX5_write_0 rfl ?_
  refine Ev.bipush dX5_write_1 ⟨by decide, by decide⟩ (by decide) ?_
  refine Ev.icmp_lt (tgt := 12) dX5_write_3 rfl (fun c3 => ?_) (fun c3 => ?_)
  · skip
    refine Ev.iconst dX5_write_12 ⟨by decide, by decide⟩ ?_
    refine Ev.int rfl dX5_write_13 ?_
    first | (rw [if_pos (by omega)]; exact ⟨rfl, rfl⟩) | (rw [if_neg (by omega), if_pos (by omega)]; exact ⟨rfl, rfl⟩) | (rw [if_neg (by omega), if_neg (by omega)]; exact ⟨rfl, rfl⟩)
  · skip
    refine Ev.iload_n dX5_write_6 rfl ?_
    refine Ev.bipush dX5_write_7 ⟨by decide, by decide⟩ (by decide) ?_
    refine Ev.icmp_le (tgt := 14) dX5_write_9 rfl (fun c9 => ?_) (fun c9 => ?_)
    · skip
      refine Ev.aload_n dX5_write_14 rfl ?_
      refine Ev.geti (0) dX5_write_15 fl_X5_69 lm_0 (by decide) rfl rfl ?_
      refine Ev.sipush dX5_write_18 ⟨by decide, by decide⟩ (by decide) ?_
      refine Ev.icmp_ne (tgt := 27) dX5_write_21 rfl (fun c21 => ?_) (fun c21 => ?_)
      · skip
        refine Ev.aload_n dX5_write_27 rfl ?_
        refine Ev.getr (100) dX5_write_28 fl_X5_7 lm_0 (by decide) rfl rfl ?_
        refine Ev.aload_n dX5_write_31 rfl ?_
        refine Ev.geti (0) dX5_write_32 fl_X5_69 lm_0 (by decide) rfl rfl ?_
        refine Ev.iload_n dX5_write_35 rfl ?_
        refine Ev.iast dX5_write_36 lm_100 (by omega) (by omega) ?_
        refine Ev.aload_n dX5_write_37 rfl ?_
        refine Ev.dup dX5_write_38 ?_
        refine Ev.geti (0) dX5_write_39 fl_X5_69 lm_0 (by decide) rfl rfl ?_
        try simp (disch := omega) only [ev_up_ne, ev_up_eqs]
        refine Ev.iconst dX5_write_42 ⟨by decide, by decide⟩ ?_
        refine Ev.iadd dX5_write_43 (by unfold ev_in; omega) ?_
        refine Ev.puti (0) dX5_write_44 fl_X5_69 ft_5_0 lm_0 (by decide) rfl rfl ?_
        refine Ev.aload_n dX5_write_47 rfl ?_
        refine Ev.geti (0) dX5_write_48 fl_X5_69 lm_0 (by decide) rfl rfl ?_
        try simp (disch := omega) only [ev_up_ne, ev_up_eqs]
        refine Ev.int rfl dX5_write_51 ?_
        first | (rw [if_pos (by omega)]; exact ⟨rfl, rfl⟩) | (rw [if_neg (by omega), if_pos (by omega)]; exact ⟨rfl, rfl⟩) | (rw [if_neg (by omega), if_neg (by omega)]; exact ⟨rfl, rfl⟩)
      · skip
        refine Ev.bipush dX5_write_24 ⟨by decide, by decide⟩ (by decide) ?_
        refine Ev.int rfl dX5_write_26 ?_
        first | (rw [if_pos (by omega)]; exact ⟨rfl, rfl⟩) | (rw [if_neg (by omega), if_pos (by omega)]; exact ⟨rfl, rfl⟩) | (rw [if_neg (by omega), if_neg (by omega)]; exact ⟨rfl, rfl⟩)
    · skip
      refine Ev.iconst dX5_write_12 ⟨by decide, by decide⟩ ?_
      refine Ev.int rfl dX5_write_13 ?_
      first | (rw [if_pos (by omega)]; exact ⟨rfl, rfl⟩) | (rw [if_neg (by omega), if_pos (by omega)]; exact ⟨rfl, rfl⟩) | (rw [if_neg (by omega), if_neg (by omega)]; exact ⟨rfl, rfl⟩)
def m_clears (d : Int) (τ : ev_M) : ev_M := ev_up (ev_up (ev_up (ev_up (ev_up τ (300 + (18 * d + 9)) 0) (300 + (18 * d + 10)) 0) (300 + (18 * d + 14)) (-4)) (300 + (18 * d + 15)) 0) (300 + (18 * d + 16)) 0
theorem s_X5_clears {d : Int} {σ : ev_M} (hd0 : 0 ≤ d) (hd : d < 6) : Ev jX5_clears layM 0 [some (rv 0), some (iv d)] [] σ (fun _ σ' => σ' = m_clears d σ) := by
  refine Ev.aload_n dX5_clears_0 rfl ?_
  refine Ev.iload_n dX5_clears_1 rfl ?_
  refine Ev.bipush dX5_clears_2 ⟨by decide, by decide⟩ (by decide) ?_
  refine Ev.iconst dX5_clears_4 ⟨by decide, by decide⟩ ?_
  refine Ev.Vv3 (I' := jX5_puts) ml_X5_47 dX5_clears_5 cyX5_puts lm_0 rfl (by decide) ⟨by decide, by decide⟩ (by simp) rfl rfl (s_X5_puts hd0 hd (by decide) (by decide)) (fun σ' hq => ?_)
  subst hq
  refine Ev.aload_n dX5_clears_8 rfl ?_
  refine Ev.iload_n dX5_clears_9 rfl ?_
  refine Ev.bipush dX5_clears_10 ⟨by decide, by decide⟩ (by decide) ?_
  refine Ev.iconst dX5_clears_12 ⟨by decide, by decide⟩ ?_
  refine Ev.Vv3 (I' := jX5_puts) ml_X5_47 dX5_clears_13 cyX5_puts lm_0 rfl (by decide) ⟨by decide, by decide⟩ (by simp) rfl rfl (s_X5_puts hd0 hd (by decide) (by decide)) (fun σ' hq => ?_)
  subst hq
  refine Ev.aload_n dX5_clears_16 rfl ?_
  refine Ev.iload_n dX5_clears_17 rfl ?_
  refine Ev.bipush dX5_clears_18 ⟨by decide, by decide⟩ (by decide) ?_
  refine Ev.bipush dX5_clears_20 ⟨by decide, by decide⟩ (by decide) ?_
  refine Ev.Vv3 (I' := jX5_puts) ml_X5_47 dX5_clears_22 cyX5_puts lm_0 rfl (by decide) ⟨by decide, by decide⟩ (by simp) rfl rfl (s_X5_puts hd0 hd (by decide) (by decide)) (fun σ' hq => ?_)
  subst hq
  refine Ev.aload_n dX5_clears_25 rfl ?_
  refine Ev.iload_n dX5_clears_26 rfl ?_
  refine Ev.bipush dX5_clears_27 ⟨by decide, by decide⟩ (by decide) ?_
  refine Ev.iconst dX5_clears_29 ⟨by decide, by decide⟩ ?_
  refine Ev.Vv3 (I' := jX5_puts) ml_X5_47 dX5_clears_30 cyX5_puts lm_0 rfl (by decide) ⟨by decide, by decide⟩ (by simp) rfl rfl (s_X5_puts hd0 hd (by decide) (by decide)) (fun σ' hq => ?_)
  subst hq
  refine Ev.aload_n dX5_clears_33 rfl ?_
  refine Ev.iload_n dX5_clears_34 rfl ?_
  refine Ev.bipush dX5_clears_35 ⟨by decide, by decide⟩ (by decide) ?_
  refine Ev.iconst dX5_clears_37 ⟨by decide, by decide⟩ ?_
  refine Ev.Vv3 (I' := jX5_puts) ml_X5_47 dX5_clears_38 cyX5_puts lm_0 rfl (by decide) ⟨by decide, by decide⟩ (by simp) rfl rfl (s_X5_puts hd0 hd (by decide) (by decide)) (fun σ' hq => ?_)
  subst hq
  refine Ev.vret dX5_clears_41 rfl ?_
  rfl
def m_trig (d : Int) (τ : ev_M) : ev_M :=
  let τ1 := ev_up (ev_up τ (300 + (18 * d + 13)) (if τ (300 + (18 * d + 13)) < 999 then τ (300 + (18 * d + 13)) + 1 else 999)) 577 (τ 577 + 1)
  if τ (300 + (18 * d + 0)) = 1 then ev_up τ1 (300 + (18 * d + 14)) (τ 7 + τ (300 + (18 * d + 4))) else τ1
theorem s_X5_triggers {d : Int} {σ : ev_M} (hd0 : 0 ≤ d) (hd : d < 6) (ht : ev_in (σ 577 + 1)) (hn : ev_in (σ 7 + σ (300 + (18 * d + 4)))) (hk : 0 ≤ σ (300 + (18 * d + 13))) : Ev jX5_triggers layM 0 [some (rv 0), some (iv d)] [] σ (fun _ σ' => σ' = m_trig d σ) := by
  unfold ev_in at ht hn
  refine Ev.aload_n dX5_triggers_0 rfl ?_
  refine Ev.iload_n dX5_triggers_1 rfl ?_
  refine Ev.bipush dX5_triggers_2 ⟨by decide, by decide⟩ (by decide) ?_
  refine Ev.aload_n dX5_triggers_4 rfl ?_
  refine Ev.iload_n dX5_triggers_5 rfl ?_
  refine Ev.bipush dX5_triggers_6 ⟨by decide, by decide⟩ (by decide) ?_
  refine Ev.Vi2 (I' := jX5_of) ml_X5_100 dX5_triggers_8 cyX5_of lm_0 rfl (by decide) ⟨by decide, by decide⟩ (by simp) rfl rfl (s_X5_of hd0 hd (by decide) (by decide)) (fun r σ' hr8 hq => ?_)
  obtain ⟨rfl, hq⟩ := hq
  replace hq := hq.symm
  subst hq
  refine Ev.sipush dX5_triggers_11 ⟨by decide, by decide⟩ (by decide) ?_
  refine Ev.icmp_ge (tgt := 29) dX5_triggers_14 rfl (fun c14 => ?_) (fun c14 => ?_)
  · skip
    refine Ev.sipush dX5_triggers_29 ⟨by decide, by decide⟩ (by decide) ?_
    refine Ev.Vv3 (I' := jX5_puts) ml_X5_47 dX5_triggers_32 cyX5_puts lm_0 rfl (by decide) ⟨by decide, by decide⟩ (by simp) rfl rfl (s_X5_puts hd0 hd (by decide) (by decide)) (fun σ' hq => ?_)
    subst hq
    refine Ev.aload_n dX5_triggers_35 rfl ?_
    refine Ev.getr (570) dX5_triggers_36 fl_X5_19 lm_0 (by decide) rfl rfl ?_
    refine Ev.bipush dX5_triggers_39 ⟨by decide, by decide⟩ (by decide) ?_
    refine Ev.dup2 dX5_triggers_41 ?_
    refine Ev.ialdn (577) dX5_triggers_42 lm_570 (Or.inl rfl) (by decide) (by decide) rfl ?_
    try simp (disch := omega) only [ev_up_ne, ev_up_eqs]
    refine Ev.iconst dX5_triggers_43 ⟨by decide, by decide⟩ ?_
    refine Ev.iadd dX5_triggers_44 (by unfold ev_in; omega) ?_
    refine Ev.iastn (577) dX5_triggers_45 lm_570 (by decide) (by decide) rfl ?_
    refine Ev.aload_n dX5_triggers_46 rfl ?_
    refine Ev.iload_n dX5_triggers_47 rfl ?_
    refine Ev.iconst dX5_triggers_48 ⟨by decide, by decide⟩ ?_
    refine Ev.Vi2 (I' := jX5_of) ml_X5_100 dX5_triggers_49 cyX5_of lm_0 rfl (by decide) ⟨by decide, by decide⟩ (by simp) rfl rfl (s_X5_of hd0 hd (by decide) (by decide)) (fun r σ' hr49 hq => ?_)
    obtain ⟨rfl, hq⟩ := hq
    replace hq := hq.symm
    subst hq
    try simp (disch := omega) only [ev_up_ne, ev_up_eqs]
    refine Ev.iconst dX5_triggers_52 ⟨by decide, by decide⟩ ?_
    refine Ev.icmp_ne (tgt := 74) dX5_triggers_53 rfl (fun c53 => ?_) (fun c53 => ?_)
    · skip
      refine Ev.vret dX5_triggers_74 rfl ?_
      unfold m_trig
      first | rw [if_pos (by omega)] | rw [if_neg (by omega)]
      first | rw [if_pos (by omega)] | rw [if_neg (by omega)]
    · skip
      refine Ev.aload_n dX5_triggers_56 rfl ?_
      refine Ev.iload_n dX5_triggers_57 rfl ?_
      refine Ev.bipush dX5_triggers_58 ⟨by decide, by decide⟩ (by decide) ?_
      refine Ev.aload_n dX5_triggers_60 rfl ?_
      refine Ev.geti (7) dX5_triggers_61 fl_X5_57 lm_0 (by decide) rfl rfl ?_
      try simp (disch := omega) only [ev_up_ne, ev_up_eqs]
      refine Ev.aload_n dX5_triggers_64 rfl ?_
      refine Ev.iload_n dX5_triggers_65 rfl ?_
      refine Ev.iconst dX5_triggers_66 ⟨by decide, by decide⟩ ?_
      refine Ev.Vi2 (I' := jX5_of) ml_X5_100 dX5_triggers_67 cyX5_of lm_0 rfl (by decide) ⟨by decide, by decide⟩ (by simp) rfl rfl (s_X5_of hd0 hd (by decide) (by decide)) (fun r σ' hr67 hq => ?_)
      obtain ⟨rfl, hq⟩ := hq
      replace hq := hq.symm
      subst hq
      try simp (disch := omega) only [ev_up_ne, ev_up_eqs]
      refine Ev.iadd dX5_triggers_70 (by unfold ev_in; omega) ?_
      refine Ev.Vv3 (I' := jX5_puts) ml_X5_47 dX5_triggers_71 cyX5_puts lm_0 rfl (by decide) ⟨by decide, by decide⟩ (by simp) rfl rfl (s_X5_puts hd0 hd (by decide) (by decide)) (fun σ' hq => ?_)
      subst hq
      refine Ev.vret dX5_triggers_74 rfl ?_
      unfold m_trig
      first | rw [if_pos (by omega)] | rw [if_neg (by omega)]
      first | rw [if_pos (by omega)] | rw [if_neg (by omega)]
  · skip
    refine Ev.aload_n dX5_triggers_17 rfl ?_
    refine Ev.iload_n dX5_triggers_18 rfl ?_
    refine Ev.bipush dX5_triggers_19 ⟨by decide, by decide⟩ (by decide) ?_
    refine Ev.Vi2 (I' := jX5_of) ml_X5_100 dX5_triggers_21 cyX5_of lm_0 rfl (by decide) ⟨by decide, by decide⟩ (by simp) rfl rfl (s_X5_of hd0 hd (by decide) (by decide)) (fun r σ' hr21 hq => ?_)
    obtain ⟨rfl, hq⟩ := hq
    replace hq := hq.symm
    subst hq
    refine Ev.iconst dX5_triggers_24 ⟨by decide, by decide⟩ ?_
    refine Ev.iadd dX5_triggers_25 (by unfold ev_in; omega) ?_
    refine Ev.goto (tgt := 32) dX5_triggers_26 rfl ?_
    refine Ev.Vv3 (I' := jX5_puts) ml_X5_47 dX5_triggers_32 cyX5_puts lm_0 rfl (by decide) ⟨by decide, by decide⟩ (by simp) rfl rfl (s_X5_puts hd0 hd (by decide) (by decide)) (fun σ' hq => ?_)
    subst hq
    refine Ev.aload_n dX5_triggers_35 rfl ?_
    refine Ev.getr (570) dX5_triggers_36 fl_X5_19 lm_0 (by decide) rfl rfl ?_
    refine Ev.bipush dX5_triggers_39 ⟨by decide, by decide⟩ (by decide) ?_
    refine Ev.dup2 dX5_triggers_41 ?_
    refine Ev.ialdn (577) dX5_triggers_42 lm_570 (Or.inl rfl) (by decide) (by decide) rfl ?_
    try simp (disch := omega) only [ev_up_ne, ev_up_eqs]
    refine Ev.iconst dX5_triggers_43 ⟨by decide, by decide⟩ ?_
    refine Ev.iadd dX5_triggers_44 (by unfold ev_in; omega) ?_
    refine Ev.iastn (577) dX5_triggers_45 lm_570 (by decide) (by decide) rfl ?_
    refine Ev.aload_n dX5_triggers_46 rfl ?_
    refine Ev.iload_n dX5_triggers_47 rfl ?_
    refine Ev.iconst dX5_triggers_48 ⟨by decide, by decide⟩ ?_
    refine Ev.Vi2 (I' := jX5_of) ml_X5_100 dX5_triggers_49 cyX5_of lm_0 rfl (by decide) ⟨by decide, by decide⟩ (by simp) rfl rfl (s_X5_of hd0 hd (by decide) (by decide)) (fun r σ' hr49 hq => ?_)
    obtain ⟨rfl, hq⟩ := hq
    replace hq := hq.symm
    subst hq
    try simp (disch := omega) only [ev_up_ne, ev_up_eqs]
    refine Ev.iconst dX5_triggers_52 ⟨by decide, by decide⟩ ?_
    refine Ev.icmp_ne (tgt := 74) dX5_triggers_53 rfl (fun c53 => ?_) (fun c53 => ?_)
    · skip
      refine Ev.vret dX5_triggers_74 rfl ?_
      unfold m_trig
      first | rw [if_pos (by omega)] | rw [if_neg (by omega)]
      first | rw [if_pos (by omega)] | rw [if_neg (by omega)]
    · skip
      refine Ev.aload_n dX5_triggers_56 rfl ?_
      refine Ev.iload_n dX5_triggers_57 rfl ?_
      refine Ev.bipush dX5_triggers_58 ⟨by decide, by decide⟩ (by decide) ?_
      refine Ev.aload_n dX5_triggers_60 rfl ?_
      refine Ev.geti (7) dX5_triggers_61 fl_X5_57 lm_0 (by decide) rfl rfl ?_
      try simp (disch := omega) only [ev_up_ne, ev_up_eqs]
      refine Ev.aload_n dX5_triggers_64 rfl ?_
      refine Ev.iload_n dX5_triggers_65 rfl ?_
      refine Ev.iconst dX5_triggers_66 ⟨by decide, by decide⟩ ?_
      refine Ev.Vi2 (I' := jX5_of) ml_X5_100 dX5_triggers_67 cyX5_of lm_0 rfl (by decide) ⟨by decide, by decide⟩ (by simp) rfl rfl (s_X5_of hd0 hd (by decide) (by decide)) (fun r σ' hr67 hq => ?_)
      obtain ⟨rfl, hq⟩ := hq
      replace hq := hq.symm
      subst hq
      try simp (disch := omega) only [ev_up_ne, ev_up_eqs]
      refine Ev.iadd dX5_triggers_70 (by unfold ev_in; omega) ?_
      refine Ev.Vv3 (I' := jX5_puts) ml_X5_47 dX5_triggers_71 cyX5_puts lm_0 rfl (by decide) ⟨by decide, by decide⟩ (by simp) rfl rfl (s_X5_puts hd0 hd (by decide) (by decide)) (fun σ' hq => ?_)
      subst hq
      refine Ev.vret dX5_triggers_74 rfl ?_
      unfold m_trig
      first | rw [if_pos (by omega)] | rw [if_neg (by omega)]
      first | rw [if_pos (by omega)] | rw [if_neg (by omega)]
def m_toL (d c : Int) (τ : ev_M) : ev_M := if c = 1 then ev_up τ (300 + (18 * d + 7)) 0 else if c = 4 then m_clears d τ else if c = 8 then m_trig d τ else τ
theorem s_X5_toListener {d c : Int} {σ : ev_M} (hd0 : 0 ≤ d) (hd : d < 6) (ht : ev_in (σ 577 + 1)) (hn : ev_in (σ 7 + σ (300 + (18 * d + 4)))) (hk : 0 ≤ σ (300 + (18 * d + 13))) : Ev jX5_toListener layM 0 [some (rv 0), some (iv d), some (iv c)] [] σ (fun _ σ' => σ' = m_toL d c σ) := by
  refine Ev.iload_n dX5_toListener_0 rfl ?_
  refine Ev.iconst dX5_toListener_1 ⟨by decide, by decide⟩ ?_
  refine Ev.icmp_ne (tgt := 16) dX5_toListener_2 rfl (fun c2 => ?_) (fun c2 => ?_)
  · skip
    refine Ev.iload_n dX5_toListener_16 rfl ?_
    refine Ev.iconst dX5_toListener_17 ⟨by decide, by decide⟩ ?_
    refine Ev.icmp_ne (tgt := 29) dX5_toListener_18 rfl (fun c18 => ?_) (fun c18 => ?_)
    · skip
      refine Ev.iload_n dX5_toListener_29 rfl ?_
      refine Ev.bipush dX5_toListener_30 ⟨by decide, by decide⟩ (by decide) ?_
      refine Ev.icmp_ne (tgt := 40) dX5_toListener_32 rfl (fun c32 => ?_) (fun c32 => ?_)
      · skip
        refine Ev.vret dX5_toListener_40 rfl ?_
        unfold m_toL
        first | rw [if_pos (by omega)] | rw [if_neg (by omega), if_pos (by omega)] | rw [if_neg (by omega), if_neg (by omega), if_pos (by omega)] | rw [if_neg (by omega), if_neg (by omega), if_neg (by omega)]
      · skip
        refine Ev.aload_n dX5_toListener_35 rfl ?_
        refine Ev.iload_n dX5_toListener_36 rfl ?_
        refine Ev.Vv1 (I' := jX5_triggers) ml_X5_114 dX5_toListener_37 cyX5_triggers lm_0 rfl (by decide) ⟨by decide, by decide⟩ (by simp) rfl rfl (s_X5_triggers hd0 hd ht hn hk) (fun σ' hq => ?_)
        subst hq
        refine Ev.vret dX5_toListener_40 rfl ?_
        unfold m_toL
        first | rw [if_pos (by omega)] | rw [if_neg (by omega), if_pos (by omega)] | rw [if_neg (by omega), if_neg (by omega), if_pos (by omega)] | rw [if_neg (by omega), if_neg (by omega), if_neg (by omega)]
    · skip
      refine Ev.aload_n dX5_toListener_21 rfl ?_
      refine Ev.iload_n dX5_toListener_22 rfl ?_
      refine Ev.Vv1 (I' := jX5_clears) ml_X5_111 dX5_toListener_23 cyX5_clears lm_0 rfl (by decide) ⟨by decide, by decide⟩ (by simp) rfl rfl (s_X5_clears hd0 hd) (fun σ' hq => ?_)
      subst hq
      refine Ev.goto (tgt := 40) dX5_toListener_26 rfl ?_
      refine Ev.vret dX5_toListener_40 rfl ?_
      unfold m_toL
      first | rw [if_pos (by omega)] | rw [if_neg (by omega), if_pos (by omega)] | rw [if_neg (by omega), if_neg (by omega), if_pos (by omega)] | rw [if_neg (by omega), if_neg (by omega), if_neg (by omega)]
  · skip
    refine Ev.aload_n dX5_toListener_5 rfl ?_
    refine Ev.iload_n dX5_toListener_6 rfl ?_
    refine Ev.bipush dX5_toListener_7 ⟨by decide, by decide⟩ (by decide) ?_
    refine Ev.iconst dX5_toListener_9 ⟨by decide, by decide⟩ ?_
    refine Ev.Vv3 (I' := jX5_puts) ml_X5_47 dX5_toListener_10 cyX5_puts lm_0 rfl (by decide) ⟨by decide, by decide⟩ (by simp) rfl rfl (s_X5_puts hd0 hd (by decide) (by decide)) (fun σ' hq => ?_)
    subst hq
    refine Ev.goto (tgt := 40) dX5_toListener_13 rfl ?_
    refine Ev.vret dX5_toListener_40 rfl ?_
    unfold m_toL
    first | rw [if_pos (by omega)] | rw [if_neg (by omega), if_pos (by omega)] | rw [if_neg (by omega), if_neg (by omega), if_pos (by omega)] | rw [if_neg (by omega), if_neg (by omega), if_neg (by omega)]
theorem s_X5_listens {d : Int} {σ : ev_M} (hd0 : 0 ≤ d) (hd : d < 6) : Ev jX5_listens layM 0 [some (rv 0), some (iv d)] [] σ (fun _ σ' => σ' = ev_up (ev_up σ (300 + (18 * d + 6)) 1) (300 + (18 * d + 7)) 1) := by
  refine Ev.aload_n dX5_listens_0 rfl ?_
  refine Ev.iload_n dX5_listens_1 rfl ?_
  refine Ev.bipush dX5_listens_2 ⟨by decide, by decide⟩ (by decide) ?_
  refine Ev.iconst dX5_listens_4 ⟨by decide, by decide⟩ ?_
  refine Ev.Vv3 (I' := jX5_puts) ml_X5_47 dX5_listens_5 cyX5_puts lm_0 rfl (by decide) ⟨by decide, by decide⟩ (by simp) rfl rfl (s_X5_puts hd0 hd (by decide) (by decide)) (fun σ' hq => ?_)
  subst hq
  refine Ev.aload_n dX5_listens_8 rfl ?_
  refine Ev.iload_n dX5_listens_9 rfl ?_
  refine Ev.bipush dX5_listens_10 ⟨by decide, by decide⟩ (by decide) ?_
  refine Ev.iconst dX5_listens_12 ⟨by decide, by decide⟩ ?_
  refine Ev.Vv3 (I' := jX5_puts) ml_X5_47 dX5_listens_13 cyX5_puts lm_0 rfl (by decide) ⟨by decide, by decide⟩ (by simp) rfl rfl (s_X5_puts hd0 hd (by decide) (by decide)) (fun σ' hq => ?_)
  subst hq
  refine Ev.vret dX5_listens_16 rfl ?_
  rfl
theorem s_X5_isDevice {d : Int} {σ : ev_M} (h2 : 0 ≤ σ 2) : Ev jX5_isDevice layM 0 [some (rv 0), some (iv d)] [] σ (fun r σ' => r = (if 0 ≤ d ∧ d ≤ σ 2 - 1 then 1 else 0) ∧ σ' = σ) := by
  refine Ev.okM (fun hin => ?_)
  have h2' := hin 2
  unfold ev_in at h2'
  refine Ev.iload_n dX5_isDevice_0 rfl ?_
  refine Ev.iconst dX5_isDevice_1 ⟨by decide, by decide⟩ ?_
  refine Ev.aload_n dX5_isDevice_2 rfl ?_
  refine Ev.geti (2) dX5_isDevice_3 fl_X5_44 lm_0 (by decide) rfl rfl ?_
  refine Ev.iconst dX5_isDevice_6 ⟨by decide, by decide⟩ ?_
  refine Ev.isub dX5_isDevice_7 (by unfold ev_in; omega) ?_
  refine Ev.Si3 (I' := jX5_isIn) ml_X5_82 dX5_isDevice_8 cyX5_isIn (by decide) ⟨by decide, by decide⟩ (by simp) rfl rfl (s_X5_isIn) (fun r σ' hr8 hq => ?_)
  obtain ⟨rfl, hq⟩ := hq
  replace hq := hq.symm
  subst hq
  refine Ev.bool rfl dX5_isDevice_11 (by omega) ?_
  exact ⟨rfl, rfl⟩
def m_all (w v : Int) (d : Int) (τ : ev_M) : ev_M := ev_up τ (300 + (18 * d + w)) v
theorem s_X5_all {w v : Int} {σ : ev_M} (hw0 : 0 ≤ w) (hw : w < 18) (h2 : 0 ≤ σ 2) (h2' : σ 2 ≤ 6) : Ev jX5_all layM 0 [some (rv 0), some (iv w), some (iv v), none] [] σ (fun _ σ' => σ' = it (m_all w v) σ (σ 2).toNat) := by
  have loop : ∀ (j k : Nat), (k : Int) + j = σ 2 → Ev jX5_all layM 2 [some (rv 0), some (iv w), some (iv v), some (iv (k : Int))] [] (it (m_all w v) σ k) (fun _ σ' => σ' = it (m_all w v) σ (σ 2).toNat) := by
    intro j
    induction j with
    | zero =>
      intro k hk
      have e2 : it (m_all w v) σ k 2 = σ 2 := it_at (fun d σ => ev_up_ne (by omega)) k
      refine Ev.iload_n dX5_all_2 rfl ?_
      refine Ev.aload_n dX5_all_3 rfl ?_
      refine Ev.geti (2) dX5_all_4 fl_X5_44 lm_0 (by decide) rfl rfl ?_
      refine Ev.icmp_ge (tgt := 23) dX5_all_7 rfl (fun c7 => ?_) (fun c7 => ?_)
      · skip
        refine Ev.vret dX5_all_23 rfl ?_
        rw [show (σ 2).toNat = k by omega]
      · skip
        exact absurd c7 (by omega)
    | succ j ih =>
      intro k hk
      have e2 : it (m_all w v) σ k 2 = σ 2 := it_at (fun d σ => ev_up_ne (by omega)) k
      refine Ev.iload_n dX5_all_2 rfl ?_
      refine Ev.aload_n dX5_all_3 rfl ?_
      refine Ev.geti (2) dX5_all_4 fl_X5_44 lm_0 (by decide) rfl rfl ?_
      refine Ev.icmp_ge (tgt := 23) dX5_all_7 rfl (fun c7 => ?_) (fun c7 => ?_)
      · skip
        exact absurd c7 (by omega)
      · skip
        refine Ev.aload_n dX5_all_10 rfl ?_
        refine Ev.iload_n dX5_all_11 rfl ?_
        refine Ev.iload_n dX5_all_12 rfl ?_
        refine Ev.iload_n dX5_all_13 rfl ?_
        refine Ev.Vv3 (I' := jX5_puts) ml_X5_47 dX5_all_14 cyX5_puts lm_0 rfl (by decide) ⟨by decide, by decide⟩ (by simp) rfl rfl (s_X5_puts (by omega) (by omega) hw0 hw) (fun σ' hq => ?_)
        subst hq
        refine Ev.iinc3 dX5_all_17 (by unfold ev_in; omega) ?_
        refine Ev.goto (tgt := 2) dX5_all_20 rfl ?_
        exact ih (k + 1) (by omega)
  refine Ev.iconst dX5_all_0 ⟨by decide, by decide⟩ ?_
  refine Ev.istore3 rfl dX5_all_1 ?_
  exact loop (σ 2).toNat 0 (by omega)
end
section
/-! the ranges of the reference's numbers, b the bound of NOW and of the sums -/
def mlo (n : Int) : Int := if 300 ≤ n ∧ n < 408 then (if (n - 300) % 18 = 11 ∨ (n - 300) % 18 = 14 then -4 else 0) else if n = 8 then -4 else if n = 0 ∨ n = 2 ∨ n = 5 ∨ n = 6 ∨ n = 7 ∨ n = 9 ∨ n = 11 ∨ n = 15 ∨ n = 17 ∨ n = 18 ∨ (100 ≤ n ∧ n < 300) ∨ (570 ≤ n ∧ n < 578) ∨ (640 ≤ n ∧ n < 710) then 0 else -2147483648
def mhi (b n : Int) : Int := if 300 ≤ n ∧ n < 408 then (if (n - 300) % 18 = 0 then 2 else if (n - 300) % 18 = 1 then 30 else if (n - 300) % 18 = 2 then 31 else if (n - 300) % 18 = 3 then 9 else if (n - 300) % 18 = 4 then 60 else if (n - 300) % 18 = 5 then 1 else if (n - 300) % 18 = 6 then 1 else if (n - 300) % 18 = 7 then 1 else if (n - 300) % 18 = 8 then 1 else if (n - 300) % 18 = 9 then 63 else if (n - 300) % 18 = 10 then 1 else if (n - 300) % 18 = 11 then 7 else if (n - 300) % 18 = 12 then 1 else if (n - 300) % 18 = 13 then 999 else if (n - 300) % 18 = 14 then b + 60 else if (n - 300) % 18 = 15 then 12 else if (n - 300) % 18 = 16 then 12 else 2) else if n = 0 then 200 else if n = 2 then 6 else if n = 5 then 5 else if n = 6 then 1 else if n = 7 then b else if n = 8 then 127 else if n = 9 then 63 else if n = 11 then 16 else if n = 15 then 6 else if n = 17 then 99 else if n = 18 then 1000 else if 100 ≤ n ∧ n < 300 then 126 else if 570 ≤ n ∧ n < 578 then b else if 640 ≤ n ∧ n < 710 then 99 else 2147483647
def MI (b : Int) (τ : ev_M) : Prop := ∀ n, mlo n ≤ τ n ∧ τ n ≤ mhi b n
theorem MI.up {b : Int} {τ : ev_M} {n v : Int} (h : MI b τ) (h0 : mlo n ≤ v) (h1 : v ≤ mhi b n) : MI b (ev_up τ n v) := by
  intro k
  unfold ev_up
  split
  · next e => rw [e]; exact ⟨h0, h1⟩
  · exact h k
theorem MI.mono {b b2 : Int} {τ : ev_M} (h : MI b τ) (hb : b ≤ b2) : MI b2 τ := by
  intro k
  refine ⟨(h k).1, Int.le_trans (h k).2 ?_⟩
  unfold mhi
  repeat' split
  all_goals omega
theorem mlo_0 {d : Int} (h0 : 0 ≤ d) (h1 : d < 6) : mlo (300 + (18 * d + 0)) = 0 := by
  unfold mlo
  rw [if_pos (by omega), show (300 + (18 * d + 0) - 300) % 18 = 0 by omega]
  rfl
theorem mhi_0 {b d : Int} (h0 : 0 ≤ d) (h1 : d < 6) : mhi b (300 + (18 * d + 0)) = 2 := by
  unfold mhi
  rw [if_pos (by omega), show (300 + (18 * d + 0) - 300) % 18 = 0 by omega]
  rfl
theorem MI.h0 {b d : Int} {τ : ev_M} (h : MI b τ) (h0 : 0 ≤ d) (h1 : d < 6) : 0 ≤ τ (300 + (18 * d + 0)) ∧ τ (300 + (18 * d + 0)) ≤ 2 := by
  have := h (300 + (18 * d + 0))
  rwa [mlo_0 h0 h1, mhi_0 h0 h1] at this
theorem MI.u0 {b d v : Int} {τ : ev_M} (h : MI b τ) (h0 : 0 ≤ d) (h1 : d < 6) (g0 : 0 ≤ v) (g1 : v ≤ 2) : MI b (ev_up τ (300 + (18 * d + 0)) v) := h.up (by rw [mlo_0 h0 h1]; exact g0) (by rw [mhi_0 h0 h1]; exact g1)
theorem mlo_1 {d : Int} (h0 : 0 ≤ d) (h1 : d < 6) : mlo (300 + (18 * d + 1)) = 0 := by
  unfold mlo
  rw [if_pos (by omega), show (300 + (18 * d + 1) - 300) % 18 = 1 by omega]
  rfl
theorem mhi_1 {b d : Int} (h0 : 0 ≤ d) (h1 : d < 6) : mhi b (300 + (18 * d + 1)) = 30 := by
  unfold mhi
  rw [if_pos (by omega), show (300 + (18 * d + 1) - 300) % 18 = 1 by omega]
  rfl
theorem MI.h1 {b d : Int} {τ : ev_M} (h : MI b τ) (h0 : 0 ≤ d) (h1 : d < 6) : 0 ≤ τ (300 + (18 * d + 1)) ∧ τ (300 + (18 * d + 1)) ≤ 30 := by
  have := h (300 + (18 * d + 1))
  rwa [mlo_1 h0 h1, mhi_1 h0 h1] at this
theorem MI.u1 {b d v : Int} {τ : ev_M} (h : MI b τ) (h0 : 0 ≤ d) (h1 : d < 6) (g0 : 0 ≤ v) (g1 : v ≤ 30) : MI b (ev_up τ (300 + (18 * d + 1)) v) := h.up (by rw [mlo_1 h0 h1]; exact g0) (by rw [mhi_1 h0 h1]; exact g1)
theorem mlo_2 {d : Int} (h0 : 0 ≤ d) (h1 : d < 6) : mlo (300 + (18 * d + 2)) = 0 := by
  unfold mlo
  rw [if_pos (by omega), show (300 + (18 * d + 2) - 300) % 18 = 2 by omega]
  rfl
theorem mhi_2 {b d : Int} (h0 : 0 ≤ d) (h1 : d < 6) : mhi b (300 + (18 * d + 2)) = 31 := by
  unfold mhi
  rw [if_pos (by omega), show (300 + (18 * d + 2) - 300) % 18 = 2 by omega]
  rfl
theorem MI.h2 {b d : Int} {τ : ev_M} (h : MI b τ) (h0 : 0 ≤ d) (h1 : d < 6) : 0 ≤ τ (300 + (18 * d + 2)) ∧ τ (300 + (18 * d + 2)) ≤ 31 := by
  have := h (300 + (18 * d + 2))
  rwa [mlo_2 h0 h1, mhi_2 h0 h1] at this
theorem MI.u2 {b d v : Int} {τ : ev_M} (h : MI b τ) (h0 : 0 ≤ d) (h1 : d < 6) (g0 : 0 ≤ v) (g1 : v ≤ 31) : MI b (ev_up τ (300 + (18 * d + 2)) v) := h.up (by rw [mlo_2 h0 h1]; exact g0) (by rw [mhi_2 h0 h1]; exact g1)
theorem mlo_3 {d : Int} (h0 : 0 ≤ d) (h1 : d < 6) : mlo (300 + (18 * d + 3)) = 0 := by
  unfold mlo
  rw [if_pos (by omega), show (300 + (18 * d + 3) - 300) % 18 = 3 by omega]
  rfl
theorem mhi_3 {b d : Int} (h0 : 0 ≤ d) (h1 : d < 6) : mhi b (300 + (18 * d + 3)) = 9 := by
  unfold mhi
  rw [if_pos (by omega), show (300 + (18 * d + 3) - 300) % 18 = 3 by omega]
  rfl
theorem MI.h3 {b d : Int} {τ : ev_M} (h : MI b τ) (h0 : 0 ≤ d) (h1 : d < 6) : 0 ≤ τ (300 + (18 * d + 3)) ∧ τ (300 + (18 * d + 3)) ≤ 9 := by
  have := h (300 + (18 * d + 3))
  rwa [mlo_3 h0 h1, mhi_3 h0 h1] at this
theorem MI.u3 {b d v : Int} {τ : ev_M} (h : MI b τ) (h0 : 0 ≤ d) (h1 : d < 6) (g0 : 0 ≤ v) (g1 : v ≤ 9) : MI b (ev_up τ (300 + (18 * d + 3)) v) := h.up (by rw [mlo_3 h0 h1]; exact g0) (by rw [mhi_3 h0 h1]; exact g1)
theorem mlo_4 {d : Int} (h0 : 0 ≤ d) (h1 : d < 6) : mlo (300 + (18 * d + 4)) = 0 := by
  unfold mlo
  rw [if_pos (by omega), show (300 + (18 * d + 4) - 300) % 18 = 4 by omega]
  rfl
theorem mhi_4 {b d : Int} (h0 : 0 ≤ d) (h1 : d < 6) : mhi b (300 + (18 * d + 4)) = 60 := by
  unfold mhi
  rw [if_pos (by omega), show (300 + (18 * d + 4) - 300) % 18 = 4 by omega]
  rfl
theorem MI.h4 {b d : Int} {τ : ev_M} (h : MI b τ) (h0 : 0 ≤ d) (h1 : d < 6) : 0 ≤ τ (300 + (18 * d + 4)) ∧ τ (300 + (18 * d + 4)) ≤ 60 := by
  have := h (300 + (18 * d + 4))
  rwa [mlo_4 h0 h1, mhi_4 h0 h1] at this
theorem MI.u4 {b d v : Int} {τ : ev_M} (h : MI b τ) (h0 : 0 ≤ d) (h1 : d < 6) (g0 : 0 ≤ v) (g1 : v ≤ 60) : MI b (ev_up τ (300 + (18 * d + 4)) v) := h.up (by rw [mlo_4 h0 h1]; exact g0) (by rw [mhi_4 h0 h1]; exact g1)
theorem mlo_5 {d : Int} (h0 : 0 ≤ d) (h1 : d < 6) : mlo (300 + (18 * d + 5)) = 0 := by
  unfold mlo
  rw [if_pos (by omega), show (300 + (18 * d + 5) - 300) % 18 = 5 by omega]
  rfl
theorem mhi_5 {b d : Int} (h0 : 0 ≤ d) (h1 : d < 6) : mhi b (300 + (18 * d + 5)) = 1 := by
  unfold mhi
  rw [if_pos (by omega), show (300 + (18 * d + 5) - 300) % 18 = 5 by omega]
  rfl
theorem MI.h5 {b d : Int} {τ : ev_M} (h : MI b τ) (h0 : 0 ≤ d) (h1 : d < 6) : 0 ≤ τ (300 + (18 * d + 5)) ∧ τ (300 + (18 * d + 5)) ≤ 1 := by
  have := h (300 + (18 * d + 5))
  rwa [mlo_5 h0 h1, mhi_5 h0 h1] at this
theorem MI.u5 {b d v : Int} {τ : ev_M} (h : MI b τ) (h0 : 0 ≤ d) (h1 : d < 6) (g0 : 0 ≤ v) (g1 : v ≤ 1) : MI b (ev_up τ (300 + (18 * d + 5)) v) := h.up (by rw [mlo_5 h0 h1]; exact g0) (by rw [mhi_5 h0 h1]; exact g1)
theorem mlo_6 {d : Int} (h0 : 0 ≤ d) (h1 : d < 6) : mlo (300 + (18 * d + 6)) = 0 := by
  unfold mlo
  rw [if_pos (by omega), show (300 + (18 * d + 6) - 300) % 18 = 6 by omega]
  rfl
theorem mhi_6 {b d : Int} (h0 : 0 ≤ d) (h1 : d < 6) : mhi b (300 + (18 * d + 6)) = 1 := by
  unfold mhi
  rw [if_pos (by omega), show (300 + (18 * d + 6) - 300) % 18 = 6 by omega]
  rfl
theorem MI.h6 {b d : Int} {τ : ev_M} (h : MI b τ) (h0 : 0 ≤ d) (h1 : d < 6) : 0 ≤ τ (300 + (18 * d + 6)) ∧ τ (300 + (18 * d + 6)) ≤ 1 := by
  have := h (300 + (18 * d + 6))
  rwa [mlo_6 h0 h1, mhi_6 h0 h1] at this
theorem MI.u6 {b d v : Int} {τ : ev_M} (h : MI b τ) (h0 : 0 ≤ d) (h1 : d < 6) (g0 : 0 ≤ v) (g1 : v ≤ 1) : MI b (ev_up τ (300 + (18 * d + 6)) v) := h.up (by rw [mlo_6 h0 h1]; exact g0) (by rw [mhi_6 h0 h1]; exact g1)
theorem mlo_7 {d : Int} (h0 : 0 ≤ d) (h1 : d < 6) : mlo (300 + (18 * d + 7)) = 0 := by
  unfold mlo
  rw [if_pos (by omega), show (300 + (18 * d + 7) - 300) % 18 = 7 by omega]
  rfl
theorem mhi_7 {b d : Int} (h0 : 0 ≤ d) (h1 : d < 6) : mhi b (300 + (18 * d + 7)) = 1 := by
  unfold mhi
  rw [if_pos (by omega), show (300 + (18 * d + 7) - 300) % 18 = 7 by omega]
  rfl
theorem MI.h7 {b d : Int} {τ : ev_M} (h : MI b τ) (h0 : 0 ≤ d) (h1 : d < 6) : 0 ≤ τ (300 + (18 * d + 7)) ∧ τ (300 + (18 * d + 7)) ≤ 1 := by
  have := h (300 + (18 * d + 7))
  rwa [mlo_7 h0 h1, mhi_7 h0 h1] at this
theorem MI.u7 {b d v : Int} {τ : ev_M} (h : MI b τ) (h0 : 0 ≤ d) (h1 : d < 6) (g0 : 0 ≤ v) (g1 : v ≤ 1) : MI b (ev_up τ (300 + (18 * d + 7)) v) := h.up (by rw [mlo_7 h0 h1]; exact g0) (by rw [mhi_7 h0 h1]; exact g1)
theorem mlo_8 {d : Int} (h0 : 0 ≤ d) (h1 : d < 6) : mlo (300 + (18 * d + 8)) = 0 := by
  unfold mlo
  rw [if_pos (by omega), show (300 + (18 * d + 8) - 300) % 18 = 8 by omega]
  rfl
theorem mhi_8 {b d : Int} (h0 : 0 ≤ d) (h1 : d < 6) : mhi b (300 + (18 * d + 8)) = 1 := by
  unfold mhi
  rw [if_pos (by omega), show (300 + (18 * d + 8) - 300) % 18 = 8 by omega]
  rfl
theorem MI.h8 {b d : Int} {τ : ev_M} (h : MI b τ) (h0 : 0 ≤ d) (h1 : d < 6) : 0 ≤ τ (300 + (18 * d + 8)) ∧ τ (300 + (18 * d + 8)) ≤ 1 := by
  have := h (300 + (18 * d + 8))
  rwa [mlo_8 h0 h1, mhi_8 h0 h1] at this
theorem MI.u8 {b d v : Int} {τ : ev_M} (h : MI b τ) (h0 : 0 ≤ d) (h1 : d < 6) (g0 : 0 ≤ v) (g1 : v ≤ 1) : MI b (ev_up τ (300 + (18 * d + 8)) v) := h.up (by rw [mlo_8 h0 h1]; exact g0) (by rw [mhi_8 h0 h1]; exact g1)
theorem mlo_9 {d : Int} (h0 : 0 ≤ d) (h1 : d < 6) : mlo (300 + (18 * d + 9)) = 0 := by
  unfold mlo
  rw [if_pos (by omega), show (300 + (18 * d + 9) - 300) % 18 = 9 by omega]
  rfl
theorem mhi_9 {b d : Int} (h0 : 0 ≤ d) (h1 : d < 6) : mhi b (300 + (18 * d + 9)) = 63 := by
  unfold mhi
  rw [if_pos (by omega), show (300 + (18 * d + 9) - 300) % 18 = 9 by omega]
  rfl
theorem MI.h9 {b d : Int} {τ : ev_M} (h : MI b τ) (h0 : 0 ≤ d) (h1 : d < 6) : 0 ≤ τ (300 + (18 * d + 9)) ∧ τ (300 + (18 * d + 9)) ≤ 63 := by
  have := h (300 + (18 * d + 9))
  rwa [mlo_9 h0 h1, mhi_9 h0 h1] at this
theorem MI.u9 {b d v : Int} {τ : ev_M} (h : MI b τ) (h0 : 0 ≤ d) (h1 : d < 6) (g0 : 0 ≤ v) (g1 : v ≤ 63) : MI b (ev_up τ (300 + (18 * d + 9)) v) := h.up (by rw [mlo_9 h0 h1]; exact g0) (by rw [mhi_9 h0 h1]; exact g1)
theorem mlo_10 {d : Int} (h0 : 0 ≤ d) (h1 : d < 6) : mlo (300 + (18 * d + 10)) = 0 := by
  unfold mlo
  rw [if_pos (by omega), show (300 + (18 * d + 10) - 300) % 18 = 10 by omega]
  rfl
theorem mhi_10 {b d : Int} (h0 : 0 ≤ d) (h1 : d < 6) : mhi b (300 + (18 * d + 10)) = 1 := by
  unfold mhi
  rw [if_pos (by omega), show (300 + (18 * d + 10) - 300) % 18 = 10 by omega]
  rfl
theorem MI.h10 {b d : Int} {τ : ev_M} (h : MI b τ) (h0 : 0 ≤ d) (h1 : d < 6) : 0 ≤ τ (300 + (18 * d + 10)) ∧ τ (300 + (18 * d + 10)) ≤ 1 := by
  have := h (300 + (18 * d + 10))
  rwa [mlo_10 h0 h1, mhi_10 h0 h1] at this
theorem MI.u10 {b d v : Int} {τ : ev_M} (h : MI b τ) (h0 : 0 ≤ d) (h1 : d < 6) (g0 : 0 ≤ v) (g1 : v ≤ 1) : MI b (ev_up τ (300 + (18 * d + 10)) v) := h.up (by rw [mlo_10 h0 h1]; exact g0) (by rw [mhi_10 h0 h1]; exact g1)
theorem mlo_11 {d : Int} (h0 : 0 ≤ d) (h1 : d < 6) : mlo (300 + (18 * d + 11)) = -4 := by
  unfold mlo
  rw [if_pos (by omega), show (300 + (18 * d + 11) - 300) % 18 = 11 by omega]
  rfl
theorem mhi_11 {b d : Int} (h0 : 0 ≤ d) (h1 : d < 6) : mhi b (300 + (18 * d + 11)) = 7 := by
  unfold mhi
  rw [if_pos (by omega), show (300 + (18 * d + 11) - 300) % 18 = 11 by omega]
  rfl
theorem MI.h11 {b d : Int} {τ : ev_M} (h : MI b τ) (h0 : 0 ≤ d) (h1 : d < 6) : -4 ≤ τ (300 + (18 * d + 11)) ∧ τ (300 + (18 * d + 11)) ≤ 7 := by
  have := h (300 + (18 * d + 11))
  rwa [mlo_11 h0 h1, mhi_11 h0 h1] at this
theorem MI.u11 {b d v : Int} {τ : ev_M} (h : MI b τ) (h0 : 0 ≤ d) (h1 : d < 6) (g0 : -4 ≤ v) (g1 : v ≤ 7) : MI b (ev_up τ (300 + (18 * d + 11)) v) := h.up (by rw [mlo_11 h0 h1]; exact g0) (by rw [mhi_11 h0 h1]; exact g1)
theorem mlo_12 {d : Int} (h0 : 0 ≤ d) (h1 : d < 6) : mlo (300 + (18 * d + 12)) = 0 := by
  unfold mlo
  rw [if_pos (by omega), show (300 + (18 * d + 12) - 300) % 18 = 12 by omega]
  rfl
theorem mhi_12 {b d : Int} (h0 : 0 ≤ d) (h1 : d < 6) : mhi b (300 + (18 * d + 12)) = 1 := by
  unfold mhi
  rw [if_pos (by omega), show (300 + (18 * d + 12) - 300) % 18 = 12 by omega]
  rfl
theorem MI.h12 {b d : Int} {τ : ev_M} (h : MI b τ) (h0 : 0 ≤ d) (h1 : d < 6) : 0 ≤ τ (300 + (18 * d + 12)) ∧ τ (300 + (18 * d + 12)) ≤ 1 := by
  have := h (300 + (18 * d + 12))
  rwa [mlo_12 h0 h1, mhi_12 h0 h1] at this
theorem MI.u12 {b d v : Int} {τ : ev_M} (h : MI b τ) (h0 : 0 ≤ d) (h1 : d < 6) (g0 : 0 ≤ v) (g1 : v ≤ 1) : MI b (ev_up τ (300 + (18 * d + 12)) v) := h.up (by rw [mlo_12 h0 h1]; exact g0) (by rw [mhi_12 h0 h1]; exact g1)
theorem mlo_13 {d : Int} (h0 : 0 ≤ d) (h1 : d < 6) : mlo (300 + (18 * d + 13)) = 0 := by
  unfold mlo
  rw [if_pos (by omega), show (300 + (18 * d + 13) - 300) % 18 = 13 by omega]
  rfl
theorem mhi_13 {b d : Int} (h0 : 0 ≤ d) (h1 : d < 6) : mhi b (300 + (18 * d + 13)) = 999 := by
  unfold mhi
  rw [if_pos (by omega), show (300 + (18 * d + 13) - 300) % 18 = 13 by omega]
  rfl
theorem MI.h13 {b d : Int} {τ : ev_M} (h : MI b τ) (h0 : 0 ≤ d) (h1 : d < 6) : 0 ≤ τ (300 + (18 * d + 13)) ∧ τ (300 + (18 * d + 13)) ≤ 999 := by
  have := h (300 + (18 * d + 13))
  rwa [mlo_13 h0 h1, mhi_13 h0 h1] at this
theorem MI.u13 {b d v : Int} {τ : ev_M} (h : MI b τ) (h0 : 0 ≤ d) (h1 : d < 6) (g0 : 0 ≤ v) (g1 : v ≤ 999) : MI b (ev_up τ (300 + (18 * d + 13)) v) := h.up (by rw [mlo_13 h0 h1]; exact g0) (by rw [mhi_13 h0 h1]; exact g1)
theorem mlo_14 {d : Int} (h0 : 0 ≤ d) (h1 : d < 6) : mlo (300 + (18 * d + 14)) = -4 := by
  unfold mlo
  rw [if_pos (by omega), show (300 + (18 * d + 14) - 300) % 18 = 14 by omega]
  rfl
theorem mhi_14 {b d : Int} (h0 : 0 ≤ d) (h1 : d < 6) : mhi b (300 + (18 * d + 14)) = b + 60 := by
  unfold mhi
  rw [if_pos (by omega), show (300 + (18 * d + 14) - 300) % 18 = 14 by omega]
  rfl
theorem MI.h14 {b d : Int} {τ : ev_M} (h : MI b τ) (h0 : 0 ≤ d) (h1 : d < 6) : -4 ≤ τ (300 + (18 * d + 14)) ∧ τ (300 + (18 * d + 14)) ≤ b + 60 := by
  have := h (300 + (18 * d + 14))
  rwa [mlo_14 h0 h1, mhi_14 h0 h1] at this
theorem MI.u14 {b d v : Int} {τ : ev_M} (h : MI b τ) (h0 : 0 ≤ d) (h1 : d < 6) (g0 : -4 ≤ v) (g1 : v ≤ b + 60) : MI b (ev_up τ (300 + (18 * d + 14)) v) := h.up (by rw [mlo_14 h0 h1]; exact g0) (by rw [mhi_14 h0 h1]; exact g1)
theorem mlo_15 {d : Int} (h0 : 0 ≤ d) (h1 : d < 6) : mlo (300 + (18 * d + 15)) = 0 := by
  unfold mlo
  rw [if_pos (by omega), show (300 + (18 * d + 15) - 300) % 18 = 15 by omega]
  rfl
theorem mhi_15 {b d : Int} (h0 : 0 ≤ d) (h1 : d < 6) : mhi b (300 + (18 * d + 15)) = 12 := by
  unfold mhi
  rw [if_pos (by omega), show (300 + (18 * d + 15) - 300) % 18 = 15 by omega]
  rfl
theorem MI.h15 {b d : Int} {τ : ev_M} (h : MI b τ) (h0 : 0 ≤ d) (h1 : d < 6) : 0 ≤ τ (300 + (18 * d + 15)) ∧ τ (300 + (18 * d + 15)) ≤ 12 := by
  have := h (300 + (18 * d + 15))
  rwa [mlo_15 h0 h1, mhi_15 h0 h1] at this
theorem MI.u15 {b d v : Int} {τ : ev_M} (h : MI b τ) (h0 : 0 ≤ d) (h1 : d < 6) (g0 : 0 ≤ v) (g1 : v ≤ 12) : MI b (ev_up τ (300 + (18 * d + 15)) v) := h.up (by rw [mlo_15 h0 h1]; exact g0) (by rw [mhi_15 h0 h1]; exact g1)
theorem mlo_16 {d : Int} (h0 : 0 ≤ d) (h1 : d < 6) : mlo (300 + (18 * d + 16)) = 0 := by
  unfold mlo
  rw [if_pos (by omega), show (300 + (18 * d + 16) - 300) % 18 = 16 by omega]
  rfl
theorem mhi_16 {b d : Int} (h0 : 0 ≤ d) (h1 : d < 6) : mhi b (300 + (18 * d + 16)) = 12 := by
  unfold mhi
  rw [if_pos (by omega), show (300 + (18 * d + 16) - 300) % 18 = 16 by omega]
  rfl
theorem MI.h16 {b d : Int} {τ : ev_M} (h : MI b τ) (h0 : 0 ≤ d) (h1 : d < 6) : 0 ≤ τ (300 + (18 * d + 16)) ∧ τ (300 + (18 * d + 16)) ≤ 12 := by
  have := h (300 + (18 * d + 16))
  rwa [mlo_16 h0 h1, mhi_16 h0 h1] at this
theorem MI.u16 {b d v : Int} {τ : ev_M} (h : MI b τ) (h0 : 0 ≤ d) (h1 : d < 6) (g0 : 0 ≤ v) (g1 : v ≤ 12) : MI b (ev_up τ (300 + (18 * d + 16)) v) := h.up (by rw [mlo_16 h0 h1]; exact g0) (by rw [mhi_16 h0 h1]; exact g1)
theorem mlo_17 {d : Int} (h0 : 0 ≤ d) (h1 : d < 6) : mlo (300 + (18 * d + 17)) = 0 := by
  unfold mlo
  rw [if_pos (by omega), show (300 + (18 * d + 17) - 300) % 18 = 17 by omega]
  rfl
theorem mhi_17 {b d : Int} (h0 : 0 ≤ d) (h1 : d < 6) : mhi b (300 + (18 * d + 17)) = 2 := by
  unfold mhi
  rw [if_pos (by omega), show (300 + (18 * d + 17) - 300) % 18 = 17 by omega]
  rfl
theorem MI.h17 {b d : Int} {τ : ev_M} (h : MI b τ) (h0 : 0 ≤ d) (h1 : d < 6) : 0 ≤ τ (300 + (18 * d + 17)) ∧ τ (300 + (18 * d + 17)) ≤ 2 := by
  have := h (300 + (18 * d + 17))
  rwa [mlo_17 h0 h1, mhi_17 h0 h1] at this
theorem MI.u17 {b d v : Int} {τ : ev_M} (h : MI b τ) (h0 : 0 ≤ d) (h1 : d < 6) (g0 : 0 ≤ v) (g1 : v ≤ 2) : MI b (ev_up τ (300 + (18 * d + 17)) v) := h.up (by rw [mlo_17 h0 h1]; exact g0) (by rw [mhi_17 h0 h1]; exact g1)
theorem MI.s0 {b : Int} {τ : ev_M} (h : MI b τ) : 0 ≤ τ 0 ∧ τ 0 ≤ 200 := h 0
theorem MI.t0 {b v : Int} {τ : ev_M} (h : MI b τ) (g0 : 0 ≤ v) (g1 : v ≤ 200) : MI b (ev_up τ 0 v) := h.up g0 g1
theorem MI.s2 {b : Int} {τ : ev_M} (h : MI b τ) : 0 ≤ τ 2 ∧ τ 2 ≤ 6 := h 2
theorem MI.t2 {b v : Int} {τ : ev_M} (h : MI b τ) (g0 : 0 ≤ v) (g1 : v ≤ 6) : MI b (ev_up τ 2 v) := h.up g0 g1
theorem MI.s5 {b : Int} {τ : ev_M} (h : MI b τ) : 0 ≤ τ 5 ∧ τ 5 ≤ 5 := h 5
theorem MI.t5 {b v : Int} {τ : ev_M} (h : MI b τ) (g0 : 0 ≤ v) (g1 : v ≤ 5) : MI b (ev_up τ 5 v) := h.up g0 g1
theorem MI.s6 {b : Int} {τ : ev_M} (h : MI b τ) : 0 ≤ τ 6 ∧ τ 6 ≤ 1 := h 6
theorem MI.t6 {b v : Int} {τ : ev_M} (h : MI b τ) (g0 : 0 ≤ v) (g1 : v ≤ 1) : MI b (ev_up τ 6 v) := h.up g0 g1
theorem MI.s7 {b : Int} {τ : ev_M} (h : MI b τ) : 0 ≤ τ 7 ∧ τ 7 ≤ b := h 7
theorem MI.t7 {b v : Int} {τ : ev_M} (h : MI b τ) (g0 : 0 ≤ v) (g1 : v ≤ b) : MI b (ev_up τ 7 v) := h.up g0 g1
theorem MI.s8 {b : Int} {τ : ev_M} (h : MI b τ) : -4 ≤ τ 8 ∧ τ 8 ≤ 127 := h 8
theorem MI.t8 {b v : Int} {τ : ev_M} (h : MI b τ) (g0 : -4 ≤ v) (g1 : v ≤ 127) : MI b (ev_up τ 8 v) := h.up g0 g1
theorem MI.s9 {b : Int} {τ : ev_M} (h : MI b τ) : 0 ≤ τ 9 ∧ τ 9 ≤ 63 := h 9
theorem MI.t9 {b v : Int} {τ : ev_M} (h : MI b τ) (g0 : 0 ≤ v) (g1 : v ≤ 63) : MI b (ev_up τ 9 v) := h.up g0 g1
theorem MI.s11 {b : Int} {τ : ev_M} (h : MI b τ) : 0 ≤ τ 11 ∧ τ 11 ≤ 16 := h 11
theorem MI.t11 {b v : Int} {τ : ev_M} (h : MI b τ) (g0 : 0 ≤ v) (g1 : v ≤ 16) : MI b (ev_up τ 11 v) := h.up g0 g1
theorem MI.s15 {b : Int} {τ : ev_M} (h : MI b τ) : 0 ≤ τ 15 ∧ τ 15 ≤ 6 := h 15
theorem MI.t15 {b v : Int} {τ : ev_M} (h : MI b τ) (g0 : 0 ≤ v) (g1 : v ≤ 6) : MI b (ev_up τ 15 v) := h.up g0 g1
theorem MI.s17 {b : Int} {τ : ev_M} (h : MI b τ) : 0 ≤ τ 17 ∧ τ 17 ≤ 99 := h 17
theorem MI.t17 {b v : Int} {τ : ev_M} (h : MI b τ) (g0 : 0 ≤ v) (g1 : v ≤ 99) : MI b (ev_up τ 17 v) := h.up g0 g1
theorem MI.s18 {b : Int} {τ : ev_M} (h : MI b τ) : 0 ≤ τ 18 ∧ τ 18 ≤ 1000 := h 18
theorem MI.t18 {b v : Int} {τ : ev_M} (h : MI b τ) (g0 : 0 ≤ v) (g1 : v ≤ 1000) : MI b (ev_up τ 18 v) := h.up g0 g1
theorem MI.sum {b n : Int} {τ : ev_M} (h : MI b τ) (h0 : 570 ≤ n) (h1 : n < 578) : 0 ≤ τ n ∧ τ n ≤ b := by
  have h2 := h n
  have e1 : mlo n = 0 := by
    unfold mlo
    repeat' split
    all_goals omega
  have e2 : mhi b n = b := by
    unfold mhi
    repeat' split
    all_goals omega
  rwa [e1, e2] at h2
theorem MI.usum {b n v : Int} {τ : ev_M} (h : MI b τ) (h0 : 570 ≤ n) (h1 : n < 578) (g0 : 0 ≤ v) (g1 : v ≤ b) : MI b (ev_up τ n v) := by
  refine h.up ?_ ?_
  · have e1 : mlo n = 0 := by
      unfold mlo
      repeat' split
      all_goals omega
    rw [e1]; exact g0
  · have e2 : mhi b n = b := by
      unfold mhi
      repeat' split
      all_goals omega
    rw [e2]; exact g1
/-- places of which nothing is told: rows, the log -/
theorem MI.ufree {b n v : Int} {τ : ev_M} (h : MI b τ) (h0 : (420 ≤ n ∧ n < 564) ∨ (580 ≤ n ∧ n < 636)) (hv : ev_in v) : MI b (ev_up τ n v) := by
  unfold ev_in at hv
  refine h.up ?_ ?_
  · have e1 : mlo n = -2147483648 := by
      unfold mlo
      repeat' split
      all_goals omega
    rw [e1]; omega
  · have e2 : mhi b n = 2147483647 := by
      unfold mhi
      repeat' split
      all_goals omega
    rw [e2]; omega
theorem it_MI {f : Int → ev_M → ev_M} {s : Int} (hf : ∀ (i : Nat) (b : Int) (τ : ev_M), i < 6 → MI b τ → MI (b + s) (f (i : Int) τ)) {b : Int} {τ : ev_M} (h : MI b τ) : ∀ k : Nat, k ≤ 6 → MI (b + s * k) (it f τ k)
  | 0, _ => by
    rw [show b + s * ((0 : Nat) : Int) = b by simp]; exact h
  | k + 1, hk => by
    have := hf k _ _ (by omega) (it_MI hf h k (by omega))
    rw [show b + s * ((k + 1 : Nat) : Int) = b + s * (k : Int) + s by rw [Int.natCast_succ, Int.mul_add, Int.mul_one, Int.add_assoc]]
    exact this
theorem it_at' {f : Int → ev_M → ev_M} {τ : ev_M} {n : Int} : ∀ (k : Nat), (∀ (i : Nat) (σ : ev_M), i < k → f (i : Int) σ n = σ n) → it f τ k n = τ n
  | 0, _ => rfl
  | k + 1, h => by
    show f (k : Int) (it f τ k) n = τ n
    rw [h k _ (by omega), it_at' k (fun i σ hi => h i σ (by omega))]
end
section
/-! the reference: its loops over devices -/
theorem s_X5_silences  {σ : ev_M}  (h2 : 0 ≤ σ 2) (h2' : σ 2 ≤ 6) : Ev jX5_silences layM 0 [some (rv 0), none] [] σ (fun _ σ' => σ' = it (m_all 5 0) σ (σ 2).toNat) := by
  have loop : ∀ (j k : Nat) (ρ : ev_M), (k : Int) + j = σ 2 → ρ = it (m_all 5 0) σ k → Ev jX5_silences layM 2 [some (rv 0), some (iv (k : Int))] [] ρ (fun _ σ' => σ' = it (m_all 5 0) σ (σ 2).toNat) := by
    intro j
    induction j with
    | zero =>
      intro k ρ hk hρ
      have e2 : ρ 2 = σ 2 := by rw [hρ]; exact it_at (fun k σ => by unfold m_all; (repeat' split) <;> (try rfl) <;> simp (disch := omega) only [ev_up_ne]) k
      refine Ev.iload_n dX5_silences_2 rfl ?_
      refine Ev.aload_n dX5_silences_3 rfl ?_
      refine Ev.geti (2) dX5_silences_4 fl_X5_44 lm_0 (by decide) rfl rfl ?_
      refine Ev.icmp_ge (tgt := 23) dX5_silences_7 rfl (fun c7 => ?_) (fun c7 => ?_)
      · skip
        refine Ev.vret dX5_silences_23 rfl ?_
        rw [hρ, show (σ 2).toNat = k by omega]
      · skip
        exact absurd c7 (by omega)
    | succ j ih =>
      intro k ρ hk hρ
      have e2 : ρ 2 = σ 2 := by rw [hρ]; exact it_at (fun k σ => by unfold m_all; (repeat' split) <;> (try rfl) <;> simp (disch := omega) only [ev_up_ne]) k
      refine Ev.iload_n dX5_silences_2 rfl ?_
      refine Ev.aload_n dX5_silences_3 rfl ?_
      refine Ev.geti (2) dX5_silences_4 fl_X5_44 lm_0 (by decide) rfl rfl ?_
      refine Ev.icmp_ge (tgt := 23) dX5_silences_7 rfl (fun c7 => ?_) (fun c7 => ?_)
      · skip
        exact absurd c7 (by omega)
      · skip
        refine Ev.aload_n dX5_silences_10 rfl ?_
        refine Ev.iload_n dX5_silences_11 rfl ?_
        refine Ev.iconst dX5_silences_12 ⟨by decide, by decide⟩ ?_
        refine Ev.iconst dX5_silences_13 ⟨by decide, by decide⟩ ?_
        refine Ev.Vv3 (I' := jX5_puts) ml_X5_47 dX5_silences_14 cyX5_puts lm_0 rfl (by decide) ⟨by decide, by decide⟩ (by simp) rfl rfl (s_X5_puts (by omega) (by omega) (by decide) (by decide)) (fun σ' hq => ?_)
        subst hq
        refine Ev.iinc1 dX5_silences_17 (by unfold ev_in; omega) ?_
        refine Ev.goto (tgt := 2) dX5_silences_20 rfl ?_
        refine ih (k + 1) _ (by omega) ?_
        rw [show it (m_all 5 0) σ (k + 1) = (m_all 5 0) (k : Int) (it (m_all 5 0) σ k) from rfl, ← hρ]
        unfold m_all
        first | (exfalso; omega) | rfl | (repeat (first | rw [if_pos (by omega)] | rw [if_neg (by omega)]))
  refine Ev.iconst dX5_silences_0 ⟨by decide, by decide⟩ ?_
  refine Ev.istore1 rfl dX5_silences_1 ?_
  exact loop (σ 2).toNat 0 σ (by omega) rfl
def m_addr (a how : Int) (d : Int) (τ : ev_M) : ev_M := if τ (300 + (18 * d + 1)) = a then (if τ (300 + (18 * d + 2)) < 31 then ev_up τ (300 + (18 * d + 17)) how else if how = 1 then ev_up (ev_up τ (300 + (18 * d + 6)) 1) (300 + (18 * d + 7)) 1 else ev_up τ (300 + (18 * d + 5)) 1) else τ
theorem s_X5_addresses {a how : Int} {σ : ev_M}  (h2 : 0 ≤ σ 2) (h2' : σ 2 ≤ 6) : Ev jX5_addresses layM 0 [some (rv 0), some (iv a), some (iv how), none] [] σ (fun _ σ' => σ' = it (m_addr a how) σ (σ 2).toNat) := by
  have loop : ∀ (j k : Nat) (ρ : ev_M), (k : Int) + j = σ 2 → ρ = it (m_addr a how) σ k → Ev jX5_addresses layM 2 [some (rv 0), some (iv a), some (iv how), some (iv (k : Int))] [] ρ (fun _ σ' => σ' = it (m_addr a how) σ (σ 2).toNat) := by
    intro j
    induction j with
    | zero =>
      intro k ρ hk hρ
      have e2 : ρ 2 = σ 2 := by rw [hρ]; exact it_at (fun k σ => by unfold m_addr; (repeat' split) <;> (try rfl) <;> simp (disch := omega) only [ev_up_ne]) k
      refine Ev.iload_n dX5_addresses_2 rfl ?_
      refine Ev.aload_n dX5_addresses_3 rfl ?_
      refine Ev.geti (2) dX5_addresses_4 fl_X5_44 lm_0 (by decide) rfl rfl ?_
      refine Ev.icmp_ge (tgt := 68) dX5_addresses_7 rfl (fun c7 => ?_) (fun c7 => ?_)
      · skip
        refine Ev.vret dX5_addresses_68 rfl ?_
        rw [hρ, show (σ 2).toNat = k by omega]
      · skip
        exact absurd c7 (by omega)
    | succ j ih =>
      intro k ρ hk hρ
      have e2 : ρ 2 = σ 2 := by rw [hρ]; exact it_at (fun k σ => by unfold m_addr; (repeat' split) <;> (try rfl) <;> simp (disch := omega) only [ev_up_ne]) k
      refine Ev.iload_n dX5_addresses_2 rfl ?_
      refine Ev.aload_n dX5_addresses_3 rfl ?_
      refine Ev.geti (2) dX5_addresses_4 fl_X5_44 lm_0 (by decide) rfl rfl ?_
      refine Ev.icmp_ge (tgt := 68) dX5_addresses_7 rfl (fun c7 => ?_) (fun c7 => ?_)
      · skip
        exact absurd c7 (by omega)
      · skip
        refine Ev.aload_n dX5_addresses_10 rfl ?_
        refine Ev.iload_n dX5_addresses_11 rfl ?_
        refine Ev.iconst dX5_addresses_12 ⟨by decide, by decide⟩ ?_
        refine Ev.Vi2 (I' := jX5_of) ml_X5_100 dX5_addresses_13 cyX5_of lm_0 rfl (by decide) ⟨by decide, by decide⟩ (by simp) rfl rfl (s_X5_of (by omega) (by omega) (by decide) (by decide)) (fun r σ' hr13 hq => ?_)
        obtain ⟨rfl, hq⟩ := hq
        replace hq := hq.symm
        subst hq
        refine Ev.iload_n dX5_addresses_16 rfl ?_
        refine Ev.icmp_ne (tgt := 62) dX5_addresses_17 rfl (fun c17 => ?_) (fun c17 => ?_)
        · skip
          refine Ev.iinc3 dX5_addresses_62 (by unfold ev_in; omega) ?_
          refine Ev.goto (tgt := 2) dX5_addresses_65 rfl ?_
          refine ih (k + 1) _ (by omega) ?_
          rw [show it (m_addr a how) σ (k + 1) = (m_addr a how) (k : Int) (it (m_addr a how) σ k) from rfl, ← hρ]
          unfold m_addr
          first | (exfalso; omega) | rfl | (repeat (first | rw [if_pos (by omega)] | rw [if_neg (by omega)]))
        · skip
          refine Ev.aload_n dX5_addresses_20 rfl ?_
          refine Ev.iload_n dX5_addresses_21 rfl ?_
          refine Ev.iconst dX5_addresses_22 ⟨by decide, by decide⟩ ?_
          refine Ev.Vi2 (I' := jX5_of) ml_X5_100 dX5_addresses_23 cyX5_of lm_0 rfl (by decide) ⟨by decide, by decide⟩ (by simp) rfl rfl (s_X5_of (by omega) (by omega) (by decide) (by decide)) (fun r σ' hr23 hq => ?_)
          obtain ⟨rfl, hq⟩ := hq
          replace hq := hq.symm
          subst hq
          refine Ev.bipush dX5_addresses_26 ⟨by decide, by decide⟩ (by decide) ?_
          refine Ev.icmp_ge (tgt := 42) dX5_addresses_28 rfl (fun c28 => ?_) (fun c28 => ?_)
          · skip
            refine Ev.iload_n dX5_addresses_42 rfl ?_
            refine Ev.iconst dX5_addresses_43 ⟨by decide, by decide⟩ ?_
            refine Ev.icmp_ne (tgt := 55) dX5_addresses_44 rfl (fun c44 => ?_) (fun c44 => ?_)
            · skip
              refine Ev.aload_n dX5_addresses_55 rfl ?_
              refine Ev.iload_n dX5_addresses_56 rfl ?_
              refine Ev.iconst dX5_addresses_57 ⟨by decide, by decide⟩ ?_
              refine Ev.iconst dX5_addresses_58 ⟨by decide, by decide⟩ ?_
              refine Ev.Vv3 (I' := jX5_puts) ml_X5_47 dX5_addresses_59 cyX5_puts lm_0 rfl (by decide) ⟨by decide, by decide⟩ (by simp) rfl rfl (s_X5_puts (by omega) (by omega) (by decide) (by decide)) (fun σ' hq => ?_)
              subst hq
              refine Ev.iinc3 dX5_addresses_62 (by unfold ev_in; omega) ?_
              refine Ev.goto (tgt := 2) dX5_addresses_65 rfl ?_
              refine ih (k + 1) _ (by omega) ?_
              rw [show it (m_addr a how) σ (k + 1) = (m_addr a how) (k : Int) (it (m_addr a how) σ k) from rfl, ← hρ]
              unfold m_addr
              first | (exfalso; omega) | rfl | (repeat (first | rw [if_pos (by omega)] | rw [if_neg (by omega)]))
            · skip
              refine Ev.aload_n dX5_addresses_47 rfl ?_
              refine Ev.iload_n dX5_addresses_48 rfl ?_
              refine Ev.Vv1 (I' := jX5_listens) ml_X5_120 dX5_addresses_49 cyX5_listens lm_0 rfl (by decide) ⟨by decide, by decide⟩ (by simp) rfl rfl (s_X5_listens (by omega) (by omega)) (fun σ' hq => ?_)
              subst hq
              refine Ev.goto (tgt := 62) dX5_addresses_52 rfl ?_
              refine Ev.iinc3 dX5_addresses_62 (by unfold ev_in; omega) ?_
              refine Ev.goto (tgt := 2) dX5_addresses_65 rfl ?_
              refine ih (k + 1) _ (by omega) ?_
              rw [show it (m_addr a how) σ (k + 1) = (m_addr a how) (k : Int) (it (m_addr a how) σ k) from rfl, ← hρ]
              unfold m_addr
              first | (exfalso; omega) | rfl | (repeat (first | rw [if_pos (by omega)] | rw [if_neg (by omega)]))
          · skip
            refine Ev.aload_n dX5_addresses_31 rfl ?_
            refine Ev.iload_n dX5_addresses_32 rfl ?_
            refine Ev.bipush dX5_addresses_33 ⟨by decide, by decide⟩ (by decide) ?_
            refine Ev.iload_n dX5_addresses_35 rfl ?_
            refine Ev.Vv3 (I' := jX5_puts) ml_X5_47 dX5_addresses_36 cyX5_puts lm_0 rfl (by decide) ⟨by decide, by decide⟩ (by simp) rfl rfl (s_X5_puts (by omega) (by omega) (by decide) (by decide)) (fun σ' hq => ?_)
            subst hq
            refine Ev.goto (tgt := 62) dX5_addresses_39 rfl ?_
            refine Ev.iinc3 dX5_addresses_62 (by unfold ev_in; omega) ?_
            refine Ev.goto (tgt := 2) dX5_addresses_65 rfl ?_
            refine ih (k + 1) _ (by omega) ?_
            rw [show it (m_addr a how) σ (k + 1) = (m_addr a how) (k : Int) (it (m_addr a how) σ k) from rfl, ← hρ]
            unfold m_addr
            first | (exfalso; omega) | rfl | (repeat (first | rw [if_pos (by omega)] | rw [if_neg (by omega)]))
  refine Ev.iconst dX5_addresses_0 ⟨by decide, by decide⟩ ?_
  refine Ev.istore3 rfl dX5_addresses_1 ?_
  exact loop (σ 2).toNat 0 σ (by omega) rfl
def m_sec1 (s tl : Int) (d : Int) (τ : ev_M) : ev_M := if ev_and (ev_shr tl d) 1 = 1 ∧ τ (300 + (18 * d + 2)) = s then ev_up (ev_up τ (300 + (18 * d + 6)) 1) (300 + (18 * d + 7)) 1 else τ
def m_sec (s tl tt : Int) (d : Int) (τ : ev_M) : ev_M := if ev_and (ev_shr tt d) 1 = 1 ∧ τ (300 + (18 * d + 2)) = s then ev_up (it (m_all 5 0) (m_sec1 s tl d τ) (τ 2).toNat) (300 + (18 * d + 5)) 1 else m_sec1 s tl d τ
theorem m_sec1_2 {s tl d n : Int} {τ : ev_M} (h0 : 0 ≤ d) (hn : n < 300) : m_sec1 s tl d τ n = τ n := by unfold m_sec1; split <;> (try rfl) <;> simp (disch := omega) only [ev_up_ne]
theorem m_sec_2 {s tl tt d n : Int} {τ : ev_M} (h0 : 0 ≤ d) (hn : n < 300) : m_sec s tl tt d τ n = τ n := by
  unfold m_sec
  split
  · rw [ev_up_ne (by omega), it_at (fun k σ => by unfold m_all; exact ev_up_ne (by omega)), m_sec1_2 h0 hn]
  · exact m_sec1_2 h0 hn
theorem s_X5_seconds {s tl tt : Int} {σ : ev_M}  (h2 : 0 ≤ σ 2) (h2' : σ 2 ≤ 6) : Ev jX5_seconds layM 0 [some (rv 0), some (iv s), some (iv tl), some (iv tt), none] [] σ (fun _ σ' => σ' = it (m_sec s tl tt) σ (σ 2).toNat) := by
  have loop : ∀ (j k : Nat) (ρ : ev_M), (k : Int) + j = σ 2 → ρ = it (m_sec s tl tt) σ k → Ev jX5_seconds layM 3 [some (rv 0), some (iv s), some (iv tl), some (iv tt), some (iv (k : Int))] [] ρ (fun _ σ' => σ' = it (m_sec s tl tt) σ (σ 2).toNat) := by
    intro j
    induction j with
    | zero =>
      intro k ρ hk hρ
      have e2 : ρ 2 = σ 2 := by rw [hρ]; exact it_at (fun k σ => m_sec_2 (by omega) (by decide)) k
      refine Ev.iload dX5_seconds_3 rfl ?_
      refine Ev.aload_n dX5_seconds_5 rfl ?_
      refine Ev.geti (2) dX5_seconds_6 fl_X5_44 lm_0 (by decide) rfl rfl ?_
      refine Ev.icmp_ge (tgt := 78) dX5_seconds_9 rfl (fun c9 => ?_) (fun c9 => ?_)
      · skip
        refine Ev.vret dX5_seconds_78 rfl ?_
        rw [hρ, show (σ 2).toNat = k by omega]
      · skip
        exact absurd c9 (by omega)
    | succ j ih =>
      intro k ρ hk hρ
      have e2 : ρ 2 = σ 2 := by rw [hρ]; exact it_at (fun k σ => m_sec_2 (by omega) (by decide)) k
      refine Ev.iload dX5_seconds_3 rfl ?_
      refine Ev.aload_n dX5_seconds_5 rfl ?_
      refine Ev.geti (2) dX5_seconds_6 fl_X5_44 lm_0 (by decide) rfl rfl ?_
      refine Ev.icmp_ge (tgt := 78) dX5_seconds_9 rfl (fun c9 => ?_) (fun c9 => ?_)
      · skip
        exact absurd c9 (by omega)
      · skip
        refine Ev.iload_n dX5_seconds_12 rfl ?_
        refine Ev.iload dX5_seconds_13 rfl ?_
        refine Ev.ishr dX5_seconds_15 ?_
        refine Ev.iconst dX5_seconds_16 ⟨by decide, by decide⟩ ?_
        refine Ev.iand dX5_seconds_17 ?_
        refine Ev.iconst dX5_seconds_18 ⟨by decide, by decide⟩ ?_
        refine Ev.icmp_ne (tgt := 39) dX5_seconds_19 rfl (fun c19 => ?_) (fun c19 => ?_)
        · skip
          refine Ev.iload_n dX5_seconds_39 rfl ?_
          refine Ev.iload dX5_seconds_40 rfl ?_
          refine Ev.ishr dX5_seconds_42 ?_
          refine Ev.iconst dX5_seconds_43 ⟨by decide, by decide⟩ ?_
          refine Ev.iand dX5_seconds_44 ?_
          refine Ev.iconst dX5_seconds_45 ⟨by decide, by decide⟩ ?_
          refine Ev.icmp_ne (tgt := 72) dX5_seconds_46 rfl (fun c46 => ?_) (fun c46 => ?_)
          · skip
            refine Ev.iinc4 dX5_seconds_72 (by unfold ev_in; omega) ?_
            refine Ev.goto (tgt := 3) dX5_seconds_75 rfl ?_
            refine ih (k + 1) _ (by omega) ?_
            rw [show it (m_sec s tl tt) σ (k + 1) = (m_sec s tl tt) (k : Int) (it (m_sec s tl tt) σ k) from rfl, ← hρ]
            unfold m_sec m_sec1
            first | (exfalso; omega) | rfl | (repeat (first | rw [if_pos (by omega)] | rw [if_neg (by omega)]))
          · skip
            refine Ev.aload_n dX5_seconds_49 rfl ?_
            refine Ev.iload dX5_seconds_50 rfl ?_
            refine Ev.iconst dX5_seconds_52 ⟨by decide, by decide⟩ ?_
            refine Ev.Vi2 (I' := jX5_of) ml_X5_100 dX5_seconds_53 cyX5_of lm_0 rfl (by decide) ⟨by decide, by decide⟩ (by simp) rfl rfl (s_X5_of (by omega) (by omega) (by decide) (by decide)) (fun r σ' hr53 hq => ?_)
            obtain ⟨rfl, hq⟩ := hq
            replace hq := hq.symm
            subst hq
            refine Ev.iload_n dX5_seconds_56 rfl ?_
            refine Ev.icmp_ne (tgt := 72) dX5_seconds_57 rfl (fun c57 => ?_) (fun c57 => ?_)
            · skip
              refine Ev.iinc4 dX5_seconds_72 (by unfold ev_in; omega) ?_
              refine Ev.goto (tgt := 3) dX5_seconds_75 rfl ?_
              refine ih (k + 1) _ (by omega) ?_
              rw [show it (m_sec s tl tt) σ (k + 1) = (m_sec s tl tt) (k : Int) (it (m_sec s tl tt) σ k) from rfl, ← hρ]
              unfold m_sec m_sec1
              first | (exfalso; omega) | rfl | (repeat (first | rw [if_pos (by omega)] | rw [if_neg (by omega)]))
            · skip
              refine Ev.aload_n dX5_seconds_60 rfl ?_
              refine Ev.Vv0 (I' := jX5_silences) ml_X5_123 dX5_seconds_61 cyX5_silences lm_0 rfl (by decide) ⟨by decide, by decide⟩ (by simp) rfl rfl (s_X5_silences (by first | omega | (simp (disch := omega) only [ev_up_ne]; omega)) (by first | omega | (simp (disch := omega) only [ev_up_ne]; omega))) (fun σ' hq => ?_)
              subst hq
              try simp (disch := omega) only [ev_up_ne]
              refine Ev.aload_n dX5_seconds_64 rfl ?_
              refine Ev.iload dX5_seconds_65 rfl ?_
              refine Ev.iconst dX5_seconds_67 ⟨by decide, by decide⟩ ?_
              refine Ev.iconst dX5_seconds_68 ⟨by decide, by decide⟩ ?_
              refine Ev.Vv3 (I' := jX5_puts) ml_X5_47 dX5_seconds_69 cyX5_puts lm_0 rfl (by decide) ⟨by decide, by decide⟩ (by simp) rfl rfl (s_X5_puts (by omega) (by omega) (by decide) (by decide)) (fun σ' hq => ?_)
              subst hq
              refine Ev.iinc4 dX5_seconds_72 (by unfold ev_in; omega) ?_
              refine Ev.goto (tgt := 3) dX5_seconds_75 rfl ?_
              refine ih (k + 1) _ (by omega) ?_
              rw [show it (m_sec s tl tt) σ (k + 1) = (m_sec s tl tt) (k : Int) (it (m_sec s tl tt) σ k) from rfl, ← hρ]
              unfold m_sec m_sec1
              first | (exfalso; omega) | rfl | (repeat (first | rw [if_pos (by omega)] | rw [if_neg (by omega)]))
        · skip
          refine Ev.aload_n dX5_seconds_22 rfl ?_
          refine Ev.iload dX5_seconds_23 rfl ?_
          refine Ev.iconst dX5_seconds_25 ⟨by decide, by decide⟩ ?_
          refine Ev.Vi2 (I' := jX5_of) ml_X5_100 dX5_seconds_26 cyX5_of lm_0 rfl (by decide) ⟨by decide, by decide⟩ (by simp) rfl rfl (s_X5_of (by omega) (by omega) (by decide) (by decide)) (fun r σ' hr26 hq => ?_)
          obtain ⟨rfl, hq⟩ := hq
          replace hq := hq.symm
          subst hq
          refine Ev.iload_n dX5_seconds_29 rfl ?_
          refine Ev.icmp_ne (tgt := 39) dX5_seconds_30 rfl (fun c30 => ?_) (fun c30 => ?_)
          · skip
            refine Ev.iload_n dX5_seconds_39 rfl ?_
            refine Ev.iload dX5_seconds_40 rfl ?_
            refine Ev.ishr dX5_seconds_42 ?_
            refine Ev.iconst dX5_seconds_43 ⟨by decide, by decide⟩ ?_
            refine Ev.iand dX5_seconds_44 ?_
            refine Ev.iconst dX5_seconds_45 ⟨by decide, by decide⟩ ?_
            refine Ev.icmp_ne (tgt := 72) dX5_seconds_46 rfl (fun c46 => ?_) (fun c46 => ?_)
            · skip
              refine Ev.iinc4 dX5_seconds_72 (by unfold ev_in; omega) ?_
              refine Ev.goto (tgt := 3) dX5_seconds_75 rfl ?_
              refine ih (k + 1) _ (by omega) ?_
              rw [show it (m_sec s tl tt) σ (k + 1) = (m_sec s tl tt) (k : Int) (it (m_sec s tl tt) σ k) from rfl, ← hρ]
              unfold m_sec m_sec1
              first | (exfalso; omega) | rfl | (repeat (first | rw [if_pos (by omega)] | rw [if_neg (by omega)]))
            · skip
              refine Ev.aload_n dX5_seconds_49 rfl ?_
              refine Ev.iload dX5_seconds_50 rfl ?_
              refine Ev.iconst dX5_seconds_52 ⟨by decide, by decide⟩ ?_
              refine Ev.Vi2 (I' := jX5_of) ml_X5_100 dX5_seconds_53 cyX5_of lm_0 rfl (by decide) ⟨by decide, by decide⟩ (by simp) rfl rfl (s_X5_of (by omega) (by omega) (by decide) (by decide)) (fun r σ' hr53 hq => ?_)
              obtain ⟨rfl, hq⟩ := hq
              replace hq := hq.symm
              subst hq
              refine Ev.iload_n dX5_seconds_56 rfl ?_
              refine Ev.icmp_ne (tgt := 72) dX5_seconds_57 rfl (fun c57 => ?_) (fun c57 => ?_)
              · skip
                refine Ev.iinc4 dX5_seconds_72 (by unfold ev_in; omega) ?_
                refine Ev.goto (tgt := 3) dX5_seconds_75 rfl ?_
                refine ih (k + 1) _ (by omega) ?_
                rw [show it (m_sec s tl tt) σ (k + 1) = (m_sec s tl tt) (k : Int) (it (m_sec s tl tt) σ k) from rfl, ← hρ]
                unfold m_sec m_sec1
                first | (exfalso; omega) | rfl | (repeat (first | rw [if_pos (by omega)] | rw [if_neg (by omega)]))
              · skip
                refine Ev.aload_n dX5_seconds_60 rfl ?_
                refine Ev.Vv0 (I' := jX5_silences) ml_X5_123 dX5_seconds_61 cyX5_silences lm_0 rfl (by decide) ⟨by decide, by decide⟩ (by simp) rfl rfl (s_X5_silences (by first | omega | (simp (disch := omega) only [ev_up_ne]; omega)) (by first | omega | (simp (disch := omega) only [ev_up_ne]; omega))) (fun σ' hq => ?_)
                subst hq
                try simp (disch := omega) only [ev_up_ne]
                refine Ev.aload_n dX5_seconds_64 rfl ?_
                refine Ev.iload dX5_seconds_65 rfl ?_
                refine Ev.iconst dX5_seconds_67 ⟨by decide, by decide⟩ ?_
                refine Ev.iconst dX5_seconds_68 ⟨by decide, by decide⟩ ?_
                refine Ev.Vv3 (I' := jX5_puts) ml_X5_47 dX5_seconds_69 cyX5_puts lm_0 rfl (by decide) ⟨by decide, by decide⟩ (by simp) rfl rfl (s_X5_puts (by omega) (by omega) (by decide) (by decide)) (fun σ' hq => ?_)
                subst hq
                refine Ev.iinc4 dX5_seconds_72 (by unfold ev_in; omega) ?_
                refine Ev.goto (tgt := 3) dX5_seconds_75 rfl ?_
                refine ih (k + 1) _ (by omega) ?_
                rw [show it (m_sec s tl tt) σ (k + 1) = (m_sec s tl tt) (k : Int) (it (m_sec s tl tt) σ k) from rfl, ← hρ]
                unfold m_sec m_sec1
                first | (exfalso; omega) | rfl | (repeat (first | rw [if_pos (by omega)] | rw [if_neg (by omega)]))
          · skip
            refine Ev.aload_n dX5_seconds_33 rfl ?_
            refine Ev.iload dX5_seconds_34 rfl ?_
            refine Ev.Vv1 (I' := jX5_listens) ml_X5_120 dX5_seconds_36 cyX5_listens lm_0 rfl (by decide) ⟨by decide, by decide⟩ (by simp) rfl rfl (s_X5_listens (by omega) (by omega)) (fun σ' hq => ?_)
            subst hq
            refine Ev.iload_n dX5_seconds_39 rfl ?_
            refine Ev.iload dX5_seconds_40 rfl ?_
            refine Ev.ishr dX5_seconds_42 ?_
            refine Ev.iconst dX5_seconds_43 ⟨by decide, by decide⟩ ?_
            refine Ev.iand dX5_seconds_44 ?_
            refine Ev.iconst dX5_seconds_45 ⟨by decide, by decide⟩ ?_
            refine Ev.icmp_ne (tgt := 72) dX5_seconds_46 rfl (fun c46 => ?_) (fun c46 => ?_)
            · skip
              refine Ev.iinc4 dX5_seconds_72 (by unfold ev_in; omega) ?_
              refine Ev.goto (tgt := 3) dX5_seconds_75 rfl ?_
              refine ih (k + 1) _ (by omega) ?_
              rw [show it (m_sec s tl tt) σ (k + 1) = (m_sec s tl tt) (k : Int) (it (m_sec s tl tt) σ k) from rfl, ← hρ]
              unfold m_sec m_sec1
              first | (exfalso; omega) | rfl | (repeat (first | rw [if_pos (by omega)] | rw [if_neg (by omega)]))
            · skip
              refine Ev.aload_n dX5_seconds_49 rfl ?_
              refine Ev.iload dX5_seconds_50 rfl ?_
              refine Ev.iconst dX5_seconds_52 ⟨by decide, by decide⟩ ?_
              refine Ev.Vi2 (I' := jX5_of) ml_X5_100 dX5_seconds_53 cyX5_of lm_0 rfl (by decide) ⟨by decide, by decide⟩ (by simp) rfl rfl (s_X5_of (by omega) (by omega) (by decide) (by decide)) (fun r σ' hr53 hq => ?_)
              obtain ⟨rfl, hq⟩ := hq
              replace hq := hq.symm
              subst hq
              try simp (disch := omega) only [ev_up_ne, ev_up_eqs]
              refine Ev.iload_n dX5_seconds_56 rfl ?_
              refine Ev.icmp_ne (tgt := 72) dX5_seconds_57 rfl (fun c57 => ?_) (fun c57 => ?_)
              · skip
                refine Ev.iinc4 dX5_seconds_72 (by unfold ev_in; omega) ?_
                refine Ev.goto (tgt := 3) dX5_seconds_75 rfl ?_
                refine ih (k + 1) _ (by omega) ?_
                rw [show it (m_sec s tl tt) σ (k + 1) = (m_sec s tl tt) (k : Int) (it (m_sec s tl tt) σ k) from rfl, ← hρ]
                unfold m_sec m_sec1
                first | (exfalso; omega) | rfl | (repeat (first | rw [if_pos (by omega)] | rw [if_neg (by omega)]))
              · skip
                refine Ev.aload_n dX5_seconds_60 rfl ?_
                refine Ev.Vv0 (I' := jX5_silences) ml_X5_123 dX5_seconds_61 cyX5_silences lm_0 rfl (by decide) ⟨by decide, by decide⟩ (by simp) rfl rfl (s_X5_silences (by first | omega | (simp (disch := omega) only [ev_up_ne]; omega)) (by first | omega | (simp (disch := omega) only [ev_up_ne]; omega))) (fun σ' hq => ?_)
                subst hq
                try simp (disch := omega) only [ev_up_ne]
                refine Ev.aload_n dX5_seconds_64 rfl ?_
                refine Ev.iload dX5_seconds_65 rfl ?_
                refine Ev.iconst dX5_seconds_67 ⟨by decide, by decide⟩ ?_
                refine Ev.iconst dX5_seconds_68 ⟨by decide, by decide⟩ ?_
                refine Ev.Vv3 (I' := jX5_puts) ml_X5_47 dX5_seconds_69 cyX5_puts lm_0 rfl (by decide) ⟨by decide, by decide⟩ (by simp) rfl rfl (s_X5_puts (by omega) (by omega) (by decide) (by decide)) (fun σ' hq => ?_)
                subst hq
                refine Ev.iinc4 dX5_seconds_72 (by unfold ev_in; omega) ?_
                refine Ev.goto (tgt := 3) dX5_seconds_75 rfl ?_
                refine ih (k + 1) _ (by omega) ?_
                rw [show it (m_sec s tl tt) σ (k + 1) = (m_sec s tl tt) (k : Int) (it (m_sec s tl tt) σ k) from rfl, ← hρ]
                unfold m_sec m_sec1
                first | (exfalso; omega) | rfl | (repeat (first | rw [if_pos (by omega)] | rw [if_neg (by omega)]))
  refine Ev.iconst dX5_seconds_0 ⟨by decide, by decide⟩ ?_
  refine Ev.istore4 dX5_seconds_1 ?_
  exact loop (σ 2).toNat 0 σ (by omega) rfl
def m_prep (c : Int) (d : Int) (τ : ev_M) : ev_M := if ev_and (ev_shr (τ 9) d) 1 = 1 then ev_up (ev_up τ (300 + (18 * d + 11)) (if c < 112 then (c - 96) % 8 else -4)) (300 + (18 * d + 12)) (if c < 112 then (c - 96) / 8 else 0) else τ
theorem s_X5_prepares {c : Int} {σ : ev_M} (hc : 96 ≤ c) (hc2 : c ≤ 127) (h2 : 0 ≤ σ 2) (h2' : σ 2 ≤ 6) : Ev jX5_prepares layM 0 [some (rv 0), some (iv c), none] [] σ (fun _ σ' => σ' = it (m_prep c) σ (σ 2).toNat) := by
  have loop : ∀ (j k : Nat) (ρ : ev_M), (k : Int) + j = σ 2 → ρ = it (m_prep c) σ k → Ev jX5_prepares layM 2 [some (rv 0), some (iv c), some (iv (k : Int))] [] ρ (fun _ σ' => σ' = it (m_prep c) σ (σ 2).toNat) := by
    intro j
    induction j with
    | zero =>
      intro k ρ hk hρ
      have e2 : ρ 2 = σ 2 := by rw [hρ]; exact it_at (fun k σ => by unfold m_prep; (repeat' split) <;> (try rfl) <;> simp (disch := omega) only [ev_up_ne]) k
      refine Ev.iload_n dX5_prepares_2 rfl ?_
      refine Ev.aload_n dX5_prepares_3 rfl ?_
      refine Ev.geti (2) dX5_prepares_4 fl_X5_44 lm_0 (by decide) rfl rfl ?_
      refine Ev.icmp_ge (tgt := 77) dX5_prepares_7 rfl (fun c7 => ?_) (fun c7 => ?_)
      · skip
        refine Ev.vret dX5_prepares_77 rfl ?_
        rw [hρ, show (σ 2).toNat = k by omega]
      · skip
        exact absurd c7 (by omega)
    | succ j ih =>
      intro k ρ hk hρ
      have e2 : ρ 2 = σ 2 := by rw [hρ]; exact it_at (fun k σ => by unfold m_prep; (repeat' split) <;> (try rfl) <;> simp (disch := omega) only [ev_up_ne]) k
      refine Ev.iload_n dX5_prepares_2 rfl ?_
      refine Ev.aload_n dX5_prepares_3 rfl ?_
      refine Ev.geti (2) dX5_prepares_4 fl_X5_44 lm_0 (by decide) rfl rfl ?_
      refine Ev.icmp_ge (tgt := 77) dX5_prepares_7 rfl (fun c7 => ?_) (fun c7 => ?_)
      · skip
        exact absurd c7 (by omega)
      · skip
        refine Ev.aload_n dX5_prepares_10 rfl ?_
        refine Ev.geti (9) dX5_prepares_11 fl_X5_63 lm_0 (by decide) rfl rfl ?_
        refine Ev.iload_n dX5_prepares_14 rfl ?_
        refine Ev.ishr dX5_prepares_15 ?_
        refine Ev.iconst dX5_prepares_16 ⟨by decide, by decide⟩ ?_
        refine Ev.iand dX5_prepares_17 ?_
        refine Ev.iconst dX5_prepares_18 ⟨by decide, by decide⟩ ?_
        refine Ev.icmp_ne (tgt := 71) dX5_prepares_19 rfl (fun c19 => ?_) (fun c19 => ?_)
        · skip
          refine Ev.iinc2 dX5_prepares_71 (by unfold ev_in; omega) ?_
          refine Ev.goto (tgt := 2) dX5_prepares_74 rfl ?_
          refine ih (k + 1) _ (by omega) ?_
          rw [show it (m_prep c) σ (k + 1) = (m_prep c) (k : Int) (it (m_prep c) σ k) from rfl, ← hρ]
          unfold m_prep
          first | (exfalso; omega) | rfl | (repeat (first | rw [if_pos (by omega)] | rw [if_neg (by omega)]))
        · skip
          refine Ev.aload_n dX5_prepares_22 rfl ?_
          refine Ev.iload_n dX5_prepares_23 rfl ?_
          refine Ev.bipush dX5_prepares_24 ⟨by decide, by decide⟩ (by decide) ?_
          refine Ev.iload_n dX5_prepares_26 rfl ?_
          refine Ev.bipush dX5_prepares_27 ⟨by decide, by decide⟩ (by decide) ?_
          refine Ev.icmp_ge (tgt := 42) dX5_prepares_29 rfl (fun c29 => ?_) (fun c29 => ?_)
          · skip
            refine Ev.bipush dX5_prepares_42 ⟨by decide, by decide⟩ (by decide) ?_
            refine Ev.Vv3 (I' := jX5_puts) ml_X5_47 dX5_prepares_44 cyX5_puts lm_0 rfl (by decide) ⟨by decide, by decide⟩ (by simp) rfl rfl (s_X5_puts (by omega) (by omega) (by decide) (by decide)) (fun σ' hq => ?_)
            subst hq
            refine Ev.aload_n dX5_prepares_47 rfl ?_
            refine Ev.iload_n dX5_prepares_48 rfl ?_
            refine Ev.bipush dX5_prepares_49 ⟨by decide, by decide⟩ (by decide) ?_
            refine Ev.iload_n dX5_prepares_51 rfl ?_
            refine Ev.bipush dX5_prepares_52 ⟨by decide, by decide⟩ (by decide) ?_
            refine Ev.icmp_ge (tgt := 67) dX5_prepares_54 rfl (fun c54 => ?_) (fun c54 => ?_)
            · skip
              refine Ev.iconst dX5_prepares_67 ⟨by decide, by decide⟩ ?_
              refine Ev.Vv3 (I' := jX5_puts) ml_X5_47 dX5_prepares_68 cyX5_puts lm_0 rfl (by decide) ⟨by decide, by decide⟩ (by simp) rfl rfl (s_X5_puts (by omega) (by omega) (by decide) (by decide)) (fun σ' hq => ?_)
              subst hq
              refine Ev.iinc2 dX5_prepares_71 (by unfold ev_in; omega) ?_
              refine Ev.goto (tgt := 2) dX5_prepares_74 rfl ?_
              refine ih (k + 1) _ (by omega) ?_
              rw [show it (m_prep c) σ (k + 1) = (m_prep c) (k : Int) (it (m_prep c) σ k) from rfl, ← hρ]
              unfold m_prep
              first | (exfalso; omega) | rfl | (repeat (first | rw [if_pos (by omega)] | rw [if_neg (by omega)]))
            · skip
              refine Ev.iload_n dX5_prepares_57 rfl ?_
              refine Ev.bipush dX5_prepares_58 ⟨by decide, by decide⟩ (by decide) ?_
              refine Ev.isub dX5_prepares_60 (by unfold ev_in; omega) ?_
              refine Ev.bipush dX5_prepares_61 ⟨by decide, by decide⟩ (by decide) ?_
              refine Ev.idiv dX5_prepares_63 (by omega) (by decide) ?_
              refine Ev.goto (tgt := 68) dX5_prepares_64 rfl ?_
              refine Ev.Vv3 (I' := jX5_puts) ml_X5_47 dX5_prepares_68 cyX5_puts lm_0 rfl (by decide) ⟨by decide, by decide⟩ (by simp) rfl rfl (s_X5_puts (by omega) (by omega) (by decide) (by decide)) (fun σ' hq => ?_)
              subst hq
              refine Ev.iinc2 dX5_prepares_71 (by unfold ev_in; omega) ?_
              refine Ev.goto (tgt := 2) dX5_prepares_74 rfl ?_
              refine ih (k + 1) _ (by omega) ?_
              rw [show it (m_prep c) σ (k + 1) = (m_prep c) (k : Int) (it (m_prep c) σ k) from rfl, ← hρ]
              unfold m_prep
              first | (exfalso; omega) | rfl | (repeat (first | rw [if_pos (by omega)] | rw [if_neg (by omega)]))
          · skip
            refine Ev.iload_n dX5_prepares_32 rfl ?_
            refine Ev.bipush dX5_prepares_33 ⟨by decide, by decide⟩ (by decide) ?_
            refine Ev.isub dX5_prepares_35 (by unfold ev_in; omega) ?_
            refine Ev.bipush dX5_prepares_36 ⟨by decide, by decide⟩ (by decide) ?_
            refine Ev.irem dX5_prepares_38 (by omega) (by decide) ?_
            refine Ev.goto (tgt := 44) dX5_prepares_39 rfl ?_
            refine Ev.Vv3 (I' := jX5_puts) ml_X5_47 dX5_prepares_44 cyX5_puts lm_0 rfl (by decide) ⟨by decide, by decide⟩ (by simp) rfl rfl (s_X5_puts (by omega) (by omega) (by decide) (by decide)) (fun σ' hq => ?_)
            subst hq
            refine Ev.aload_n dX5_prepares_47 rfl ?_
            refine Ev.iload_n dX5_prepares_48 rfl ?_
            refine Ev.bipush dX5_prepares_49 ⟨by decide, by decide⟩ (by decide) ?_
            refine Ev.iload_n dX5_prepares_51 rfl ?_
            refine Ev.bipush dX5_prepares_52 ⟨by decide, by decide⟩ (by decide) ?_
            refine Ev.icmp_ge (tgt := 67) dX5_prepares_54 rfl (fun c54 => ?_) (fun c54 => ?_)
            · skip
              refine Ev.iconst dX5_prepares_67 ⟨by decide, by decide⟩ ?_
              refine Ev.Vv3 (I' := jX5_puts) ml_X5_47 dX5_prepares_68 cyX5_puts lm_0 rfl (by decide) ⟨by decide, by decide⟩ (by simp) rfl rfl (s_X5_puts (by omega) (by omega) (by decide) (by decide)) (fun σ' hq => ?_)
              subst hq
              refine Ev.iinc2 dX5_prepares_71 (by unfold ev_in; omega) ?_
              refine Ev.goto (tgt := 2) dX5_prepares_74 rfl ?_
              refine ih (k + 1) _ (by omega) ?_
              rw [show it (m_prep c) σ (k + 1) = (m_prep c) (k : Int) (it (m_prep c) σ k) from rfl, ← hρ]
              unfold m_prep
              first | (exfalso; omega) | rfl | (repeat (first | rw [if_pos (by omega)] | rw [if_neg (by omega)]))
            · skip
              refine Ev.iload_n dX5_prepares_57 rfl ?_
              refine Ev.bipush dX5_prepares_58 ⟨by decide, by decide⟩ (by decide) ?_
              refine Ev.isub dX5_prepares_60 (by unfold ev_in; omega) ?_
              refine Ev.bipush dX5_prepares_61 ⟨by decide, by decide⟩ (by decide) ?_
              refine Ev.idiv dX5_prepares_63 (by omega) (by decide) ?_
              refine Ev.goto (tgt := 68) dX5_prepares_64 rfl ?_
              refine Ev.Vv3 (I' := jX5_puts) ml_X5_47 dX5_prepares_68 cyX5_puts lm_0 rfl (by decide) ⟨by decide, by decide⟩ (by simp) rfl rfl (s_X5_puts (by omega) (by omega) (by decide) (by decide)) (fun σ' hq => ?_)
              subst hq
              refine Ev.iinc2 dX5_prepares_71 (by unfold ev_in; omega) ?_
              refine Ev.goto (tgt := 2) dX5_prepares_74 rfl ?_
              refine ih (k + 1) _ (by omega) ?_
              rw [show it (m_prep c) σ (k + 1) = (m_prep c) (k : Int) (it (m_prep c) σ k) from rfl, ← hρ]
              unfold m_prep
              first | (exfalso; omega) | rfl | (repeat (first | rw [if_pos (by omega)] | rw [if_neg (by omega)]))
  refine Ev.iconst dX5_prepares_0 ⟨by decide, by decide⟩ ?_
  refine Ev.istore2 rfl dX5_prepares_1 ?_
  exact loop (σ 2).toNat 0 σ (by omega) rfl
def tkf (τ : ev_M) : Nat → Int
  | 0 => -4
  | k + 1 => if tkf τ k = -4 then (if τ (300 + (18 * (k : Int) + 5)) = 1 then (k : Int) else -4) else tkf τ k
theorem tkf_stay {τ : ev_M} {k : Nat} (h : tkf τ k ≠ -4) : ∀ j : Nat, tkf τ (k + j) = tkf τ k
  | 0 => rfl
  | j + 1 => by
    show (if tkf τ (k + j) = -4 then _ else tkf τ (k + j)) = _
    rw [tkf_stay h j, if_neg h]
def m_talk (τ : ev_M) : Int := tkf τ (τ 2).toNat
theorem tkf_rng {τ : ev_M} : ∀ k : Nat, tkf τ k = -4 ∨ (0 ≤ tkf τ k ∧ tkf τ k < (k : Int))
  | 0 => Or.inl rfl
  | k + 1 => by
    have := tkf_rng (τ := τ) k
    show (if tkf τ k = -4 then (if τ (300 + (18 * (k : Int) + 5)) = 1 then (k : Int) else -4) else tkf τ k) = -4 ∨ (0 ≤ (if tkf τ k = -4 then (if τ (300 + (18 * (k : Int) + 5)) = 1 then (k : Int) else -4) else tkf τ k) ∧ (if tkf τ k = -4 then (if τ (300 + (18 * (k : Int) + 5)) = 1 then (k : Int) else -4) else tkf τ k) < ((k + 1 : Nat) : Int))
    split
    · split
      · right; omega
      · left; rfl
    · right; omega
theorem m_talk_rng {τ : ev_M} (h : 0 ≤ τ 2) : m_talk τ = -4 ∨ (0 ≤ m_talk τ ∧ m_talk τ < τ 2) := by
  have := tkf_rng (τ := τ) (τ 2).toNat
  unfold m_talk
  omega
theorem s_X5_talker {σ : ev_M} (h2 : 0 ≤ σ 2) (h2' : σ 2 ≤ 6) : Ev jX5_talker layM 0 [some (rv 0), none] [] σ (fun r σ' => r = m_talk σ ∧ σ' = σ) := by
  have loop : ∀ (j k : Nat), (k : Int) + j = σ 2 → tkf σ k = -4 → Ev jX5_talker layM 2 [some (rv 0), some (iv (k : Int))] [] σ (fun r σ' => r = m_talk σ ∧ σ' = σ) := by
    intro j
    induction j with
    | zero =>
      intro k hk ht
      refine Ev.iload_n dX5_talker_2 rfl ?_
      refine Ev.aload_n dX5_talker_3 rfl ?_
      refine Ev.geti (2) dX5_talker_4 fl_X5_44 lm_0 (by decide) rfl rfl ?_
      refine Ev.icmp_ge (tgt := 28) dX5_talker_7 rfl (fun c7 => ?_) (fun c7 => ?_)
      · skip
        refine Ev.bipush dX5_talker_28 ⟨by decide, by decide⟩ (by decide) ?_
        refine Ev.int rfl dX5_talker_30 ?_
        refine ⟨?_, rfl⟩
        unfold m_talk
        rw [show (σ 2).toNat = k by omega, ht]
      · skip
        exact absurd c7 (by omega)
    | succ j ih =>
      intro k hk ht
      refine Ev.iload_n dX5_talker_2 rfl ?_
      refine Ev.aload_n dX5_talker_3 rfl ?_
      refine Ev.geti (2) dX5_talker_4 fl_X5_44 lm_0 (by decide) rfl rfl ?_
      refine Ev.icmp_ge (tgt := 28) dX5_talker_7 rfl (fun c7 => ?_) (fun c7 => ?_)
      · skip
        exact absurd c7 (by omega)
      · skip
        refine Ev.aload_n dX5_talker_10 rfl ?_
        refine Ev.iload_n dX5_talker_11 rfl ?_
        refine Ev.iconst dX5_talker_12 ⟨by decide, by decide⟩ ?_
        refine Ev.Vi2 (I' := jX5_of) ml_X5_100 dX5_talker_13 cyX5_of lm_0 rfl (by decide) ⟨by decide, by decide⟩ (by simp) rfl rfl (s_X5_of (by omega) (by omega) (by decide) (by decide)) (fun r σ' hr13 hq => ?_)
        obtain ⟨rfl, hq⟩ := hq
        replace hq := hq.symm
        subst hq
        refine Ev.iconst dX5_talker_16 ⟨by decide, by decide⟩ ?_
        refine Ev.icmp_ne (tgt := 22) dX5_talker_17 rfl (fun c17 => ?_) (fun c17 => ?_)
        · skip
          refine Ev.iinc1 dX5_talker_22 (by unfold ev_in; omega) ?_
          refine Ev.goto (tgt := 2) dX5_talker_25 rfl ?_
          refine ih (k + 1) (by omega) ?_
          show (if tkf σ k = -4 then (if σ (300 + (18 * (k : Int) + 5)) = 1 then (k : Int) else -4) else tkf σ k) = -4
          rw [if_pos ht, if_neg (by omega)]
        · skip
          refine Ev.iload_n dX5_talker_20 rfl ?_
          refine Ev.int rfl dX5_talker_21 ?_
          refine ⟨?_, rfl⟩
          have e1 : tkf σ (k + 1) = (k : Int) := by
            show (if tkf σ k = -4 then (if σ (300 + (18 * (k : Int) + 5)) = 1 then (k : Int) else -4) else tkf σ k) = (k : Int)
            rw [if_pos ht, if_pos (by omega)]
          unfold m_talk
          rw [show (σ 2).toNat = (k + 1) + j by omega, tkf_stay (by rw [e1]; omega), e1]
  refine Ev.iconst dX5_talker_0 ⟨by decide, by decide⟩ ?_
  refine Ev.istore1 rfl dX5_talker_1 ?_
  exact loop (σ 2).toNat 0 (by omega) rfl
def m_pass (τ : ev_M) : ev_M := if 0 ≤ m_talk τ ∧ τ (300 + (18 * m_talk τ + 0)) = 2 ∧ m_talk τ ≠ τ 5 then ev_up (ev_up (ev_up τ 5 (m_talk τ)) (300 + (18 * m_talk τ + 5)) 0) 576 (τ 576 + 1) else τ
theorem s_X5_passes {σ : ev_M} (h2 : 0 ≤ σ 2) (h2' : σ 2 ≤ 6) (hs : ev_in (σ 576 + 1)) : Ev jX5_passes layM 0 [some (rv 0), none] [] σ (fun _ σ' => σ' = m_pass σ) := by
  unfold ev_in at hs
  have ht := m_talk_rng h2
  refine Ev.aload_n dX5_passes_0 rfl ?_
  refine Ev.Vi0 (I' := jX5_talker) ml_X5_117 dX5_passes_1 cyX5_talker lm_0 rfl (by decide) ⟨by decide, by decide⟩ (by simp) rfl rfl (s_X5_talker h2 h2') (fun r σ' hr1 hq => ?_)
  obtain ⟨rfl, hq⟩ := hq
  replace hq := hq.symm
  subst hq
  refine Ev.istore1 rfl dX5_passes_4 ?_
  refine Ev.iload_n dX5_passes_5 rfl ?_
  refine Ev.if_lt (tgt := 50) dX5_passes_6 rfl (fun c6 => ?_) (fun c6 => ?_)
  · skip
    refine Ev.vret dX5_passes_50 rfl ?_
    unfold m_pass
    first | rw [if_pos (by omega)] | rw [if_neg (by omega)]
  · skip
    refine Ev.aload_n dX5_passes_9 rfl ?_
    refine Ev.iload_n dX5_passes_10 rfl ?_
    refine Ev.iconst dX5_passes_11 ⟨by decide, by decide⟩ ?_
    refine Ev.Vi2 (I' := jX5_of) ml_X5_100 dX5_passes_12 cyX5_of lm_0 rfl (by decide) ⟨by decide, by decide⟩ (by simp) rfl rfl (s_X5_of (by omega) (by omega) (by decide) (by decide)) (fun r σ' hr12 hq => ?_)
    obtain ⟨rfl, hq⟩ := hq
    replace hq := hq.symm
    subst hq
    refine Ev.iconst dX5_passes_15 ⟨by decide, by decide⟩ ?_
    refine Ev.icmp_ne (tgt := 50) dX5_passes_16 rfl (fun c16 => ?_) (fun c16 => ?_)
    · skip
      refine Ev.vret dX5_passes_50 rfl ?_
      unfold m_pass
      first | rw [if_pos (by omega)] | rw [if_neg (by omega)]
    · skip
      refine Ev.iload_n dX5_passes_19 rfl ?_
      refine Ev.aload_n dX5_passes_20 rfl ?_
      refine Ev.geti (5) dX5_passes_21 fl_X5_51 lm_0 (by decide) rfl rfl ?_
      refine Ev.icmp_eq (tgt := 50) dX5_passes_24 rfl (fun c24 => ?_) (fun c24 => ?_)
      · skip
        refine Ev.vret dX5_passes_50 rfl ?_
        unfold m_pass
        first | rw [if_pos (by omega)] | rw [if_neg (by omega)]
      · skip
        refine Ev.aload_n dX5_passes_27 rfl ?_
        refine Ev.iload_n dX5_passes_28 rfl ?_
        refine Ev.puti (5) dX5_passes_29 fl_X5_51 ft_5_5 lm_0 (by decide) rfl rfl ?_
        refine Ev.aload_n dX5_passes_32 rfl ?_
        refine Ev.iload_n dX5_passes_33 rfl ?_
        refine Ev.iconst dX5_passes_34 ⟨by decide, by decide⟩ ?_
        refine Ev.iconst dX5_passes_35 ⟨by decide, by decide⟩ ?_
        refine Ev.Vv3 (I' := jX5_puts) ml_X5_47 dX5_passes_36 cyX5_puts lm_0 rfl (by decide) ⟨by decide, by decide⟩ (by simp) rfl rfl (s_X5_puts (by omega) (by omega) (by decide) (by decide)) (fun σ' hq => ?_)
        subst hq
        refine Ev.aload_n dX5_passes_39 rfl ?_
        refine Ev.getr (570) dX5_passes_40 fl_X5_19 lm_0 (by decide) rfl rfl ?_
        refine Ev.bipush dX5_passes_43 ⟨by decide, by decide⟩ (by decide) ?_
        refine Ev.dup2 dX5_passes_45 ?_
        refine Ev.ialdn (576) dX5_passes_46 lm_570 (Or.inl rfl) (by decide) (by decide) rfl ?_
        try simp (disch := omega) only [ev_up_ne, ev_up_eqs]
        refine Ev.iconst dX5_passes_47 ⟨by decide, by decide⟩ ?_
        refine Ev.iadd dX5_passes_48 (by unfold ev_in; omega) ?_
        refine Ev.iastn (576) dX5_passes_49 lm_570 (by decide) (by decide) rfl ?_
        refine Ev.vret dX5_passes_50 rfl ?_
        unfold m_pass
        first | rw [if_pos (by omega)] | rw [if_neg (by omega)]
def lsr (τ : ev_M) : Nat → Int
  | 0 => 0
  | k + 1 => ev_or (lsr τ k) (ev_shl (τ (300 + (18 * (k : Int) + 6))) (k : Int))
def m_lis (τ : ev_M) : Int := lsr τ (τ 2).toNat
theorem s_X5_listeners {σ : ev_M} (h2 : 0 ≤ σ 2) (h2' : σ 2 ≤ 6) : Ev jX5_listeners layM 0 [some (rv 0), none, none] [] σ (fun r σ' => r = m_lis σ ∧ σ' = σ) := by
  have loop : ∀ (j k : Nat), (k : Int) + j = σ 2 → Ev jX5_listeners layM 4 [some (rv 0), some (iv (lsr σ k)), some (iv (k : Int))] [] σ (fun r σ' => r = m_lis σ ∧ σ' = σ) := by
    intro j
    induction j with
    | zero =>
      intro k hk
      refine Ev.iload_n dX5_listeners_4 rfl ?_
      refine Ev.aload_n dX5_listeners_5 rfl ?_
      refine Ev.geti (2) dX5_listeners_6 fl_X5_44 lm_0 (by decide) rfl rfl ?_
      refine Ev.icmp_ge (tgt := 30) dX5_listeners_9 rfl (fun c9 => ?_) (fun c9 => ?_)
      · skip
        refine Ev.iload_n dX5_listeners_30 rfl ?_
        refine Ev.int rfl dX5_listeners_31 ?_
        refine ⟨?_, rfl⟩
        unfold m_lis
        rw [show (σ 2).toNat = k by omega]
      · skip
        exact absurd c9 (by omega)
    | succ j ih =>
      intro k hk
      refine Ev.iload_n dX5_listeners_4 rfl ?_
      refine Ev.aload_n dX5_listeners_5 rfl ?_
      refine Ev.geti (2) dX5_listeners_6 fl_X5_44 lm_0 (by decide) rfl rfl ?_
      refine Ev.icmp_ge (tgt := 30) dX5_listeners_9 rfl (fun c9 => ?_) (fun c9 => ?_)
      · skip
        exact absurd c9 (by omega)
      · skip
        refine Ev.iload_n dX5_listeners_12 rfl ?_
        refine Ev.aload_n dX5_listeners_13 rfl ?_
        refine Ev.iload_n dX5_listeners_14 rfl ?_
        refine Ev.bipush dX5_listeners_15 ⟨by decide, by decide⟩ (by decide) ?_
        refine Ev.Vi2 (I' := jX5_of) ml_X5_100 dX5_listeners_17 cyX5_of lm_0 rfl (by decide) ⟨by decide, by decide⟩ (by simp) rfl rfl (s_X5_of (by omega) (by omega) (by decide) (by decide)) (fun r σ' hr17 hq => ?_)
        obtain ⟨rfl, hq⟩ := hq
        replace hq := hq.symm
        subst hq
        refine Ev.iload_n dX5_listeners_20 rfl ?_
        refine Ev.ishl dX5_listeners_21 ?_
        refine Ev.ior dX5_listeners_22 ?_
        refine Ev.istore1 rfl dX5_listeners_23 ?_
        refine Ev.iinc2 dX5_listeners_24 (by unfold ev_in; omega) ?_
        refine Ev.goto (tgt := 4) dX5_listeners_27 rfl ?_
        exact ih (k + 1) (by omega)
  refine Ev.iconst dX5_listeners_0 ⟨by decide, by decide⟩ ?_
  refine Ev.istore1 rfl dX5_listeners_1 ?_
  refine Ev.iconst dX5_listeners_2 ⟨by decide, by decide⟩ ?_
  refine Ev.istore2 rfl dX5_listeners_3 ?_
  exact loop (σ 2).toNat 0 (by omega)
def slr (set : Int) (τ : ev_M) : Nat → Int
  | 0 => 0
  | k + 1 => if ev_and (ev_shr set (k : Int)) 1 = 1 ∧ slr set τ k < τ (300 + (18 * (k : Int) + 3)) then τ (300 + (18 * (k : Int) + 3)) else slr set τ k
def m_slow (set : Int) (τ : ev_M) : Int := slr set τ (τ 2).toNat
theorem slr_rng {set b : Int} {τ : ev_M} (h : MI b τ) : ∀ k : Nat, k ≤ 6 → 0 ≤ slr set τ k ∧ slr set τ k ≤ 9
  | 0, _ => ⟨Int.le_refl 0, show (0 : Int) ≤ 9 by decide⟩
  | k + 1, hk => by
    have := slr_rng (set := set) h k (by omega)
    have h3 := h.h3 (d := (k : Int)) (by omega) (by omega)
    show 0 ≤ (if ev_and (ev_shr set (k : Int)) 1 = 1 ∧ slr set τ k < τ (300 + (18 * (k : Int) + 3)) then τ (300 + (18 * (k : Int) + 3)) else slr set τ k) ∧ (if ev_and (ev_shr set (k : Int)) 1 = 1 ∧ slr set τ k < τ (300 + (18 * (k : Int) + 3)) then τ (300 + (18 * (k : Int) + 3)) else slr set τ k) ≤ 9
    split <;> omega
theorem m_slow_rng {set b : Int} {τ : ev_M} (h : MI b τ) : 0 ≤ m_slow set τ ∧ m_slow set τ ≤ 9 := slr_rng h _ (by have := h.s2; omega)
theorem s_X5_slowest {set : Int} {σ : ev_M} (h2 : 0 ≤ σ 2) (h2' : σ 2 ≤ 6) : Ev jX5_slowest layM 0 [some (rv 0), some (iv set), none, none] [] σ (fun r σ' => r = m_slow set σ ∧ σ' = σ) := by
  have loop : ∀ (j k : Nat), (k : Int) + j = σ 2 → Ev jX5_slowest layM 4 [some (rv 0), some (iv set), some (iv (slr set σ k)), some (iv (k : Int))] [] σ (fun r σ' => r = m_slow set σ ∧ σ' = σ) := by
    intro j
    induction j with
    | zero =>
      intro k hk
      refine Ev.iload_n dX5_slowest_4 rfl ?_
      refine Ev.aload_n dX5_slowest_5 rfl ?_
      refine Ev.geti (2) dX5_slowest_6 fl_X5_44 lm_0 (by decide) rfl rfl ?_
      refine Ev.icmp_ge (tgt := 48) dX5_slowest_9 rfl (fun c9 => ?_) (fun c9 => ?_)
      · skip
        refine Ev.iload_n dX5_slowest_48 rfl ?_
        refine Ev.int rfl dX5_slowest_49 ?_
        refine ⟨?_, rfl⟩
        unfold m_slow
        rw [show (σ 2).toNat = k by omega]
      · skip
        exact absurd c9 (by omega)
    | succ j ih =>
      intro k hk
      refine Ev.iload_n dX5_slowest_4 rfl ?_
      refine Ev.aload_n dX5_slowest_5 rfl ?_
      refine Ev.geti (2) dX5_slowest_6 fl_X5_44 lm_0 (by decide) rfl rfl ?_
      refine Ev.icmp_ge (tgt := 48) dX5_slowest_9 rfl (fun c9 => ?_) (fun c9 => ?_)
      · skip
        exact absurd c9 (by omega)
      · skip
        refine Ev.iload_n dX5_slowest_12 rfl ?_
        refine Ev.iload_n dX5_slowest_13 rfl ?_
        refine Ev.ishr dX5_slowest_14 ?_
        refine Ev.iconst dX5_slowest_15 ⟨by decide, by decide⟩ ?_
        refine Ev.iand dX5_slowest_16 ?_
        refine Ev.iconst dX5_slowest_17 ⟨by decide, by decide⟩ ?_
        refine Ev.icmp_ne (tgt := 40) dX5_slowest_18 rfl (fun c18 => ?_) (fun c18 => ?_)
        · skip
          refine Ev.iload_n dX5_slowest_40 rfl ?_
          refine Ev.istore2 rfl dX5_slowest_41 ?_
          refine Ev.iinc3 dX5_slowest_42 (by unfold ev_in; omega) ?_
          refine Ev.goto (tgt := 4) dX5_slowest_45 rfl ?_
          have := ih (k + 1) (by omega)
          rw [show slr set σ (k + 1) = (if ev_and (ev_shr set (k : Int)) 1 = 1 ∧ slr set σ k < σ (300 + (18 * (k : Int) + 3)) then σ (300 + (18 * (k : Int) + 3)) else slr set σ k) from rfl] at this
          first | rw [if_pos (by omega)] at this | rw [if_neg (by omega)] at this
          exact this
        · skip
          refine Ev.aload_n dX5_slowest_21 rfl ?_
          refine Ev.iload_n dX5_slowest_22 rfl ?_
          refine Ev.iconst dX5_slowest_23 ⟨by decide, by decide⟩ ?_
          refine Ev.Vi2 (I' := jX5_of) ml_X5_100 dX5_slowest_24 cyX5_of lm_0 rfl (by decide) ⟨by decide, by decide⟩ (by simp) rfl rfl (s_X5_of (by omega) (by omega) (by decide) (by decide)) (fun r σ' hr24 hq => ?_)
          obtain ⟨rfl, hq⟩ := hq
          replace hq := hq.symm
          subst hq
          refine Ev.iload_n dX5_slowest_27 rfl ?_
          refine Ev.icmp_le (tgt := 40) dX5_slowest_28 rfl (fun c28 => ?_) (fun c28 => ?_)
          · skip
            refine Ev.iload_n dX5_slowest_40 rfl ?_
            refine Ev.istore2 rfl dX5_slowest_41 ?_
            refine Ev.iinc3 dX5_slowest_42 (by unfold ev_in; omega) ?_
            refine Ev.goto (tgt := 4) dX5_slowest_45 rfl ?_
            have := ih (k + 1) (by omega)
            rw [show slr set σ (k + 1) = (if ev_and (ev_shr set (k : Int)) 1 = 1 ∧ slr set σ k < σ (300 + (18 * (k : Int) + 3)) then σ (300 + (18 * (k : Int) + 3)) else slr set σ k) from rfl] at this
            first | rw [if_pos (by omega)] at this | rw [if_neg (by omega)] at this
            exact this
          · skip
            refine Ev.aload_n dX5_slowest_31 rfl ?_
            refine Ev.iload_n dX5_slowest_32 rfl ?_
            refine Ev.iconst dX5_slowest_33 ⟨by decide, by decide⟩ ?_
            refine Ev.Vi2 (I' := jX5_of) ml_X5_100 dX5_slowest_34 cyX5_of lm_0 rfl (by decide) ⟨by decide, by decide⟩ (by simp) rfl rfl (s_X5_of (by omega) (by omega) (by decide) (by decide)) (fun r σ' hr34 hq => ?_)
            obtain ⟨rfl, hq⟩ := hq
            replace hq := hq.symm
            subst hq
            refine Ev.goto (tgt := 41) dX5_slowest_37 rfl ?_
            refine Ev.istore2 rfl dX5_slowest_41 ?_
            refine Ev.iinc3 dX5_slowest_42 (by unfold ev_in; omega) ?_
            refine Ev.goto (tgt := 4) dX5_slowest_45 rfl ?_
            have := ih (k + 1) (by omega)
            rw [show slr set σ (k + 1) = (if ev_and (ev_shr set (k : Int)) 1 = 1 ∧ slr set σ k < σ (300 + (18 * (k : Int) + 3)) then σ (300 + (18 * (k : Int) + 3)) else slr set σ k) from rfl] at this
            first | rw [if_pos (by omega)] at this | rw [if_neg (by omega)] at this
            exact this
  refine Ev.iconst dX5_slowest_0 ⟨by decide, by decide⟩ ?_
  refine Ev.istore2 rfl dX5_slowest_1 ?_
  refine Ev.iconst dX5_slowest_2 ⟨by decide, by decide⟩ ?_
  refine Ev.istore3 rfl dX5_slowest_3 ?_
  exact loop (σ 2).toNat 0 (by omega)
def m_rdg (d : Int) (τ : ev_M) : Int := (7 * τ (300 + (18 * d + 13)) + 3 * τ (300 + (18 * d + 1))) % 100
def m_cm (d : Int) (τ : ev_M) : ev_M := if τ (300 + (18 * d + 14)) = τ 7 then ev_up (ev_up (ev_up (ev_up (ev_up (ev_up (ev_up τ (420 + 24 * d) (48 + m_rdg d τ / 10)) (420 + (24 * d + 1)) (48 + m_rdg d τ % 10)) (300 + (18 * d + 15)) 2) (300 + (18 * d + 9)) 16) (300 + (18 * d + 10)) 1) (300 + (18 * d + 14)) (-4)) 573 (τ 573 + 1) else τ
theorem MI.cm {b d : Int} {τ : ev_M} (h : MI b τ) (h0 : 0 ≤ d) (h1 : d < 6) : MI (b + 1) (m_cm d τ) := by
  have h13 := h.h13 h0 h1
  have hh1 := h.h1 h0 h1
  have h573 := h.sum (n := 573) (by decide) (by decide)
  have hb := h.mono (show b ≤ b + 1 by omega)
  have hv : 0 ≤ m_rdg d τ ∧ m_rdg d τ < 100 := by unfold m_rdg; omega
  unfold m_cm
  split
  · exact ((((((hb.ufree (by omega) (by unfold ev_in; omega)).ufree (by omega) (by unfold ev_in; omega)).u15 h0 h1 (by decide) (by decide)).u9 h0 h1 (by decide) (by decide)).u10 h0 h1 (by decide) (by decide)).u14 h0 h1 (by decide) (by have := h.s7; omega)).usum (by decide) (by decide) (by omega) (by omega)
  · exact hb
theorem m_cm_o {d n : Int} {τ : ev_M} (h0 : 0 ≤ d) (h1 : d < 6) (hn : n < 300) : m_cm d τ n = τ n := by
  unfold m_cm
  split
  · simp (disch := omega) only [ev_up_ne]
  · rfl
theorem s_X5_comes {b : Int} {v2 : Option ev_V} {σ : ev_M} (hM : MI b σ) (hb : b ≤ 1000000000) (h2 : 0 ≤ σ 2) (h2' : σ 2 ≤ 6) : Ev jX5_comes layM 0 [some (rv 0), none, v2] [] σ (fun _ σ' => σ' = it m_cm σ (σ 2).toNat) := by
  have loop : ∀ (j k : Nat) (ρ : ev_M) (v2 : Option ev_V), (k : Int) + j = σ 2 → ρ = it m_cm σ k → Ev jX5_comes layM 2 [some (rv 0), some (iv (k : Int)), v2] [] ρ (fun _ σ' => σ' = it m_cm σ (σ 2).toNat) := by
    intro j
    induction j with
    | zero =>
      intro k ρ v2 hk hρ
      have e2 : ρ 2 = σ 2 := by rw [hρ]; exact it_at' k (fun i σ hi => m_cm_o (by omega) (by omega) (by decide))
      refine Ev.iload_n dX5_comes_2 rfl ?_
      refine Ev.aload_n dX5_comes_3 rfl ?_
      refine Ev.geti (2) dX5_comes_4 fl_X5_44 lm_0 (by decide) rfl rfl ?_
      refine Ev.icmp_ge (tgt := 131) dX5_comes_7 rfl (fun c7 => ?_) (fun c7 => ?_)
      · skip
        refine Ev.vret dX5_comes_131 rfl ?_
        rw [hρ, show (σ 2).toNat = k by omega]
      · skip
        exact absurd c7 (by omega)
    | succ j ih =>
      intro k ρ v2 hk hρ
      have e2 : ρ 2 = σ 2 := by rw [hρ]; exact it_at' k (fun i σ hi => m_cm_o (by omega) (by omega) (by decide))
      have hMk := it_MI (s := 1) (fun i b τ hi h => h.cm (by omega) (by omega)) hM k (by omega)
      rw [← hρ] at hMk
      have a13 := hMk.h13 (d := (k : Int)) (by omega) (by omega)
      have a1 := hMk.h1 (d := (k : Int)) (by omega) (by omega)
      have a573 := hMk.sum (n := 573) (by decide) (by decide)
      have e7 : ρ 7 = σ 7 := by rw [hρ]; exact it_at' k (fun i σ hi => m_cm_o (by omega) (by omega) (by decide))
      refine Ev.iload_n dX5_comes_2 rfl ?_
      refine Ev.aload_n dX5_comes_3 rfl ?_
      refine Ev.geti (2) dX5_comes_4 fl_X5_44 lm_0 (by decide) rfl rfl ?_
      refine Ev.icmp_ge (tgt := 131) dX5_comes_7 rfl (fun c7 => ?_) (fun c7 => ?_)
      · skip
        exact absurd c7 (by omega)
      · skip
        refine Ev.aload_n dX5_comes_10 rfl ?_
        refine Ev.iload_n dX5_comes_11 rfl ?_
        refine Ev.bipush dX5_comes_12 ⟨by decide, by decide⟩ (by decide) ?_
        refine Ev.Vi2 (I' := jX5_of) ml_X5_100 dX5_comes_14 cyX5_of lm_0 rfl (by decide) ⟨by decide, by decide⟩ (by simp) rfl rfl (s_X5_of (by omega) (by omega) (by decide) (by decide)) (fun r σ' hr14 hq => ?_)
        obtain ⟨rfl, hq⟩ := hq
        replace hq := hq.symm
        subst hq
        refine Ev.aload_n dX5_comes_17 rfl ?_
        refine Ev.geti (7) dX5_comes_18 fl_X5_57 lm_0 (by decide) rfl rfl ?_
        refine Ev.icmp_ne (tgt := 125) dX5_comes_21 rfl (fun c21 => ?_) (fun c21 => ?_)
        · skip
          refine Ev.iinc1 dX5_comes_125 (by unfold ev_in; omega) ?_
          refine Ev.goto (tgt := 2) dX5_comes_128 rfl ?_
          refine ih (k + 1) _ _ (by omega) ?_
          rw [show it m_cm σ (k + 1) = m_cm (k : Int) (it m_cm σ k) from rfl, ← hρ]
          unfold m_cm m_rdg
          first | (exfalso; omega) | rfl | (repeat (first | rw [if_pos (by omega)] | rw [if_neg (by omega)]))
        · skip
          refine Ev.bipush dX5_comes_24 ⟨by decide, by decide⟩ (by decide) ?_
          refine Ev.aload_n dX5_comes_26 rfl ?_
          refine Ev.iload_n dX5_comes_27 rfl ?_
          refine Ev.bipush dX5_comes_28 ⟨by decide, by decide⟩ (by decide) ?_
          refine Ev.Vi2 (I' := jX5_of) ml_X5_100 dX5_comes_30 cyX5_of lm_0 rfl (by decide) ⟨by decide, by decide⟩ (by simp) rfl rfl (s_X5_of (by omega) (by omega) (by decide) (by decide)) (fun r σ' hr30 hq => ?_)
          obtain ⟨rfl, hq⟩ := hq
          replace hq := hq.symm
          subst hq
          refine Ev.imul dX5_comes_33 (by unfold ev_in; omega) ?_
          refine Ev.iconst dX5_comes_34 ⟨by decide, by decide⟩ ?_
          refine Ev.aload_n dX5_comes_35 rfl ?_
          refine Ev.iload_n dX5_comes_36 rfl ?_
          refine Ev.iconst dX5_comes_37 ⟨by decide, by decide⟩ ?_
          refine Ev.Vi2 (I' := jX5_of) ml_X5_100 dX5_comes_38 cyX5_of lm_0 rfl (by decide) ⟨by decide, by decide⟩ (by simp) rfl rfl (s_X5_of (by omega) (by omega) (by decide) (by decide)) (fun r σ' hr38 hq => ?_)
          obtain ⟨rfl, hq⟩ := hq
          replace hq := hq.symm
          subst hq
          refine Ev.imul dX5_comes_41 (by unfold ev_in; omega) ?_
          refine Ev.iadd dX5_comes_42 (by unfold ev_in; omega) ?_
          refine Ev.bipush dX5_comes_43 ⟨by decide, by decide⟩ (by decide) ?_
          refine Ev.irem dX5_comes_45 (by omega) (by decide) ?_
          refine Ev.istore2 rfl dX5_comes_46 ?_
          refine Ev.aload_n dX5_comes_47 rfl ?_
          refine Ev.getr (420) dX5_comes_48 fl_X5_16 lm_0 (by decide) rfl rfl ?_
          refine Ev.bipush dX5_comes_51 ⟨by decide, by decide⟩ (by decide) ?_
          refine Ev.iload_n dX5_comes_53 rfl ?_
          refine Ev.imul dX5_comes_54 (by unfold ev_in; omega) ?_
          refine Ev.bipush dX5_comes_55 ⟨by decide, by decide⟩ (by decide) ?_
          refine Ev.iload_n dX5_comes_57 rfl ?_
          refine Ev.bipush dX5_comes_58 ⟨by decide, by decide⟩ (by decide) ?_
          refine Ev.idiv dX5_comes_60 (by omega) (by decide) ?_
          refine Ev.iadd dX5_comes_61 (by unfold ev_in; omega) ?_
          refine Ev.iast dX5_comes_62 lm_420 (by omega) (by omega) ?_
          refine Ev.aload_n dX5_comes_63 rfl ?_
          refine Ev.getr (420) dX5_comes_64 fl_X5_16 lm_0 (by decide) rfl rfl ?_
          refine Ev.bipush dX5_comes_67 ⟨by decide, by decide⟩ (by decide) ?_
          refine Ev.iload_n dX5_comes_69 rfl ?_
          refine Ev.imul dX5_comes_70 (by unfold ev_in; omega) ?_
          refine Ev.iconst dX5_comes_71 ⟨by decide, by decide⟩ ?_
          refine Ev.iadd dX5_comes_72 (by unfold ev_in; omega) ?_
          refine Ev.bipush dX5_comes_73 ⟨by decide, by decide⟩ (by decide) ?_
          refine Ev.iload_n dX5_comes_75 rfl ?_
          refine Ev.bipush dX5_comes_76 ⟨by decide, by decide⟩ (by decide) ?_
          refine Ev.irem dX5_comes_78 (by omega) (by decide) ?_
          refine Ev.iadd dX5_comes_79 (by unfold ev_in; omega) ?_
          refine Ev.iast dX5_comes_80 lm_420 (by omega) (by omega) ?_
          refine Ev.aload_n dX5_comes_81 rfl ?_
          refine Ev.iload_n dX5_comes_82 rfl ?_
          refine Ev.bipush dX5_comes_83 ⟨by decide, by decide⟩ (by decide) ?_
          refine Ev.iconst dX5_comes_85 ⟨by decide, by decide⟩ ?_
          refine Ev.Vv3 (I' := jX5_puts) ml_X5_47 dX5_comes_86 cyX5_puts lm_0 rfl (by decide) ⟨by decide, by decide⟩ (by simp) rfl rfl (s_X5_puts (by omega) (by omega) (by decide) (by decide)) (fun σ' hq => ?_)
          subst hq
          refine Ev.aload_n dX5_comes_89 rfl ?_
          refine Ev.iload_n dX5_comes_90 rfl ?_
          refine Ev.bipush dX5_comes_91 ⟨by decide, by decide⟩ (by decide) ?_
          refine Ev.bipush dX5_comes_93 ⟨by decide, by decide⟩ (by decide) ?_
          refine Ev.Vv3 (I' := jX5_puts) ml_X5_47 dX5_comes_95 cyX5_puts lm_0 rfl (by decide) ⟨by decide, by decide⟩ (by simp) rfl rfl (s_X5_puts (by omega) (by omega) (by decide) (by decide)) (fun σ' hq => ?_)
          subst hq
          refine Ev.aload_n dX5_comes_98 rfl ?_
          refine Ev.iload_n dX5_comes_99 rfl ?_
          refine Ev.bipush dX5_comes_100 ⟨by decide, by decide⟩ (by decide) ?_
          refine Ev.iconst dX5_comes_102 ⟨by decide, by decide⟩ ?_
          refine Ev.Vv3 (I' := jX5_puts) ml_X5_47 dX5_comes_103 cyX5_puts lm_0 rfl (by decide) ⟨by decide, by decide⟩ (by simp) rfl rfl (s_X5_puts (by omega) (by omega) (by decide) (by decide)) (fun σ' hq => ?_)
          subst hq
          refine Ev.aload_n dX5_comes_106 rfl ?_
          refine Ev.iload_n dX5_comes_107 rfl ?_
          refine Ev.bipush dX5_comes_108 ⟨by decide, by decide⟩ (by decide) ?_
          refine Ev.bipush dX5_comes_110 ⟨by decide, by decide⟩ (by decide) ?_
          refine Ev.Vv3 (I' := jX5_puts) ml_X5_47 dX5_comes_112 cyX5_puts lm_0 rfl (by decide) ⟨by decide, by decide⟩ (by simp) rfl rfl (s_X5_puts (by omega) (by omega) (by decide) (by decide)) (fun σ' hq => ?_)
          subst hq
          refine Ev.aload_n dX5_comes_115 rfl ?_
          refine Ev.getr (570) dX5_comes_116 fl_X5_19 lm_0 (by decide) rfl rfl ?_
          refine Ev.iconst dX5_comes_119 ⟨by decide, by decide⟩ ?_
          refine Ev.dup2 dX5_comes_120 ?_
          refine Ev.ialdn (573) dX5_comes_121 lm_570 (Or.inl rfl) (by decide) (by decide) rfl ?_
          try simp (disch := omega) only [ev_up_ne, ev_up_eqs]
          refine Ev.iconst dX5_comes_122 ⟨by decide, by decide⟩ ?_
          refine Ev.iadd dX5_comes_123 (by unfold ev_in; omega) ?_
          refine Ev.iastn (573) dX5_comes_124 lm_570 (by decide) (by decide) rfl ?_
          refine Ev.iinc1 dX5_comes_125 (by unfold ev_in; omega) ?_
          refine Ev.goto (tgt := 2) dX5_comes_128 rfl ?_
          refine ih (k + 1) _ _ (by omega) ?_
          rw [show it m_cm σ (k + 1) = m_cm (k : Int) (it m_cm σ k) from rfl, ← hρ]
          unfold m_cm m_rdg
          first | (exfalso; omega) | rfl | (repeat (first | rw [if_pos (by omega)] | rw [if_neg (by omega)]))
  refine Ev.iconst dX5_comes_0 ⟨by decide, by decide⟩ ?_
  refine Ev.istore1 rfl dX5_comes_1 ?_
  exact loop (σ 2).toNat 0 σ _ (by omega) rfl
end
section
/-! the reference: ticks, the log, commands -/
theorem it_MI0 {f : Int → ev_M → ev_M} (hf : ∀ (i : Nat) (b : Int) (τ : ev_M), i < 6 → MI b τ → MI b (f (i : Int) τ)) {b : Int} {τ : ev_M} (h : MI b τ) : ∀ k : Nat, k ≤ 6 → MI b (it f τ k)
  | 0, _ => h
  | k + 1, hk => hf k _ _ (by omega) (it_MI0 hf h k (by omega))
theorem it_MI1 {f : Int → ev_M → ev_M} (hf : ∀ (i : Nat) (b : Int) (τ : ev_M), i < 6 → MI b τ → MI (b + 1) (f (i : Int) τ)) {b : Int} {τ : ev_M} (h : MI b τ) (k : Nat) (hk : k ≤ 6) : MI (b + 6) (it f τ k) := (it_MI hf h k hk).mono (by omega)
theorem MI.nat2 {b : Int} {τ : ev_M} (h : MI b τ) : (τ 2).toNat ≤ 6 := by have := h.s2; omega
def m_comes (τ : ev_M) : ev_M := it m_cm τ (τ 2).toNat
theorem MI.comes {b : Int} {τ : ev_M} (h : MI b τ) : MI (b + 6) (m_comes τ) := it_MI1 (fun i b τ hi h => h.cm (by omega) (by omega)) h _ h.nat2
theorem m_comes_o {b n : Int} {τ : ev_M} (h : MI b τ) (hn : n < 300) : m_comes τ n = τ n := it_at' _ (fun i σ hi => m_cm_o (by omega) (by have := h.nat2; omega) hn)
def m_tick1 (τ : ev_M) : ev_M := m_comes (ev_up τ 7 (τ 7 + 1))
theorem MI.now1 {b : Int} {τ : ev_M} (h : MI b τ) : MI (b + 1) (ev_up τ 7 (τ 7 + 1)) := (h.mono (by omega)).t7 (by have := h.s7; omega) (by have := h.s7; omega)
theorem MI.tick1 {b : Int} {τ : ev_M} (h : MI b τ) : MI (b + 7) (m_tick1 τ) := (h.now1.comes).mono (by omega)
theorem m_tick1_o {b n : Int} {τ : ev_M} (h : MI b τ) (hn : n < 300) (h7 : n ≠ 7) : m_tick1 τ n = τ n := by
  unfold m_tick1
  rw [m_comes_o h.now1 hn, ev_up_ne h7]
theorem m_tick1_7 {b : Int} {τ : ev_M} (h : MI b τ) : m_tick1 τ 7 = τ 7 + 1 := by
  unfold m_tick1
  rw [m_comes_o h.now1 (by decide), ev_up_eq]
def m_ticks (τ : ev_M) : Nat → ev_M
  | 0 => τ
  | k + 1 => m_tick1 (m_ticks τ k)
theorem MI.ticks {b : Int} {τ : ev_M} (h : MI b τ) : ∀ k : Nat, MI (b + 7 * (k : Int)) (m_ticks τ k)
  | 0 => by rw [show b + 7 * ((0 : Nat) : Int) = b by simp]; exact h
  | k + 1 => (MI.ticks h k).tick1.mono (by omega)
theorem m_ticks_o {b n : Int} {τ : ev_M} (h : MI b τ) (hn : n < 300) (h7 : n ≠ 7) : ∀ k : Nat, m_ticks τ k n = τ n
  | 0 => rfl
  | k + 1 => by show m_tick1 (m_ticks τ k) n = τ n; rw [m_tick1_o (h.ticks k) hn h7, m_ticks_o h hn h7 k]
theorem m_ticks_7 {b : Int} {τ : ev_M} (h : MI b τ) : ∀ k : Nat, m_ticks τ k 7 = τ 7 + (k : Int)
  | 0 => by show τ 7 = τ 7 + ((0 : Nat) : Int); simp
  | k + 1 => by show m_tick1 (m_ticks τ k) 7 = _; rw [m_tick1_7 (h.ticks k), m_ticks_7 h k]; omega
theorem s_X5_ticks {b n : Int} {σ : ev_M} (hn0 : 0 ≤ n) (hn : n ≤ 1000) (hM : MI b σ) (hb : b ≤ 900000000) : Ev jX5_ticks layM 0 [some (rv 0), some (iv n), none] [] σ (fun _ σ' => σ' = m_ticks σ n.toNat) := by
  have loop : ∀ (j k : Nat) (ρ : ev_M), (k : Int) + j = n → ρ = m_ticks σ k → Ev jX5_ticks layM 2 [some (rv 0), some (iv n), some (iv (k : Int))] [] ρ (fun _ σ' => σ' = m_ticks σ n.toNat) := by
    intro j
    induction j with
    | zero =>
      intro k ρ hk hρ
      refine Ev.iload_n dX5_ticks_2 rfl ?_
      refine Ev.iload_n dX5_ticks_3 rfl ?_
      refine Ev.icmp_ge (tgt := 27) dX5_ticks_4 rfl (fun c4 => ?_) (fun c4 => ?_)
      · skip
        refine Ev.vret dX5_ticks_27 rfl ?_
        rw [hρ, show n.toNat = k by omega]
      · skip
        exact absurd c4 (by omega)
    | succ j ih =>
      intro k ρ hk hρ
      have hMk := hM.ticks k
      rw [← hρ] at hMk
      have e7 := hMk.s7
      have hMn := hMk.now1
      have e2 := hMn.s2
      refine Ev.iload_n dX5_ticks_2 rfl ?_
      refine Ev.iload_n dX5_ticks_3 rfl ?_
      refine Ev.icmp_ge (tgt := 27) dX5_ticks_4 rfl (fun c4 => ?_) (fun c4 => ?_)
      · skip
        exact absurd c4 (by omega)
      · skip
        refine Ev.aload_n dX5_ticks_7 rfl ?_
        refine Ev.dup dX5_ticks_8 ?_
        refine Ev.geti (7) dX5_ticks_9 fl_X5_57 lm_0 (by decide) rfl rfl ?_
        refine Ev.iconst dX5_ticks_12 ⟨by decide, by decide⟩ ?_
        refine Ev.iadd dX5_ticks_13 (by unfold ev_in; omega) ?_
        refine Ev.puti (7) dX5_ticks_14 fl_X5_57 ft_5_7 lm_0 (by decide) rfl rfl ?_
        refine Ev.aload_n dX5_ticks_17 rfl ?_
        refine Ev.Vv0 (I' := jX5_comes) ml_X5_104 dX5_ticks_18 cyX5_comes lm_0 rfl (by decide) ⟨by decide, by decide⟩ (by simp) rfl rfl (s_X5_comes hMn (by omega) (by omega) (by omega)) (fun σ' hq => ?_)
        subst hq
        refine Ev.iinc2 dX5_ticks_21 (by unfold ev_in; omega) ?_
        refine Ev.goto (tgt := 2) dX5_ticks_24 rfl ?_
        refine ih (k + 1) _ (by omega) ?_
        rw [show m_ticks σ (k + 1) = m_tick1 (m_ticks σ k) from rfl, ← hρ]
        rfl
  refine Ev.iconst dX5_ticks_0 ⟨by decide, by decide⟩ ?_
  refine Ev.istore2 rfl dX5_ticks_1 ?_
  exact loop n.toNat 0 σ (by omega) rfl
def lg (k : Int) (τ : ev_M) : ev_M := fun n => if (580 + k < n ∧ n < 596) ∨ (600 + k < n ∧ n < 616) ∨ (620 + k < n ∧ n < 636) then τ (n - 1) else τ n
def m_logs (c : Int) (τ : ev_M) : ev_M := ev_up (ev_up (ev_up (ev_up (lg 0 τ) 580 (τ 7)) 600 c) 620 (τ 5)) 11 (if τ 11 < 16 then τ 11 + 1 else 16)
theorem lg_o {k n : Int} {τ : ev_M} (h : n ≤ 580 + k ∨ (596 ≤ n ∧ n ≤ 600 + k) ∨ (616 ≤ n ∧ n ≤ 620 + k) ∨ 636 ≤ n) (hk : 0 ≤ k) (hk2 : k ≤ 15) : lg k τ n = τ n := by
  unfold lg
  rw [if_neg (by omega)]
theorem lg_s {k : Int} {τ : ev_M} (hk : 0 ≤ k) (hk2 : k < 15) : ev_up (ev_up (ev_up (lg (k + 1) τ) (580 + (k + 1)) (τ (580 + k))) (600 + (k + 1)) (τ (600 + k))) (620 + (k + 1)) (τ (620 + k)) = lg k τ := by
  funext n
  by_cases h1 : n = 620 + (k + 1)
  · rw [ev_up_eqs h1]; unfold lg; rw [if_pos (by omega)]; congr 1; omega
  · rw [ev_up_ne h1]
    by_cases h2 : n = 600 + (k + 1)
    · rw [ev_up_eqs h2]; unfold lg; rw [if_pos (by omega)]; congr 1; omega
    · rw [ev_up_ne h2]
      by_cases h3 : n = 580 + (k + 1)
      · rw [ev_up_eqs h3]; unfold lg; rw [if_pos (by omega)]; congr 1; omega
      · rw [ev_up_ne h3]
        unfold lg
        by_cases h4 : (580 + k < n ∧ n < 596) ∨ (600 + k < n ∧ n < 616) ∨ (620 + k < n ∧ n < 636)
        · rw [if_pos h4, if_pos (by omega)]
        · rw [if_neg h4, if_neg (by omega)]
theorem s_X5_logs {c : Int} {σ : ev_M} (h11 : 0 ≤ σ 11) (h11' : σ 11 ≤ 16) : Ev jX5_logs layM 0 [some (rv 0), some (iv c), none] [] σ (fun _ σ' => σ' = m_logs c σ) := by
  have loop : ∀ (j : Nat) (ρ : ev_M), j ≤ 15 → ρ = lg (j : Int) σ → Ev jX5_logs layM 3 [some (rv 0), some (iv c), some (iv (j : Int))] [] ρ (fun _ σ' => σ' = m_logs c σ) := by
    intro j
    induction j with
    | zero =>
      intro ρ hj hρ
      have e7 : ρ 7 = σ 7 := by rw [hρ]; exact lg_o (by decide) (by decide) (by decide)
      have e5 : ρ 5 = σ 5 := by rw [hρ]; exact lg_o (by decide) (by decide) (by decide)
      have e11 : ρ 11 = σ 11 := by rw [hρ]; exact lg_o (by decide) (by decide) (by decide)
      refine Ev.iload_n dX5_logs_3 rfl ?_
      refine Ev.if_le (tgt := 55) dX5_logs_4 rfl (fun c4 => ?_) (fun c4 => ?_)
      · skip
        refine Ev.aload_n dX5_logs_55 rfl ?_
        refine Ev.getr (580) dX5_logs_56 fl_X5_22 lm_0 (by decide) rfl rfl ?_
        refine Ev.iconst dX5_logs_59 ⟨by decide, by decide⟩ ?_
        refine Ev.aload_n dX5_logs_60 rfl ?_
        refine Ev.geti (7) dX5_logs_61 fl_X5_57 lm_0 (by decide) rfl rfl ?_
        refine Ev.iastn (580) dX5_logs_64 lm_580 (by decide) (by decide) rfl ?_
        refine Ev.aload_n dX5_logs_65 rfl ?_
        refine Ev.getr (600) dX5_logs_66 fl_X5_25 lm_0 (by decide) rfl rfl ?_
        refine Ev.iconst dX5_logs_69 ⟨by decide, by decide⟩ ?_
        refine Ev.iload_n dX5_logs_70 rfl ?_
        refine Ev.iastn (600) dX5_logs_71 lm_600 (by decide) (by decide) rfl ?_
        refine Ev.aload_n dX5_logs_72 rfl ?_
        refine Ev.getr (620) dX5_logs_73 fl_X5_28 lm_0 (by decide) rfl rfl ?_
        refine Ev.iconst dX5_logs_76 ⟨by decide, by decide⟩ ?_
        refine Ev.aload_n dX5_logs_77 rfl ?_
        refine Ev.geti (5) dX5_logs_78 fl_X5_51 lm_0 (by decide) rfl rfl ?_
        try simp (disch := omega) only [ev_up_ne, ev_up_eqs]
        refine Ev.iastn (620) dX5_logs_81 lm_620 (by decide) (by decide) rfl ?_
        refine Ev.aload_n dX5_logs_82 rfl ?_
        refine Ev.aload_n dX5_logs_83 rfl ?_
        refine Ev.geti (11) dX5_logs_84 fl_X5_66 lm_0 (by decide) rfl rfl ?_
        try simp (disch := omega) only [ev_up_ne, ev_up_eqs]
        refine Ev.bipush dX5_logs_87 ⟨by decide, by decide⟩ (by decide) ?_
        refine Ev.icmp_ge (tgt := 101) dX5_logs_89 rfl (fun c89 => ?_) (fun c89 => ?_)
        · skip
          refine Ev.bipush dX5_logs_101 ⟨by decide, by decide⟩ (by decide) ?_
          refine Ev.puti (11) dX5_logs_103 fl_X5_66 ft_5_11 lm_0 (by decide) rfl rfl ?_
          refine Ev.vret dX5_logs_106 rfl ?_
          unfold m_logs
          rw [← e7, ← e5, ← e11, hρ]
          first | rw [if_pos (by rw [← hρ]; omega)] | rw [if_neg (by rw [← hρ]; omega)]
          rfl
        · skip
          refine Ev.aload_n dX5_logs_92 rfl ?_
          refine Ev.geti (11) dX5_logs_93 fl_X5_66 lm_0 (by decide) rfl rfl ?_
          try simp (disch := omega) only [ev_up_ne, ev_up_eqs]
          refine Ev.iconst dX5_logs_96 ⟨by decide, by decide⟩ ?_
          refine Ev.iadd dX5_logs_97 (by unfold ev_in; omega) ?_
          refine Ev.goto (tgt := 103) dX5_logs_98 rfl ?_
          refine Ev.puti (11) dX5_logs_103 fl_X5_66 ft_5_11 lm_0 (by decide) rfl rfl ?_
          refine Ev.vret dX5_logs_106 rfl ?_
          unfold m_logs
          rw [← e7, ← e5, ← e11, hρ]
          first | rw [if_pos (by rw [← hρ]; omega)] | rw [if_neg (by rw [← hρ]; omega)]
          rfl
      · skip
        exact absurd c4 (by decide)
    | succ j ih =>
      intro ρ hj hρ
      have r1 : ρ (580 + (((j + 1 : Nat) : Int) - 1)) = σ (580 + (j : Int)) := by rw [hρ, lg_o (by omega) (by omega) (by omega)]; congr 1; omega
      have r2 : ρ (600 + (((j + 1 : Nat) : Int) - 1)) = σ (600 + (j : Int)) := by rw [hρ, lg_o (by omega) (by omega) (by omega)]; congr 1; omega
      have r3 : ρ (620 + (((j + 1 : Nat) : Int) - 1)) = σ (620 + (j : Int)) := by rw [hρ, lg_o (by omega) (by omega) (by omega)]; congr 1; omega
      refine Ev.iload_n dX5_logs_3 rfl ?_
      refine Ev.if_le (tgt := 55) dX5_logs_4 rfl (fun c4 => ?_) (fun c4 => ?_)
      · skip
        exact absurd c4 (by omega)
      · skip
        refine Ev.aload_n dX5_logs_7 rfl ?_
        refine Ev.getr (580) dX5_logs_8 fl_X5_22 lm_0 (by decide) rfl rfl ?_
        refine Ev.iload_n dX5_logs_11 rfl ?_
        refine Ev.aload_n dX5_logs_12 rfl ?_
        refine Ev.getr (580) dX5_logs_13 fl_X5_22 lm_0 (by decide) rfl rfl ?_
        refine Ev.iload_n dX5_logs_16 rfl ?_
        refine Ev.iconst dX5_logs_17 ⟨by decide, by decide⟩ ?_
        refine Ev.isub dX5_logs_18 (by unfold ev_in; omega) ?_
        refine Ev.iald dX5_logs_19 lm_580 (Or.inl rfl) (by omega) (by omega) ?_
        refine Ev.iast dX5_logs_20 lm_580 (by omega) (by omega) ?_
        refine Ev.aload_n dX5_logs_21 rfl ?_
        refine Ev.getr (600) dX5_logs_22 fl_X5_25 lm_0 (by decide) rfl rfl ?_
        refine Ev.iload_n dX5_logs_25 rfl ?_
        refine Ev.aload_n dX5_logs_26 rfl ?_
        refine Ev.getr (600) dX5_logs_27 fl_X5_25 lm_0 (by decide) rfl rfl ?_
        refine Ev.iload_n dX5_logs_30 rfl ?_
        refine Ev.iconst dX5_logs_31 ⟨by decide, by decide⟩ ?_
        refine Ev.isub dX5_logs_32 (by unfold ev_in; omega) ?_
        refine Ev.iald dX5_logs_33 lm_600 (Or.inl rfl) (by omega) (by omega) ?_
        try simp (disch := omega) only [ev_up_ne, ev_up_eqs]
        refine Ev.iast dX5_logs_34 lm_600 (by omega) (by omega) ?_
        refine Ev.aload_n dX5_logs_35 rfl ?_
        refine Ev.getr (620) dX5_logs_36 fl_X5_28 lm_0 (by decide) rfl rfl ?_
        refine Ev.iload_n dX5_logs_39 rfl ?_
        refine Ev.aload_n dX5_logs_40 rfl ?_
        refine Ev.getr (620) dX5_logs_41 fl_X5_28 lm_0 (by decide) rfl rfl ?_
        refine Ev.iload_n dX5_logs_44 rfl ?_
        refine Ev.iconst dX5_logs_45 ⟨by decide, by decide⟩ ?_
        refine Ev.isub dX5_logs_46 (by unfold ev_in; omega) ?_
        refine Ev.iald dX5_logs_47 lm_620 (Or.inl rfl) (by omega) (by omega) ?_
        try simp (disch := omega) only [ev_up_ne, ev_up_eqs]
        refine Ev.iast dX5_logs_48 lm_620 (by omega) (by omega) ?_
        refine Ev.iinc2 dX5_logs_49 (by unfold ev_in; omega) ?_
        refine Ev.goto (tgt := 3) dX5_logs_52 rfl ?_
        rw [show ((j + 1 : Nat) : Int) + -1 = (j : Int) by omega]
        refine ih _ (by omega) ?_
        rw [r1, r2, r3, hρ]
        exact lg_s (k := (j : Int)) (by omega) (by omega)
  refine Ev.bipush dX5_logs_0 ⟨by decide, by decide⟩ (by decide) ?_
  refine Ev.istore2 rfl dX5_logs_2 ?_
  exact loop 15 σ (by decide) (by funext n; exact (by unfold lg; rw [if_neg (by omega)] : lg ((15 : Nat) : Int) σ n = σ n).symm)
theorem MI.lg0 {b : Int} {τ : ev_M} (h : MI b τ) : MI b (lg 0 τ) := by
  intro n
  unfold lg
  split
  · next hn =>
    have e1 : mlo n = -2147483648 := by
      unfold mlo
      repeat' split
      all_goals omega
    have e2 : mhi b n = 2147483647 := by
      unfold mhi
      repeat' split
      all_goals omega
    have e3 : mlo (n - 1) = -2147483648 := by
      unfold mlo
      repeat' split
      all_goals omega
    have e4 : mhi b (n - 1) = 2147483647 := by
      unfold mhi
      repeat' split
      all_goals omega
    have := h (n - 1)
    rw [e3, e4] at this
    rw [e1, e2]
    exact this
  · exact h n
theorem MI.logs {b c : Int} {τ : ev_M} (h : MI b τ) (hb : b ≤ 1000000000) (hc : ev_in c) : MI b (m_logs c τ) := by
  have h7 := h.s7
  have h5 := h.s5
  have h11 := h.s11
  unfold m_logs
  exact (((h.lg0.ufree (by omega) (by unfold ev_in; omega)).ufree (by omega) hc).ufree (by omega) (by unfold ev_in; omega)).t11 (by split <;> omega) (by split <;> omega)
theorem m_logs_o {c n : Int} {τ : ev_M} (h : n < 580) (h11 : n ≠ 11) : m_logs c τ n = τ n := by
  unfold m_logs
  rw [ev_up_ne h11, ev_up_ne (by omega), ev_up_ne (by omega), ev_up_ne (by omega), lg_o (by omega) (by decide) (by decide)]
theorem m_all_o {w v d n : Int} {τ : ev_M} (hd : 0 ≤ d) (hd2 : d < 6) (hw : 0 ≤ w) (hw2 : w < 18) (hn : n < 300 ∨ 408 ≤ n) : m_all w v d τ n = τ n := ev_up_ne (by omega)
theorem it_all_o {w v n : Int} {τ : ev_M} {k : Nat} (hk : k ≤ 6) (hw : 0 ≤ w) (hw2 : w < 18) (hn : n < 300 ∨ 408 ≤ n) : it (m_all w v) τ k n = τ n := it_at' k (fun i σ hi => m_all_o (by omega) (by omega) hw hw2 hn)
theorem MI.itall {w v : Int} (hv : ∀ b d : Int, 0 ≤ d → d < 6 → mlo (300 + (18 * d + w)) ≤ v ∧ v ≤ mhi b (300 + (18 * d + w))) {b : Int} {τ : ev_M} (h : MI b τ) (k : Nat) (hk : k ≤ 6) : MI b (it (m_all w v) τ k) := it_MI0 (fun i b τ hi h => h.up (hv b i (by omega) (by omega)).1 (hv b i (by omega) (by omega)).2) h k hk
theorem MI.itall5 {b : Int} {τ : ev_M} (h : MI b τ) (k : Nat) (hk : k ≤ 6) : MI b (it (m_all 5 0) τ k) := h.itall (fun b d h0 h1 => by rw [mlo_5 h0 h1, mhi_5 h0 h1]; decide) k hk
theorem MI.itall6 {b : Int} {τ : ev_M} (h : MI b τ) (k : Nat) (hk : k ≤ 6) : MI b (it (m_all 6 0) τ k) := h.itall (fun b d h0 h1 => by rw [mlo_6 h0 h1, mhi_6 h0 h1]; decide) k hk
theorem MI.itall8 {b : Int} {τ : ev_M} (h : MI b τ) (k : Nat) (hk : k ≤ 6) : MI b (it (m_all 8 1) τ k) := h.itall (fun b d h0 h1 => by rw [mlo_8 h0 h1, mhi_8 h0 h1]; decide) k hk
theorem MI.itall11 {b : Int} {τ : ev_M} (h : MI b τ) (k : Nat) (hk : k ≤ 6) : MI b (it (m_all 11 (-4)) τ k) := h.itall (fun b d h0 h1 => by rw [mlo_11 h0 h1, mhi_11 h0 h1]; decide) k hk
theorem MI.itall17 {b : Int} {τ : ev_M} (h : MI b τ) (k : Nat) (hk : k ≤ 6) : MI b (it (m_all 17 0) τ k) := h.itall (fun b d h0 h1 => by rw [mlo_17 h0 h1, mhi_17 h0 h1]; decide) k hk
theorem MI.clears {b d : Int} {τ : ev_M} (h : MI b τ) (h0 : 0 ≤ d) (h1 : d < 6) : MI b (m_clears d τ) := ((((h.u9 h0 h1 (by decide) (by decide)).u10 h0 h1 (by decide) (by decide)).u14 h0 h1 (by decide) (by have := h.s7; omega)).u15 h0 h1 (by decide) (by decide)).u16 h0 h1 (by decide) (by decide)
theorem MI.trig {b d : Int} {τ : ev_M} (h : MI b τ) (h0 : 0 ≤ d) (h1 : d < 6) : MI (b + 1) (m_trig d τ) := by
  have hs := h.sum (n := 577) (by decide) (by decide)
  have h13 := h.h13 h0 h1
  have h4 := h.h4 h0 h1
  have h7 := h.s7
  have h' := (((h.mono (show b ≤ b + 1 by omega)).u13 h0 h1 (v := if τ (300 + (18 * d + 13)) < 999 then τ (300 + (18 * d + 13)) + 1 else 999) (by split <;> omega) (by split <;> omega)).usum (n := 577) (v := τ 577 + 1) (by decide) (by decide) (by omega) (by omega))
  by_cases hk : τ (300 + (18 * d + 0)) = 1
  · unfold m_trig
    dsimp only
    rw [if_pos hk]
    exact h'.u14 h0 h1 (by omega) (by omega)
  · unfold m_trig
    dsimp only
    rw [if_neg hk]
    exact h'
theorem MI.toL {b d c : Int} {τ : ev_M} (h : MI b τ) (h0 : 0 ≤ d) (h1 : d < 6) : MI (b + 1) (m_toL d c τ) := by
  unfold m_toL
  split
  · exact (h.mono (by omega)).u7 h0 h1 (by decide) (by decide)
  · split
    · exact (h.clears h0 h1).mono (by omega)
    · split
      · exact h.trig h0 h1
      · exact h.mono (by omega)
def m_tl (c set : Int) (d : Int) (τ : ev_M) : ev_M := if c = 20 then m_clears d τ else if ev_and (ev_shr set d) 1 = 1 then m_toL d c τ else τ
theorem MI.tl {b d c set : Int} {τ : ev_M} (h : MI b τ) (h0 : 0 ≤ d) (h1 : d < 6) : MI (b + 1) (m_tl c set d τ) := by
  unfold m_tl
  split
  · exact (h.clears h0 h1).mono (by omega)
  · split
    · exact h.toL h0 h1
    · exact h.mono (by omega)
theorem m_tl_o {c set d n : Int} {τ : ev_M} (h0 : 0 ≤ d) (h1 : d < 6) (hn : n < 300) : m_tl c set d τ n = τ n := by
  unfold m_tl m_toL m_clears m_trig
  repeat' split
  all_goals first | rfl | simp (disch := omega) only [ev_up_ne]
theorem MI.addr {b d a how : Int} {τ : ev_M} (h : MI b τ) (h0 : 0 ≤ d) (h1 : d < 6) (hh : 1 ≤ how) (hh2 : how ≤ 2) : MI b (m_addr a how d τ) := by
  unfold m_addr
  split
  · split
    · exact h.u17 h0 h1 (by omega) (by omega)
    · split
      · exact (h.u6 h0 h1 (by decide) (by decide)).u7 h0 h1 (by decide) (by decide)
      · exact h.u5 h0 h1 (by decide) (by decide)
  · exact h
theorem MI.sec {b d s tl tt : Int} {τ : ev_M} (h : MI b τ) (h0 : 0 ≤ d) (h1 : d < 6) : MI b (m_sec s tl tt d τ) := by
  have hs : MI b (m_sec1 s tl d τ) := by
    unfold m_sec1
    split
    · exact (h.u6 h0 h1 (by decide) (by decide)).u7 h0 h1 (by decide) (by decide)
    · exact h
  unfold m_sec
  split
  · exact (hs.itall5 _ h.nat2).u5 h0 h1 (by decide) (by decide)
  · exact hs
theorem MI.prep {b d c : Int} {τ : ev_M} (h : MI b τ) (h0 : 0 ≤ d) (h1 : d < 6) (hc : 96 ≤ c) : MI b (m_prep c d τ) := by
  unfold m_prep
  split
  · exact (h.u11 h0 h1 (by split <;> omega) (by split <;> omega)).u12 h0 h1 (by split <;> omega) (by split <;> omega)
  · exact h
theorem MI.pass {b : Int} {τ : ev_M} (h : MI b τ) : MI (b + 1) (m_pass τ) := by
  have h2 := h.s2
  have ht := m_talk_rng h2.1
  have hs := h.sum (n := 576) (by decide) (by decide)
  unfold m_pass
  split
  · exact (((h.mono (by omega)).t5 (by omega) (by omega)).u5 (by omega) (by omega) (by decide) (by decide)).usum (by decide) (by decide) (by omega) (by omega)
  · exact h.mono (by omega)
def tlr (x : Int) (τ : ev_M) : Nat → Int
  | 0 => 0
  | k + 1 => ev_or (tlr x τ k) (if τ (300 + (18 * (k : Int) + 17)) = x then ev_shl 1 (k : Int) else 0)
def m_obey (c tl tt : Int) (τ : ev_M) : ev_M :=
  if c < 9 ∨ c = 20 then m_comes (it (m_tl c (m_lis τ)) τ (τ 2).toNat)
  else if c = 9 then m_pass τ
  else if c = 17 then it (m_all 8 1) τ (τ 2).toNat
  else if c = 21 then it (m_all 11 (-4)) τ (τ 2).toNat
  else if c = 24 ∨ c = 25 then ev_up τ 6 (25 - c)
  else if c = 63 then it (m_all 6 0) τ (τ 2).toNat
  else if 32 ≤ c ∧ c ≤ 62 then it (m_addr (c - 32) 1) τ (τ 2).toNat
  else if 64 ≤ c ∧ c ≤ 95 then it (m_addr (if c = 95 then -4 else c - 64) 2) (it (m_all 5 0) τ (τ 2).toNat) (τ 2).toNat
  else if 95 < c then (if τ 8 = 5 then it (m_prep c) τ (τ 2).toNat else if c < 127 then it (m_sec (c - 96) tl tt) τ (τ 2).toNat else τ)
  else τ
def m_end (c set : Int) (τ : ev_M) : ev_M := ev_up (ev_up τ 9 (if c = 5 then set else 0)) 8 c
def m_pre (c : Int) (τ : ev_M) : ev_M := ev_up (m_logs c τ) 570 (m_logs c τ 570 + 1)
def m_tkd (c : Int) (τ : ev_M) : ev_M := m_ticks (m_pre c τ) (m_slow 63 (m_pre c τ)).toNat
def m_sends (c : Int) (τ : ev_M) : ev_M :=
  m_end c (m_lis (it (m_all 17 0) (m_tkd c τ) (m_tkd c τ 2).toNat)) (m_obey c (tlr 1 (m_tkd c τ) (m_tkd c τ 2).toNat) (tlr 2 (m_tkd c τ) (m_tkd c τ 2).toNat) (it (m_all 17 0) (m_tkd c τ) (m_tkd c τ 2).toNat))
theorem MI.obey {b c tl tt : Int} {τ : ev_M} (h : MI b τ) (h0 : 0 ≤ c) (h1 : c ≤ 127) : MI (b + 12) (m_obey c tl tt τ) := by
  have hn := h.nat2
  have hm := h.mono (show b ≤ b + 12 by omega)
  unfold m_obey
  split
  · exact ((it_MI1 (fun i b τ hi h => h.tl (by omega) (by omega)) h _ hn).comes).mono (by omega)
  · split
    · exact h.pass.mono (by omega)
    · split
      · exact hm.itall8 _ hn
      · split
        · exact hm.itall11 _ hn
        · split
          · exact hm.t6 (by omega) (by omega)
          · split
            · exact hm.itall6 _ hn
            · split
              · exact it_MI0 (fun i b τ hi h => h.addr (by omega) (by omega) (by decide) (by decide)) hm _ hn
              · split
                · exact it_MI0 (fun i b τ hi h => h.addr (by omega) (by omega) (by decide) (by decide)) (hm.itall5 _ hn) _ hn
                · split
                  · split
                    · exact it_MI0 (fun i b τ hi h => h.prep (by omega) (by omega) (by omega)) hm _ hn
                    · split
                      · exact it_MI0 (fun i b τ hi h => h.sec (by omega) (by omega)) hm _ hn
                      · exact hm
                  · exact hm
theorem MI.pre {b c : Int} {τ : ev_M} (h : MI b τ) (hb : b ≤ 1000000000) (hc : ev_in c) : MI (b + 1) (m_pre c τ) := by
  have h1 := h.logs hb hc
  have h2 := h1.sum (n := 570) (by decide) (by decide)
  exact (h1.mono (by omega)).usum (by decide) (by decide) (by omega) (by omega)
theorem MI.tkd {b c : Int} {τ : ev_M} (h : MI b τ) (hb : b ≤ 1000000000) (hc : ev_in c) : MI (b + 64) (m_tkd c τ) := by
  have h1 := h.pre hb hc
  have h2 := m_slow_rng (set := 63) h1
  exact (h1.ticks _).mono (by omega)
end
section
/-! the reference: a command whole -/
theorem s_X5_isIn' {v lo hi : Int} {σ : ev_M} : Ev jX5_isIn layM 0 [some (iv v), some (iv lo), some (iv hi)] [] σ (fun r σ' => ((r = 1 ∧ lo ≤ v ∧ v ≤ hi) ∨ (r = 0 ∧ ¬ (lo ≤ v ∧ v ≤ hi))) ∧ σ' = σ) := s_X5_isIn.mono (fun r σ' h => ⟨by rw [h.1]; split <;> omega, h.2⟩)
theorem t_sends {c set : Int} {x2 x3 x5 : Option ev_V} {ρ : ev_M} : Ev jX5_sends layM 362 [some (rv 0), some (iv c), x2, x3, some (iv set), x5] [] ρ (fun _ σ' => σ' = m_end c set ρ) := by
  refine Ev.aload_n dX5_sends_362 rfl ?_
  refine Ev.iload_n dX5_sends_363 rfl ?_
  refine Ev.iconst dX5_sends_364 ⟨by decide, by decide⟩ ?_
  refine Ev.icmp_ne (tgt := 373) dX5_sends_365 rfl (fun c365 => ?_) (fun c365 => ?_)
  · skip
    refine Ev.iconst dX5_sends_373 ⟨by decide, by decide⟩ ?_
    refine Ev.puti (9) dX5_sends_374 fl_X5_63 ft_5_9 lm_0 (by decide) rfl rfl ?_
    refine Ev.aload_n dX5_sends_377 rfl ?_
    refine Ev.iload_n dX5_sends_378 rfl ?_
    refine Ev.puti (8) dX5_sends_379 fl_X5_60 ft_5_8 lm_0 (by decide) rfl rfl ?_
    refine Ev.vret dX5_sends_382 rfl ?_
    unfold m_end
    first | rw [if_pos (by omega)] | rw [if_neg (by omega)]
  · skip
    refine Ev.iload dX5_sends_368 rfl ?_
    refine Ev.goto (tgt := 374) dX5_sends_370 rfl ?_
    refine Ev.puti (9) dX5_sends_374 fl_X5_63 ft_5_9 lm_0 (by decide) rfl rfl ?_
    refine Ev.aload_n dX5_sends_377 rfl ?_
    refine Ev.iload_n dX5_sends_378 rfl ?_
    refine Ev.puti (8) dX5_sends_379 fl_X5_60 ft_5_8 lm_0 (by decide) rfl rfl ?_
    refine Ev.vret dX5_sends_382 rfl ?_
    unfold m_end
    first | rw [if_pos (by omega)] | rw [if_neg (by omega)]
theorem t_sends_tl {b c set : Int} {x2 x3 : Option ev_V} {ρ0 : ev_M} (hM : MI b ρ0) (hb : b ≤ 900000000) : ∀ (j k : Nat) (ρ : ev_M), (k : Int) + j = ρ0 2 → ρ = it (m_tl c set) ρ0 k → Ev jX5_sends layM 123 [some (rv 0), some (iv c), x2, x3, some (iv set), some (iv (k : Int))] [] ρ (fun _ σ' => σ' = m_end c set (m_comes (it (m_tl c set) ρ0 (ρ0 2).toNat))) := by
  have h2 := hM.s2
  intro j
  induction j with
  | zero =>
    intro k ρ hk hρ
    have e2 : ρ 2 = ρ0 2 := by rw [hρ]; exact it_at' k (fun i σ hi => m_tl_o (by omega) (by omega) (by decide))
    have hMk := it_MI1 (fun i b τ hi h => h.tl (c := c) (set := set) (by omega) (by omega)) hM k (by omega)
    rw [← hρ] at hMk
    refine Ev.iload dX5_sends_123 rfl ?_
    refine Ev.aload_n dX5_sends_125 rfl ?_
    refine Ev.geti (2) dX5_sends_126 fl_X5_44 lm_0 (by decide) rfl rfl ?_
    refine Ev.icmp_ge (tgt := 171) dX5_sends_129 rfl (fun c129 => ?_) (fun c129 => ?_)
    · skip
      refine Ev.aload_n dX5_sends_171 rfl ?_
      refine Ev.Vv0 (I' := jX5_comes) ml_X5_104 dX5_sends_172 cyX5_comes lm_0 rfl (by decide) ⟨by decide, by decide⟩ (by simp) rfl rfl (s_X5_comes hMk (by omega) (by omega) (by omega)) (fun σ' hq => ?_)
      subst hq
      refine Ev.goto (tgt := 362) dX5_sends_175 rfl ?_
      rw [show (ρ0 2).toNat = k by omega, ← hρ]
      exact t_sends
    · skip
      exact absurd c129 (by omega)
  | succ j ih =>
    intro k ρ hk hρ
    have e2 : ρ 2 = ρ0 2 := by rw [hρ]; exact it_at' k (fun i σ hi => m_tl_o (by omega) (by omega) (by decide))
    have hMk := it_MI1 (fun i b τ hi h => h.tl (c := c) (set := set) (by omega) (by omega)) hM k (by omega)
    rw [← hρ] at hMk
    have a577 := hMk.sum (n := 577) (by decide) (by decide)
    have a7 := hMk.s7
    have a4 := hMk.h4 (d := (k : Int)) (by omega) (by omega)
    have a13 := hMk.h13 (d := (k : Int)) (by omega) (by omega)
    refine Ev.iload dX5_sends_123 rfl ?_
    refine Ev.aload_n dX5_sends_125 rfl ?_
    refine Ev.geti (2) dX5_sends_126 fl_X5_44 lm_0 (by decide) rfl rfl ?_
    refine Ev.icmp_ge (tgt := 171) dX5_sends_129 rfl (fun c129 => ?_) (fun c129 => ?_)
    · skip
      exact absurd c129 (by omega)
    · skip
      refine Ev.iload_n dX5_sends_132 rfl ?_
      refine Ev.bipush dX5_sends_133 ⟨by decide, by decide⟩ (by decide) ?_
      refine Ev.icmp_ne (tgt := 147) dX5_sends_135 rfl (fun c135 => ?_) (fun c135 => ?_)
      · skip
        refine Ev.iload dX5_sends_147 rfl ?_
        refine Ev.iload dX5_sends_149 rfl ?_
        refine Ev.ishr dX5_sends_151 ?_
        refine Ev.iconst dX5_sends_152 ⟨by decide, by decide⟩ ?_
        refine Ev.iand dX5_sends_153 ?_
        refine Ev.iconst dX5_sends_154 ⟨by decide, by decide⟩ ?_
        refine Ev.icmp_ne (tgt := 165) dX5_sends_155 rfl (fun c155 => ?_) (fun c155 => ?_)
        · skip
          refine Ev.iinc5 dX5_sends_165 (by unfold ev_in; omega) ?_
          refine Ev.goto (tgt := 123) dX5_sends_168 rfl ?_
          refine ih (k + 1) _ (by omega) ?_
          rw [show it (m_tl c set) ρ0 (k + 1) = m_tl c set (k : Int) (it (m_tl c set) ρ0 k) from rfl, ← hρ]
          unfold m_tl
          repeat (first | rw [if_pos (by omega)] | rw [if_neg (by omega)])
        · skip
          refine Ev.aload_n dX5_sends_158 rfl ?_
          refine Ev.iload dX5_sends_159 rfl ?_
          refine Ev.iload_n dX5_sends_161 rfl ?_
          refine Ev.Vv2 (I' := jX5_toListener) ml_X5_135 dX5_sends_162 cyX5_toListener lm_0 rfl (by decide) ⟨by decide, by decide⟩ (by simp) rfl rfl (s_X5_toListener (by omega) (by omega) (by unfold ev_in; omega) (by unfold ev_in; omega) (by omega)) (fun σ' hq => ?_)
          subst hq
          refine Ev.iinc5 dX5_sends_165 (by unfold ev_in; omega) ?_
          refine Ev.goto (tgt := 123) dX5_sends_168 rfl ?_
          refine ih (k + 1) _ (by omega) ?_
          rw [show it (m_tl c set) ρ0 (k + 1) = m_tl c set (k : Int) (it (m_tl c set) ρ0 k) from rfl, ← hρ]
          unfold m_tl
          repeat (first | rw [if_pos (by omega)] | rw [if_neg (by omega)])
      · skip
        refine Ev.aload_n dX5_sends_138 rfl ?_
        refine Ev.iload dX5_sends_139 rfl ?_
        refine Ev.Vv1 (I' := jX5_clears) ml_X5_111 dX5_sends_141 cyX5_clears lm_0 rfl (by decide) ⟨by decide, by decide⟩ (by simp) rfl rfl (s_X5_clears (by omega) (by omega)) (fun σ' hq => ?_)
        subst hq
        refine Ev.goto (tgt := 165) dX5_sends_144 rfl ?_
        refine Ev.iinc5 dX5_sends_165 (by unfold ev_in; omega) ?_
        refine Ev.goto (tgt := 123) dX5_sends_168 rfl ?_
        refine ih (k + 1) _ (by omega) ?_
        rw [show it (m_tl c set) ρ0 (k + 1) = m_tl c set (k : Int) (it (m_tl c set) ρ0 k) from rfl, ← hρ]
        unfold m_tl
        repeat (first | rw [if_pos (by omega)] | rw [if_neg (by omega)])
theorem t_sends_obey {b c tl tt : Int} {x4 x5 : Option ev_V} {ρ : ev_M} (hM : MI b ρ) (hb : b ≤ 900000000) (hc0 : 0 ≤ c) (hc1 : c ≤ 127) : Ev jX5_sends layM 102 [some (rv 0), some (iv c), some (iv tl), some (iv tt), x4, x5] [] ρ (fun _ σ' => σ' = m_end c (m_lis ρ) (m_obey c tl tt ρ)) := by
  have h2 := hM.s2
  have a576 := hM.sum (n := 576) (by decide) (by decide)
  refine Ev.aload_n dX5_sends_102 rfl ?_
  refine Ev.Vi0 (I' := jX5_listeners) ml_X5_132 dX5_sends_103 cyX5_listeners lm_0 rfl (by decide) ⟨by decide, by decide⟩ (by simp) rfl rfl (s_X5_listeners (by omega) (by omega)) (fun r σ' hr103 hq => ?_)
  obtain ⟨rfl, hq⟩ := hq
  replace hq := hq.symm
  subst hq
  refine Ev.istore4 dX5_sends_106 ?_
  refine Ev.iload_n dX5_sends_108 rfl ?_
  refine Ev.bipush dX5_sends_109 ⟨by decide, by decide⟩ (by decide) ?_
  refine Ev.icmp_lt (tgt := 120) dX5_sends_111 rfl (fun c111 => ?_) (fun c111 => ?_)
  · skip
    refine Ev.iconst dX5_sends_120 ⟨by decide, by decide⟩ ?_
    refine Ev.istore5 dX5_sends_121 ?_
    refine (t_sends_tl hM hb (ρ 2).toNat 0 ρ (by omega) rfl).mono (fun _ σ' h => ?_)
    rw [h]
    unfold m_obey
    repeat (first | rw [if_pos (by omega)] | rw [if_neg (by omega)])
  · skip
    refine Ev.iload_n dX5_sends_114 rfl ?_
    refine Ev.bipush dX5_sends_115 ⟨by decide, by decide⟩ (by decide) ?_
    refine Ev.icmp_ne (tgt := 178) dX5_sends_117 rfl (fun c117 => ?_) (fun c117 => ?_)
    · skip
      refine Ev.iload_n dX5_sends_178 rfl ?_
      refine Ev.bipush dX5_sends_179 ⟨by decide, by decide⟩ (by decide) ?_
      refine Ev.icmp_ne (tgt := 191) dX5_sends_181 rfl (fun c181 => ?_) (fun c181 => ?_)
      · skip
        refine Ev.iload_n dX5_sends_191 rfl ?_
        refine Ev.bipush dX5_sends_192 ⟨by decide, by decide⟩ (by decide) ?_
        refine Ev.icmp_ne (tgt := 207) dX5_sends_194 rfl (fun c194 => ?_) (fun c194 => ?_)
        · skip
          refine Ev.iload_n dX5_sends_207 rfl ?_
          refine Ev.bipush dX5_sends_208 ⟨by decide, by decide⟩ (by decide) ?_
          refine Ev.icmp_ne (tgt := 224) dX5_sends_210 rfl (fun c210 => ?_) (fun c210 => ?_)
          · skip
            refine Ev.iload_n dX5_sends_224 rfl ?_
            refine Ev.bipush dX5_sends_225 ⟨by decide, by decide⟩ (by decide) ?_
            refine Ev.icmp_eq (tgt := 236) dX5_sends_227 rfl (fun c227 => ?_) (fun c227 => ?_)
            · skip
              refine Ev.aload_n dX5_sends_236 rfl ?_
              refine Ev.bipush dX5_sends_237 ⟨by decide, by decide⟩ (by decide) ?_
              refine Ev.iload_n dX5_sends_239 rfl ?_
              refine Ev.isub dX5_sends_240 (by unfold ev_in; omega) ?_
              refine Ev.puti (6) dX5_sends_241 fl_X5_54 ft_5_6 lm_0 (by decide) rfl rfl ?_
              refine Ev.goto (tgt := 362) dX5_sends_244 rfl ?_
              refine t_sends.mono (fun _ σ' h => ?_)
              rw [h]
              unfold m_obey
              repeat (first | rw [if_pos (by omega)] | rw [if_neg (by omega)])
            · skip
              refine Ev.iload_n dX5_sends_230 rfl ?_
              refine Ev.bipush dX5_sends_231 ⟨by decide, by decide⟩ (by decide) ?_
              refine Ev.icmp_ne (tgt := 247) dX5_sends_233 rfl (fun c233 => ?_) (fun c233 => ?_)
              · skip
                refine Ev.iload_n dX5_sends_247 rfl ?_
                refine Ev.bipush dX5_sends_248 ⟨by decide, by decide⟩ (by decide) ?_
                refine Ev.icmp_ne (tgt := 263) dX5_sends_250 rfl (fun c250 => ?_) (fun c250 => ?_)
                · skip
                  refine Ev.iload_n dX5_sends_263 rfl ?_
                  refine Ev.bipush dX5_sends_264 ⟨by decide, by decide⟩ (by decide) ?_
                  refine Ev.bipush dX5_sends_266 ⟨by decide, by decide⟩ (by decide) ?_
                  refine Ev.Si3 (I' := jX5_isIn) ml_X5_82 dX5_sends_268 cyX5_isIn (by decide) ⟨by decide, by decide⟩ (by simp) rfl rfl (s_X5_isIn') (fun r σ' hr268 hq => ?_)
                  obtain ⟨hq1, hq⟩ := hq
                  replace hq := hq.symm
                  subst hq
                  refine Ev.if_eq (tgt := 286) dX5_sends_271 rfl (fun c271 => ?_) (fun c271 => ?_)
                  · skip
                    refine Ev.iload_n dX5_sends_286 rfl ?_
                    refine Ev.bipush dX5_sends_287 ⟨by decide, by decide⟩ (by decide) ?_
                    refine Ev.bipush dX5_sends_289 ⟨by decide, by decide⟩ (by decide) ?_
                    refine Ev.Si3 (I' := jX5_isIn) ml_X5_82 dX5_sends_291 cyX5_isIn (by decide) ⟨by decide, by decide⟩ (by simp) rfl rfl (s_X5_isIn') (fun r σ' hr291 hq => ?_)
                    obtain ⟨hq1, hq⟩ := hq
                    replace hq := hq.symm
                    subst hq
                    refine Ev.if_eq (tgt := 324) dX5_sends_294 rfl (fun c294 => ?_) (fun c294 => ?_)
                    · skip
                      refine Ev.iload_n dX5_sends_324 rfl ?_
                      refine Ev.bipush dX5_sends_325 ⟨by decide, by decide⟩ (by decide) ?_
                      refine Ev.icmp_le (tgt := 362) dX5_sends_327 rfl (fun c327 => ?_) (fun c327 => ?_)
                      · skip
                        refine t_sends.mono (fun _ σ' h => ?_)
                        rw [h]
                        unfold m_obey
                        repeat (first | rw [if_pos (by omega)] | rw [if_neg (by omega)])
                      · skip
                        refine Ev.aload_n dX5_sends_330 rfl ?_
                        refine Ev.geti (8) dX5_sends_331 fl_X5_60 lm_0 (by decide) rfl rfl ?_
                        refine Ev.iconst dX5_sends_334 ⟨by decide, by decide⟩ ?_
                        refine Ev.icmp_ne (tgt := 346) dX5_sends_335 rfl (fun c335 => ?_) (fun c335 => ?_)
                        · skip
                          refine Ev.iload_n dX5_sends_346 rfl ?_
                          refine Ev.bipush dX5_sends_347 ⟨by decide, by decide⟩ (by decide) ?_
                          refine Ev.icmp_ge (tgt := 362) dX5_sends_349 rfl (fun c349 => ?_) (fun c349 => ?_)
                          · skip
                            refine t_sends.mono (fun _ σ' h => ?_)
                            rw [h]
                            unfold m_obey
                            repeat (first | rw [if_pos (by omega)] | rw [if_neg (by omega)])
                          · skip
                            refine Ev.aload_n dX5_sends_352 rfl ?_
                            refine Ev.iload_n dX5_sends_353 rfl ?_
                            refine Ev.bipush dX5_sends_354 ⟨by decide, by decide⟩ (by decide) ?_
                            refine Ev.isub dX5_sends_356 (by unfold ev_in; omega) ?_
                            refine Ev.iload_n dX5_sends_357 rfl ?_
                            refine Ev.iload_n dX5_sends_358 rfl ?_
                            refine Ev.Vv3 (I' := jX5_seconds) ml_X5_151 dX5_sends_359 cyX5_seconds lm_0 rfl (by decide) ⟨by decide, by decide⟩ (by simp) rfl rfl (s_X5_seconds (by omega) (by omega)) (fun σ' hq => ?_)
                            subst hq
                            refine t_sends.mono (fun _ σ' h => ?_)
                            rw [h]
                            unfold m_obey
                            repeat (first | rw [if_pos (by omega)] | rw [if_neg (by omega)])
                        · skip
                          refine Ev.aload_n dX5_sends_338 rfl ?_
                          refine Ev.iload_n dX5_sends_339 rfl ?_
                          refine Ev.Vv1 (I' := jX5_prepares) ml_X5_148 dX5_sends_340 cyX5_prepares lm_0 rfl (by decide) ⟨by decide, by decide⟩ (by simp) rfl rfl (s_X5_prepares (by omega) (by omega) (by omega) (by omega)) (fun σ' hq => ?_)
                          subst hq
                          refine Ev.goto (tgt := 362) dX5_sends_343 rfl ?_
                          refine t_sends.mono (fun _ σ' h => ?_)
                          rw [h]
                          unfold m_obey
                          repeat (first | rw [if_pos (by omega)] | rw [if_neg (by omega)])
                    · skip
                      refine Ev.aload_n dX5_sends_297 rfl ?_
                      refine Ev.Vv0 (I' := jX5_silences) ml_X5_123 dX5_sends_298 cyX5_silences lm_0 rfl (by decide) ⟨by decide, by decide⟩ (by simp) rfl rfl (s_X5_silences (by omega) (by omega)) (fun σ' hq => ?_)
                      subst hq
                      refine Ev.aload_n dX5_sends_301 rfl ?_
                      refine Ev.iload_n dX5_sends_302 rfl ?_
                      refine Ev.bipush dX5_sends_303 ⟨by decide, by decide⟩ (by decide) ?_
                      refine Ev.icmp_ne (tgt := 313) dX5_sends_305 rfl (fun c305 => ?_) (fun c305 => ?_)
                      · skip
                        refine Ev.iload_n dX5_sends_313 rfl ?_
                        refine Ev.bipush dX5_sends_314 ⟨by decide, by decide⟩ (by decide) ?_
                        refine Ev.isub dX5_sends_316 (by unfold ev_in; omega) ?_
                        refine Ev.iconst dX5_sends_317 ⟨by decide, by decide⟩ ?_
                        refine Ev.Vv2 (I' := jX5_addresses) ml_X5_145 dX5_sends_318 cyX5_addresses lm_0 rfl (by decide) ⟨by decide, by decide⟩ (by simp) rfl rfl (s_X5_addresses (by first | omega | (rw [it_all_o (by omega) (by decide) (by decide) (by decide)]; omega)) (by first | omega | (rw [it_all_o (by omega) (by decide) (by decide) (by decide)]; omega))) (fun σ' hq => ?_)
                        subst hq
                        try rw [it_all_o (by omega) (by decide) (by decide) (Or.inl (by decide))]
                        refine Ev.goto (tgt := 362) dX5_sends_321 rfl ?_
                        refine t_sends.mono (fun _ σ' h => ?_)
                        rw [h]
                        unfold m_obey
                        repeat (first | rw [if_pos (by omega)] | rw [if_neg (by omega)])
                      · skip
                        refine Ev.bipush dX5_sends_308 ⟨by decide, by decide⟩ (by decide) ?_
                        refine Ev.goto (tgt := 317) dX5_sends_310 rfl ?_
                        refine Ev.iconst dX5_sends_317 ⟨by decide, by decide⟩ ?_
                        refine Ev.Vv2 (I' := jX5_addresses) ml_X5_145 dX5_sends_318 cyX5_addresses lm_0 rfl (by decide) ⟨by decide, by decide⟩ (by simp) rfl rfl (s_X5_addresses (by first | omega | (rw [it_all_o (by omega) (by decide) (by decide) (by decide)]; omega)) (by first | omega | (rw [it_all_o (by omega) (by decide) (by decide) (by decide)]; omega))) (fun σ' hq => ?_)
                        subst hq
                        try rw [it_all_o (by omega) (by decide) (by decide) (Or.inl (by decide))]
                        refine Ev.goto (tgt := 362) dX5_sends_321 rfl ?_
                        refine t_sends.mono (fun _ σ' h => ?_)
                        rw [h]
                        unfold m_obey
                        repeat (first | rw [if_pos (by omega)] | rw [if_neg (by omega)])
                  · skip
                    refine Ev.aload_n dX5_sends_274 rfl ?_
                    refine Ev.iload_n dX5_sends_275 rfl ?_
                    refine Ev.bipush dX5_sends_276 ⟨by decide, by decide⟩ (by decide) ?_
                    refine Ev.isub dX5_sends_278 (by unfold ev_in; omega) ?_
                    refine Ev.iconst dX5_sends_279 ⟨by decide, by decide⟩ ?_
                    refine Ev.Vv2 (I' := jX5_addresses) ml_X5_145 dX5_sends_280 cyX5_addresses lm_0 rfl (by decide) ⟨by decide, by decide⟩ (by simp) rfl rfl (s_X5_addresses (by first | omega | (rw [it_all_o (by omega) (by decide) (by decide) (by decide)]; omega)) (by first | omega | (rw [it_all_o (by omega) (by decide) (by decide) (by decide)]; omega))) (fun σ' hq => ?_)
                    subst hq
                    try rw [it_all_o (by omega) (by decide) (by decide) (Or.inl (by decide))]
                    refine Ev.goto (tgt := 362) dX5_sends_283 rfl ?_
                    refine t_sends.mono (fun _ σ' h => ?_)
                    rw [h]
                    unfold m_obey
                    repeat (first | rw [if_pos (by omega)] | rw [if_neg (by omega)])
                · skip
                  refine Ev.aload_n dX5_sends_253 rfl ?_
                  refine Ev.bipush dX5_sends_254 ⟨by decide, by decide⟩ (by decide) ?_
                  refine Ev.iconst dX5_sends_256 ⟨by decide, by decide⟩ ?_
                  refine Ev.Vv2 (I' := jX5_all) ml_X5_142 dX5_sends_257 cyX5_all lm_0 rfl (by decide) ⟨by decide, by decide⟩ (by simp) rfl rfl (s_X5_all (by decide) (by decide) (by omega) (by omega)) (fun σ' hq => ?_)
                  subst hq
                  refine Ev.goto (tgt := 362) dX5_sends_260 rfl ?_
                  refine t_sends.mono (fun _ σ' h => ?_)
                  rw [h]
                  unfold m_obey
                  repeat (first | rw [if_pos (by omega)] | rw [if_neg (by omega)])
              · skip
                refine Ev.aload_n dX5_sends_236 rfl ?_
                refine Ev.bipush dX5_sends_237 ⟨by decide, by decide⟩ (by decide) ?_
                refine Ev.iload_n dX5_sends_239 rfl ?_
                refine Ev.isub dX5_sends_240 (by unfold ev_in; omega) ?_
                refine Ev.puti (6) dX5_sends_241 fl_X5_54 ft_5_6 lm_0 (by decide) rfl rfl ?_
                refine Ev.goto (tgt := 362) dX5_sends_244 rfl ?_
                refine t_sends.mono (fun _ σ' h => ?_)
                rw [h]
                unfold m_obey
                repeat (first | rw [if_pos (by omega)] | rw [if_neg (by omega)])
          · skip
            refine Ev.aload_n dX5_sends_213 rfl ?_
            refine Ev.bipush dX5_sends_214 ⟨by decide, by decide⟩ (by decide) ?_
            refine Ev.bipush dX5_sends_216 ⟨by decide, by decide⟩ (by decide) ?_
            refine Ev.Vv2 (I' := jX5_all) ml_X5_142 dX5_sends_218 cyX5_all lm_0 rfl (by decide) ⟨by decide, by decide⟩ (by simp) rfl rfl (s_X5_all (by decide) (by decide) (by omega) (by omega)) (fun σ' hq => ?_)
            subst hq
            refine Ev.goto (tgt := 362) dX5_sends_221 rfl ?_
            refine t_sends.mono (fun _ σ' h => ?_)
            rw [h]
            unfold m_obey
            repeat (first | rw [if_pos (by omega)] | rw [if_neg (by omega)])
        · skip
          refine Ev.aload_n dX5_sends_197 rfl ?_
          refine Ev.bipush dX5_sends_198 ⟨by decide, by decide⟩ (by decide) ?_
          refine Ev.iconst dX5_sends_200 ⟨by decide, by decide⟩ ?_
          refine Ev.Vv2 (I' := jX5_all) ml_X5_142 dX5_sends_201 cyX5_all lm_0 rfl (by decide) ⟨by decide, by decide⟩ (by simp) rfl rfl (s_X5_all (by decide) (by decide) (by omega) (by omega)) (fun σ' hq => ?_)
          subst hq
          refine Ev.goto (tgt := 362) dX5_sends_204 rfl ?_
          refine t_sends.mono (fun _ σ' h => ?_)
          rw [h]
          unfold m_obey
          repeat (first | rw [if_pos (by omega)] | rw [if_neg (by omega)])
      · skip
        refine Ev.aload_n dX5_sends_184 rfl ?_
        refine Ev.Vv0 (I' := jX5_passes) ml_X5_139 dX5_sends_185 cyX5_passes lm_0 rfl (by decide) ⟨by decide, by decide⟩ (by simp) rfl rfl (s_X5_passes (by omega) (by omega) (by unfold ev_in; omega)) (fun σ' hq => ?_)
        subst hq
        refine Ev.goto (tgt := 362) dX5_sends_188 rfl ?_
        refine t_sends.mono (fun _ σ' h => ?_)
        rw [h]
        unfold m_obey
        repeat (first | rw [if_pos (by omega)] | rw [if_neg (by omega)])
    · skip
      refine Ev.iconst dX5_sends_120 ⟨by decide, by decide⟩ ?_
      refine Ev.istore5 dX5_sends_121 ?_
      refine (t_sends_tl hM hb (ρ 2).toNat 0 ρ (by omega) rfl).mono (fun _ σ' h => ?_)
      rw [h]
      unfold m_obey
      repeat (first | rw [if_pos (by omega)] | rw [if_neg (by omega)])
theorem t_names {b c : Int} {x5 : Option ev_V} {σ : ev_M} (hM : MI b σ) (hb : b ≤ 900000000) (hc0 : 0 ≤ c) (hc1 : c ≤ 127) : ∀ (j k : Nat) (ρ : ev_M), (k : Int) + j = σ 2 → ρ = it (m_all 17 0) σ k → Ev jX5_sends layM 32 [some (rv 0), some (iv c), some (iv (tlr 1 σ k)), some (iv (tlr 2 σ k)), some (iv (k : Int)), x5] [] ρ (fun _ σ' => σ' = m_end c (m_lis (it (m_all 17 0) σ (σ 2).toNat)) (m_obey c (tlr 1 σ (σ 2).toNat) (tlr 2 σ (σ 2).toNat) (it (m_all 17 0) σ (σ 2).toNat))) := by
  have h2 := hM.s2
  intro j
  induction j with
  | zero =>
    intro k ρ hk hρ
    have e2 : ρ 2 = σ 2 := by rw [hρ]; exact it_all_o (by omega) (by decide) (by decide) (Or.inl (by decide))
    have hMk := hM.itall17 k (by omega)
    rw [← hρ] at hMk
    refine Ev.iload dX5_sends_32 rfl ?_
    refine Ev.aload_n dX5_sends_34 rfl ?_
    refine Ev.geti (2) dX5_sends_35 fl_X5_44 lm_0 (by decide) rfl rfl ?_
    refine Ev.icmp_ge (tgt := 102) dX5_sends_38 rfl (fun c38 => ?_) (fun c38 => ?_)
    · skip
      rw [show (σ 2).toNat = k by omega, ← hρ]
      exact t_sends_obey hMk hb hc0 hc1
    · skip
      exact absurd c38 (by omega)
  | succ j ih =>
    intro k ρ hk hρ
    have e2 : ρ 2 = σ 2 := by rw [hρ]; exact it_all_o (by omega) (by decide) (by decide) (Or.inl (by decide))
    have e17 : ρ (300 + (18 * (k : Int) + 17)) = σ (300 + (18 * (k : Int) + 17)) := by rw [hρ]; exact it_at' k (fun i σ hi => ev_up_ne (by omega))
    refine Ev.iload dX5_sends_32 rfl ?_
    refine Ev.aload_n dX5_sends_34 rfl ?_
    refine Ev.geti (2) dX5_sends_35 fl_X5_44 lm_0 (by decide) rfl rfl ?_
    refine Ev.icmp_ge (tgt := 102) dX5_sends_38 rfl (fun c38 => ?_) (fun c38 => ?_)
    · skip
      exact absurd c38 (by omega)
    · skip
      refine Ev.iload_n dX5_sends_41 rfl ?_
      refine Ev.aload_n dX5_sends_42 rfl ?_
      refine Ev.iload dX5_sends_43 rfl ?_
      refine Ev.bipush dX5_sends_45 ⟨by decide, by decide⟩ (by decide) ?_
      refine Ev.Vi2 (I' := jX5_of) ml_X5_100 dX5_sends_47 cyX5_of lm_0 rfl (by decide) ⟨by decide, by decide⟩ (by simp) rfl rfl (s_X5_of (by omega) (by omega) (by decide) (by decide)) (fun r σ' hr47 hq => ?_)
      obtain ⟨rfl, hq⟩ := hq
      replace hq := hq.symm
      subst hq
      refine Ev.iconst dX5_sends_50 ⟨by decide, by decide⟩ ?_
      refine Ev.icmp_ne (tgt := 61) dX5_sends_51 rfl (fun c51 => ?_) (fun c51 => ?_)
      · skip
        refine Ev.iconst dX5_sends_61 ⟨by decide, by decide⟩ ?_
        refine Ev.ior dX5_sends_62 ?_
        refine Ev.istore2 rfl dX5_sends_63 ?_
        refine Ev.iload_n dX5_sends_64 rfl ?_
        refine Ev.aload_n dX5_sends_65 rfl ?_
        refine Ev.iload dX5_sends_66 rfl ?_
        refine Ev.bipush dX5_sends_68 ⟨by decide, by decide⟩ (by decide) ?_
        refine Ev.Vi2 (I' := jX5_of) ml_X5_100 dX5_sends_70 cyX5_of lm_0 rfl (by decide) ⟨by decide, by decide⟩ (by simp) rfl rfl (s_X5_of (by omega) (by omega) (by decide) (by decide)) (fun r σ' hr70 hq => ?_)
        obtain ⟨rfl, hq⟩ := hq
        replace hq := hq.symm
        subst hq
        refine Ev.iconst dX5_sends_73 ⟨by decide, by decide⟩ ?_
        refine Ev.icmp_ne (tgt := 84) dX5_sends_74 rfl (fun c74 => ?_) (fun c74 => ?_)
        · skip
          refine Ev.iconst dX5_sends_84 ⟨by decide, by decide⟩ ?_
          refine Ev.ior dX5_sends_85 ?_
          refine Ev.istore3 rfl dX5_sends_86 ?_
          refine Ev.aload_n dX5_sends_87 rfl ?_
          refine Ev.iload dX5_sends_88 rfl ?_
          refine Ev.bipush dX5_sends_90 ⟨by decide, by decide⟩ (by decide) ?_
          refine Ev.iconst dX5_sends_92 ⟨by decide, by decide⟩ ?_
          refine Ev.Vv3 (I' := jX5_puts) ml_X5_47 dX5_sends_93 cyX5_puts lm_0 rfl (by decide) ⟨by decide, by decide⟩ (by simp) rfl rfl (s_X5_puts (by omega) (by omega) (by decide) (by decide)) (fun σ' hq => ?_)
          subst hq
          refine Ev.iinc4 dX5_sends_96 (by unfold ev_in; omega) ?_
          refine Ev.goto (tgt := 32) dX5_sends_99 rfl ?_
          have := ih (k + 1) _ (by omega) (by rw [show it (m_all 17 0) σ (k + 1) = m_all 17 0 (k : Int) (it (m_all 17 0) σ k) from rfl, ← hρ])
          rw [show tlr 1 σ (k + 1) = ev_or (tlr 1 σ k) (if σ (300 + (18 * (k : Int) + 17)) = 1 then ev_shl 1 (k : Int) else 0) from rfl, show tlr 2 σ (k + 1) = ev_or (tlr 2 σ k) (if σ (300 + (18 * (k : Int) + 17)) = 2 then ev_shl 1 (k : Int) else 0) from rfl] at this
          repeat (first | rw [if_pos (by omega)] at this | rw [if_neg (by omega)] at this)
          first | exact this | (exfalso; omega)
        · skip
          refine Ev.iconst dX5_sends_77 ⟨by decide, by decide⟩ ?_
          refine Ev.iload dX5_sends_78 rfl ?_
          refine Ev.ishl dX5_sends_80 ?_
          refine Ev.goto (tgt := 85) dX5_sends_81 rfl ?_
          refine Ev.ior dX5_sends_85 ?_
          refine Ev.istore3 rfl dX5_sends_86 ?_
          refine Ev.aload_n dX5_sends_87 rfl ?_
          refine Ev.iload dX5_sends_88 rfl ?_
          refine Ev.bipush dX5_sends_90 ⟨by decide, by decide⟩ (by decide) ?_
          refine Ev.iconst dX5_sends_92 ⟨by decide, by decide⟩ ?_
          refine Ev.Vv3 (I' := jX5_puts) ml_X5_47 dX5_sends_93 cyX5_puts lm_0 rfl (by decide) ⟨by decide, by decide⟩ (by simp) rfl rfl (s_X5_puts (by omega) (by omega) (by decide) (by decide)) (fun σ' hq => ?_)
          subst hq
          refine Ev.iinc4 dX5_sends_96 (by unfold ev_in; omega) ?_
          refine Ev.goto (tgt := 32) dX5_sends_99 rfl ?_
          have := ih (k + 1) _ (by omega) (by rw [show it (m_all 17 0) σ (k + 1) = m_all 17 0 (k : Int) (it (m_all 17 0) σ k) from rfl, ← hρ])
          rw [show tlr 1 σ (k + 1) = ev_or (tlr 1 σ k) (if σ (300 + (18 * (k : Int) + 17)) = 1 then ev_shl 1 (k : Int) else 0) from rfl, show tlr 2 σ (k + 1) = ev_or (tlr 2 σ k) (if σ (300 + (18 * (k : Int) + 17)) = 2 then ev_shl 1 (k : Int) else 0) from rfl] at this
          repeat (first | rw [if_pos (by omega)] at this | rw [if_neg (by omega)] at this)
          first | exact this | (exfalso; omega)
      · skip
        refine Ev.iconst dX5_sends_54 ⟨by decide, by decide⟩ ?_
        refine Ev.iload dX5_sends_55 rfl ?_
        refine Ev.ishl dX5_sends_57 ?_
        refine Ev.goto (tgt := 62) dX5_sends_58 rfl ?_
        refine Ev.ior dX5_sends_62 ?_
        refine Ev.istore2 rfl dX5_sends_63 ?_
        refine Ev.iload_n dX5_sends_64 rfl ?_
        refine Ev.aload_n dX5_sends_65 rfl ?_
        refine Ev.iload dX5_sends_66 rfl ?_
        refine Ev.bipush dX5_sends_68 ⟨by decide, by decide⟩ (by decide) ?_
        refine Ev.Vi2 (I' := jX5_of) ml_X5_100 dX5_sends_70 cyX5_of lm_0 rfl (by decide) ⟨by decide, by decide⟩ (by simp) rfl rfl (s_X5_of (by omega) (by omega) (by decide) (by decide)) (fun r σ' hr70 hq => ?_)
        obtain ⟨rfl, hq⟩ := hq
        replace hq := hq.symm
        subst hq
        refine Ev.iconst dX5_sends_73 ⟨by decide, by decide⟩ ?_
        refine Ev.icmp_ne (tgt := 84) dX5_sends_74 rfl (fun c74 => ?_) (fun c74 => ?_)
        · skip
          refine Ev.iconst dX5_sends_84 ⟨by decide, by decide⟩ ?_
          refine Ev.ior dX5_sends_85 ?_
          refine Ev.istore3 rfl dX5_sends_86 ?_
          refine Ev.aload_n dX5_sends_87 rfl ?_
          refine Ev.iload dX5_sends_88 rfl ?_
          refine Ev.bipush dX5_sends_90 ⟨by decide, by decide⟩ (by decide) ?_
          refine Ev.iconst dX5_sends_92 ⟨by decide, by decide⟩ ?_
          refine Ev.Vv3 (I' := jX5_puts) ml_X5_47 dX5_sends_93 cyX5_puts lm_0 rfl (by decide) ⟨by decide, by decide⟩ (by simp) rfl rfl (s_X5_puts (by omega) (by omega) (by decide) (by decide)) (fun σ' hq => ?_)
          subst hq
          refine Ev.iinc4 dX5_sends_96 (by unfold ev_in; omega) ?_
          refine Ev.goto (tgt := 32) dX5_sends_99 rfl ?_
          have := ih (k + 1) _ (by omega) (by rw [show it (m_all 17 0) σ (k + 1) = m_all 17 0 (k : Int) (it (m_all 17 0) σ k) from rfl, ← hρ])
          rw [show tlr 1 σ (k + 1) = ev_or (tlr 1 σ k) (if σ (300 + (18 * (k : Int) + 17)) = 1 then ev_shl 1 (k : Int) else 0) from rfl, show tlr 2 σ (k + 1) = ev_or (tlr 2 σ k) (if σ (300 + (18 * (k : Int) + 17)) = 2 then ev_shl 1 (k : Int) else 0) from rfl] at this
          repeat (first | rw [if_pos (by omega)] at this | rw [if_neg (by omega)] at this)
          first | exact this | (exfalso; omega)
        · skip
          refine Ev.iconst dX5_sends_77 ⟨by decide, by decide⟩ ?_
          refine Ev.iload dX5_sends_78 rfl ?_
          refine Ev.ishl dX5_sends_80 ?_
          refine Ev.goto (tgt := 85) dX5_sends_81 rfl ?_
          refine Ev.ior dX5_sends_85 ?_
          refine Ev.istore3 rfl dX5_sends_86 ?_
          refine Ev.aload_n dX5_sends_87 rfl ?_
          refine Ev.iload dX5_sends_88 rfl ?_
          refine Ev.bipush dX5_sends_90 ⟨by decide, by decide⟩ (by decide) ?_
          refine Ev.iconst dX5_sends_92 ⟨by decide, by decide⟩ ?_
          refine Ev.Vv3 (I' := jX5_puts) ml_X5_47 dX5_sends_93 cyX5_puts lm_0 rfl (by decide) ⟨by decide, by decide⟩ (by simp) rfl rfl (s_X5_puts (by omega) (by omega) (by decide) (by decide)) (fun σ' hq => ?_)
          subst hq
          refine Ev.iinc4 dX5_sends_96 (by unfold ev_in; omega) ?_
          refine Ev.goto (tgt := 32) dX5_sends_99 rfl ?_
          have := ih (k + 1) _ (by omega) (by rw [show it (m_all 17 0) σ (k + 1) = m_all 17 0 (k : Int) (it (m_all 17 0) σ k) from rfl, ← hρ])
          rw [show tlr 1 σ (k + 1) = ev_or (tlr 1 σ k) (if σ (300 + (18 * (k : Int) + 17)) = 1 then ev_shl 1 (k : Int) else 0) from rfl, show tlr 2 σ (k + 1) = ev_or (tlr 2 σ k) (if σ (300 + (18 * (k : Int) + 17)) = 2 then ev_shl 1 (k : Int) else 0) from rfl] at this
          repeat (first | rw [if_pos (by omega)] at this | rw [if_neg (by omega)] at this)
          first | exact this | (exfalso; omega)
theorem s_X5_sends {b c : Int} {σ : ev_M} (hM : MI b σ) (hb : b ≤ 800000000) (hc0 : 0 ≤ c) (hc1 : c ≤ 127) : Ev jX5_sends layM 0 [some (rv 0), some (iv c), none, none, none, none] [] σ (fun _ σ' => σ' = m_sends c σ) := by
  have hc : ev_in c := by unfold ev_in; omega
  have hMl := hM.logs (c := c) (by omega) hc
  have hMp := hM.pre (c := c) (by omega) hc
  have hMt := hM.tkd (c := c) (by omega) hc
  have hsl := m_slow_rng (set := 63) hMp
  have l570 := hMl.sum (n := 570) (by decide) (by decide)
  have p2 := hMp.s2
  have h11 := hM.s11
  have t2 := hMt.s2
  refine Ev.aload_n dX5_sends_0 rfl ?_
  refine Ev.iload_n dX5_sends_1 rfl ?_
  refine Ev.Vv1 (I' := jX5_logs) ml_X5_126 dX5_sends_2 cyX5_logs lm_0 rfl (by decide) ⟨by decide, by decide⟩ (by simp) rfl rfl (s_X5_logs (by omega) (by omega)) (fun σ' hq => ?_)
  subst hq
  refine Ev.aload_n dX5_sends_5 rfl ?_
  refine Ev.getr (570) dX5_sends_6 fl_X5_19 lm_0 (by decide) rfl rfl ?_
  refine Ev.iconst dX5_sends_9 ⟨by decide, by decide⟩ ?_
  refine Ev.dup2 dX5_sends_10 ?_
  refine Ev.ialdn (570) dX5_sends_11 lm_570 (Or.inl rfl) (by decide) (by decide) rfl ?_
  refine Ev.iconst dX5_sends_12 ⟨by decide, by decide⟩ ?_
  refine Ev.iadd dX5_sends_13 (by unfold ev_in; omega) ?_
  refine Ev.iastn (570) dX5_sends_14 lm_570 (by decide) (by decide) rfl ?_
  rw [show ev_up (m_logs c σ) 570 (m_logs c σ 570 + 1) = m_pre c σ from rfl]
  refine Ev.aload_n dX5_sends_15 rfl ?_
  refine Ev.aload_n dX5_sends_16 rfl ?_
  refine Ev.bipush dX5_sends_17 ⟨by decide, by decide⟩ (by decide) ?_
  refine Ev.Vi1 (I' := jX5_slowest) ml_X5_129 dX5_sends_19 cyX5_slowest lm_0 rfl (by decide) ⟨by decide, by decide⟩ (by simp) rfl rfl (s_X5_slowest (by omega) (by omega)) (fun r σ' hr19 hq => ?_)
  obtain ⟨rfl, hq⟩ := hq
  replace hq := hq.symm
  subst hq
  refine Ev.Vv1 (I' := jX5_ticks) ml_X5_107 dX5_sends_22 cyX5_ticks lm_0 rfl (by decide) ⟨by decide, by decide⟩ (by simp) rfl rfl (s_X5_ticks (by omega) (by omega) hMp (by omega)) (fun σ' hq => ?_)
  subst hq
  rw [show m_ticks (m_pre c σ) (m_slow 63 (m_pre c σ)).toNat = m_tkd c σ from rfl]
  refine Ev.iconst dX5_sends_25 ⟨by decide, by decide⟩ ?_
  refine Ev.istore2 rfl dX5_sends_26 ?_
  refine Ev.iconst dX5_sends_27 ⟨by decide, by decide⟩ ?_
  refine Ev.istore3 rfl dX5_sends_28 ?_
  refine Ev.iconst dX5_sends_29 ⟨by decide, by decide⟩ ?_
  refine Ev.istore4 dX5_sends_30 ?_
  exact t_names hMt (by omega) hc0 hc1 (m_tkd c σ 2).toNat 0 _ (by omega) rfl
theorem MI.sends {b c : Int} {τ : ev_M} (h : MI b τ) (hb : b ≤ 800000000) (hc0 : 0 ≤ c) (hc1 : c ≤ 127) (hl : ∀ τ : ev_M, ∀ b, MI b τ → 0 ≤ m_lis τ ∧ m_lis τ ≤ 63) : MI (b + 76) (m_sends c τ) := by
  have hMt := h.tkd (c := c) (by omega) (by unfold ev_in; omega)
  have hn := hMt.nat2
  have hN := hMt.itall17 _ hn
  have h1 := hN.obey (tl := tlr 1 (m_tkd c τ) (m_tkd c τ 2).toNat) (tt := tlr 2 (m_tkd c τ) (m_tkd c τ 2).toNat) hc0 hc1
  have h2 := hl _ _ hN
  exact ((h1.t9 (by split <;> omega) (by split <;> omega)).t8 (by omega) (by omega)).mono (by omega)
end
section
/-! the reference: what is called on one device, what is looked at -/
theorem s_X5_isDevice' {d : Int} {σ : ev_M} (h2 : 0 ≤ σ 2) : Ev jX5_isDevice layM 0 [some (rv 0), some (iv d)] [] σ (fun r σ' => ((r = 1 ∧ 0 ≤ d ∧ d < σ 2) ∨ (r = 0 ∧ ¬ (0 ≤ d ∧ d < σ 2))) ∧ σ' = σ) := (s_X5_isDevice h2).mono (fun r σ' h => ⟨by rw [h.1]; split <;> omega, h.2⟩)
def p_put (d v : Int) (τ : ev_M) : Int × ev_M := if ¬ (0 ≤ d ∧ d < τ 2 ∧ 0 ≤ v ∧ v ≤ 255) then (-1, τ) else if τ (300 + (18 * d + 15)) = 12 then (-3, τ) else (τ (300 + (18 * d + 15)) + 1, ev_up (ev_up τ (420 + (24 * d + τ (300 + (18 * d + 15)))) v) (300 + (18 * d + 15)) (τ (300 + (18 * d + 15)) + 1))
def p_ask (d s a : Int) (τ : ev_M) : Int × ev_M := if ¬ (0 ≤ d ∧ d < τ 2 ∧ 0 ≤ s ∧ s ≤ 63 ∧ 0 ≤ a ∧ a ≤ 1) then (-1, τ) else (τ (300 + (18 * d + 9)) + 64 * τ (300 + (18 * d + 10)), ev_up (ev_up τ (300 + (18 * d + 9)) s) (300 + (18 * d + 10)) a)
def p_front (d : Int) (τ : ev_M) : Int × ev_M := if ¬ (0 ≤ d ∧ d < τ 2) then (-1, τ) else if τ (300 + (18 * d + 8)) = 0 then (1, ev_up τ (300 + (18 * d + 7)) 0) else (1 - τ (300 + (18 * d + 7)), τ)
def p_tune (d a v : Int) (τ : ev_M) : Int × ev_M := if ¬ (0 ≤ d ∧ d < τ 2 ∧ 0 ≤ a ∧ a ≤ 1 ∧ 1 - a ≤ v ∧ v ≤ (if a = 0 then 9 else 60)) then (-1, τ) else if τ (300 + (18 * d + (3 + a))) = v then (-2, τ) else (τ (300 + (18 * d + (3 + a))), ev_up τ (300 + (18 * d + (3 + a))) v)
def p_device (d a : Int) (τ : ev_M) : Int × ev_M := (if ¬ (0 ≤ d ∧ d < τ 2 ∧ 0 ≤ a ∧ a ≤ 17) then -1 else if a = 12 then (if τ (300 + (18 * d + 11)) < 0 then -4 else τ (300 + (18 * d + 12))) else if a = 14 ∧ 0 ≤ τ (300 + (18 * d + 14)) then τ (300 + (18 * d + 14)) - τ 7 else τ (300 + (18 * d + a)), τ)
def p_row (d a i : Int) (τ : ev_M) : Int × ev_M := (if ¬ (0 ≤ d ∧ d < τ 2 ∧ 0 ≤ a ∧ a ≤ 1 ∧ 0 ≤ i) then -1 else if i < τ (300 + (18 * d + (15 + a))) then τ (420 + (24 * d + 12 * a + i)) else -4, τ)
def p_sum (a : Int) (τ : ev_M) : Int × ev_M := (if 0 ≤ a ∧ a ≤ 7 then τ (570 + a) else -1, τ)
def p_log (i a : Int) (τ : ev_M) : Int × ev_M := (if i < -1 ∨ ¬ (0 ≤ a ∧ a ≤ 2) then -1 else if i < 0 then τ 11 else if τ 11 ≤ i then -4 else if a = 0 then τ (580 + i) else if a = 1 then τ (600 + i) else τ (620 + i), τ)
def p_tick (n : Int) (τ : ev_M) : Int × ev_M := if 1 ≤ n ∧ n ≤ 500 then (m_ticks τ n.toNat 7, m_ticks τ n.toNat) else (-1, τ)
def p_command (c : Int) (τ : ev_M) : Int × ev_M := if 0 ≤ c ∧ c ≤ 127 then (m_sends c τ 7, m_sends c τ) else (-1, τ)
def p_takeBack (τ : ev_M) : Int × ev_M := (τ 5, ev_up (ev_up (ev_up (it (m_all 17 0) (it (m_all 6 0) (it (m_all 5 0) τ (τ 2).toNat) (τ 2).toNat) (τ 2).toNat) 9 0) 6 0) 5 0)
theorem s_X5_put {b d v : Int} {σ : ev_M} (hM : MI b σ) (hb : b ≤ 1000000000) : Ev jX5_put layM 0 [some (rv 0), some (iv d), some (iv v), none] [] σ (fun r σ' => (r, σ') = p_put d v σ) := by
  have h2 := hM.s2
  refine Ev.aload_n dX5_put_0 rfl ?_
  refine Ev.iload_n dX5_put_1 rfl ?_
  refine Ev.Vi1 (I' := jX5_isDevice) ml_X5_170 dX5_put_2 cyX5_isDevice lm_0 rfl (by decide) ⟨by decide, by decide⟩ (by simp) rfl rfl (s_X5_isDevice' (by omega)) (fun r σ' hr2 hq => ?_)
  obtain ⟨hq1, hq⟩ := hq
  replace hq := hq.symm
  subst hq
  refine Ev.if_eq (tgt := 19) dX5_put_5 rfl (fun c5 => ?_) (fun c5 => ?_)
  · skip
    refine Ev.iconst dX5_put_19 ⟨by decide, by decide⟩ ?_
    refine Ev.int rfl dX5_put_20 ?_
    unfold p_put
    repeat (first | rw [if_pos (by omega)] | rw [if_neg (by omega)])
    all_goals rfl
  · skip
    refine Ev.iload_n dX5_put_8 rfl ?_
    refine Ev.iconst dX5_put_9 ⟨by decide, by decide⟩ ?_
    refine Ev.sipush dX5_put_10 ⟨by decide, by decide⟩ (by decide) ?_
    refine Ev.Si3 (I' := jX5_isIn) ml_X5_82 dX5_put_13 cyX5_isIn (by decide) ⟨by decide, by decide⟩ (by simp) rfl rfl (s_X5_isIn') (fun r σ' hr13 hq => ?_)
    obtain ⟨hq1, hq⟩ := hq
    replace hq := hq.symm
    subst hq
    refine Ev.if_ne (tgt := 21) dX5_put_16 rfl (fun c16 => ?_) (fun c16 => ?_)
    · skip
      refine Ev.aload_n dX5_put_21 rfl ?_
      refine Ev.iload_n dX5_put_22 rfl ?_
      refine Ev.bipush dX5_put_23 ⟨by decide, by decide⟩ (by decide) ?_
      refine Ev.Vi2 (I' := jX5_of) ml_X5_100 dX5_put_25 cyX5_of lm_0 rfl (by decide) ⟨by decide, by decide⟩ (by simp) rfl rfl (s_X5_of (by omega) (by omega) (by omega) (by omega)) (fun r σ' hr25 hq => ?_)
      obtain ⟨rfl, hq⟩ := hq
      replace hq := hq.symm
      subst hq
      have a15 := hM.h15 (d := d) (by omega) (by omega)
      refine Ev.istore3 rfl dX5_put_28 ?_
      refine Ev.iload_n dX5_put_29 rfl ?_
      refine Ev.bipush dX5_put_30 ⟨by decide, by decide⟩ (by decide) ?_
      refine Ev.icmp_ne (tgt := 38) dX5_put_32 rfl (fun c32 => ?_) (fun c32 => ?_)
      · skip
        refine Ev.aload_n dX5_put_38 rfl ?_
        refine Ev.getr (420) dX5_put_39 fl_X5_16 lm_0 (by decide) rfl rfl ?_
        refine Ev.bipush dX5_put_42 ⟨by decide, by decide⟩ (by decide) ?_
        refine Ev.iload_n dX5_put_44 rfl ?_
        refine Ev.imul dX5_put_45 (by unfold ev_in; omega) ?_
        refine Ev.iload_n dX5_put_46 rfl ?_
        refine Ev.iadd dX5_put_47 (by unfold ev_in; omega) ?_
        refine Ev.iload_n dX5_put_48 rfl ?_
        refine Ev.iast dX5_put_49 lm_420 (by omega) (by omega) ?_
        refine Ev.aload_n dX5_put_50 rfl ?_
        refine Ev.iload_n dX5_put_51 rfl ?_
        refine Ev.bipush dX5_put_52 ⟨by decide, by decide⟩ (by decide) ?_
        refine Ev.iload_n dX5_put_54 rfl ?_
        refine Ev.iconst dX5_put_55 ⟨by decide, by decide⟩ ?_
        refine Ev.iadd dX5_put_56 (by unfold ev_in; omega) ?_
        refine Ev.Vv3 (I' := jX5_puts) ml_X5_47 dX5_put_57 cyX5_puts lm_0 rfl (by decide) ⟨by decide, by decide⟩ (by simp) rfl rfl (s_X5_puts (by omega) (by omega) (by omega) (by omega)) (fun σ' hq => ?_)
        subst hq
        refine Ev.iload_n dX5_put_60 rfl ?_
        refine Ev.iconst dX5_put_61 ⟨by decide, by decide⟩ ?_
        refine Ev.iadd dX5_put_62 (by unfold ev_in; omega) ?_
        refine Ev.int rfl dX5_put_63 ?_
        unfold p_put
        repeat (first | rw [if_pos (by omega)] | rw [if_neg (by omega)])
        all_goals rfl
      · skip
        refine Ev.bipush dX5_put_35 ⟨by decide, by decide⟩ (by decide) ?_
        refine Ev.int rfl dX5_put_37 ?_
        unfold p_put
        repeat (first | rw [if_pos (by omega)] | rw [if_neg (by omega)])
        all_goals rfl
    · skip
      refine Ev.iconst dX5_put_19 ⟨by decide, by decide⟩ ?_
      refine Ev.int rfl dX5_put_20 ?_
      unfold p_put
      repeat (first | rw [if_pos (by omega)] | rw [if_neg (by omega)])
      all_goals rfl
theorem s_X5_ask {b d s a : Int} {σ : ev_M} (hM : MI b σ) (hb : b ≤ 1000000000) : Ev jX5_ask layM 0 [some (rv 0), some (iv d), some (iv s), some (iv a), none] [] σ (fun r σ' => (r, σ') = p_ask d s a σ) := by
  have h2 := hM.s2
  refine Ev.aload_n dX5_ask_0 rfl ?_
  refine Ev.iload_n dX5_ask_1 rfl ?_
  refine Ev.Vi1 (I' := jX5_isDevice) ml_X5_170 dX5_ask_2 cyX5_isDevice lm_0 rfl (by decide) ⟨by decide, by decide⟩ (by simp) rfl rfl (s_X5_isDevice' (by omega)) (fun r σ' hr2 hq => ?_)
  obtain ⟨hq1, hq⟩ := hq
  replace hq := hq.symm
  subst hq
  refine Ev.if_eq (tgt := 27) dX5_ask_5 rfl (fun c5 => ?_) (fun c5 => ?_)
  · skip
    refine Ev.iconst dX5_ask_27 ⟨by decide, by decide⟩ ?_
    refine Ev.int rfl dX5_ask_28 ?_
    unfold p_ask
    repeat (first | rw [if_pos (by omega)] | rw [if_neg (by omega)])
    all_goals rfl
  · skip
    refine Ev.iload_n dX5_ask_8 rfl ?_
    refine Ev.iconst dX5_ask_9 ⟨by decide, by decide⟩ ?_
    refine Ev.bipush dX5_ask_10 ⟨by decide, by decide⟩ (by decide) ?_
    refine Ev.Si3 (I' := jX5_isIn) ml_X5_82 dX5_ask_12 cyX5_isIn (by decide) ⟨by decide, by decide⟩ (by simp) rfl rfl (s_X5_isIn') (fun r σ' hr12 hq => ?_)
    obtain ⟨hq1, hq⟩ := hq
    replace hq := hq.symm
    subst hq
    refine Ev.if_eq (tgt := 27) dX5_ask_15 rfl (fun c15 => ?_) (fun c15 => ?_)
    · skip
      refine Ev.iconst dX5_ask_27 ⟨by decide, by decide⟩ ?_
      refine Ev.int rfl dX5_ask_28 ?_
      unfold p_ask
      repeat (first | rw [if_pos (by omega)] | rw [if_neg (by omega)])
      all_goals rfl
    · skip
      refine Ev.iload_n dX5_ask_18 rfl ?_
      refine Ev.iconst dX5_ask_19 ⟨by decide, by decide⟩ ?_
      refine Ev.iconst dX5_ask_20 ⟨by decide, by decide⟩ ?_
      refine Ev.Si3 (I' := jX5_isIn) ml_X5_82 dX5_ask_21 cyX5_isIn (by decide) ⟨by decide, by decide⟩ (by simp) rfl rfl (s_X5_isIn') (fun r σ' hr21 hq => ?_)
      obtain ⟨hq1, hq⟩ := hq
      replace hq := hq.symm
      subst hq
      refine Ev.if_ne (tgt := 29) dX5_ask_24 rfl (fun c24 => ?_) (fun c24 => ?_)
      · skip
        refine Ev.aload_n dX5_ask_29 rfl ?_
        refine Ev.iload_n dX5_ask_30 rfl ?_
        refine Ev.bipush dX5_ask_31 ⟨by decide, by decide⟩ (by decide) ?_
        refine Ev.Vi2 (I' := jX5_of) ml_X5_100 dX5_ask_33 cyX5_of lm_0 rfl (by decide) ⟨by decide, by decide⟩ (by simp) rfl rfl (s_X5_of (by omega) (by omega) (by omega) (by omega)) (fun r σ' hr33 hq => ?_)
        obtain ⟨rfl, hq⟩ := hq
        replace hq := hq.symm
        subst hq
        refine Ev.bipush dX5_ask_36 ⟨by decide, by decide⟩ (by decide) ?_
        refine Ev.aload_n dX5_ask_38 rfl ?_
        refine Ev.iload_n dX5_ask_39 rfl ?_
        refine Ev.bipush dX5_ask_40 ⟨by decide, by decide⟩ (by decide) ?_
        refine Ev.Vi2 (I' := jX5_of) ml_X5_100 dX5_ask_42 cyX5_of lm_0 rfl (by decide) ⟨by decide, by decide⟩ (by simp) rfl rfl (s_X5_of (by omega) (by omega) (by omega) (by omega)) (fun r σ' hr42 hq => ?_)
        obtain ⟨rfl, hq⟩ := hq
        replace hq := hq.symm
        subst hq
        have a10 := hM.h10 (d := d) (by omega) (by omega)
        refine Ev.imul dX5_ask_45 (by unfold ev_in; omega) ?_
        have a9 := hM.h9 (d := d) (by omega) (by omega)
        refine Ev.iadd dX5_ask_46 (by unfold ev_in; omega) ?_
        refine Ev.istore4 dX5_ask_47 ?_
        refine Ev.aload_n dX5_ask_49 rfl ?_
        refine Ev.iload_n dX5_ask_50 rfl ?_
        refine Ev.bipush dX5_ask_51 ⟨by decide, by decide⟩ (by decide) ?_
        refine Ev.iload_n dX5_ask_53 rfl ?_
        refine Ev.Vv3 (I' := jX5_puts) ml_X5_47 dX5_ask_54 cyX5_puts lm_0 rfl (by decide) ⟨by decide, by decide⟩ (by simp) rfl rfl (s_X5_puts (by omega) (by omega) (by omega) (by omega)) (fun σ' hq => ?_)
        subst hq
        refine Ev.aload_n dX5_ask_57 rfl ?_
        refine Ev.iload_n dX5_ask_58 rfl ?_
        refine Ev.bipush dX5_ask_59 ⟨by decide, by decide⟩ (by decide) ?_
        refine Ev.iload_n dX5_ask_61 rfl ?_
        refine Ev.Vv3 (I' := jX5_puts) ml_X5_47 dX5_ask_62 cyX5_puts lm_0 rfl (by decide) ⟨by decide, by decide⟩ (by simp) rfl rfl (s_X5_puts (by omega) (by omega) (by omega) (by omega)) (fun σ' hq => ?_)
        subst hq
        refine Ev.iload dX5_ask_65 rfl ?_
        refine Ev.int rfl dX5_ask_67 ?_
        unfold p_ask
        repeat (first | rw [if_pos (by omega)] | rw [if_neg (by omega)])
        all_goals rfl
      · skip
        refine Ev.iconst dX5_ask_27 ⟨by decide, by decide⟩ ?_
        refine Ev.int rfl dX5_ask_28 ?_
        unfold p_ask
        repeat (first | rw [if_pos (by omega)] | rw [if_neg (by omega)])
        all_goals rfl
theorem s_X5_front {b d : Int} {σ : ev_M} (hM : MI b σ) (hb : b ≤ 1000000000) : Ev jX5_front layM 0 [some (rv 0), some (iv d)] [] σ (fun r σ' => (r, σ') = p_front d σ) := by
  have h2 := hM.s2
  refine Ev.aload_n dX5_front_0 rfl ?_
  refine Ev.iload_n dX5_front_1 rfl ?_
  refine Ev.Vi1 (I' := jX5_isDevice) ml_X5_170 dX5_front_2 cyX5_isDevice lm_0 rfl (by decide) ⟨by decide, by decide⟩ (by simp) rfl rfl (s_X5_isDevice' (by omega)) (fun r σ' hr2 hq => ?_)
  obtain ⟨hq1, hq⟩ := hq
  replace hq := hq.symm
  subst hq
  refine Ev.if_ne (tgt := 10) dX5_front_5 rfl (fun c5 => ?_) (fun c5 => ?_)
  · skip
    refine Ev.aload_n dX5_front_10 rfl ?_
    refine Ev.iload_n dX5_front_11 rfl ?_
    refine Ev.bipush dX5_front_12 ⟨by decide, by decide⟩ (by decide) ?_
    refine Ev.Vi2 (I' := jX5_of) ml_X5_100 dX5_front_14 cyX5_of lm_0 rfl (by decide) ⟨by decide, by decide⟩ (by simp) rfl rfl (s_X5_of (by omega) (by omega) (by omega) (by omega)) (fun r σ' hr14 hq => ?_)
    obtain ⟨rfl, hq⟩ := hq
    replace hq := hq.symm
    subst hq
    refine Ev.if_ne (tgt := 28) dX5_front_17 rfl (fun c17 => ?_) (fun c17 => ?_)
    · skip
      refine Ev.iconst dX5_front_28 ⟨by decide, by decide⟩ ?_
      refine Ev.aload_n dX5_front_29 rfl ?_
      refine Ev.iload_n dX5_front_30 rfl ?_
      refine Ev.bipush dX5_front_31 ⟨by decide, by decide⟩ (by decide) ?_
      refine Ev.Vi2 (I' := jX5_of) ml_X5_100 dX5_front_33 cyX5_of lm_0 rfl (by decide) ⟨by decide, by decide⟩ (by simp) rfl rfl (s_X5_of (by omega) (by omega) (by omega) (by omega)) (fun r σ' hr33 hq => ?_)
      obtain ⟨rfl, hq⟩ := hq
      replace hq := hq.symm
      subst hq
      have a7 := hM.h7 (d := d) (by omega) (by omega)
      refine Ev.isub dX5_front_36 (by unfold ev_in; omega) ?_
      refine Ev.int rfl dX5_front_37 ?_
      unfold p_front
      repeat (first | rw [if_pos (by omega)] | rw [if_neg (by omega)])
      all_goals rfl
    · skip
      refine Ev.aload_n dX5_front_20 rfl ?_
      refine Ev.iload_n dX5_front_21 rfl ?_
      refine Ev.bipush dX5_front_22 ⟨by decide, by decide⟩ (by decide) ?_
      refine Ev.iconst dX5_front_24 ⟨by decide, by decide⟩ ?_
      refine Ev.Vv3 (I' := jX5_puts) ml_X5_47 dX5_front_25 cyX5_puts lm_0 rfl (by decide) ⟨by decide, by decide⟩ (by simp) rfl rfl (s_X5_puts (by omega) (by omega) (by omega) (by omega)) (fun σ' hq => ?_)
      subst hq
      refine Ev.iconst dX5_front_28 ⟨by decide, by decide⟩ ?_
      refine Ev.aload_n dX5_front_29 rfl ?_
      refine Ev.iload_n dX5_front_30 rfl ?_
      refine Ev.bipush dX5_front_31 ⟨by decide, by decide⟩ (by decide) ?_
      refine Ev.Vi2 (I' := jX5_of) ml_X5_100 dX5_front_33 cyX5_of lm_0 rfl (by decide) ⟨by decide, by decide⟩ (by simp) rfl rfl (s_X5_of (by omega) (by omega) (by omega) (by omega)) (fun r σ' hr33 hq => ?_)
      obtain ⟨rfl, hq⟩ := hq
      replace hq := hq.symm
      subst hq
      try simp (disch := omega) only [ev_up_ne, ev_up_eqs]
      have a7 := hM.h7 (d := d) (by omega) (by omega)
      refine Ev.isub dX5_front_36 (by unfold ev_in; omega) ?_
      refine Ev.int rfl dX5_front_37 ?_
      unfold p_front
      repeat (first | rw [if_pos (by omega)] | rw [if_neg (by omega)])
      all_goals rfl
  · skip
    refine Ev.iconst dX5_front_8 ⟨by decide, by decide⟩ ?_
    refine Ev.int rfl dX5_front_9 ?_
    unfold p_front
    repeat (first | rw [if_pos (by omega)] | rw [if_neg (by omega)])
    all_goals rfl
theorem s_X5_tune {b d a v : Int} {σ : ev_M} (hM : MI b σ) (hb : b ≤ 1000000000) : Ev jX5_tune layM 0 [some (rv 0), some (iv d), some (iv a), some (iv v), none] [] σ (fun r σ' => (r, σ') = p_tune d a v σ) := by
  have h2 := hM.s2
  refine Ev.aload_n dX5_tune_0 rfl ?_
  refine Ev.iload_n dX5_tune_1 rfl ?_
  refine Ev.Vi1 (I' := jX5_isDevice) ml_X5_170 dX5_tune_2 cyX5_isDevice lm_0 rfl (by decide) ⟨by decide, by decide⟩ (by simp) rfl rfl (s_X5_isDevice' (by omega)) (fun r σ' hr2 hq => ?_)
  obtain ⟨hq1, hq⟩ := hq
  replace hq := hq.symm
  subst hq
  refine Ev.if_eq (tgt := 33) dX5_tune_5 rfl (fun c5 => ?_) (fun c5 => ?_)
  · skip
    refine Ev.iconst dX5_tune_33 ⟨by decide, by decide⟩ ?_
    refine Ev.int rfl dX5_tune_34 ?_
    unfold p_tune
    try rw [← hr9]
    repeat (first | rw [if_pos (by omega)] | rw [if_neg (by omega)])
  · skip
    refine Ev.iload_n dX5_tune_8 rfl ?_
    refine Ev.iconst dX5_tune_9 ⟨by decide, by decide⟩ ?_
    refine Ev.iconst dX5_tune_10 ⟨by decide, by decide⟩ ?_
    refine Ev.Si3 (I' := jX5_isIn) ml_X5_82 dX5_tune_11 cyX5_isIn (by decide) ⟨by decide, by decide⟩ (by simp) rfl rfl (s_X5_isIn') (fun r σ' hr11 hq => ?_)
    obtain ⟨hq1, hq⟩ := hq
    replace hq := hq.symm
    subst hq
    refine Ev.if_eq (tgt := 33) dX5_tune_14 rfl (fun c14 => ?_) (fun c14 => ?_)
    · skip
      refine Ev.iconst dX5_tune_33 ⟨by decide, by decide⟩ ?_
      refine Ev.int rfl dX5_tune_34 ?_
      unfold p_tune
      try rw [← hr9]
      repeat (first | rw [if_pos (by omega)] | rw [if_neg (by omega)])
    · skip
      have ea : a = 0 ∨ a = 1 := by omega
      refine Ev.iload_n dX5_tune_17 rfl ?_
      refine Ev.iconst dX5_tune_18 ⟨by decide, by decide⟩ ?_
      refine Ev.iload_n dX5_tune_19 rfl ?_
      refine Ev.isub dX5_tune_20 (by unfold ev_in; omega) ?_
      refine Ev.iconst dX5_tune_21 ⟨by decide, by decide⟩ ?_
      refine Ev.iload_n dX5_tune_22 rfl ?_
      refine Ev.iadd dX5_tune_23 (by unfold ev_in; omega) ?_
      refine Ev.Si1 (I' := jX5_highest) ml_X5_86 dX5_tune_24 cyX5_highest (by decide) ⟨by decide, by decide⟩ (by simp) rfl rfl (s_X5_highest) (fun r σ' hr24 hq => ?_)
      obtain ⟨hq2, hq⟩ := hq
      replace hq := hq.symm
      subst hq
      have hr9 : r = (if a = 0 then 9 else 60) := by rcases ea with rfl | rfl <;> simpa using hq2
      clear hq2
      refine Ev.Si3 (I' := jX5_isIn) ml_X5_82 dX5_tune_27 cyX5_isIn (by decide) ⟨by decide, by decide⟩ (by simp) rfl rfl (s_X5_isIn') (fun r σ' hr27 hq => ?_)
      obtain ⟨hq1, hq⟩ := hq
      replace hq := hq.symm
      subst hq
      refine Ev.if_ne (tgt := 35) dX5_tune_30 rfl (fun c30 => ?_) (fun c30 => ?_)
      · skip
        refine Ev.aload_n dX5_tune_35 rfl ?_
        refine Ev.iload_n dX5_tune_36 rfl ?_
        refine Ev.iconst dX5_tune_37 ⟨by decide, by decide⟩ ?_
        refine Ev.iload_n dX5_tune_38 rfl ?_
        refine Ev.iadd dX5_tune_39 (by unfold ev_in; omega) ?_
        refine Ev.Vi2 (I' := jX5_of) ml_X5_100 dX5_tune_40 cyX5_of lm_0 rfl (by decide) ⟨by decide, by decide⟩ (by simp) rfl rfl (s_X5_of (by omega) (by omega) (by omega) (by omega)) (fun r σ' hr40 hq => ?_)
        obtain ⟨rfl, hq⟩ := hq
        replace hq := hq.symm
        subst hq
        refine Ev.istore4 dX5_tune_43 ?_
        refine Ev.iload dX5_tune_45 rfl ?_
        refine Ev.iload_n dX5_tune_47 rfl ?_
        refine Ev.icmp_ne (tgt := 54) dX5_tune_48 rfl (fun c48 => ?_) (fun c48 => ?_)
        · skip
          refine Ev.aload_n dX5_tune_54 rfl ?_
          refine Ev.iload_n dX5_tune_55 rfl ?_
          refine Ev.iconst dX5_tune_56 ⟨by decide, by decide⟩ ?_
          refine Ev.iload_n dX5_tune_57 rfl ?_
          refine Ev.iadd dX5_tune_58 (by unfold ev_in; omega) ?_
          refine Ev.iload_n dX5_tune_59 rfl ?_
          refine Ev.Vv3 (I' := jX5_puts) ml_X5_47 dX5_tune_60 cyX5_puts lm_0 rfl (by decide) ⟨by decide, by decide⟩ (by simp) rfl rfl (s_X5_puts (by omega) (by omega) (by omega) (by omega)) (fun σ' hq => ?_)
          subst hq
          refine Ev.iload dX5_tune_63 rfl ?_
          refine Ev.int rfl dX5_tune_65 ?_
          unfold p_tune
          try rw [← hr9]
          repeat (first | rw [if_pos (by omega)] | rw [if_neg (by omega)])
        · skip
          refine Ev.bipush dX5_tune_51 ⟨by decide, by decide⟩ (by decide) ?_
          refine Ev.int rfl dX5_tune_53 ?_
          unfold p_tune
          try rw [← hr9]
          repeat (first | rw [if_pos (by omega)] | rw [if_neg (by omega)])
      · skip
        refine Ev.iconst dX5_tune_33 ⟨by decide, by decide⟩ ?_
        refine Ev.int rfl dX5_tune_34 ?_
        unfold p_tune
        try rw [← hr9]
        repeat (first | rw [if_pos (by omega)] | rw [if_neg (by omega)])
theorem s_X5_device {b d a : Int} {σ : ev_M} (hM : MI b σ) (hb : b ≤ 1000000000) : Ev jX5_device layM 0 [some (rv 0), some (iv d), some (iv a)] [] σ (fun r σ' => (r, σ') = p_device d a σ) := by
  have h2 := hM.s2
  refine Ev.aload_n dX5_device_0 rfl ?_
  refine Ev.iload_n dX5_device_1 rfl ?_
  refine Ev.Vi1 (I' := jX5_isDevice) ml_X5_170 dX5_device_2 cyX5_isDevice lm_0 rfl (by decide) ⟨by decide, by decide⟩ (by simp) rfl rfl (s_X5_isDevice' (by omega)) (fun r σ' hr2 hq => ?_)
  obtain ⟨hq1, hq⟩ := hq
  replace hq := hq.symm
  subst hq
  refine Ev.if_eq (tgt := 18) dX5_device_5 rfl (fun c5 => ?_) (fun c5 => ?_)
  · skip
    refine Ev.iconst dX5_device_18 ⟨by decide, by decide⟩ ?_
    refine Ev.int rfl dX5_device_19 ?_
    unfold p_device
    repeat (first | rw [if_pos (by omega)] | rw [if_neg (by omega)])
    all_goals rfl
  · skip
    refine Ev.iload_n dX5_device_8 rfl ?_
    refine Ev.iconst dX5_device_9 ⟨by decide, by decide⟩ ?_
    refine Ev.bipush dX5_device_10 ⟨by decide, by decide⟩ (by decide) ?_
    refine Ev.Si3 (I' := jX5_isIn) ml_X5_82 dX5_device_12 cyX5_isIn (by decide) ⟨by decide, by decide⟩ (by simp) rfl rfl (s_X5_isIn') (fun r σ' hr12 hq => ?_)
    obtain ⟨hq1, hq⟩ := hq
    replace hq := hq.symm
    subst hq
    refine Ev.if_ne (tgt := 20) dX5_device_15 rfl (fun c15 => ?_) (fun c15 => ?_)
    · skip
      refine Ev.iload_n dX5_device_20 rfl ?_
      refine Ev.bipush dX5_device_21 ⟨by decide, by decide⟩ (by decide) ?_
      refine Ev.icmp_ne (tgt := 49) dX5_device_23 rfl (fun c23 => ?_) (fun c23 => ?_)
      · skip
        refine Ev.iload_n dX5_device_49 rfl ?_
        refine Ev.bipush dX5_device_50 ⟨by decide, by decide⟩ (by decide) ?_
        refine Ev.icmp_ne (tgt := 80) dX5_device_52 rfl (fun c52 => ?_) (fun c52 => ?_)
        · skip
          refine Ev.aload_n dX5_device_80 rfl ?_
          refine Ev.iload_n dX5_device_81 rfl ?_
          refine Ev.iload_n dX5_device_82 rfl ?_
          refine Ev.Vi2 (I' := jX5_of) ml_X5_100 dX5_device_83 cyX5_of lm_0 rfl (by decide) ⟨by decide, by decide⟩ (by simp) rfl rfl (s_X5_of (by omega) (by omega) (by omega) (by omega)) (fun r σ' hr83 hq => ?_)
          obtain ⟨rfl, hq⟩ := hq
          replace hq := hq.symm
          subst hq
          refine Ev.int rfl dX5_device_86 ?_
          unfold p_device
          repeat (first | rw [if_pos (by omega)] | rw [if_neg (by omega)])
          all_goals rfl
        · skip
          refine Ev.aload_n dX5_device_55 rfl ?_
          refine Ev.iload_n dX5_device_56 rfl ?_
          refine Ev.bipush dX5_device_57 ⟨by decide, by decide⟩ (by decide) ?_
          refine Ev.Vi2 (I' := jX5_of) ml_X5_100 dX5_device_59 cyX5_of lm_0 rfl (by decide) ⟨by decide, by decide⟩ (by simp) rfl rfl (s_X5_of (by omega) (by omega) (by omega) (by omega)) (fun r σ' hr59 hq => ?_)
          obtain ⟨rfl, hq⟩ := hq
          replace hq := hq.symm
          subst hq
          refine Ev.if_lt (tgt := 80) dX5_device_62 rfl (fun c62 => ?_) (fun c62 => ?_)
          · skip
            refine Ev.aload_n dX5_device_80 rfl ?_
            refine Ev.iload_n dX5_device_81 rfl ?_
            refine Ev.iload_n dX5_device_82 rfl ?_
            refine Ev.Vi2 (I' := jX5_of) ml_X5_100 dX5_device_83 cyX5_of lm_0 rfl (by decide) ⟨by decide, by decide⟩ (by simp) rfl rfl (s_X5_of (by omega) (by omega) (by omega) (by omega)) (fun r σ' hr83 hq => ?_)
            obtain ⟨rfl, hq⟩ := hq
            replace hq := hq.symm
            subst hq
            refine Ev.int rfl dX5_device_86 ?_
            unfold p_device
            repeat (first | rw [if_pos (by omega)] | rw [if_neg (by omega)])
            all_goals rfl
          · skip
            refine Ev.aload_n dX5_device_65 rfl ?_
            refine Ev.iload_n dX5_device_66 rfl ?_
            refine Ev.bipush dX5_device_67 ⟨by decide, by decide⟩ (by decide) ?_
            refine Ev.Vi2 (I' := jX5_of) ml_X5_100 dX5_device_69 cyX5_of lm_0 rfl (by decide) ⟨by decide, by decide⟩ (by simp) rfl rfl (s_X5_of (by omega) (by omega) (by omega) (by omega)) (fun r σ' hr69 hq => ?_)
            obtain ⟨rfl, hq⟩ := hq
            replace hq := hq.symm
            subst hq
            refine Ev.aload_n dX5_device_72 rfl ?_
            refine Ev.geti (7) dX5_device_73 fl_X5_57 lm_0 (by decide) rfl rfl ?_
            have a14 := hM.h14 (d := d) (by omega) (by omega)
            have a7 := hM.s7
            refine Ev.isub dX5_device_76 (by unfold ev_in; omega) ?_
            refine Ev.goto (tgt := 86) dX5_device_77 rfl ?_
            refine Ev.int rfl dX5_device_86 ?_
            unfold p_device
            repeat (first | rw [if_pos (by omega)] | rw [if_neg (by omega)])
            all_goals rfl
      · skip
        refine Ev.aload_n dX5_device_26 rfl ?_
        refine Ev.iload_n dX5_device_27 rfl ?_
        refine Ev.bipush dX5_device_28 ⟨by decide, by decide⟩ (by decide) ?_
        refine Ev.Vi2 (I' := jX5_of) ml_X5_100 dX5_device_30 cyX5_of lm_0 rfl (by decide) ⟨by decide, by decide⟩ (by simp) rfl rfl (s_X5_of (by omega) (by omega) (by omega) (by omega)) (fun r σ' hr30 hq => ?_)
        obtain ⟨rfl, hq⟩ := hq
        replace hq := hq.symm
        subst hq
        refine Ev.if_ge (tgt := 41) dX5_device_33 rfl (fun c33 => ?_) (fun c33 => ?_)
        · skip
          refine Ev.aload_n dX5_device_41 rfl ?_
          refine Ev.iload_n dX5_device_42 rfl ?_
          refine Ev.bipush dX5_device_43 ⟨by decide, by decide⟩ (by decide) ?_
          refine Ev.Vi2 (I' := jX5_of) ml_X5_100 dX5_device_45 cyX5_of lm_0 rfl (by decide) ⟨by decide, by decide⟩ (by simp) rfl rfl (s_X5_of (by omega) (by omega) (by omega) (by omega)) (fun r σ' hr45 hq => ?_)
          obtain ⟨rfl, hq⟩ := hq
          replace hq := hq.symm
          subst hq
          refine Ev.int rfl dX5_device_48 ?_
          unfold p_device
          repeat (first | rw [if_pos (by omega)] | rw [if_neg (by omega)])
          all_goals rfl
        · skip
          refine Ev.bipush dX5_device_36 ⟨by decide, by decide⟩ (by decide) ?_
          refine Ev.goto (tgt := 48) dX5_device_38 rfl ?_
          refine Ev.int rfl dX5_device_48 ?_
          unfold p_device
          repeat (first | rw [if_pos (by omega)] | rw [if_neg (by omega)])
          all_goals rfl
    · skip
      refine Ev.iconst dX5_device_18 ⟨by decide, by decide⟩ ?_
      refine Ev.int rfl dX5_device_19 ?_
      unfold p_device
      repeat (first | rw [if_pos (by omega)] | rw [if_neg (by omega)])
      all_goals rfl
theorem s_X5_row {b d a i : Int} {σ : ev_M} (hM : MI b σ) (hb : b ≤ 1000000000) : Ev jX5_row layM 0 [some (rv 0), some (iv d), some (iv a), some (iv i)] [] σ (fun r σ' => (r, σ') = p_row d a i σ) := by
  have h2 := hM.s2
  refine Ev.aload_n dX5_row_0 rfl ?_
  refine Ev.iload_n dX5_row_1 rfl ?_
  refine Ev.Vi1 (I' := jX5_isDevice) ml_X5_170 dX5_row_2 cyX5_isDevice lm_0 rfl (by decide) ⟨by decide, by decide⟩ (by simp) rfl rfl (s_X5_isDevice' (by omega)) (fun r σ' hr2 hq => ?_)
  obtain ⟨hq1, hq⟩ := hq
  replace hq := hq.symm
  subst hq
  refine Ev.if_eq (tgt := 21) dX5_row_5 rfl (fun c5 => ?_) (fun c5 => ?_)
  · skip
    refine Ev.iconst dX5_row_21 ⟨by decide, by decide⟩ ?_
    refine Ev.int rfl dX5_row_22 ?_
    unfold p_row
    repeat (first | rw [if_pos (by omega)] | rw [if_neg (by omega)])
    all_goals rfl
  · skip
    refine Ev.iload_n dX5_row_8 rfl ?_
    refine Ev.iconst dX5_row_9 ⟨by decide, by decide⟩ ?_
    refine Ev.iconst dX5_row_10 ⟨by decide, by decide⟩ ?_
    refine Ev.Si3 (I' := jX5_isIn) ml_X5_82 dX5_row_11 cyX5_isIn (by decide) ⟨by decide, by decide⟩ (by simp) rfl rfl (s_X5_isIn') (fun r σ' hr11 hq => ?_)
    obtain ⟨hq1, hq⟩ := hq
    replace hq := hq.symm
    subst hq
    refine Ev.if_eq (tgt := 21) dX5_row_14 rfl (fun c14 => ?_) (fun c14 => ?_)
    · skip
      refine Ev.iconst dX5_row_21 ⟨by decide, by decide⟩ ?_
      refine Ev.int rfl dX5_row_22 ?_
      unfold p_row
      repeat (first | rw [if_pos (by omega)] | rw [if_neg (by omega)])
      all_goals rfl
    · skip
      refine Ev.iload_n dX5_row_17 rfl ?_
      refine Ev.if_ge (tgt := 23) dX5_row_18 rfl (fun c18 => ?_) (fun c18 => ?_)
      · skip
        refine Ev.iload_n dX5_row_23 rfl ?_
        refine Ev.aload_n dX5_row_24 rfl ?_
        refine Ev.iload_n dX5_row_25 rfl ?_
        refine Ev.bipush dX5_row_26 ⟨by decide, by decide⟩ (by decide) ?_
        refine Ev.iload_n dX5_row_28 rfl ?_
        refine Ev.iadd dX5_row_29 (by unfold ev_in; omega) ?_
        refine Ev.Vi2 (I' := jX5_of) ml_X5_100 dX5_row_30 cyX5_of lm_0 rfl (by decide) ⟨by decide, by decide⟩ (by simp) rfl rfl (s_X5_of (by omega) (by omega) (by omega) (by omega)) (fun r σ' hr30 hq => ?_)
        obtain ⟨rfl, hq⟩ := hq
        replace hq := hq.symm
        subst hq
        have a15 : 0 ≤ σ (300 + (18 * d + (15 + a))) ∧ σ (300 + (18 * d + (15 + a))) ≤ 12 := by
          rcases (show a = 0 ∨ a = 1 by omega) with rfl | rfl
          · exact hM.h15 (by omega) (by omega)
          · exact hM.h16 (by omega) (by omega)
        refine Ev.icmp_ge (tgt := 55) dX5_row_33 rfl (fun c33 => ?_) (fun c33 => ?_)
        · skip
          refine Ev.bipush dX5_row_55 ⟨by decide, by decide⟩ (by decide) ?_
          refine Ev.int rfl dX5_row_57 ?_
          unfold p_row
          repeat (first | rw [if_pos (by omega)] | rw [if_neg (by omega)])
          all_goals rfl
        · skip
          refine Ev.aload_n dX5_row_36 rfl ?_
          refine Ev.getr (420) dX5_row_37 fl_X5_16 lm_0 (by decide) rfl rfl ?_
          refine Ev.bipush dX5_row_40 ⟨by decide, by decide⟩ (by decide) ?_
          refine Ev.iload_n dX5_row_42 rfl ?_
          refine Ev.imul dX5_row_43 (by unfold ev_in; omega) ?_
          refine Ev.bipush dX5_row_44 ⟨by decide, by decide⟩ (by decide) ?_
          refine Ev.iload_n dX5_row_46 rfl ?_
          refine Ev.imul dX5_row_47 (by unfold ev_in; omega) ?_
          refine Ev.iadd dX5_row_48 (by unfold ev_in; omega) ?_
          refine Ev.iload_n dX5_row_49 rfl ?_
          refine Ev.iadd dX5_row_50 (by unfold ev_in; omega) ?_
          refine Ev.iald dX5_row_51 lm_420 (Or.inl rfl) (by omega) (by omega) ?_
          refine Ev.goto (tgt := 57) dX5_row_52 rfl ?_
          refine Ev.int rfl dX5_row_57 ?_
          unfold p_row
          repeat (first | rw [if_pos (by omega)] | rw [if_neg (by omega)])
          all_goals rfl
      · skip
        refine Ev.iconst dX5_row_21 ⟨by decide, by decide⟩ ?_
        refine Ev.int rfl dX5_row_22 ?_
        unfold p_row
        repeat (first | rw [if_pos (by omega)] | rw [if_neg (by omega)])
        all_goals rfl
theorem s_X5_sum {b a : Int} {σ : ev_M} (hM : MI b σ) (hb : b ≤ 1000000000) : Ev jX5_sum layM 0 [some (rv 0), some (iv a)] [] σ (fun r σ' => (r, σ') = p_sum a σ) := by
  have h2 := hM.s2
  refine Ev.iload_n dX5_sum_0 rfl ?_
  refine Ev.iconst dX5_sum_1 ⟨by decide, by decide⟩ ?_
  refine Ev.bipush dX5_sum_2 ⟨by decide, by decide⟩ (by decide) ?_
  refine Ev.Si3 (I' := jX5_isIn) ml_X5_82 dX5_sum_4 cyX5_isIn (by decide) ⟨by decide, by decide⟩ (by simp) rfl rfl (s_X5_isIn') (fun r σ' hr4 hq => ?_)
  obtain ⟨hq1, hq⟩ := hq
  replace hq := hq.symm
  subst hq
  refine Ev.if_eq (tgt := 19) dX5_sum_7 rfl (fun c7 => ?_) (fun c7 => ?_)
  · skip
    refine Ev.iconst dX5_sum_19 ⟨by decide, by decide⟩ ?_
    refine Ev.int rfl dX5_sum_20 ?_
    unfold p_sum
    repeat (first | rw [if_pos (by omega)] | rw [if_neg (by omega)])
    all_goals rfl
  · skip
    refine Ev.aload_n dX5_sum_10 rfl ?_
    refine Ev.getr (570) dX5_sum_11 fl_X5_19 lm_0 (by decide) rfl rfl ?_
    refine Ev.iload_n dX5_sum_14 rfl ?_
    refine Ev.iald dX5_sum_15 lm_570 (Or.inl rfl) (by omega) (by omega) ?_
    refine Ev.goto (tgt := 20) dX5_sum_16 rfl ?_
    refine Ev.int rfl dX5_sum_20 ?_
    unfold p_sum
    repeat (first | rw [if_pos (by omega)] | rw [if_neg (by omega)])
    all_goals rfl
theorem s_X5_log {b i a : Int} {σ : ev_M} (hM : MI b σ) (hb : b ≤ 1000000000) : Ev jX5_log layM 0 [some (rv 0), some (iv i), some (iv a)] [] σ (fun r σ' => (r, σ') = p_log i a σ) := by
  have h2 := hM.s2
  have h11 := hM.s11
  refine Ev.iload_n dX5_log_0 rfl ?_
  refine Ev.iconst dX5_log_1 ⟨by decide, by decide⟩ ?_
  refine Ev.icmp_lt (tgt := 14) dX5_log_2 rfl (fun c2 => ?_) (fun c2 => ?_)
  · skip
    refine Ev.iconst dX5_log_14 ⟨by decide, by decide⟩ ?_
    refine Ev.int rfl dX5_log_15 ?_
    unfold p_log
    repeat (first | rw [if_pos (by omega)] | rw [if_neg (by omega)])
    all_goals rfl
  · skip
    refine Ev.iload_n dX5_log_5 rfl ?_
    refine Ev.iconst dX5_log_6 ⟨by decide, by decide⟩ ?_
    refine Ev.iconst dX5_log_7 ⟨by decide, by decide⟩ ?_
    refine Ev.Si3 (I' := jX5_isIn) ml_X5_82 dX5_log_8 cyX5_isIn (by decide) ⟨by decide, by decide⟩ (by simp) rfl rfl (s_X5_isIn') (fun r σ' hr8 hq => ?_)
    obtain ⟨hq1, hq⟩ := hq
    replace hq := hq.symm
    subst hq
    refine Ev.if_ne (tgt := 16) dX5_log_11 rfl (fun c11 => ?_) (fun c11 => ?_)
    · skip
      refine Ev.iload_n dX5_log_16 rfl ?_
      refine Ev.if_ge (tgt := 25) dX5_log_17 rfl (fun c17 => ?_) (fun c17 => ?_)
      · skip
        refine Ev.iload_n dX5_log_25 rfl ?_
        refine Ev.aload_n dX5_log_26 rfl ?_
        refine Ev.geti (11) dX5_log_27 fl_X5_66 lm_0 (by decide) rfl rfl ?_
        refine Ev.icmp_lt (tgt := 38) dX5_log_30 rfl (fun c30 => ?_) (fun c30 => ?_)
        · skip
          refine Ev.iload_n dX5_log_38 rfl ?_
          refine Ev.if_ne (tgt := 51) dX5_log_39 rfl (fun c39 => ?_) (fun c39 => ?_)
          · skip
            refine Ev.iload_n dX5_log_51 rfl ?_
            refine Ev.iconst dX5_log_52 ⟨by decide, by decide⟩ ?_
            refine Ev.icmp_ne (tgt := 65) dX5_log_53 rfl (fun c53 => ?_) (fun c53 => ?_)
            · skip
              refine Ev.aload_n dX5_log_65 rfl ?_
              refine Ev.getr (620) dX5_log_66 fl_X5_28 lm_0 (by decide) rfl rfl ?_
              refine Ev.iload_n dX5_log_69 rfl ?_
              refine Ev.iald dX5_log_70 lm_620 (Or.inl rfl) (by omega) (by omega) ?_
              refine Ev.int rfl dX5_log_71 ?_
              unfold p_log
              repeat (first | rw [if_pos (by omega)] | rw [if_neg (by omega)])
              all_goals rfl
            · skip
              refine Ev.aload_n dX5_log_56 rfl ?_
              refine Ev.getr (600) dX5_log_57 fl_X5_25 lm_0 (by decide) rfl rfl ?_
              refine Ev.iload_n dX5_log_60 rfl ?_
              refine Ev.iald dX5_log_61 lm_600 (Or.inl rfl) (by omega) (by omega) ?_
              refine Ev.goto (tgt := 71) dX5_log_62 rfl ?_
              refine Ev.int rfl dX5_log_71 ?_
              unfold p_log
              repeat (first | rw [if_pos (by omega)] | rw [if_neg (by omega)])
              all_goals rfl
          · skip
            refine Ev.aload_n dX5_log_42 rfl ?_
            refine Ev.getr (580) dX5_log_43 fl_X5_22 lm_0 (by decide) rfl rfl ?_
            refine Ev.iload_n dX5_log_46 rfl ?_
            refine Ev.iald dX5_log_47 lm_580 (Or.inl rfl) (by omega) (by omega) ?_
            refine Ev.goto (tgt := 71) dX5_log_48 rfl ?_
            refine Ev.int rfl dX5_log_71 ?_
            unfold p_log
            repeat (first | rw [if_pos (by omega)] | rw [if_neg (by omega)])
            all_goals rfl
        · skip
          refine Ev.bipush dX5_log_33 ⟨by decide, by decide⟩ (by decide) ?_
          refine Ev.goto (tgt := 71) dX5_log_35 rfl ?_
          refine Ev.int rfl dX5_log_71 ?_
          unfold p_log
          repeat (first | rw [if_pos (by omega)] | rw [if_neg (by omega)])
          all_goals rfl
      · skip
        refine Ev.aload_n dX5_log_20 rfl ?_
        refine Ev.geti (11) dX5_log_21 fl_X5_66 lm_0 (by decide) rfl rfl ?_
        refine Ev.int rfl dX5_log_24 ?_
        unfold p_log
        repeat (first | rw [if_pos (by omega)] | rw [if_neg (by omega)])
        all_goals rfl
    · skip
      refine Ev.iconst dX5_log_14 ⟨by decide, by decide⟩ ?_
      refine Ev.int rfl dX5_log_15 ?_
      unfold p_log
      repeat (first | rw [if_pos (by omega)] | rw [if_neg (by omega)])
      all_goals rfl
theorem s_X5_tick {b n : Int} {σ : ev_M} (hM : MI b σ) (hb : b ≤ 900000000) : Ev jX5_tick layM 0 [some (rv 0), some (iv n)] [] σ (fun r σ' => (r, σ') = p_tick n σ) := by
  refine Ev.iload_n dX5_tick_0 rfl ?_
  refine Ev.iconst dX5_tick_1 ⟨by decide, by decide⟩ ?_
  refine Ev.sipush dX5_tick_2 ⟨by decide, by decide⟩ (by decide) ?_
  refine Ev.Si3 (I' := jX5_isIn) ml_X5_82 dX5_tick_5 cyX5_isIn (by decide) ⟨by decide, by decide⟩ (by simp) rfl rfl (s_X5_isIn') (fun r σ' hr5 hq => ?_)
  obtain ⟨hq1, hq⟩ := hq
  replace hq := hq.symm
  subst hq
  refine Ev.if_ne (tgt := 13) dX5_tick_8 rfl (fun c8 => ?_) (fun c8 => ?_)
  · skip
    refine Ev.aload_n dX5_tick_13 rfl ?_
    refine Ev.iload_n dX5_tick_14 rfl ?_
    refine Ev.Vv1 (I' := jX5_ticks) ml_X5_107 dX5_tick_15 cyX5_ticks lm_0 rfl (by decide) ⟨by decide, by decide⟩ (by simp) rfl rfl (s_X5_ticks (by omega) (by omega) hM hb) (fun σ' hq => ?_)
    subst hq
    refine Ev.aload_n dX5_tick_18 rfl ?_
    refine Ev.geti (7) dX5_tick_19 fl_X5_57 lm_0 (by decide) rfl rfl ?_
    refine Ev.int rfl dX5_tick_22 ?_
    unfold p_tick
    first | rw [if_pos (by omega)] | rw [if_neg (by omega)]
  · skip
    refine Ev.iconst dX5_tick_11 ⟨by decide, by decide⟩ ?_
    refine Ev.int rfl dX5_tick_12 ?_
    unfold p_tick
    first | rw [if_pos (by omega)] | rw [if_neg (by omega)]
theorem s_X5_command {b c : Int} {σ : ev_M} (hM : MI b σ) (hb : b ≤ 800000000) : Ev jX5_command layM 0 [some (rv 0), some (iv c)] [] σ (fun r σ' => (r, σ') = p_command c σ) := by
  refine Ev.iload_n dX5_command_0 rfl ?_
  refine Ev.iconst dX5_command_1 ⟨by decide, by decide⟩ ?_
  refine Ev.bipush dX5_command_2 ⟨by decide, by decide⟩ (by decide) ?_
  refine Ev.Si3 (I' := jX5_isIn) ml_X5_82 dX5_command_4 cyX5_isIn (by decide) ⟨by decide, by decide⟩ (by simp) rfl rfl (s_X5_isIn') (fun r σ' hr4 hq => ?_)
  obtain ⟨hq1, hq⟩ := hq
  replace hq := hq.symm
  subst hq
  refine Ev.if_ne (tgt := 12) dX5_command_7 rfl (fun c7 => ?_) (fun c7 => ?_)
  · skip
    refine Ev.aload_n dX5_command_12 rfl ?_
    refine Ev.iload_n dX5_command_13 rfl ?_
    refine Ev.Vv1 (I' := jX5_sends) ml_X5_154 dX5_command_14 cyX5_sends lm_0 rfl (by decide) ⟨by decide, by decide⟩ (by simp) rfl rfl (s_X5_sends hM hb (by omega) (by omega)) (fun σ' hq => ?_)
    subst hq
    refine Ev.aload_n dX5_command_17 rfl ?_
    refine Ev.geti (7) dX5_command_18 fl_X5_57 lm_0 (by decide) rfl rfl ?_
    refine Ev.int rfl dX5_command_21 ?_
    unfold p_command
    first | rw [if_pos (by omega)] | rw [if_neg (by omega)]
  · skip
    refine Ev.iconst dX5_command_10 ⟨by decide, by decide⟩ ?_
    refine Ev.int rfl dX5_command_11 ?_
    unfold p_command
    first | rw [if_pos (by omega)] | rw [if_neg (by omega)]
theorem s_X5_takeBack {b : Int} {σ : ev_M} (hM : MI b σ) : Ev jX5_takeBack layM 0 [some (rv 0), none] [] σ (fun r σ' => (r, σ') = p_takeBack σ) := by
  have h2 := hM.s2
  refine Ev.aload_n dX5_takeBack_0 rfl ?_
  refine Ev.geti (5) dX5_takeBack_1 fl_X5_51 lm_0 (by decide) rfl rfl ?_
  refine Ev.istore1 rfl dX5_takeBack_4 ?_
  refine Ev.aload_n dX5_takeBack_5 rfl ?_
  refine Ev.iconst dX5_takeBack_6 ⟨by decide, by decide⟩ ?_
  refine Ev.iconst dX5_takeBack_7 ⟨by decide, by decide⟩ ?_
  refine Ev.Vv2 (I' := jX5_all) ml_X5_142 dX5_takeBack_8 cyX5_all lm_0 rfl (by decide) ⟨by decide, by decide⟩ (by simp) rfl rfl (s_X5_all (by decide) (by decide) (by first | omega | (simp (disch := omega) only [it_all_o]; omega)) (by first | omega | (simp (disch := omega) only [it_all_o]; omega))) (fun σ' hq => ?_)
  subst hq
  try simp (disch := omega) only [it_all_o]
  refine Ev.aload_n dX5_takeBack_11 rfl ?_
  refine Ev.bipush dX5_takeBack_12 ⟨by decide, by decide⟩ (by decide) ?_
  refine Ev.iconst dX5_takeBack_14 ⟨by decide, by decide⟩ ?_
  refine Ev.Vv2 (I' := jX5_all) ml_X5_142 dX5_takeBack_15 cyX5_all lm_0 rfl (by decide) ⟨by decide, by decide⟩ (by simp) rfl rfl (s_X5_all (by decide) (by decide) (by first | omega | (simp (disch := omega) only [it_all_o]; omega)) (by first | omega | (simp (disch := omega) only [it_all_o]; omega))) (fun σ' hq => ?_)
  subst hq
  try simp (disch := omega) only [it_all_o]
  refine Ev.aload_n dX5_takeBack_18 rfl ?_
  refine Ev.bipush dX5_takeBack_19 ⟨by decide, by decide⟩ (by decide) ?_
  refine Ev.iconst dX5_takeBack_21 ⟨by decide, by decide⟩ ?_
  refine Ev.Vv2 (I' := jX5_all) ml_X5_142 dX5_takeBack_22 cyX5_all lm_0 rfl (by decide) ⟨by decide, by decide⟩ (by simp) rfl rfl (s_X5_all (by decide) (by decide) (by first | omega | (simp (disch := omega) only [it_all_o]; omega)) (by first | omega | (simp (disch := omega) only [it_all_o]; omega))) (fun σ' hq => ?_)
  subst hq
  try simp (disch := omega) only [it_all_o]
  refine Ev.aload_n dX5_takeBack_25 rfl ?_
  refine Ev.iconst dX5_takeBack_26 ⟨by decide, by decide⟩ ?_
  refine Ev.puti (9) dX5_takeBack_27 fl_X5_63 ft_5_9 lm_0 (by decide) rfl rfl ?_
  refine Ev.aload_n dX5_takeBack_30 rfl ?_
  refine Ev.iconst dX5_takeBack_31 ⟨by decide, by decide⟩ ?_
  refine Ev.puti (6) dX5_takeBack_32 fl_X5_54 ft_5_6 lm_0 (by decide) rfl rfl ?_
  refine Ev.aload_n dX5_takeBack_35 rfl ?_
  refine Ev.iconst dX5_takeBack_36 ⟨by decide, by decide⟩ ?_
  refine Ev.puti (5) dX5_takeBack_37 fl_X5_51 ft_5_5 lm_0 (by decide) rfl rfl ?_
  refine Ev.iload_n dX5_takeBack_40 rfl ?_
  refine Ev.int rfl dX5_takeBack_41 ?_
  rfl
def aar (τ : ev_M) : Nat → Int
  | 0 => 0
  | k + 1 => ev_or (aar τ k) (τ (300 + (18 * (k : Int) + 10)))
def m_any (τ : ev_M) : Int := aar τ (τ 2).toNat
theorem s_X5_anyAsks {σ : ev_M} (h2 : 0 ≤ σ 2) (h2' : σ 2 ≤ 6) : Ev jX5_anyAsks layM 0 [some (rv 0), none, none] [] σ (fun r σ' => r = m_any σ ∧ σ' = σ) := by
  have loop : ∀ (j k : Nat), (k : Int) + j = σ 2 → Ev jX5_anyAsks layM 4 [some (rv 0), some (iv (aar σ k)), some (iv (k : Int))] [] σ (fun r σ' => r = m_any σ ∧ σ' = σ) := by
    intro j
    induction j with
    | zero =>
      intro k hk
      refine Ev.iload_n dX5_anyAsks_4 rfl ?_
      refine Ev.aload_n dX5_anyAsks_5 rfl ?_
      refine Ev.geti (2) dX5_anyAsks_6 fl_X5_44 lm_0 (by decide) rfl rfl ?_
      refine Ev.icmp_ge (tgt := 28) dX5_anyAsks_9 rfl (fun c9 => ?_) (fun c9 => ?_)
      · skip
        refine Ev.iload_n dX5_anyAsks_28 rfl ?_
        refine Ev.int rfl dX5_anyAsks_29 ?_
        refine ⟨?_, rfl⟩
        unfold m_any
        rw [show (σ 2).toNat = k by omega]
      · skip
        exact absurd c9 (by omega)
    | succ j ih =>
      intro k hk
      refine Ev.iload_n dX5_anyAsks_4 rfl ?_
      refine Ev.aload_n dX5_anyAsks_5 rfl ?_
      refine Ev.geti (2) dX5_anyAsks_6 fl_X5_44 lm_0 (by decide) rfl rfl ?_
      refine Ev.icmp_ge (tgt := 28) dX5_anyAsks_9 rfl (fun c9 => ?_) (fun c9 => ?_)
      · skip
        exact absurd c9 (by omega)
      · skip
        refine Ev.iload_n dX5_anyAsks_12 rfl ?_
        refine Ev.aload_n dX5_anyAsks_13 rfl ?_
        refine Ev.iload_n dX5_anyAsks_14 rfl ?_
        refine Ev.bipush dX5_anyAsks_15 ⟨by decide, by decide⟩ (by decide) ?_
        refine Ev.Vi2 (I' := jX5_of) ml_X5_100 dX5_anyAsks_17 cyX5_of lm_0 rfl (by decide) ⟨by decide, by decide⟩ (by simp) rfl rfl (s_X5_of (by omega) (by omega) (by decide) (by decide)) (fun r σ' hr17 hq => ?_)
        obtain ⟨rfl, hq⟩ := hq
        replace hq := hq.symm
        subst hq
        refine Ev.ior dX5_anyAsks_20 ?_
        refine Ev.istore1 rfl dX5_anyAsks_21 ?_
        refine Ev.iinc2 dX5_anyAsks_22 (by unfold ev_in; omega) ?_
        refine Ev.goto (tgt := 4) dX5_anyAsks_25 rfl ?_
        exact ih (k + 1) (by omega)
  refine Ev.iconst dX5_anyAsks_0 ⟨by decide, by decide⟩ ?_
  refine Ev.istore1 rfl dX5_anyAsks_1 ?_
  refine Ev.iconst dX5_anyAsks_2 ⟨by decide, by decide⟩ ?_
  refine Ev.istore2 rfl dX5_anyAsks_3 ?_
  exact loop (σ 2).toNat 0 (by omega)
def par (τ : ev_M) : Nat → Int
  | 0 => 0
  | k + 1 => ev_or (par τ k) (if 0 ≤ τ (300 + (18 * (k : Int) + 11)) ∧ τ (300 + (18 * (k : Int) + 10)) = τ (300 + (18 * (k : Int) + 12)) then ev_shl 1 (τ (300 + (18 * (k : Int) + 11))) else 0)
def p_parallel (τ : ev_M) : Int × ev_M := (par (m_ticks τ 1) (τ 2).toNat, m_ticks τ 1)
theorem s_X5_parallel {b : Int} {σ : ev_M} (hM : MI b σ) (hb : b ≤ 900000000) : Ev jX5_parallel layM 0 [some (rv 0), none, none] [] σ (fun r σ' => (r, σ') = p_parallel σ) := by
  have h2 := hM.s2
  have e2 : m_ticks σ 1 2 = σ 2 := m_ticks_o hM (by decide) (by decide) 1
  have loop : ∀ (j k : Nat), (k : Int) + j = σ 2 → Ev jX5_parallel layM 9 [some (rv 0), some (iv (par (m_ticks σ 1) k)), some (iv (k : Int))] [] (m_ticks σ 1) (fun r σ' => (r, σ') = p_parallel σ) := by
    intro j
    induction j with
    | zero =>
      intro k hk
      refine Ev.iload_n dX5_parallel_9 rfl ?_
      refine Ev.aload_n dX5_parallel_10 rfl ?_
      refine Ev.geti (2) dX5_parallel_11 fl_X5_44 lm_0 (by decide) rfl rfl ?_
      refine Ev.icmp_ge (tgt := 66) dX5_parallel_14 rfl (fun c14 => ?_) (fun c14 => ?_)
      · skip
        refine Ev.iload_n dX5_parallel_66 rfl ?_
        refine Ev.int rfl dX5_parallel_67 ?_
        unfold p_parallel
        rw [show (σ 2).toNat = k by omega]
      · skip
        exact absurd c14 (by omega)
    | succ j ih =>
      intro k hk
      refine Ev.iload_n dX5_parallel_9 rfl ?_
      refine Ev.aload_n dX5_parallel_10 rfl ?_
      refine Ev.geti (2) dX5_parallel_11 fl_X5_44 lm_0 (by decide) rfl rfl ?_
      refine Ev.icmp_ge (tgt := 66) dX5_parallel_14 rfl (fun c14 => ?_) (fun c14 => ?_)
      · skip
        exact absurd c14 (by omega)
      · skip
        refine Ev.iload_n dX5_parallel_17 rfl ?_
        refine Ev.aload_n dX5_parallel_18 rfl ?_
        refine Ev.iload_n dX5_parallel_19 rfl ?_
        refine Ev.bipush dX5_parallel_20 ⟨by decide, by decide⟩ (by decide) ?_
        refine Ev.Vi2 (I' := jX5_of) ml_X5_100 dX5_parallel_22 cyX5_of lm_0 rfl (by decide) ⟨by decide, by decide⟩ (by simp) rfl rfl (s_X5_of (by omega) (by omega) (by decide) (by decide)) (fun r σ' hr22 hq => ?_)
        obtain ⟨rfl, hq⟩ := hq
        replace hq := hq.symm
        subst hq
        refine Ev.if_lt (tgt := 57) dX5_parallel_25 rfl (fun c25 => ?_) (fun c25 => ?_)
        · skip
          refine Ev.iconst dX5_parallel_57 ⟨by decide, by decide⟩ ?_
          refine Ev.ior dX5_parallel_58 ?_
          refine Ev.istore1 rfl dX5_parallel_59 ?_
          refine Ev.iinc2 dX5_parallel_60 (by unfold ev_in; omega) ?_
          refine Ev.goto (tgt := 9) dX5_parallel_63 rfl ?_
          have := ih (k + 1) (by omega)
          rw [show par (m_ticks σ 1) (k + 1) = ev_or (par (m_ticks σ 1) k) (if 0 ≤ m_ticks σ 1 (300 + (18 * (k : Int) + 11)) ∧ m_ticks σ 1 (300 + (18 * (k : Int) + 10)) = m_ticks σ 1 (300 + (18 * (k : Int) + 12)) then ev_shl 1 (m_ticks σ 1 (300 + (18 * (k : Int) + 11))) else 0) from rfl] at this
          first | rw [if_pos (by omega)] at this | rw [if_neg (by omega)] at this
          exact this
        · skip
          refine Ev.aload_n dX5_parallel_28 rfl ?_
          refine Ev.iload_n dX5_parallel_29 rfl ?_
          refine Ev.bipush dX5_parallel_30 ⟨by decide, by decide⟩ (by decide) ?_
          refine Ev.Vi2 (I' := jX5_of) ml_X5_100 dX5_parallel_32 cyX5_of lm_0 rfl (by decide) ⟨by decide, by decide⟩ (by simp) rfl rfl (s_X5_of (by omega) (by omega) (by decide) (by decide)) (fun r σ' hr32 hq => ?_)
          obtain ⟨rfl, hq⟩ := hq
          replace hq := hq.symm
          subst hq
          refine Ev.aload_n dX5_parallel_35 rfl ?_
          refine Ev.iload_n dX5_parallel_36 rfl ?_
          refine Ev.bipush dX5_parallel_37 ⟨by decide, by decide⟩ (by decide) ?_
          refine Ev.Vi2 (I' := jX5_of) ml_X5_100 dX5_parallel_39 cyX5_of lm_0 rfl (by decide) ⟨by decide, by decide⟩ (by simp) rfl rfl (s_X5_of (by omega) (by omega) (by decide) (by decide)) (fun r σ' hr39 hq => ?_)
          obtain ⟨rfl, hq⟩ := hq
          replace hq := hq.symm
          subst hq
          refine Ev.icmp_ne (tgt := 57) dX5_parallel_42 rfl (fun c42 => ?_) (fun c42 => ?_)
          · skip
            refine Ev.iconst dX5_parallel_57 ⟨by decide, by decide⟩ ?_
            refine Ev.ior dX5_parallel_58 ?_
            refine Ev.istore1 rfl dX5_parallel_59 ?_
            refine Ev.iinc2 dX5_parallel_60 (by unfold ev_in; omega) ?_
            refine Ev.goto (tgt := 9) dX5_parallel_63 rfl ?_
            have := ih (k + 1) (by omega)
            rw [show par (m_ticks σ 1) (k + 1) = ev_or (par (m_ticks σ 1) k) (if 0 ≤ m_ticks σ 1 (300 + (18 * (k : Int) + 11)) ∧ m_ticks σ 1 (300 + (18 * (k : Int) + 10)) = m_ticks σ 1 (300 + (18 * (k : Int) + 12)) then ev_shl 1 (m_ticks σ 1 (300 + (18 * (k : Int) + 11))) else 0) from rfl] at this
            first | rw [if_pos (by omega)] at this | rw [if_neg (by omega)] at this
            exact this
          · skip
            refine Ev.iconst dX5_parallel_45 ⟨by decide, by decide⟩ ?_
            refine Ev.aload_n dX5_parallel_46 rfl ?_
            refine Ev.iload_n dX5_parallel_47 rfl ?_
            refine Ev.bipush dX5_parallel_48 ⟨by decide, by decide⟩ (by decide) ?_
            refine Ev.Vi2 (I' := jX5_of) ml_X5_100 dX5_parallel_50 cyX5_of lm_0 rfl (by decide) ⟨by decide, by decide⟩ (by simp) rfl rfl (s_X5_of (by omega) (by omega) (by decide) (by decide)) (fun r σ' hr50 hq => ?_)
            obtain ⟨rfl, hq⟩ := hq
            replace hq := hq.symm
            subst hq
            refine Ev.ishl dX5_parallel_53 ?_
            refine Ev.goto (tgt := 58) dX5_parallel_54 rfl ?_
            refine Ev.ior dX5_parallel_58 ?_
            refine Ev.istore1 rfl dX5_parallel_59 ?_
            refine Ev.iinc2 dX5_parallel_60 (by unfold ev_in; omega) ?_
            refine Ev.goto (tgt := 9) dX5_parallel_63 rfl ?_
            have := ih (k + 1) (by omega)
            rw [show par (m_ticks σ 1) (k + 1) = ev_or (par (m_ticks σ 1) k) (if 0 ≤ m_ticks σ 1 (300 + (18 * (k : Int) + 11)) ∧ m_ticks σ 1 (300 + (18 * (k : Int) + 10)) = m_ticks σ 1 (300 + (18 * (k : Int) + 12)) then ev_shl 1 (m_ticks σ 1 (300 + (18 * (k : Int) + 11))) else 0) from rfl] at this
            first | rw [if_pos (by omega)] at this | rw [if_neg (by omega)] at this
            exact this
  refine Ev.aload_n dX5_parallel_0 rfl ?_
  refine Ev.iconst dX5_parallel_1 ⟨by decide, by decide⟩ ?_
  refine Ev.Vv1 (I' := jX5_ticks) ml_X5_107 dX5_parallel_2 cyX5_ticks lm_0 rfl (by decide) ⟨by decide, by decide⟩ (by simp) rfl rfl (s_X5_ticks (by decide) (by decide) hM hb) (fun σ' hq => ?_)
  subst hq
  refine Ev.iconst dX5_parallel_5 ⟨by decide, by decide⟩ ?_
  refine Ev.istore1 rfl dX5_parallel_6 ?_
  refine Ev.iconst dX5_parallel_7 ⟨by decide, by decide⟩ ?_
  refine Ev.istore2 rfl dX5_parallel_8 ?_
  exact loop (σ 2).toNat 0 (by omega)
def m_tkset (τ : ev_M) : Int := if m_talk τ < 0 then 0 else ev_and (m_lis τ) (ev_xor (ev_shl 1 (m_talk τ)) (-1))
def flr (set : Int) (τ : ev_M) : Nat → Int
  | 0 => 0
  | k + 1 => if flr set τ k = 1 then 1 else if ev_and (ev_shr set (k : Int)) 1 = 1 ∧ τ (300 + (18 * (k : Int) + 16)) = 12 then 1 else 0
theorem flr_stay {set : Int} {τ : ev_M} {k : Nat} (h : flr set τ k = 1) : ∀ j : Nat, flr set τ (k + j) = 1
  | 0 => h
  | j + 1 => by
    show (if flr set τ (k + j) = 1 then 1 else _) = 1
    rw [if_pos (flr_stay h j)]
theorem flr_no {set : Int} {τ : ev_M} : ∀ {k : Nat}, flr set τ k ≠ 1 → ∀ i : Nat, i < k → ev_and (ev_shr set (i : Int)) 1 = 1 → τ (300 + (18 * (i : Int) + 16)) ≠ 12
  | 0, _, i, hi, _ => absurd hi (by omega)
  | k + 1, h, i, hi, hs => by
    have h' : ¬ (if flr set τ k = 1 then (1 : Int) else if ev_and (ev_shr set (k : Int)) 1 = 1 ∧ τ (300 + (18 * (k : Int) + 16)) = 12 then 1 else 0) = 1 := h
    by_cases h1 : flr set τ k = 1
    · rw [if_pos h1] at h'; exact absurd rfl h'
    · rw [if_neg h1] at h'
      by_cases hik : i = k
      · subst hik
        intro z
        rw [if_pos ⟨hs, z⟩] at h'
        exact h' rfl
      · exact flr_no h1 i (by omega) hs
def m_takers (τ : ev_M) : Int := if m_tkset τ = 0 ∨ (τ 6 = 0 ∧ τ (300 + (18 * m_talk τ + 15)) = 0) then 0 else if flr (m_tkset τ) τ (τ 2).toNat = 1 then 0 else m_tkset τ
theorem s_X5_takers {b : Int} {σ : ev_M} (hM : MI b σ) : Ev jX5_takers layM 0 [some (rv 0), none, none, none] [] σ (fun r σ' => r = m_takers σ ∧ σ' = σ) := by
  have h2 := hM.s2
  have ht := m_talk_rng h2.1
  have loop : ¬ (m_tkset σ = 0 ∨ (σ 6 = 0 ∧ σ (300 + (18 * m_talk σ + 15)) = 0)) → ∀ (j k : Nat) (v1 : Option ev_V), (k : Int) + j = σ 2 → flr (m_tkset σ) σ k ≠ 1 → Ev jX5_takers layM 49 [some (rv 0), v1, some (iv (m_tkset σ)), some (iv (k : Int))] [] σ (fun r σ' => r = m_takers σ ∧ σ' = σ) := by
    intro hc j
    induction j with
    | zero =>
      intro k v1 hk hf
      refine Ev.iload_n dX5_takers_49 rfl ?_
      refine Ev.aload_n dX5_takers_50 rfl ?_
      refine Ev.geti (2) dX5_takers_51 fl_X5_44 lm_0 (by decide) rfl rfl ?_
      refine Ev.icmp_ge (tgt := 86) dX5_takers_54 rfl (fun c54 => ?_) (fun c54 => ?_)
      · skip
        refine Ev.iload_n dX5_takers_86 rfl ?_
        refine Ev.int rfl dX5_takers_87 ?_
        refine ⟨?_, rfl⟩
        unfold m_takers
        rw [if_neg hc, show (σ 2).toNat = k by omega, if_neg hf]
      · skip
        exact absurd c54 (by omega)
    | succ j ih =>
      intro k v1 hk hf
      refine Ev.iload_n dX5_takers_49 rfl ?_
      refine Ev.aload_n dX5_takers_50 rfl ?_
      refine Ev.geti (2) dX5_takers_51 fl_X5_44 lm_0 (by decide) rfl rfl ?_
      refine Ev.icmp_ge (tgt := 86) dX5_takers_54 rfl (fun c54 => ?_) (fun c54 => ?_)
      · skip
        exact absurd c54 (by omega)
      · skip
        refine Ev.iload_n dX5_takers_57 rfl ?_
        refine Ev.iload_n dX5_takers_58 rfl ?_
        refine Ev.ishr dX5_takers_59 ?_
        refine Ev.iconst dX5_takers_60 ⟨by decide, by decide⟩ ?_
        refine Ev.iand dX5_takers_61 ?_
        refine Ev.iconst dX5_takers_62 ⟨by decide, by decide⟩ ?_
        refine Ev.icmp_ne (tgt := 80) dX5_takers_63 rfl (fun c63 => ?_) (fun c63 => ?_)
        · skip
          refine Ev.iinc3 dX5_takers_80 (by unfold ev_in; omega) ?_
          refine Ev.goto (tgt := 49) dX5_takers_83 rfl ?_
          refine ih (k + 1) _ (by omega) ?_
          show ¬ (if flr (m_tkset σ) σ k = 1 then (1 : Int) else if ev_and (ev_shr (m_tkset σ) (k : Int)) 1 = 1 ∧ σ (300 + (18 * (k : Int) + 16)) = 12 then 1 else 0) = 1
          rw [if_neg hf, if_neg (by omega)]
          decide
        · skip
          refine Ev.aload_n dX5_takers_66 rfl ?_
          refine Ev.iload_n dX5_takers_67 rfl ?_
          refine Ev.bipush dX5_takers_68 ⟨by decide, by decide⟩ (by decide) ?_
          refine Ev.Vi2 (I' := jX5_of) ml_X5_100 dX5_takers_70 cyX5_of lm_0 rfl (by decide) ⟨by decide, by decide⟩ (by simp) rfl rfl (s_X5_of (by omega) (by omega) (by decide) (by decide)) (fun r σ' hr70 hq => ?_)
          obtain ⟨rfl, hq⟩ := hq
          replace hq := hq.symm
          subst hq
          refine Ev.bipush dX5_takers_73 ⟨by decide, by decide⟩ (by decide) ?_
          refine Ev.icmp_ne (tgt := 80) dX5_takers_75 rfl (fun c75 => ?_) (fun c75 => ?_)
          · skip
            refine Ev.iinc3 dX5_takers_80 (by unfold ev_in; omega) ?_
            refine Ev.goto (tgt := 49) dX5_takers_83 rfl ?_
            refine ih (k + 1) _ (by omega) ?_
            show ¬ (if flr (m_tkset σ) σ k = 1 then (1 : Int) else if ev_and (ev_shr (m_tkset σ) (k : Int)) 1 = 1 ∧ σ (300 + (18 * (k : Int) + 16)) = 12 then 1 else 0) = 1
            rw [if_neg hf, if_neg (by omega)]
            decide
          · skip
            refine Ev.iconst dX5_takers_78 ⟨by decide, by decide⟩ ?_
            refine Ev.int rfl dX5_takers_79 ?_
            refine ⟨?_, rfl⟩
            have e1 : flr (m_tkset σ) σ (k + 1) = 1 := by
              show (if flr (m_tkset σ) σ k = 1 then (1 : Int) else if ev_and (ev_shr (m_tkset σ) (k : Int)) 1 = 1 ∧ σ (300 + (18 * (k : Int) + 16)) = 12 then 1 else 0) = 1
              rw [if_neg hf, if_pos (by omega)]
            unfold m_takers
            rw [if_neg hc, show (σ 2).toNat = (k + 1) + j by omega, if_pos (flr_stay e1 j)]
  refine Ev.aload_n dX5_takers_0 rfl ?_
  refine Ev.Vi0 (I' := jX5_talker) ml_X5_117 dX5_takers_1 cyX5_talker lm_0 rfl (by decide) ⟨by decide, by decide⟩ (by simp) rfl rfl (s_X5_talker (by omega) (by omega)) (fun r σ' hr1 hq => ?_)
  obtain ⟨rfl, hq⟩ := hq
  replace hq := hq.symm
  subst hq
  refine Ev.istore1 rfl dX5_takers_4 ?_
  refine Ev.iload_n dX5_takers_5 rfl ?_
  refine Ev.if_ge (tgt := 13) dX5_takers_6 rfl (fun c6 => ?_) (fun c6 => ?_)
  · skip
    refine Ev.aload_n dX5_takers_13 rfl ?_
    refine Ev.Vi0 (I' := jX5_listeners) ml_X5_132 dX5_takers_14 cyX5_listeners lm_0 rfl (by decide) ⟨by decide, by decide⟩ (by simp) rfl rfl (s_X5_listeners (by omega) (by omega)) (fun r σ' hr14 hq => ?_)
    obtain ⟨rfl, hq⟩ := hq
    replace hq := hq.symm
    subst hq
    refine Ev.iconst dX5_takers_17 ⟨by decide, by decide⟩ ?_
    refine Ev.iload_n dX5_takers_18 rfl ?_
    refine Ev.ishl dX5_takers_19 ?_
    refine Ev.iconst dX5_takers_20 ⟨by decide, by decide⟩ ?_
    refine Ev.ixor dX5_takers_21 ?_
    refine Ev.iand dX5_takers_22 ?_
    rw [show ev_and (m_lis σ) (ev_xor (ev_shl 1 (m_talk σ)) (-1)) = m_tkset σ by unfold m_tkset; rw [if_neg (by omega)]]
    refine Ev.istore2 rfl dX5_takers_23 ?_
    refine Ev.iload_n dX5_takers_24 rfl ?_
    refine Ev.if_eq (tgt := 45) dX5_takers_25 rfl (fun c25 => ?_) (fun c25 => ?_)
    · skip
      refine Ev.iconst dX5_takers_45 ⟨by decide, by decide⟩ ?_
      refine Ev.int rfl dX5_takers_46 ?_
      refine ⟨?_, rfl⟩
      unfold m_takers
      rw [if_pos (by omega)]
    · skip
      refine Ev.aload_n dX5_takers_28 rfl ?_
      refine Ev.geti (6) dX5_takers_29 fl_X5_54 lm_0 (by decide) rfl rfl ?_
      refine Ev.if_ne (tgt := 47) dX5_takers_32 rfl (fun c32 => ?_) (fun c32 => ?_)
      · skip
        refine Ev.iconst dX5_takers_47 ⟨by decide, by decide⟩ ?_
        refine Ev.istore3 rfl dX5_takers_48 ?_
        exact loop (by omega) (σ 2).toNat 0 _ (by omega) (by show (0 : Int) ≠ 1; decide)
      · skip
        refine Ev.aload_n dX5_takers_35 rfl ?_
        refine Ev.iload_n dX5_takers_36 rfl ?_
        refine Ev.bipush dX5_takers_37 ⟨by decide, by decide⟩ (by decide) ?_
        refine Ev.Vi2 (I' := jX5_of) ml_X5_100 dX5_takers_39 cyX5_of lm_0 rfl (by decide) ⟨by decide, by decide⟩ (by simp) rfl rfl (s_X5_of (by omega) (by omega) (by omega) (by omega)) (fun r σ' hr39 hq => ?_)
        obtain ⟨rfl, hq⟩ := hq
        replace hq := hq.symm
        subst hq
        refine Ev.if_ne (tgt := 47) dX5_takers_42 rfl (fun c42 => ?_) (fun c42 => ?_)
        · skip
          refine Ev.iconst dX5_takers_47 ⟨by decide, by decide⟩ ?_
          refine Ev.istore3 rfl dX5_takers_48 ?_
          exact loop (by omega) (σ 2).toNat 0 _ (by omega) (by show (0 : Int) ≠ 1; decide)
        · skip
          refine Ev.iconst dX5_takers_45 ⟨by decide, by decide⟩ ?_
          refine Ev.int rfl dX5_takers_46 ?_
          refine ⟨?_, rfl⟩
          unfold m_takers
          rw [if_pos (by omega)]
  · skip
    refine Ev.iconst dX5_takers_9 ⟨by decide, by decide⟩ ?_
    refine Ev.goto (tgt := 23) dX5_takers_10 rfl ?_
    refine Ev.istore2 rfl dX5_takers_23 ?_
    refine Ev.iload_n dX5_takers_24 rfl ?_
    refine Ev.if_eq (tgt := 45) dX5_takers_25 rfl (fun _ => ?_) (fun z => absurd rfl z)
    refine Ev.iconst dX5_takers_45 ⟨by decide, by decide⟩ ?_
    refine Ev.int rfl dX5_takers_46 ?_
    refine ⟨?_, rfl⟩
    unfold m_takers m_tkset
    rw [if_pos (Or.inl (if_pos (by omega)))]
def p_bus (a : Int) (τ : ev_M) : Int × ev_M := (if a = 0 then m_talk τ else if a = 1 then m_lis τ else if a = 2 then τ 5 else if a = 3 then τ 6 else if a = 4 then τ 7 else if a = 5 then m_any τ else if a = 6 then (if m_takers τ = 0 then -2 else m_slow (m_takers τ) τ + 2) else if a = 7 then τ 2 else if a = 8 then τ 0 else -1, τ)
theorem s_X5_bus {b a : Int} {σ : ev_M} (hM : MI b σ) : Ev jX5_bus layM 0 [some (rv 0), some (iv a)] [] σ (fun r σ' => (r, σ') = p_bus a σ) := by
  have h2 := hM.s2
  refine Ev.iload_n dX5_bus_0 rfl ?_
  by_cases hs : 0 ≤ a ∧ a ≤ 8
  · rcases (show a = 0 ∨ a = 1 ∨ a = 2 ∨ a = 3 ∨ a = 4 ∨ a = 5 ∨ a = 6 ∨ a = 7 ∨ a = 8 by omega) with rfl | rfl | rfl | rfl | rfl | rfl | rfl | rfl | rfl
    · refine Ev.tabIn (tgt := 52) dX5_bus_1 (by decide) (by decide) rfl rfl ?_
      refine Ev.aload_n dX5_bus_52 rfl ?_
      refine Ev.Vi0 (I' := jX5_talker) ml_X5_117 dX5_bus_53 cyX5_talker lm_0 rfl (by decide) ⟨by decide, by decide⟩ (by simp) rfl rfl (s_X5_talker (by omega) (by omega)) (fun r σ' hr53 hq => ?_)
      obtain ⟨rfl, hq⟩ := hq
      replace hq := hq.symm
      subst hq
      refine Ev.int rfl dX5_bus_56 ?_
      unfold p_bus
      first | rfl | (repeat (first | rw [if_pos (by omega)] | rw [if_neg (by omega)]))
    · refine Ev.tabIn (tgt := 57) dX5_bus_1 (by decide) (by decide) rfl rfl ?_
      refine Ev.aload_n dX5_bus_57 rfl ?_
      refine Ev.Vi0 (I' := jX5_listeners) ml_X5_132 dX5_bus_58 cyX5_listeners lm_0 rfl (by decide) ⟨by decide, by decide⟩ (by simp) rfl rfl (s_X5_listeners (by omega) (by omega)) (fun r σ' hr58 hq => ?_)
      obtain ⟨rfl, hq⟩ := hq
      replace hq := hq.symm
      subst hq
      refine Ev.int rfl dX5_bus_61 ?_
      unfold p_bus
      first | rfl | (repeat (first | rw [if_pos (by omega)] | rw [if_neg (by omega)]))
    · refine Ev.tabIn (tgt := 62) dX5_bus_1 (by decide) (by decide) rfl rfl ?_
      refine Ev.aload_n dX5_bus_62 rfl ?_
      refine Ev.geti (5) dX5_bus_63 fl_X5_51 lm_0 (by decide) rfl rfl ?_
      refine Ev.int rfl dX5_bus_66 ?_
      unfold p_bus
      first | rfl | (repeat (first | rw [if_pos (by omega)] | rw [if_neg (by omega)]))
    · refine Ev.tabIn (tgt := 67) dX5_bus_1 (by decide) (by decide) rfl rfl ?_
      refine Ev.aload_n dX5_bus_67 rfl ?_
      refine Ev.geti (6) dX5_bus_68 fl_X5_54 lm_0 (by decide) rfl rfl ?_
      refine Ev.int rfl dX5_bus_71 ?_
      unfold p_bus
      first | rfl | (repeat (first | rw [if_pos (by omega)] | rw [if_neg (by omega)]))
    · refine Ev.tabIn (tgt := 72) dX5_bus_1 (by decide) (by decide) rfl rfl ?_
      refine Ev.aload_n dX5_bus_72 rfl ?_
      refine Ev.geti (7) dX5_bus_73 fl_X5_57 lm_0 (by decide) rfl rfl ?_
      refine Ev.int rfl dX5_bus_76 ?_
      unfold p_bus
      first | rfl | (repeat (first | rw [if_pos (by omega)] | rw [if_neg (by omega)]))
    · refine Ev.tabIn (tgt := 77) dX5_bus_1 (by decide) (by decide) rfl rfl ?_
      refine Ev.aload_n dX5_bus_77 rfl ?_
      refine Ev.Vi0 (I' := jX5_anyAsks) ml_X5_173 dX5_bus_78 cyX5_anyAsks lm_0 rfl (by decide) ⟨by decide, by decide⟩ (by simp) rfl rfl (s_X5_anyAsks (by omega) (by omega)) (fun r σ' hr78 hq => ?_)
      obtain ⟨rfl, hq⟩ := hq
      replace hq := hq.symm
      subst hq
      refine Ev.int rfl dX5_bus_81 ?_
      unfold p_bus
      first | rfl | (repeat (first | rw [if_pos (by omega)] | rw [if_neg (by omega)]))
    · refine Ev.tabIn (tgt := 82) dX5_bus_1 (by decide) (by decide) rfl rfl ?_
      refine Ev.aload_n dX5_bus_82 rfl ?_
      refine Ev.Vi0 (I' := jX5_takers) ml_X5_157 dX5_bus_83 cyX5_takers lm_0 rfl (by decide) ⟨by decide, by decide⟩ (by simp) rfl rfl (s_X5_takers hM) (fun r σ' hr83 hq => ?_)
      obtain ⟨rfl, hq⟩ := hq
      replace hq := hq.symm
      subst hq
      refine Ev.if_ne (tgt := 94) dX5_bus_86 rfl (fun c86 => ?_) (fun c86 => ?_)
      · skip
        refine Ev.aload_n dX5_bus_94 rfl ?_
        refine Ev.aload_n dX5_bus_95 rfl ?_
        refine Ev.Vi0 (I' := jX5_takers) ml_X5_157 dX5_bus_96 cyX5_takers lm_0 rfl (by decide) ⟨by decide, by decide⟩ (by simp) rfl rfl (s_X5_takers hM) (fun r σ' hr96 hq => ?_)
        obtain ⟨rfl, hq⟩ := hq
        replace hq := hq.symm
        subst hq
        refine Ev.Vi1 (I' := jX5_slowest) ml_X5_129 dX5_bus_99 cyX5_slowest lm_0 rfl (by decide) ⟨by decide, by decide⟩ (by simp) rfl rfl (s_X5_slowest (by omega) (by omega)) (fun r σ' hr99 hq => ?_)
        obtain ⟨rfl, hq⟩ := hq
        replace hq := hq.symm
        subst hq
        refine Ev.iconst dX5_bus_102 ⟨by decide, by decide⟩ ?_
        have hsl := m_slow_rng (set := m_takers σ) hM
        refine Ev.iadd dX5_bus_103 (by unfold ev_in; omega) ?_
        refine Ev.int rfl dX5_bus_104 ?_
        unfold p_bus
        first | rfl | (repeat (first | rw [if_pos (by omega)] | rw [if_neg (by omega)]))
      · skip
        refine Ev.bipush dX5_bus_89 ⟨by decide, by decide⟩ (by decide) ?_
        refine Ev.goto (tgt := 104) dX5_bus_91 rfl ?_
        refine Ev.int rfl dX5_bus_104 ?_
        unfold p_bus
        first | rfl | (repeat (first | rw [if_pos (by omega)] | rw [if_neg (by omega)]))
    · refine Ev.tabIn (tgt := 105) dX5_bus_1 (by decide) (by decide) rfl rfl ?_
      refine Ev.aload_n dX5_bus_105 rfl ?_
      refine Ev.geti (2) dX5_bus_106 fl_X5_44 lm_0 (by decide) rfl rfl ?_
      refine Ev.int rfl dX5_bus_109 ?_
      unfold p_bus
      first | rfl | (repeat (first | rw [if_pos (by omega)] | rw [if_neg (by omega)]))
    · refine Ev.tabIn (tgt := 110) dX5_bus_1 (by decide) (by decide) rfl rfl ?_
      refine Ev.aload_n dX5_bus_110 rfl ?_
      refine Ev.geti (0) dX5_bus_111 fl_X5_69 lm_0 (by decide) rfl rfl ?_
      refine Ev.int rfl dX5_bus_114 ?_
      unfold p_bus
      first | rfl | (repeat (first | rw [if_pos (by omega)] | rw [if_neg (by omega)]))
  · refine Ev.tabOut (tgt := 115) dX5_bus_1 (by omega) rfl ?_
    refine Ev.iconst dX5_bus_115 ⟨by decide, by decide⟩ ?_
    refine Ev.int rfl dX5_bus_116 ?_
    unfold p_bus
    first | rfl | (repeat (first | rw [if_pos (by omega)] | rw [if_neg (by omega)]))
end
section
/-! the reference: bytes given, polls -/
theorem bt_or0 : ∀ (k : Fin 6) (a : Fin 64) (b : Fin 2), (a : Nat) < 2 ^ (k : Nat) → ev_or ((a : Nat) : Int) (ev_shl ((b : Nat) : Int) ((k : Nat) : Int)) = ((a : Nat) : Int) + ((b : Nat) : Int) * 2 ^ (k : Nat) := by decide +kernel
theorem pw_le : ∀ k : Nat, k ≤ 6 → (2 : Int) ^ k ≤ 64 := by
  intro k hk
  have : ∀ k : Fin 7, (2 : Int) ^ (k : Nat) ≤ 64 := by decide
  exact this ⟨k, by omega⟩
theorem bt_or {k : Nat} {a v : Int} (hk : k < 6) (h0 : 0 ≤ a) (h1 : a < 2 ^ k) (hv : v = 0 ∨ v = 1) : ev_or a (ev_shl v (k : Int)) = a + v * 2 ^ k := by
  have h64 := pw_le k (by omega)
  have hN : ((2 ^ k : Nat) : Int) = (2 : Int) ^ k := by simp
  have h := bt_or0 ⟨k, hk⟩ ⟨a.toNat, by omega⟩ ⟨v.toNat, by omega⟩ (by show a.toNat < 2 ^ k; omega)
  simp only at h
  rw [show ((a.toNat : Nat) : Int) = a by omega, show ((v.toNat : Nat) : Int) = v by omega] at h
  exact h
theorem lsr_rng {b : Int} {τ : ev_M} (h : MI b τ) : ∀ k : Nat, k ≤ 6 → 0 ≤ lsr τ k ∧ lsr τ k < 2 ^ k
  | 0, _ => ⟨Int.le_refl 0, show (0 : Int) < 1 by decide⟩
  | k + 1, hk => by
    have ih := lsr_rng h k (by omega)
    have h6 := h.h6 (d := (k : Int)) (by omega) (by omega)
    show 0 ≤ ev_or (lsr τ k) (ev_shl (τ (300 + (18 * (k : Int) + 6))) (k : Int)) ∧ ev_or (lsr τ k) (ev_shl (τ (300 + (18 * (k : Int) + 6))) (k : Int)) < 2 ^ (k + 1)
    rw [bt_or (by omega) ih.1 ih.2 (by omega), Int.pow_succ]
    have hp : (0 : Int) < 2 ^ k := Int.pow_pos (by decide)
    rcases (show τ (300 + (18 * (k : Int) + 6)) = 0 ∨ τ (300 + (18 * (k : Int) + 6)) = 1 by omega) with e | e <;> rw [e] <;> omega
theorem m_lis_rng {b : Int} {τ : ev_M} (h : MI b τ) : 0 ≤ m_lis τ ∧ m_lis τ ≤ 63 := by
  have h1 := lsr_rng h _ h.nat2
  have h2 := pw_le _ h.nat2
  unfold m_lis
  omega
theorem MI.sends' {b c : Int} {τ : ev_M} (h : MI b τ) (hb : b ≤ 800000000) (hc0 : 0 ≤ c) (hc1 : c ≤ 127) : MI (b + 76) (m_sends c τ) := h.sends hb hc0 hc1 (fun _ _ h => m_lis_rng h)
theorem m_cm_w {d e w : Int} {τ : ev_M} (h0 : 0 ≤ d) (h1 : d < 6) (e0 : 0 ≤ e) (e1 : e < 6) (w0 : 0 ≤ w) (w1 : w < 18) (hw : w ≠ 9 ∧ w ≠ 10 ∧ w ≠ 14 ∧ w ≠ 15) : m_cm d τ (300 + (18 * e + w)) = τ (300 + (18 * e + w)) := by
  unfold m_cm
  split
  · simp (disch := omega) only [ev_up_ne]
  · rfl
theorem m_cm_15 {d e : Int} {τ : ev_M} (h0 : 0 ≤ d) (h1 : d < 6) (e0 : 0 ≤ e) (e1 : e < 6) (h : 1 ≤ τ (300 + (18 * e + 15))) : 1 ≤ m_cm d τ (300 + (18 * e + 15)) := by
  unfold m_cm
  split
  · by_cases hde : e = d
    · subst hde
      simp (disch := omega) only [ev_up_ne, ev_up_eqs]
      decide
    · simp (disch := omega) only [ev_up_ne]
      exact h
  · exact h
theorem m_ticks_w {b e w : Int} {τ : ev_M} (h : MI b τ) (e0 : 0 ≤ e) (e1 : e < 6) (w0 : 0 ≤ w) (w1 : w < 18) (hw : w ≠ 9 ∧ w ≠ 10 ∧ w ≠ 14 ∧ w ≠ 15) : ∀ k : Nat, m_ticks τ k (300 + (18 * e + w)) = τ (300 + (18 * e + w))
  | 0 => rfl
  | k + 1 => by
    show m_comes (ev_up (m_ticks τ k) 7 (m_ticks τ k 7 + 1)) (300 + (18 * e + w)) = _
    have hn := (h.ticks k).now1.nat2
    unfold m_comes
    rw [it_at' _ (fun i σ hi => m_cm_w (by omega) (by omega) e0 e1 w0 w1 hw), ev_up_ne (by omega), m_ticks_w h e0 e1 w0 w1 hw k]
theorem it_cm_15 {e : Int} {τ : ev_M} (e0 : 0 ≤ e) (e1 : e < 6) (h : 1 ≤ τ (300 + (18 * e + 15))) : ∀ k : Nat, k ≤ 6 → 1 ≤ it m_cm τ k (300 + (18 * e + 15))
  | 0, _ => h
  | k + 1, hk => m_cm_15 (by omega) (by omega) e0 e1 (it_cm_15 e0 e1 h k (by omega))
theorem m_ticks_15 {b e : Int} {τ : ev_M} (hM : MI b τ) (e0 : 0 ≤ e) (e1 : e < 6) (h : 1 ≤ τ (300 + (18 * e + 15))) : ∀ k : Nat, 1 ≤ m_ticks τ k (300 + (18 * e + 15))
  | 0 => h
  | k + 1 => by
    show 1 ≤ m_comes (ev_up (m_ticks τ k) 7 (m_ticks τ k 7 + 1)) (300 + (18 * e + 15))
    exact it_cm_15 e0 e1 (by rw [ev_up_ne (by omega)]; exact m_ticks_15 hM e0 e1 h k) _ (hM.ticks k).now1.nat2
def m_sh (lo k : Int) (τ : ev_M) : ev_M := fun n => if lo ≤ n ∧ n < lo + k then τ (n + 1) else τ n
theorem sh_s {lo k : Int} {τ : ev_M} (hk : 0 ≤ k) : ev_up (m_sh lo k τ) (lo + k) (τ (lo + k + 1)) = m_sh lo (k + 1) τ := by
  funext n
  by_cases h1 : n = lo + k
  · rw [ev_up_eqs h1]; unfold m_sh; rw [if_pos (by omega), h1]
  · rw [ev_up_ne h1]
    unfold m_sh
    by_cases h2 : lo ≤ n ∧ n < lo + k
    · rw [if_pos h2, if_pos (by omega)]
    · rw [if_neg h2, if_neg (by omega)]
theorem sh_o {lo k n : Int} {τ : ev_M} (h : n < lo ∨ lo + k ≤ n) : m_sh lo k τ n = τ n := by unfold m_sh; rw [if_neg (by omega)]
theorem sh_0 {lo : Int} {τ : ev_M} : m_sh lo 0 τ = τ := by funext n; exact sh_o (by omega)
theorem MI.sh {b lo k : Int} {τ : ev_M} (h : MI b τ) (h0 : 420 ≤ lo) (h1 : lo + k < 564) : MI b (m_sh lo k τ) := by
  have fr : ∀ n, 420 ≤ n → n < 564 → mlo n = -2147483648 ∧ mhi b n = 2147483647 := by
    intro n a1 a2
    constructor
    · unfold mlo
      repeat' split
      all_goals omega
    · unfold mhi
      repeat' split
      all_goals omega
  intro n
  unfold m_sh
  split
  · have e1 := fr n (by omega) (by omega)
    have e2 := fr (n + 1) (by omega) (by omega)
    have := h (n + 1)
    rw [e2.1, e2.2] at this
    rw [e1.1, e1.2]
    exact this
  · exact h n
def m_first (d row many : Int) (τ : ev_M) : ev_M := m_sh (420 + (24 * d + row)) (τ (300 + (18 * d + many)) - 1) (ev_up τ (300 + (18 * d + many)) (τ (300 + (18 * d + many)) - 1))
theorem s_X5_firstOf {d row many : Int} {σ : ev_M} (hd0 : 0 ≤ d) (hd : d < 6) (hrw : row = 0 ∨ row = 12) (hm : many = 15 ∨ many = 16) (h1 : 1 ≤ σ (300 + (18 * d + many))) (h12 : σ (300 + (18 * d + many)) ≤ 12) : Ev jX5_firstOf layM 0 [some (rv 0), some (iv d), some (iv row), some (iv many), none, none] [] σ (fun r σ' => r = σ (420 + (24 * d + row)) ∧ σ' = m_first d row many σ) := by
  have loop : ∀ (j k : Nat) (ρ : ev_M), (k : Int) + j = σ (300 + (18 * d + many)) - 1 → ρ = m_sh (420 + (24 * d + row)) (k : Int) (ev_up σ (300 + (18 * d + many)) (σ (300 + (18 * d + many)) - 1)) → Ev jX5_firstOf layM 30 [some (rv 0), some (iv d), some (iv row), some (iv many), some (iv (σ (420 + (24 * d + row)))), some (iv (k : Int))] [] ρ (fun r σ' => r = σ (420 + (24 * d + row)) ∧ σ' = m_first d row many σ) := by
    intro j
    induction j with
    | zero =>
      intro k ρ hk hρ
      have em : ρ (300 + (18 * d + many)) = σ (300 + (18 * d + many)) - 1 := by rw [hρ, sh_o (by omega), ev_up_eq]
      refine Ev.iload dX5_firstOf_30 rfl ?_
      refine Ev.aload_n dX5_firstOf_32 rfl ?_
      refine Ev.iload_n dX5_firstOf_33 rfl ?_
      refine Ev.iload_n dX5_firstOf_34 rfl ?_
      refine Ev.Vi2 (I' := jX5_of) ml_X5_100 dX5_firstOf_35 cyX5_of lm_0 rfl (by decide) ⟨by decide, by decide⟩ (by simp) rfl rfl (s_X5_of hd0 hd (by omega) (by omega)) (fun r σ' hr35 hq => ?_)
      obtain ⟨rfl, hq⟩ := hq
      replace hq := hq.symm
      subst hq
      refine Ev.icmp_ge (tgt := 77) dX5_firstOf_38 rfl (fun c38 => ?_) (fun c38 => ?_)
      · skip
        refine Ev.iload dX5_firstOf_77 rfl ?_
        refine Ev.int rfl dX5_firstOf_79 ?_
        refine ⟨rfl, ?_⟩
        unfold m_first
        rw [hρ, show σ (300 + (18 * d + many)) - 1 = (k : Int) by omega]
      · skip
        exact absurd c38 (by omega)
    | succ j ih =>
      intro k ρ hk hρ
      have em : ρ (300 + (18 * d + many)) = σ (300 + (18 * d + many)) - 1 := by rw [hρ, sh_o (by omega), ev_up_eq]
      have er : ρ (420 + (24 * d + row + (k : Int) + 1)) = ev_up σ (300 + (18 * d + many)) (σ (300 + (18 * d + many)) - 1) (420 + (24 * d + row) + (k : Int) + 1) := by rw [hρ, sh_o (by omega)]; congr 1; omega
      refine Ev.iload dX5_firstOf_30 rfl ?_
      refine Ev.aload_n dX5_firstOf_32 rfl ?_
      refine Ev.iload_n dX5_firstOf_33 rfl ?_
      refine Ev.iload_n dX5_firstOf_34 rfl ?_
      refine Ev.Vi2 (I' := jX5_of) ml_X5_100 dX5_firstOf_35 cyX5_of lm_0 rfl (by decide) ⟨by decide, by decide⟩ (by simp) rfl rfl (s_X5_of hd0 hd (by omega) (by omega)) (fun r σ' hr35 hq => ?_)
      obtain ⟨rfl, hq⟩ := hq
      replace hq := hq.symm
      subst hq
      refine Ev.icmp_ge (tgt := 77) dX5_firstOf_38 rfl (fun c38 => ?_) (fun c38 => ?_)
      · skip
        exact absurd c38 (by omega)
      · skip
        refine Ev.aload_n dX5_firstOf_41 rfl ?_
        refine Ev.getr (420) dX5_firstOf_42 fl_X5_16 lm_0 (by decide) rfl rfl ?_
        refine Ev.bipush dX5_firstOf_45 ⟨by decide, by decide⟩ (by decide) ?_
        refine Ev.iload_n dX5_firstOf_47 rfl ?_
        refine Ev.imul dX5_firstOf_48 (by unfold ev_in; omega) ?_
        refine Ev.iload_n dX5_firstOf_49 rfl ?_
        refine Ev.iadd dX5_firstOf_50 (by unfold ev_in; omega) ?_
        refine Ev.iload dX5_firstOf_51 rfl ?_
        refine Ev.iadd dX5_firstOf_53 (by unfold ev_in; omega) ?_
        refine Ev.aload_n dX5_firstOf_54 rfl ?_
        refine Ev.getr (420) dX5_firstOf_55 fl_X5_16 lm_0 (by decide) rfl rfl ?_
        refine Ev.bipush dX5_firstOf_58 ⟨by decide, by decide⟩ (by decide) ?_
        refine Ev.iload_n dX5_firstOf_60 rfl ?_
        refine Ev.imul dX5_firstOf_61 (by unfold ev_in; omega) ?_
        refine Ev.iload_n dX5_firstOf_62 rfl ?_
        refine Ev.iadd dX5_firstOf_63 (by unfold ev_in; omega) ?_
        refine Ev.iload dX5_firstOf_64 rfl ?_
        refine Ev.iadd dX5_firstOf_66 (by unfold ev_in; omega) ?_
        refine Ev.iconst dX5_firstOf_67 ⟨by decide, by decide⟩ ?_
        refine Ev.iadd dX5_firstOf_68 (by unfold ev_in; omega) ?_
        refine Ev.iald dX5_firstOf_69 lm_420 (Or.inl rfl) (by omega) (by omega) ?_
        refine Ev.iast dX5_firstOf_70 lm_420 (by omega) (by omega) ?_
        refine Ev.iinc5 dX5_firstOf_71 (by unfold ev_in; omega) ?_
        refine Ev.goto (tgt := 30) dX5_firstOf_74 rfl ?_
        refine ih (k + 1) _ (by omega) ?_
        rw [er, hρ, show 420 + (24 * d + row + (k : Int)) = 420 + (24 * d + row) + (k : Int) by omega]
        exact sh_s (by omega)
  refine Ev.aload_n dX5_firstOf_0 rfl ?_
  refine Ev.getr (420) dX5_firstOf_1 fl_X5_16 lm_0 (by decide) rfl rfl ?_
  refine Ev.bipush dX5_firstOf_4 ⟨by decide, by decide⟩ (by decide) ?_
  refine Ev.iload_n dX5_firstOf_6 rfl ?_
  refine Ev.imul dX5_firstOf_7 (by unfold ev_in; omega) ?_
  refine Ev.iload_n dX5_firstOf_8 rfl ?_
  refine Ev.iadd dX5_firstOf_9 (by unfold ev_in; omega) ?_
  refine Ev.iald dX5_firstOf_10 lm_420 (Or.inl rfl) (by omega) (by omega) ?_
  refine Ev.istore4 dX5_firstOf_11 ?_
  refine Ev.aload_n dX5_firstOf_13 rfl ?_
  refine Ev.iload_n dX5_firstOf_14 rfl ?_
  refine Ev.iload_n dX5_firstOf_15 rfl ?_
  refine Ev.aload_n dX5_firstOf_16 rfl ?_
  refine Ev.iload_n dX5_firstOf_17 rfl ?_
  refine Ev.iload_n dX5_firstOf_18 rfl ?_
  refine Ev.Vi2 (I' := jX5_of) ml_X5_100 dX5_firstOf_19 cyX5_of lm_0 rfl (by decide) ⟨by decide, by decide⟩ (by simp) rfl rfl (s_X5_of hd0 hd (by omega) (by omega)) (fun r σ' hr19 hq => ?_)
  obtain ⟨rfl, hq⟩ := hq
  replace hq := hq.symm
  subst hq
  refine Ev.iconst dX5_firstOf_22 ⟨by decide, by decide⟩ ?_
  refine Ev.isub dX5_firstOf_23 (by unfold ev_in; omega) ?_
  refine Ev.Vv3 (I' := jX5_puts) ml_X5_47 dX5_firstOf_24 cyX5_puts lm_0 rfl (by decide) ⟨by decide, by decide⟩ (by simp) rfl rfl (s_X5_puts hd0 hd (by omega) (by omega)) (fun σ' hq => ?_)
  subst hq
  refine Ev.iconst dX5_firstOf_27 ⟨by decide, by decide⟩ ?_
  refine Ev.istore5 dX5_firstOf_28 ?_
  exact loop (σ (300 + (18 * d + many)) - 1).toNat 0 _ (by omega) sh_0.symm
def p_take (d : Int) (τ : ev_M) : Int × ev_M := if ¬ (0 ≤ d ∧ d < τ 2) then (-1, τ) else if τ (300 + (18 * d + 16)) = 0 then (-4, τ) else (τ (420 + (24 * d + 12)), m_first d 12 16 τ)
theorem s_X5_take {b d : Int} {σ : ev_M} (hM : MI b σ) : Ev jX5_take layM 0 [some (rv 0), some (iv d)] [] σ (fun r σ' => (r, σ') = p_take d σ) := by
  have h2 := hM.s2
  refine Ev.aload_n dX5_take_0 rfl ?_
  refine Ev.iload_n dX5_take_1 rfl ?_
  refine Ev.Vi1 (I' := jX5_isDevice) ml_X5_170 dX5_take_2 cyX5_isDevice lm_0 rfl (by decide) ⟨by decide, by decide⟩ (by simp) rfl rfl (s_X5_isDevice' (by omega)) (fun r σ' hr2 hq => ?_)
  obtain ⟨hq1, hq⟩ := hq
  replace hq := hq.symm
  subst hq
  refine Ev.if_ne (tgt := 10) dX5_take_5 rfl (fun c5 => ?_) (fun c5 => ?_)
  · skip
    refine Ev.aload_n dX5_take_10 rfl ?_
    refine Ev.iload_n dX5_take_11 rfl ?_
    refine Ev.bipush dX5_take_12 ⟨by decide, by decide⟩ (by decide) ?_
    refine Ev.Vi2 (I' := jX5_of) ml_X5_100 dX5_take_14 cyX5_of lm_0 rfl (by decide) ⟨by decide, by decide⟩ (by simp) rfl rfl (s_X5_of (by omega) (by omega) (by decide) (by decide)) (fun r σ' hr14 hq => ?_)
    obtain ⟨rfl, hq⟩ := hq
    replace hq := hq.symm
    subst hq
    have a16 := hM.h16 (d := d) (by omega) (by omega)
    refine Ev.if_ne (tgt := 25) dX5_take_17 rfl (fun c17 => ?_) (fun c17 => ?_)
    · skip
      refine Ev.aload_n dX5_take_25 rfl ?_
      refine Ev.iload_n dX5_take_26 rfl ?_
      refine Ev.bipush dX5_take_27 ⟨by decide, by decide⟩ (by decide) ?_
      refine Ev.bipush dX5_take_29 ⟨by decide, by decide⟩ (by decide) ?_
      refine Ev.Vi3 (I' := jX5_firstOf) ml_X5_160 dX5_take_31 cyX5_firstOf lm_0 rfl (by decide) ⟨by decide, by decide⟩ (by simp) rfl rfl (s_X5_firstOf (by omega) (by omega) (Or.inr rfl) (Or.inr rfl) (by omega) (by omega)) (fun r σ' hr31 hq => ?_)
      obtain ⟨rfl, rfl⟩ := hq
      refine Ev.int rfl dX5_take_34 ?_
      unfold p_take
      repeat (first | rw [if_pos (by omega)] | rw [if_neg (by omega)])
    · skip
      refine Ev.bipush dX5_take_20 ⟨by decide, by decide⟩ (by decide) ?_
      refine Ev.goto (tgt := 34) dX5_take_22 rfl ?_
      refine Ev.int rfl dX5_take_34 ?_
      unfold p_take
      repeat (first | rw [if_pos (by omega)] | rw [if_neg (by omega)])
  · skip
    refine Ev.iconst dX5_take_8 ⟨by decide, by decide⟩ ?_
    refine Ev.int rfl dX5_take_9 ?_
    unfold p_take
    repeat (first | rw [if_pos (by omega)] | rw [if_neg (by omega)])
def m_gvb (set bb : Int) (d : Int) (τ : ev_M) : ev_M := if ev_and (ev_shr set d) 1 = 1 then ev_up (ev_up (ev_up τ (420 + (24 * d + 12 + τ (300 + (18 * d + 16)))) bb) (300 + (18 * d + 16)) (τ (300 + (18 * d + 16)) + 1)) 572 (τ 572 + 1) else τ
def m_gtk (τ : ev_M) : ev_M := m_ticks τ (m_slow (m_takers τ) τ + 2).toNat
def m_gb (τ : ev_M) : Int := if m_gtk τ 6 = 1 then m_gtk τ (300 + (18 * m_talk τ + 9)) + 64 * m_gtk τ (300 + (18 * m_talk τ + 10)) else m_gtk τ (420 + (24 * m_talk τ + 0))
def m_g2 (τ : ev_M) : ev_M := if m_gtk τ 6 = 1 then ev_up (m_gtk τ) (300 + (18 * m_talk τ + 10)) 0 else m_first (m_talk τ) 0 15 (m_gtk τ)
def m_g3 (τ : ev_M) : ev_M := it (m_gvb (m_takers τ) (m_gb τ)) (m_g2 τ) (τ 2).toNat
def p_gives (τ : ev_M) : Int × ev_M := if m_takers τ = 0 then (-2, τ) else (m_gb τ, ev_up (m_g3 τ) 571 (m_g3 τ 571 + 1))
theorem takers_f {τ : ev_M} (h2 : 0 ≤ τ 2) (h : m_takers τ ≠ 0) : 0 ≤ m_talk τ ∧ m_talk τ < τ 2 ∧ (τ 6 = 0 → τ (300 + (18 * m_talk τ + 15)) ≠ 0) ∧ ∀ i : Nat, (i : Int) < τ 2 → ev_and (ev_shr (m_takers τ) (i : Int)) 1 = 1 → τ (300 + (18 * (i : Int) + 16)) ≠ 12 := by
  unfold m_takers at h ⊢
  by_cases hc : m_tkset τ = 0 ∨ (τ 6 = 0 ∧ τ (300 + (18 * m_talk τ + 15)) = 0)
  · rw [if_pos hc] at h; exact absurd rfl h
  · rw [if_neg hc] at h ⊢
    by_cases hf : flr (m_tkset τ) τ (τ 2).toNat = 1
    · rw [if_pos hf] at h; exact absurd rfl h
    · rw [if_neg hf]
      have ht := m_talk_rng h2
      have h0 : ¬ m_talk τ < 0 := by
        intro z
        apply hc
        left
        unfold m_tkset
        rw [if_pos z]
      refine ⟨by omega, by omega, fun z y => hc (Or.inr ⟨z, y⟩), fun i hi hs => flr_no hf i (by omega) hs⟩
theorem MI.gtk {b : Int} {τ : ev_M} (h : MI b τ) : MI (b + 77) (m_gtk τ) := by
  have := m_slow_rng (set := m_takers τ) h
  exact (h.ticks _).mono (by omega)
theorem MI.first {b d row many : Int} {τ : ev_M} (h : MI b τ) (h0 : 0 ≤ d) (h1 : d < 6) (hrw : row = 0 ∨ row = 12) (hm : many = 15 ∨ many = 16) (g1 : 1 ≤ τ (300 + (18 * d + many))) (g2 : τ (300 + (18 * d + many)) ≤ 12) : MI b (m_first d row many τ) := by
  unfold m_first
  rcases hm with rfl | rfl
  · exact (h.u15 h0 h1 (by omega) (by omega)).sh (by omega) (by omega)
  · exact (h.u16 h0 h1 (by omega) (by omega)).sh (by omega) (by omega)
theorem MI.g2 {b : Int} {τ : ev_M} (h : MI b τ) (hs : m_takers τ ≠ 0) : MI (b + 77) (m_g2 τ) := by
  have h2 := h.s2
  obtain ⟨t0, t1, t3, -⟩ := takers_f h2.1 hs
  have hg := h.gtk
  have e6 : m_gtk τ 6 = τ 6 := m_ticks_o h (by decide) (by decide) _
  have h6 := h.s6
  unfold m_g2
  split
  · exact hg.u10 (by omega) (by omega) (by decide) (by decide)
  · have h15 := h.h15 (d := m_talk τ) (by omega) (by omega)
    exact hg.first (by omega) (by omega) (Or.inl rfl) (Or.inl rfl) (m_ticks_15 h (by omega) (by omega) (by have := t3 (by omega); omega) _) (hg.h15 (by omega) (by omega)).2
theorem g2_16 {b d : Int} {τ : ev_M} (h : MI b τ) (hs : m_takers τ ≠ 0) (h0 : 0 ≤ d) (h1 : d < 6) : m_g2 τ (300 + (18 * d + 16)) = τ (300 + (18 * d + 16)) := by
  have h2 := h.s2
  obtain ⟨t0, t1, t3, -⟩ := takers_f h2.1 hs
  have e : m_gtk τ (300 + (18 * d + 16)) = τ (300 + (18 * d + 16)) := m_ticks_w h h0 h1 (by decide) (by decide) (by decide) _
  unfold m_g2
  split
  · rw [ev_up_ne (by omega), e]
  · unfold m_first
    rw [sh_o (by omega), ev_up_ne (by omega), e]
theorem g2_o {b n : Int} {τ : ev_M} (h : MI b τ) (hs : m_takers τ ≠ 0) (hn : n < 300) (h7 : n ≠ 7) : m_g2 τ n = τ n := by
  have h2 := h.s2
  obtain ⟨t0, t1, t3, -⟩ := takers_f h2.1 hs
  have e : m_gtk τ n = τ n := m_ticks_o h hn h7 _
  unfold m_g2
  split
  · rw [ev_up_ne (by omega), e]
  · unfold m_first
    rw [sh_o (by omega), ev_up_ne (by omega), e]
theorem gvb_o {set bb d n : Int} {τ : ev_M} (h0 : 0 ≤ d) (h1 : d < 6) (hx : 0 ≤ τ (300 + (18 * d + 16))) (hn : n < 300) : m_gvb set bb d τ n = τ n := by
  unfold m_gvb
  split
  · rw [ev_up_ne (by omega), ev_up_ne (by omega), ev_up_ne (by omega)]
  · rfl
/-- while bytes are put behind IN: ranges, and who is not reached yet -/
theorem gvb_inv {b set bb : Int} {τ : ev_M} (h : MI b τ) (hbb : ev_in bb) {n : Nat} (hn : n ≤ 6) (hf : ∀ i : Nat, i < n → ev_and (ev_shr set (i : Int)) 1 = 1 → τ (300 + (18 * (i : Int) + 16)) ≠ 12) : ∀ k : Nat, k ≤ n → MI (b + (k : Int)) (it (m_gvb set bb) τ k) ∧ (∀ d : Int, (k : Int) ≤ d → d < 6 → it (m_gvb set bb) τ k (300 + (18 * d + 16)) = τ (300 + (18 * d + 16))) ∧ ∀ m : Int, m < 300 → it (m_gvb set bb) τ k m = τ m
  | 0, _ => ⟨by rw [show b + ((0 : Nat) : Int) = b by simp]; exact h, fun _ _ _ => rfl, fun _ _ => rfl⟩
  | k + 1, hk => by
    obtain ⟨i1, i2, i3⟩ := gvb_inv h hbb hn hf k (by omega)
    have e16 := i2 (k : Int) (by omega) (by omega)
    have r16 := i1.h16 (d := (k : Int)) (by omega) (by omega)
    have r572 := i1.sum (n := 572) (by decide) (by decide)
    have im := i1.mono (show b + (k : Int) ≤ b + ((k + 1 : Nat) : Int) by omega)
    refine ⟨?_, ?_, ?_⟩
    · show MI _ (m_gvb set bb (k : Int) (it (m_gvb set bb) τ k))
      unfold m_gvb
      split
      · next hs =>
        have := hf k (by omega) hs
        exact ((im.ufree (by unfold m_gvb at *; omega) hbb).u16 (by omega) (by omega) (by unfold m_gvb at *; omega) (by unfold m_gvb at *; omega)).usum (by decide) (by decide) (by unfold m_gvb at *; omega) (by unfold m_gvb at *; omega)
      · exact im
    · intro d hd hd6
      show m_gvb set bb (k : Int) (it (m_gvb set bb) τ k) (300 + (18 * d + 16)) = _
      rw [← i2 d (by omega) hd6]
      generalize it (m_gvb set bb) τ k = ρ at *
      unfold m_gvb
      split
      · rw [ev_up_ne (by omega), ev_up_ne (by omega), ev_up_ne (by omega)]
      · rfl
    · intro m hm
      show m_gvb set bb (k : Int) (it (m_gvb set bb) τ k) m = _
      rw [gvb_o (by omega) (by omega) r16.1 hm, i3 m hm]
end
section
/-! the reference: bytes given, polls, over the machine -/
theorem gb_in {b : Int} {τ : ev_M} (h : MI b τ) (hs : m_takers τ ≠ 0) (hb : b ≤ 1000000000) (hin : ∀ n, ev_in (m_gtk τ n)) : ev_in (m_gb τ) := by
  have h2 := h.s2
  obtain ⟨t0, t1, t3, -⟩ := takers_f h2.1 hs
  have a9 := h.gtk.h9 (d := m_talk τ) (by omega) (by omega)
  have a10 := h.gtk.h10 (d := m_talk τ) (by omega) (by omega)
  unfold m_gb
  split
  · unfold ev_in; omega
  · exact hin _
theorem MI.in {b n : Int} {τ : ev_M} (h : MI b τ) (hb : b ≤ 1000000000) (hn : (420 ≤ n ∧ n < 564)) : ev_in (τ n) := by
  have h2 := h n
  have e1 : mlo n = -2147483648 := by
    unfold mlo
    repeat' split
    all_goals omega
  have e2 : mhi b n = 2147483647 := by
    unfold mhi
    repeat' split
    all_goals omega
  rw [e1, e2] at h2
  unfold ev_in
  omega
theorem gb_in' {b : Int} {τ : ev_M} (h : MI b τ) (hs : m_takers τ ≠ 0) (hb : b ≤ 900000000) : ev_in (m_gb τ) := by
  have h2 := h.s2
  obtain ⟨t0, t1, t3, -⟩ := takers_f h2.1 hs
  have a9 := h.gtk.h9 (d := m_talk τ) (by omega) (by omega)
  have a10 := h.gtk.h10 (d := m_talk τ) (by omega) (by omega)
  unfold m_gb
  split
  · unfold ev_in; omega
  · exact h.gtk.in (by omega) (by omega)
theorem MI.gives {b : Int} {τ : ev_M} (h : MI b τ) (hb : b ≤ 900000000) : MI (b + 84) (p_gives τ).2 := by
  by_cases hs : m_takers τ = 0
  · unfold p_gives; rw [if_pos hs]; exact h.mono (by omega)
  · have h2 := h.s2
    have hn := h.nat2
    obtain ⟨-, -, -, t4⟩ := takers_f h2.1 hs
    have h3 := (gvb_inv (set := m_takers τ) (h.g2 hs) (gb_in' h hs hb) hn (fun i hi hst => by rw [g2_16 h hs (by omega) (by omega)]; exact t4 i (by omega) hst) _ (Nat.le_refl _)).1
    have h4 := h3.mono (show b + 77 + (((τ 2).toNat : Nat) : Int) ≤ b + 84 - 1 by omega)
    have h5 := h4.sum (n := 571) (by decide) (by decide)
    unfold p_gives
    rw [if_neg hs]
    exact (h4.mono (by omega)).usum (by decide) (by decide) (by unfold m_g3; omega) (by unfold m_g3; omega)
theorem gives_o {b n : Int} {τ : ev_M} (h : MI b τ) (hb : b ≤ 900000000) (hn : n < 300) (h7 : n ≠ 7) : (p_gives τ).2 n = τ n := by
  by_cases hs : m_takers τ = 0
  · unfold p_gives; rw [if_pos hs]
  · have h2 := h.s2
    have hnn := h.nat2
    obtain ⟨-, -, -, t4⟩ := takers_f h2.1 hs
    have h3 := (gvb_inv (set := m_takers τ) (h.g2 hs) (gb_in' h hs hb) hnn (fun i hi hst => by rw [g2_16 h hs (by omega) (by omega)]; exact t4 i (by omega) hst) _ (Nat.le_refl _)).2.2 n hn
    unfold p_gives
    rw [if_neg hs]
    show ev_up (m_g3 τ) 571 (m_g3 τ 571 + 1) n = _
    rw [ev_up_ne (by omega)]
    unfold m_g3
    rw [h3, g2_o h hs hn h7]
theorem s_X5_gives {b : Int} {σ : ev_M} (hM : MI b σ) (hb : b ≤ 900000000) : Ev jX5_gives layM 0 [some (rv 0), none, none, none, none] [] σ (fun r σ' => (r, σ') = p_gives σ) := by
  have h2 := hM.s2
  have hn := hM.nat2
  have hG := hM.gtk
  have e6 : m_gtk σ 6 = σ 6 := m_ticks_o hM (by decide) (by decide) _
  have g6 := hM.s6
  have hsl := m_slow_rng (set := m_takers σ) hM
  by_cases hs : m_takers σ = 0
  · skip
    refine Ev.aload_n dX5_gives_0 rfl ?_
    refine Ev.Vi0 (I' := jX5_takers) ml_X5_157 dX5_gives_1 cyX5_takers lm_0 rfl (by decide) ⟨by decide, by decide⟩ (by simp) rfl rfl (s_X5_takers hM) (fun r σ' hr1 hq => ?_)
    obtain ⟨rfl, hq⟩ := hq
    replace hq := hq.symm
    subst hq
    refine Ev.istore1 rfl dX5_gives_4 ?_
    refine Ev.iload_n dX5_gives_5 rfl ?_
    refine Ev.if_ne (tgt := 12) dX5_gives_6 rfl (fun c6 => ?_) (fun c6 => ?_)
    · skip
      exact absurd hs c6
    · skip
      refine Ev.bipush dX5_gives_9 ⟨by decide, by decide⟩ (by decide) ?_
      refine Ev.int rfl dX5_gives_11 ?_
      unfold p_gives
      rw [if_pos hs]
  · obtain ⟨t0, t1, t3, t4⟩ := takers_f h2.1 hs
    have hbb := gb_in' hM hs hb
    have inv := gvb_inv (set := m_takers σ) (hM.g2 hs) hbb hn (fun i hi hst => by rw [g2_16 hM hs (by omega) (by omega)]; exact t4 i (by omega) hst)
    have h9 := hG.h9 (d := m_talk σ) (by omega) (by omega)
    have h10 := hG.h10 (d := m_talk σ) (by omega) (by omega)
    have h15 := hM.h15 (d := m_talk σ) (by omega) (by omega)
    have h15' := hG.h15 (d := m_talk σ) (by omega) (by omega)
    have loop : ∀ (j k : Nat) (ρ : ev_M), (k : Int) + j = σ 2 → ρ = it (m_gvb (m_takers σ) (m_gb σ)) (m_g2 σ) k → Ev jX5_gives layM 78 [some (rv 0), some (iv (m_takers σ)), some (iv (m_talk σ)), some (iv (m_gb σ)), some (iv (k : Int))] [] ρ (fun r σ' => (r, σ') = p_gives σ) := by
      intro j
      induction j with
      | zero =>
        intro k ρ hk hρ
        obtain ⟨i1, i2, i3⟩ := inv k (by omega)
        rw [← hρ] at i1 i2 i3
        have e2 : ρ 2 = σ 2 := by rw [i3 2 (by decide), g2_o hM hs (by decide) (by decide)]
        have a571 := i1.sum (n := 571) (by decide) (by decide)
        refine Ev.iload dX5_gives_78 rfl ?_
        refine Ev.aload_n dX5_gives_80 rfl ?_
        refine Ev.geti (2) dX5_gives_81 fl_X5_44 lm_0 (by decide) rfl rfl ?_
        refine Ev.icmp_ge (tgt := 154) dX5_gives_84 rfl (fun c84 => ?_) (fun c84 => ?_)
        · skip
          refine Ev.aload_n dX5_gives_154 rfl ?_
          refine Ev.getr (570) dX5_gives_155 fl_X5_19 lm_0 (by decide) rfl rfl ?_
          refine Ev.iconst dX5_gives_158 ⟨by decide, by decide⟩ ?_
          refine Ev.dup2 dX5_gives_159 ?_
          refine Ev.ialdn (571) dX5_gives_160 lm_570 (Or.inl rfl) (by decide) (by decide) rfl ?_
          refine Ev.iconst dX5_gives_161 ⟨by decide, by decide⟩ ?_
          refine Ev.iadd dX5_gives_162 (by unfold ev_in; omega) ?_
          refine Ev.iastn (571) dX5_gives_163 lm_570 (by decide) (by decide) rfl ?_
          refine Ev.iload_n dX5_gives_164 rfl ?_
          refine Ev.int rfl dX5_gives_165 ?_
          unfold p_gives
          rw [if_neg hs]
          unfold m_g3
          rw [show (σ 2).toNat = k by omega, ← hρ]
        · skip
          exact absurd c84 (by omega)
      | succ j ih =>
        intro k ρ hk hρ
        obtain ⟨i1, i2, i3⟩ := inv k (by omega)
        rw [← hρ] at i1 i2 i3
        have e2 : ρ 2 = σ 2 := by rw [i3 2 (by decide), g2_o hM hs (by decide) (by decide)]
        have a572 := i1.sum (n := 572) (by decide) (by decide)
        have a16 := i1.h16 (d := (k : Int)) (by omega) (by omega)
        have e16 := i2 (k : Int) (by omega) (by omega)
        rw [g2_16 hM hs (by omega) (by omega)] at e16
        have n12 := t4 k (by omega)
        refine Ev.iload dX5_gives_78 rfl ?_
        refine Ev.aload_n dX5_gives_80 rfl ?_
        refine Ev.geti (2) dX5_gives_81 fl_X5_44 lm_0 (by decide) rfl rfl ?_
        refine Ev.icmp_ge (tgt := 154) dX5_gives_84 rfl (fun c84 => ?_) (fun c84 => ?_)
        · skip
          exact absurd c84 (by omega)
        · skip
          refine Ev.iload_n dX5_gives_87 rfl ?_
          refine Ev.iload dX5_gives_88 rfl ?_
          refine Ev.ishr dX5_gives_90 ?_
          refine Ev.iconst dX5_gives_91 ⟨by decide, by decide⟩ ?_
          refine Ev.iand dX5_gives_92 ?_
          refine Ev.iconst dX5_gives_93 ⟨by decide, by decide⟩ ?_
          refine Ev.icmp_ne (tgt := 148) dX5_gives_94 rfl (fun c94 => ?_) (fun c94 => ?_)
          · skip
            refine Ev.iinc4 dX5_gives_148 (by unfold ev_in; omega) ?_
            refine Ev.goto (tgt := 78) dX5_gives_151 rfl ?_
            refine ih (k + 1) _ (by omega) ?_
            rw [show it (m_gvb (m_takers σ) (m_gb σ)) (m_g2 σ) (k + 1) = m_gvb (m_takers σ) (m_gb σ) (k : Int) (it (m_gvb (m_takers σ) (m_gb σ)) (m_g2 σ) k) from rfl, ← hρ]
            unfold m_gvb
            first | rw [if_pos (by omega)] | rw [if_neg (by omega)]
          · skip
            have n12 := n12 c94
            refine Ev.aload_n dX5_gives_97 rfl ?_
            refine Ev.getr (420) dX5_gives_98 fl_X5_16 lm_0 (by decide) rfl rfl ?_
            refine Ev.bipush dX5_gives_101 ⟨by decide, by decide⟩ (by decide) ?_
            refine Ev.iload dX5_gives_103 rfl ?_
            refine Ev.imul dX5_gives_105 (by unfold ev_in; omega) ?_
            refine Ev.bipush dX5_gives_106 ⟨by decide, by decide⟩ (by decide) ?_
            refine Ev.iadd dX5_gives_108 (by unfold ev_in; omega) ?_
            refine Ev.aload_n dX5_gives_109 rfl ?_
            refine Ev.iload dX5_gives_110 rfl ?_
            refine Ev.bipush dX5_gives_112 ⟨by decide, by decide⟩ (by decide) ?_
            refine Ev.Vi2 (I' := jX5_of) ml_X5_100 dX5_gives_114 cyX5_of lm_0 rfl (by decide) ⟨by decide, by decide⟩ (by simp) rfl rfl (s_X5_of (by omega) (by omega) (by decide) (by decide)) (fun r σ' hr114 hq => ?_)
            obtain ⟨rfl, hq⟩ := hq
            replace hq := hq.symm
            subst hq
            refine Ev.iadd dX5_gives_117 (by unfold ev_in; omega) ?_
            refine Ev.iload_n dX5_gives_118 rfl ?_
            refine Ev.iast dX5_gives_119 lm_420 (by omega) (by omega) ?_
            refine Ev.aload_n dX5_gives_120 rfl ?_
            refine Ev.iload dX5_gives_121 rfl ?_
            refine Ev.bipush dX5_gives_123 ⟨by decide, by decide⟩ (by decide) ?_
            refine Ev.aload_n dX5_gives_125 rfl ?_
            refine Ev.iload dX5_gives_126 rfl ?_
            refine Ev.bipush dX5_gives_128 ⟨by decide, by decide⟩ (by decide) ?_
            refine Ev.Vi2 (I' := jX5_of) ml_X5_100 dX5_gives_130 cyX5_of lm_0 rfl (by decide) ⟨by decide, by decide⟩ (by simp) rfl rfl (s_X5_of (by omega) (by omega) (by decide) (by decide)) (fun r σ' hr130 hq => ?_)
            obtain ⟨rfl, hq⟩ := hq
            replace hq := hq.symm
            subst hq
            try simp (disch := omega) only [ev_up_ne, ev_up_eqs]
            refine Ev.iconst dX5_gives_133 ⟨by decide, by decide⟩ ?_
            refine Ev.iadd dX5_gives_134 (by unfold ev_in; omega) ?_
            refine Ev.Vv3 (I' := jX5_puts) ml_X5_47 dX5_gives_135 cyX5_puts lm_0 rfl (by decide) ⟨by decide, by decide⟩ (by simp) rfl rfl (s_X5_puts (by omega) (by omega) (by decide) (by decide)) (fun σ' hq => ?_)
            subst hq
            refine Ev.aload_n dX5_gives_138 rfl ?_
            refine Ev.getr (570) dX5_gives_139 fl_X5_19 lm_0 (by decide) rfl rfl ?_
            refine Ev.iconst dX5_gives_142 ⟨by decide, by decide⟩ ?_
            refine Ev.dup2 dX5_gives_143 ?_
            refine Ev.ialdn (572) dX5_gives_144 lm_570 (Or.inl rfl) (by decide) (by decide) rfl ?_
            try simp (disch := omega) only [ev_up_ne, ev_up_eqs]
            refine Ev.iconst dX5_gives_145 ⟨by decide, by decide⟩ ?_
            refine Ev.iadd dX5_gives_146 (by unfold ev_in; omega) ?_
            refine Ev.iastn (572) dX5_gives_147 lm_570 (by decide) (by decide) rfl ?_
            refine Ev.iinc4 dX5_gives_148 (by unfold ev_in; omega) ?_
            refine Ev.goto (tgt := 78) dX5_gives_151 rfl ?_
            refine ih (k + 1) _ (by omega) ?_
            rw [show it (m_gvb (m_takers σ) (m_gb σ)) (m_g2 σ) (k + 1) = m_gvb (m_takers σ) (m_gb σ) (k : Int) (it (m_gvb (m_takers σ) (m_gb σ)) (m_g2 σ) k) from rfl, ← hρ]
            unfold m_gvb
            first | rw [if_pos (by omega)] | rw [if_neg (by omega)]
    refine Ev.aload_n dX5_gives_0 rfl ?_
    refine Ev.Vi0 (I' := jX5_takers) ml_X5_157 dX5_gives_1 cyX5_takers lm_0 rfl (by decide) ⟨by decide, by decide⟩ (by simp) rfl rfl (s_X5_takers hM) (fun r σ' hr1 hq => ?_)
    obtain ⟨rfl, hq⟩ := hq
    replace hq := hq.symm
    subst hq
    refine Ev.istore1 rfl dX5_gives_4 ?_
    refine Ev.iload_n dX5_gives_5 rfl ?_
    refine Ev.if_ne (tgt := 12) dX5_gives_6 rfl (fun c6 => ?_) (fun c6 => ?_)
    · skip
      refine Ev.aload_n dX5_gives_12 rfl ?_
      refine Ev.Vi0 (I' := jX5_talker) ml_X5_117 dX5_gives_13 cyX5_talker lm_0 rfl (by decide) ⟨by decide, by decide⟩ (by simp) rfl rfl (s_X5_talker (by omega) (by omega)) (fun r σ' hr13 hq => ?_)
      obtain ⟨rfl, hq⟩ := hq
      replace hq := hq.symm
      subst hq
      refine Ev.istore2 rfl dX5_gives_16 ?_
      refine Ev.aload_n dX5_gives_17 rfl ?_
      refine Ev.aload_n dX5_gives_18 rfl ?_
      refine Ev.iload_n dX5_gives_19 rfl ?_
      refine Ev.Vi1 (I' := jX5_slowest) ml_X5_129 dX5_gives_20 cyX5_slowest lm_0 rfl (by decide) ⟨by decide, by decide⟩ (by simp) rfl rfl (s_X5_slowest (by omega) (by omega)) (fun r σ' hr20 hq => ?_)
      obtain ⟨rfl, hq⟩ := hq
      replace hq := hq.symm
      subst hq
      refine Ev.iconst dX5_gives_23 ⟨by decide, by decide⟩ ?_
      refine Ev.iadd dX5_gives_24 (by unfold ev_in; omega) ?_
      refine Ev.Vv1 (I' := jX5_ticks) ml_X5_107 dX5_gives_25 cyX5_ticks lm_0 rfl (by decide) ⟨by decide, by decide⟩ (by simp) rfl rfl (s_X5_ticks (by omega) (by omega) hM (by omega)) (fun σ' hq => ?_)
      subst hq
      rw [show m_ticks σ (m_slow (m_takers σ) σ + 2).toNat = m_gtk σ from rfl]
      refine Ev.aload_n dX5_gives_28 rfl ?_
      refine Ev.geti (6) dX5_gives_29 fl_X5_54 lm_0 (by decide) rfl rfl ?_
      refine Ev.iconst dX5_gives_32 ⟨by decide, by decide⟩ ?_
      refine Ev.icmp_ne (tgt := 66) dX5_gives_33 rfl (fun c33 => ?_) (fun c33 => ?_)
      · skip
        refine Ev.aload_n dX5_gives_66 rfl ?_
        refine Ev.iload_n dX5_gives_67 rfl ?_
        refine Ev.iconst dX5_gives_68 ⟨by decide, by decide⟩ ?_
        refine Ev.bipush dX5_gives_69 ⟨by decide, by decide⟩ (by decide) ?_
        refine Ev.Vi3 (I' := jX5_firstOf) ml_X5_160 dX5_gives_71 cyX5_firstOf lm_0 rfl (by decide) ⟨by decide, by decide⟩ (by simp) rfl rfl (s_X5_firstOf (by omega) (by omega) (Or.inl rfl) (Or.inl rfl) (m_ticks_15 hM (by omega) (by omega) (by have := t3 (by omega); omega) _) h15'.2) (fun r σ' hr71 hq => ?_)
        obtain ⟨rfl, rfl⟩ := hq
        rw [show m_gtk σ (420 + (24 * m_talk σ + 0)) = m_gb σ by unfold m_gb; rw [if_neg (by omega)]]
        refine Ev.istore3 rfl dX5_gives_74 ?_
        refine Ev.iconst dX5_gives_75 ⟨by decide, by decide⟩ ?_
        refine Ev.istore4 dX5_gives_76 ?_
        exact loop (σ 2).toNat 0 _ (by omega) (by show _ = m_g2 σ; unfold m_g2; first | rw [if_pos (by omega)] | rw [if_neg (by omega)])
      · skip
        refine Ev.aload_n dX5_gives_36 rfl ?_
        refine Ev.iload_n dX5_gives_37 rfl ?_
        refine Ev.bipush dX5_gives_38 ⟨by decide, by decide⟩ (by decide) ?_
        refine Ev.Vi2 (I' := jX5_of) ml_X5_100 dX5_gives_40 cyX5_of lm_0 rfl (by decide) ⟨by decide, by decide⟩ (by simp) rfl rfl (s_X5_of (by omega) (by omega) (by decide) (by decide)) (fun r σ' hr40 hq => ?_)
        obtain ⟨rfl, hq⟩ := hq
        replace hq := hq.symm
        subst hq
        refine Ev.bipush dX5_gives_43 ⟨by decide, by decide⟩ (by decide) ?_
        refine Ev.aload_n dX5_gives_45 rfl ?_
        refine Ev.iload_n dX5_gives_46 rfl ?_
        refine Ev.bipush dX5_gives_47 ⟨by decide, by decide⟩ (by decide) ?_
        refine Ev.Vi2 (I' := jX5_of) ml_X5_100 dX5_gives_49 cyX5_of lm_0 rfl (by decide) ⟨by decide, by decide⟩ (by simp) rfl rfl (s_X5_of (by omega) (by omega) (by decide) (by decide)) (fun r σ' hr49 hq => ?_)
        obtain ⟨rfl, hq⟩ := hq
        replace hq := hq.symm
        subst hq
        refine Ev.imul dX5_gives_52 (by unfold ev_in; omega) ?_
        refine Ev.iadd dX5_gives_53 (by unfold ev_in; omega) ?_
        rw [show m_gtk σ (300 + (18 * m_talk σ + 9)) + 64 * m_gtk σ (300 + (18 * m_talk σ + 10)) = m_gb σ by unfold m_gb; rw [if_pos (by omega)]]
        refine Ev.istore3 rfl dX5_gives_54 ?_
        refine Ev.aload_n dX5_gives_55 rfl ?_
        refine Ev.iload_n dX5_gives_56 rfl ?_
        refine Ev.bipush dX5_gives_57 ⟨by decide, by decide⟩ (by decide) ?_
        refine Ev.iconst dX5_gives_59 ⟨by decide, by decide⟩ ?_
        refine Ev.Vv3 (I' := jX5_puts) ml_X5_47 dX5_gives_60 cyX5_puts lm_0 rfl (by decide) ⟨by decide, by decide⟩ (by simp) rfl rfl (s_X5_puts (by omega) (by omega) (by decide) (by decide)) (fun σ' hq => ?_)
        subst hq
        refine Ev.goto (tgt := 75) dX5_gives_63 rfl ?_
        refine Ev.iconst dX5_gives_75 ⟨by decide, by decide⟩ ?_
        refine Ev.istore4 dX5_gives_76 ?_
        exact loop (σ 2).toNat 0 _ (by omega) (by show _ = m_g2 σ; unfold m_g2; first | rw [if_pos (by omega)] | rw [if_neg (by omega)])
    · skip
      exact absurd c6 hs
theorem s_X5_give {b : Int} {σ : ev_M} (hM : MI b σ) (hb : b ≤ 900000000) : Ev jX5_give layM 0 [some (rv 0)] [] σ (fun r σ' => (r, σ') = p_gives σ) := by
  refine Ev.aload_n dX5_give_0 rfl ?_
  refine Ev.Vi0 (I' := jX5_gives) ml_X5_164 dX5_give_1 cyX5_gives lm_0 rfl (by decide) ⟨by decide, by decide⟩ (by simp) rfl rfl (s_X5_gives hM hb) (fun r σ' hr1 hq => ?_)
  skip
  refine Ev.int rfl dX5_give_4 ?_
  exact hq
theorem obey_o {b c tl tt n : Int} {τ : ev_M} (h : MI b τ) (hn : n < 300) (h5 : n ≠ 5 ∧ n ≠ 6) : m_obey c tl tt τ n = τ n := by
  have hnn := h.nat2
  have h2 := h.s2
  have ht := m_talk_rng h2.1
  have hA : ∀ a how : Int, ∀ d : Int, 0 ≤ d → d < 6 → ∀ σ : ev_M, m_addr a how d σ n = σ n := by
    intro a how d d0 d1 σ
    unfold m_addr
    repeat' split
    all_goals first | rfl | simp (disch := omega) only [ev_up_ne]
  have hP : ∀ d : Int, 0 ≤ d → d < 6 → ∀ σ : ev_M, m_prep c d σ n = σ n := by
    intro d d0 d1 σ
    unfold m_prep
    by_cases hq : ev_and (ev_shr (σ 9) d) 1 = 1
    · rw [if_pos hq, ev_up_ne (by omega), ev_up_ne (by omega)]
    · rw [if_neg hq]
  unfold m_obey
  split
  · rw [m_comes_o (it_MI1 (fun i b τ hi h => h.tl (by omega) (by omega)) h _ hnn) hn]
    exact it_at' _ (fun i σ hi => m_tl_o (by omega) (by omega) hn)
  · split
    · unfold m_pass
      split
      · rw [ev_up_ne (by omega), ev_up_ne (by omega), ev_up_ne (by omega)]
      · rfl
    · split
      · exact it_all_o hnn (by decide) (by decide) (Or.inl hn)
      · split
        · exact it_all_o hnn (by decide) (by decide) (Or.inl hn)
        · split
          · rw [ev_up_ne h5.2]
          · split
            · exact it_all_o hnn (by decide) (by decide) (Or.inl hn)
            · split
              · exact it_at' _ (fun i σ hi => hA _ _ _ (by omega) (by omega) σ)
              · split
                · rw [it_at' _ (fun i σ hi => hA _ _ _ (by omega) (by omega) σ)]
                  exact it_all_o hnn (by decide) (by decide) (Or.inl hn)
                · split
                  · split
                    · exact it_at' _ (fun i σ hi => hP _ (by omega) (by omega) σ)
                    · split
                      · exact it_at' _ (fun i σ hi => m_sec_2 (by omega) hn)
                      · rfl
                  · rfl
theorem sends_o {b c n : Int} {τ : ev_M} (h : MI b τ) (hb : b ≤ 800000000) (hc0 : 0 ≤ c) (hc1 : c ≤ 127) (hn : n < 300) (hx : n ≠ 5 ∧ n ≠ 6 ∧ n ≠ 7 ∧ n ≠ 8 ∧ n ≠ 9 ∧ n ≠ 11) : m_sends c τ n = τ n := by
  have hMp := h.pre (c := c) (by omega) (by unfold ev_in; omega)
  have hMt := h.tkd (c := c) (by omega) (by unfold ev_in; omega)
  have hnn := hMt.nat2
  unfold m_sends m_end
  rw [ev_up_ne (by omega), ev_up_ne (by omega), obey_o (hMt.itall17 _ hnn) hn (by omega), it_all_o hnn (by decide) (by decide) (Or.inl hn)]
  unfold m_tkd
  rw [m_ticks_o hMp hn (by omega)]
  unfold m_pre
  rw [ev_up_ne (by omega), m_logs_o (by omega) (by omega)]
def m_sendsTo (d base : Int) (τ : ev_M) : ev_M := if m_sends (base + τ (300 + (18 * d + 1))) τ (300 + (18 * d + 2)) < 31 then m_sends (96 + m_sends (base + τ (300 + (18 * d + 1))) τ (300 + (18 * d + 2))) (m_sends (base + τ (300 + (18 * d + 1))) τ) else m_sends (base + τ (300 + (18 * d + 1))) τ
theorem s_X5_sendsTo {b d base : Int} {σ : ev_M} (hM : MI b σ) (hb : b ≤ 700000000) (hd0 : 0 ≤ d) (hd : d < 6) (hb0 : 0 ≤ base) (hb1 : base ≤ 64) : Ev jX5_sendsTo layM 0 [some (rv 0), some (iv d), some (iv base)] [] σ (fun _ σ' => σ' = m_sendsTo d base σ) := by
  have a1 := hM.h1 hd0 hd
  have hM1 := hM.sends' (c := base + σ (300 + (18 * d + 1))) (by omega) (by omega) (by omega)
  have a2 := hM1.h2 hd0 hd
  refine Ev.aload_n dX5_sendsTo_0 rfl ?_
  refine Ev.iload_n dX5_sendsTo_1 rfl ?_
  refine Ev.aload_n dX5_sendsTo_2 rfl ?_
  refine Ev.iload_n dX5_sendsTo_3 rfl ?_
  refine Ev.iconst dX5_sendsTo_4 ⟨by decide, by decide⟩ ?_
  refine Ev.Vi2 (I' := jX5_of) ml_X5_100 dX5_sendsTo_5 cyX5_of lm_0 rfl (by decide) ⟨by decide, by decide⟩ (by simp) rfl rfl (s_X5_of hd0 hd (by decide) (by decide)) (fun r σ' hr5 hq => ?_)
  obtain ⟨rfl, hq⟩ := hq
  replace hq := hq.symm
  subst hq
  refine Ev.iadd dX5_sendsTo_8 (by unfold ev_in; omega) ?_
  refine Ev.Vv1 (I' := jX5_sends) ml_X5_154 dX5_sendsTo_9 cyX5_sends lm_0 rfl (by decide) ⟨by decide, by decide⟩ (by simp) rfl rfl (s_X5_sends hM (by omega) (by omega) (by omega)) (fun σ' hq => ?_)
  subst hq
  refine Ev.aload_n dX5_sendsTo_12 rfl ?_
  refine Ev.iload_n dX5_sendsTo_13 rfl ?_
  refine Ev.iconst dX5_sendsTo_14 ⟨by decide, by decide⟩ ?_
  refine Ev.Vi2 (I' := jX5_of) ml_X5_100 dX5_sendsTo_15 cyX5_of lm_0 rfl (by decide) ⟨by decide, by decide⟩ (by simp) rfl rfl (s_X5_of hd0 hd (by decide) (by decide)) (fun r σ' hr15 hq => ?_)
  obtain ⟨rfl, hq⟩ := hq
  replace hq := hq.symm
  subst hq
  refine Ev.bipush dX5_sendsTo_18 ⟨by decide, by decide⟩ (by decide) ?_
  refine Ev.icmp_ge (tgt := 36) dX5_sendsTo_20 rfl (fun c20 => ?_) (fun c20 => ?_)
  · skip
    refine Ev.vret dX5_sendsTo_36 rfl ?_
    unfold m_sendsTo
    first | rw [if_pos (by omega)] | rw [if_neg (by omega)]
  · skip
    refine Ev.aload_n dX5_sendsTo_23 rfl ?_
    refine Ev.bipush dX5_sendsTo_24 ⟨by decide, by decide⟩ (by decide) ?_
    refine Ev.aload_n dX5_sendsTo_26 rfl ?_
    refine Ev.iload_n dX5_sendsTo_27 rfl ?_
    refine Ev.iconst dX5_sendsTo_28 ⟨by decide, by decide⟩ ?_
    refine Ev.Vi2 (I' := jX5_of) ml_X5_100 dX5_sendsTo_29 cyX5_of lm_0 rfl (by decide) ⟨by decide, by decide⟩ (by simp) rfl rfl (s_X5_of hd0 hd (by decide) (by decide)) (fun r σ' hr29 hq => ?_)
    obtain ⟨rfl, hq⟩ := hq
    replace hq := hq.symm
    subst hq
    refine Ev.iadd dX5_sendsTo_32 (by unfold ev_in; omega) ?_
    refine Ev.Vv1 (I' := jX5_sends) ml_X5_154 dX5_sendsTo_33 cyX5_sends lm_0 rfl (by decide) ⟨by decide, by decide⟩ (by simp) rfl rfl (s_X5_sends hM1 (by omega) (by omega) (by omega)) (fun σ' hq => ?_)
    subst hq
    refine Ev.vret dX5_sendsTo_36 rfl ?_
    unfold m_sendsTo
    first | rw [if_pos (by omega)] | rw [if_neg (by omega)]
theorem MI.sendsTo {b d base : Int} {τ : ev_M} (h : MI b τ) (hb : b ≤ 700000000) (hd0 : 0 ≤ d) (hd : d < 6) (hb0 : 0 ≤ base) (hb1 : base ≤ 64) : MI (b + 152) (m_sendsTo d base τ) := by
  have a1 := h.h1 hd0 hd
  have hM1 := h.sends' (c := base + τ (300 + (18 * d + 1))) (by omega) (by omega) (by omega)
  have a2 := hM1.h2 hd0 hd
  unfold m_sendsTo
  split
  · exact (hM1.sends' (by omega) (by omega) (by omega)).mono (by omega)
  · exact hM1.mono (by omega)
theorem sendsTo_o {b d base n : Int} {τ : ev_M} (h : MI b τ) (hb : b ≤ 700000000) (hd0 : 0 ≤ d) (hd : d < 6) (hb0 : 0 ≤ base) (hb1 : base ≤ 64) (hn : n < 300) (hx : n ≠ 5 ∧ n ≠ 6 ∧ n ≠ 7 ∧ n ≠ 8 ∧ n ≠ 9 ∧ n ≠ 11) : m_sendsTo d base τ n = τ n := by
  have a1 := h.h1 hd0 hd
  have hM1 := h.sends' (c := base + τ (300 + (18 * d + 1))) (by omega) (by omega) (by omega)
  have a2 := hM1.h2 hd0 hd
  unfold m_sendsTo
  split
  · rw [sends_o hM1 (by omega) (by omega) (by omega) hn hx, sends_o h (by omega) (by omega) (by omega) hn hx]
  · exact sends_o h (by omega) (by omega) (by omega) hn hx
def plr (τ : ev_M) : Nat → Int × ev_M
  | 0 => (-4, τ)
  | k + 1 => if 0 ≤ (plr τ k).1 then plr τ k else if (k : Int) = (plr τ k).2 5 then plr τ k else (if 64 ≤ (p_gives (m_sendsTo (k : Int) 64 (plr τ k).2)).1 then (k : Int) else -4, (p_gives (m_sendsTo (k : Int) 64 (plr τ k).2)).2)
theorem plr_inv {b : Int} {τ : ev_M} (h : MI b τ) (hb : b ≤ 600000000) : ∀ k : Nat, k ≤ 6 → MI (b + 236 * (k : Int)) (plr τ k).2 ∧ (plr τ k).2 2 = τ 2
  | 0, _ => ⟨by rw [show b + 236 * ((0 : Nat) : Int) = b by simp]; exact h, rfl⟩
  | k + 1, hk => by
    obtain ⟨i1, i2⟩ := plr_inv h hb k (by omega)
    show MI _ (if 0 ≤ (plr τ k).1 then plr τ k else if (k : Int) = (plr τ k).2 5 then plr τ k else (if 64 ≤ (p_gives (m_sendsTo (k : Int) 64 (plr τ k).2)).1 then (k : Int) else -4, (p_gives (m_sendsTo (k : Int) 64 (plr τ k).2)).2)).2 ∧ (if 0 ≤ (plr τ k).1 then plr τ k else if (k : Int) = (plr τ k).2 5 then plr τ k else (if 64 ≤ (p_gives (m_sendsTo (k : Int) 64 (plr τ k).2)).1 then (k : Int) else -4, (p_gives (m_sendsTo (k : Int) 64 (plr τ k).2)).2)).2 2 = τ 2
    split
    · exact ⟨i1.mono (by omega), i2⟩
    · split
      · exact ⟨i1.mono (by omega), i2⟩
      · have s1 := i1.sendsTo (d := (k : Int)) (base := 64) (by omega) (by omega) (by omega) (by decide) (by decide)
        refine ⟨(s1.gives (by omega)).mono (by omega), ?_⟩
        show (p_gives (m_sendsTo (k : Int) 64 (plr τ k).2)).2 2 = τ 2
        rw [gives_o s1 (by omega) (by decide) (by decide), sendsTo_o i1 (by omega) (by omega) (by omega) (by decide) (by decide) (by decide) (by decide), i2]
theorem plr_stay {τ : ev_M} {k : Nat} (h : 0 ≤ (plr τ k).1) : ∀ j : Nat, plr τ (k + j) = plr τ k
  | 0 => rfl
  | j + 1 => by
    show (if 0 ≤ (plr τ (k + j)).1 then plr τ (k + j) else _) = _
    rw [plr_stay h j, if_pos h]
def m_pl1 (τ : ev_M) : ev_M := m_sends 63 (ev_up τ 574 (τ 574 + 1))
def m_pl2 (τ : ev_M) : ev_M := m_sends 24 (m_sendsTo (m_pl1 τ 5) 32 (m_pl1 τ))
def m_pl3 (τ : ev_M) : ev_M := m_sends 95 (m_sends 25 (plr (m_pl2 τ) (τ 2).toNat).2)
def p_poll (τ : ev_M) : Int × ev_M := ((plr (m_pl2 τ) (τ 2).toNat).1, ev_up (m_pl3 τ) 575 (m_pl3 τ 575 + (if (plr (m_pl2 τ) (τ 2).toNat).1 < 0 then 0 else 1)))
theorem MI.pl0 {b : Int} {τ : ev_M} (h : MI b τ) : MI (b + 1) (ev_up τ 574 (τ 574 + 1)) := by
  have := h.sum (n := 574) (by decide) (by decide)
  exact (h.mono (by omega)).usum (by decide) (by decide) (by omega) (by omega)
theorem MI.pl1 {b : Int} {τ : ev_M} (h : MI b τ) (hb : b ≤ 500000000) : MI (b + 77) (m_pl1 τ) ∧ m_pl1 τ 2 = τ 2 :=
  ⟨(h.pl0.sends' (by omega) (by decide) (by decide)).mono (by omega), by unfold m_pl1; rw [sends_o h.pl0 (by omega) (by decide) (by decide) (by decide) (by decide), ev_up_ne (by decide)]⟩
theorem MI.pl2 {b : Int} {τ : ev_M} (h : MI b τ) (hb : b ≤ 500000000) : MI (b + 305) (m_pl2 τ) ∧ m_pl2 τ 2 = τ 2 := by
  obtain ⟨h1, e1⟩ := h.pl1 hb
  have h5 := h1.s5
  have h3 := h1.sendsTo (d := m_pl1 τ 5) (base := 32) (by omega) (by omega) (by omega) (by decide) (by decide)
  refine ⟨(h3.sends' (by omega) (by decide) (by decide)).mono (by omega), ?_⟩
  unfold m_pl2
  rw [sends_o h3 (by omega) (by decide) (by decide) (by decide) (by decide), sendsTo_o h1 (by omega) (by omega) (by omega) (by decide) (by decide) (by decide) (by decide), e1]
theorem s_X5_poll {b : Int} {σ : ev_M} (hM : MI b σ) (hb : b ≤ 500000000) : Ev jX5_poll layM 0 [some (rv 0), none, none] [] σ (fun r σ' => (r, σ') = p_poll σ) := by
  have h2 := hM.s2
  have hnn := hM.nat2
  have a574 := hM.sum (n := 574) (by decide) (by decide)
  obtain ⟨h1, e1⟩ := hM.pl1 hb
  have a5 := h1.s5
  have h1' := h1.sendsTo (d := m_pl1 σ 5) (base := 32) (by omega) (by omega) (by omega) (by decide) (by decide)
  obtain ⟨h3, e3⟩ := hM.pl2 hb
  have tail : ∀ (f : Int) (ρ : ev_M) (v2 : Option ev_V), (f, ρ) = plr (m_pl2 σ) (σ 2).toNat → Ev jX5_poll layM 86 [some (rv 0), some (iv f), v2] [] ρ (fun r σ' => (r, σ') = p_poll σ) := by
    intro f ρ v2 hf
    have hMr := (plr_inv h3 (by omega) (σ 2).toNat hnn).1
    rw [← hf] at hMr
    have hMr : MI (b + 2000) ρ := MI.mono hMr (by omega)
    have hM4 := hMr.sends' (c := 25) (by omega) (by decide) (by decide)
    have hM5 := hM4.sends' (c := 95) (by omega) (by decide) (by decide)
    have a575 := hM5.sum (n := 575) (by decide) (by decide)
    refine Ev.aload_n dX5_poll_86 rfl ?_
    refine Ev.bipush dX5_poll_87 ⟨by decide, by decide⟩ (by decide) ?_
    refine Ev.Vv1 (I' := jX5_sends) ml_X5_154 dX5_poll_89 cyX5_sends lm_0 rfl (by decide) ⟨by decide, by decide⟩ (by simp) rfl rfl (s_X5_sends hMr (by omega) (by decide) (by decide)) (fun σ' hq => ?_)
    subst hq
    refine Ev.aload_n dX5_poll_92 rfl ?_
    refine Ev.bipush dX5_poll_93 ⟨by decide, by decide⟩ (by decide) ?_
    refine Ev.Vv1 (I' := jX5_sends) ml_X5_154 dX5_poll_95 cyX5_sends lm_0 rfl (by decide) ⟨by decide, by decide⟩ (by simp) rfl rfl (s_X5_sends hM4 (by omega) (by decide) (by decide)) (fun σ' hq => ?_)
    subst hq
    refine Ev.aload_n dX5_poll_98 rfl ?_
    refine Ev.getr (570) dX5_poll_99 fl_X5_19 lm_0 (by decide) rfl rfl ?_
    refine Ev.iconst dX5_poll_102 ⟨by decide, by decide⟩ ?_
    refine Ev.dup2 dX5_poll_103 ?_
    refine Ev.ialdn (575) dX5_poll_104 lm_570 (Or.inl rfl) (by decide) (by decide) rfl ?_
    refine Ev.iload_n dX5_poll_105 rfl ?_
    refine Ev.if_ge (tgt := 113) dX5_poll_106 rfl (fun c106 => ?_) (fun c106 => ?_)
    · skip
      refine Ev.iconst dX5_poll_113 ⟨by decide, by decide⟩ ?_
      refine Ev.iadd dX5_poll_114 (by unfold ev_in; omega) ?_
      refine Ev.iastn (575) dX5_poll_115 lm_570 (by decide) (by decide) rfl ?_
      refine Ev.iload_n dX5_poll_116 rfl ?_
      refine Ev.int rfl dX5_poll_117 ?_
      unfold p_poll m_pl3
      rw [← hf]
      first | rw [if_pos (by omega)] | rw [if_neg (by omega)]
    · skip
      refine Ev.iconst dX5_poll_109 ⟨by decide, by decide⟩ ?_
      refine Ev.goto (tgt := 114) dX5_poll_110 rfl ?_
      refine Ev.iadd dX5_poll_114 (by unfold ev_in; omega) ?_
      refine Ev.iastn (575) dX5_poll_115 lm_570 (by decide) (by decide) rfl ?_
      refine Ev.iload_n dX5_poll_116 rfl ?_
      refine Ev.int rfl dX5_poll_117 ?_
      unfold p_poll m_pl3
      rw [← hf]
      first | rw [if_pos (by omega)] | rw [if_neg (by omega)]
  have loop : ∀ (j k : Nat) (f : Int) (ρ : ev_M), (k : Int) + j = σ 2 → (f, ρ) = plr (m_pl2 σ) k → Ev jX5_poll layM 37 [some (rv 0), some (iv f), some (iv (k : Int))] [] ρ (fun r σ' => (r, σ') = p_poll σ) := by
    intro j
    induction j with
    | zero =>
      intro k f ρ hk hf
      obtain ⟨i1, i2⟩ := plr_inv h3 (by omega) k (by omega)
      rw [← hf] at i1 i2
      have i2 : ρ 2 = m_pl2 σ 2 := i2
      refine Ev.iload_n dX5_poll_37 rfl ?_
      refine Ev.aload_n dX5_poll_38 rfl ?_
      refine Ev.geti (2) dX5_poll_39 fl_X5_44 lm_0 (by decide) rfl rfl ?_
      refine Ev.icmp_ge (tgt := 86) dX5_poll_42 rfl (fun c42 => ?_) (fun c42 => ?_)
      · skip
        exact tail f ρ _ (by rw [hf, show (σ 2).toNat = k by omega])
      · skip
        exact absurd c42 (by omega)
    | succ j ih =>
      intro k f ρ hk hf
      obtain ⟨i1, i2⟩ := plr_inv h3 (by omega) k (by omega)
      have st := plr_stay (τ := m_pl2 σ) (k := k)
      have un : plr (m_pl2 σ) (k + 1) = (if 0 ≤ (plr (m_pl2 σ) k).1 then plr (m_pl2 σ) k else if (k : Int) = (plr (m_pl2 σ) k).2 5 then plr (m_pl2 σ) k else (if 64 ≤ (p_gives (m_sendsTo (k : Int) 64 (plr (m_pl2 σ) k).2)).1 then (k : Int) else -4, (p_gives (m_sendsTo (k : Int) 64 (plr (m_pl2 σ) k).2)).2)) := rfl
      rw [← hf] at i1 i2 st un
      have i1 : MI (b + 305 + 236 * (k : Int)) ρ := i1
      have i2 : ρ 2 = m_pl2 σ 2 := i2
      have i5 := i1.s5
      have i6 := i1.sendsTo (d := (k : Int)) (base := 64) (by omega) (by omega) (by omega) (by decide) (by decide)
      dsimp only at st un
      refine Ev.iload_n dX5_poll_37 rfl ?_
      refine Ev.aload_n dX5_poll_38 rfl ?_
      refine Ev.geti (2) dX5_poll_39 fl_X5_44 lm_0 (by decide) rfl rfl ?_
      refine Ev.icmp_ge (tgt := 86) dX5_poll_42 rfl (fun c42 => ?_) (fun c42 => ?_)
      · skip
        exact absurd c42 (by omega)
      · skip
        refine Ev.iload_n dX5_poll_45 rfl ?_
        refine Ev.if_ge (tgt := 86) dX5_poll_46 rfl (fun c46 => ?_) (fun c46 => ?_)
        · skip
          exact tail f ρ _ (by rw [show (σ 2).toNat = k + (j + 1) by omega, st (by omega) (j + 1)])
        · skip
          refine Ev.iload_n dX5_poll_49 rfl ?_
          refine Ev.aload_n dX5_poll_50 rfl ?_
          refine Ev.geti (5) dX5_poll_51 fl_X5_51 lm_0 (by decide) rfl rfl ?_
          refine Ev.icmp_eq (tgt := 80) dX5_poll_54 rfl (fun c54 => ?_) (fun c54 => ?_)
          · skip
            refine Ev.iinc2 dX5_poll_80 (by unfold ev_in; omega) ?_
            refine Ev.goto (tgt := 37) dX5_poll_83 rfl ?_
            refine ih (k + 1) _ _ (by omega) ?_
            rw [un, if_neg (by omega)]
            first | rw [if_pos (by omega)] | (rw [if_neg (by omega), ← hg1, ← hg2]; first | rw [if_pos (by omega)] | rw [if_neg (by omega)])
          · skip
            refine Ev.aload_n dX5_poll_57 rfl ?_
            refine Ev.iload_n dX5_poll_58 rfl ?_
            refine Ev.bipush dX5_poll_59 ⟨by decide, by decide⟩ (by decide) ?_
            refine Ev.Vv2 (I' := jX5_sendsTo) ml_X5_167 dX5_poll_61 cyX5_sendsTo lm_0 rfl (by decide) ⟨by decide, by decide⟩ (by simp) rfl rfl (s_X5_sendsTo i1 (by omega) (by omega) (by omega) (by decide) (by decide)) (fun σ' hq => ?_)
            subst hq
            refine Ev.aload_n dX5_poll_64 rfl ?_
            refine Ev.Vi0 (I' := jX5_gives) ml_X5_164 dX5_poll_65 cyX5_gives lm_0 rfl (by decide) ⟨by decide, by decide⟩ (by simp) rfl rfl (s_X5_gives i6 (by omega)) (fun r σ' hr65 hq => ?_)
            have hg1 : r = (p_gives (m_sendsTo (k : Int) 64 ρ)).1 := congrArg Prod.fst hq
            have hg2 : σ' = (p_gives (m_sendsTo (k : Int) 64 ρ)).2 := congrArg Prod.snd hq
            clear hq
            refine Ev.bipush dX5_poll_68 ⟨by decide, by decide⟩ (by decide) ?_
            refine Ev.icmp_lt (tgt := 77) dX5_poll_70 rfl (fun c70 => ?_) (fun c70 => ?_)
            · skip
              refine Ev.bipush dX5_poll_77 ⟨by decide, by decide⟩ (by decide) ?_
              refine Ev.istore1 rfl dX5_poll_79 ?_
              refine Ev.iinc2 dX5_poll_80 (by unfold ev_in; omega) ?_
              refine Ev.goto (tgt := 37) dX5_poll_83 rfl ?_
              refine ih (k + 1) _ _ (by omega) ?_
              rw [un, if_neg (by omega)]
              first | rw [if_pos (by omega)] | (rw [if_neg (by omega), ← hg1, ← hg2]; first | rw [if_pos (by omega)] | rw [if_neg (by omega)])
            · skip
              refine Ev.iload_n dX5_poll_73 rfl ?_
              refine Ev.goto (tgt := 79) dX5_poll_74 rfl ?_
              refine Ev.istore1 rfl dX5_poll_79 ?_
              refine Ev.iinc2 dX5_poll_80 (by unfold ev_in; omega) ?_
              refine Ev.goto (tgt := 37) dX5_poll_83 rfl ?_
              refine ih (k + 1) _ _ (by omega) ?_
              rw [un, if_neg (by omega)]
              first | rw [if_pos (by omega)] | (rw [if_neg (by omega), ← hg1, ← hg2]; first | rw [if_pos (by omega)] | rw [if_neg (by omega)])
  refine Ev.aload_n dX5_poll_0 rfl ?_
  refine Ev.getr (570) dX5_poll_1 fl_X5_19 lm_0 (by decide) rfl rfl ?_
  refine Ev.iconst dX5_poll_4 ⟨by decide, by decide⟩ ?_
  refine Ev.dup2 dX5_poll_5 ?_
  refine Ev.ialdn (574) dX5_poll_6 lm_570 (Or.inl rfl) (by decide) (by decide) rfl ?_
  refine Ev.iconst dX5_poll_7 ⟨by decide, by decide⟩ ?_
  refine Ev.iadd dX5_poll_8 (by unfold ev_in; omega) ?_
  refine Ev.iastn (574) dX5_poll_9 lm_570 (by decide) (by decide) rfl ?_
  refine Ev.aload_n dX5_poll_10 rfl ?_
  refine Ev.bipush dX5_poll_11 ⟨by decide, by decide⟩ (by decide) ?_
  refine Ev.Vv1 (I' := jX5_sends) ml_X5_154 dX5_poll_13 cyX5_sends lm_0 rfl (by decide) ⟨by decide, by decide⟩ (by simp) rfl rfl (s_X5_sends hM.pl0 (by omega) (by decide) (by decide)) (fun σ' hq => ?_)
  subst hq
  rw [show m_sends 63 (ev_up σ 574 (σ 574 + 1)) = m_pl1 σ from rfl]
  refine Ev.aload_n dX5_poll_16 rfl ?_
  refine Ev.aload_n dX5_poll_17 rfl ?_
  refine Ev.geti (5) dX5_poll_18 fl_X5_51 lm_0 (by decide) rfl rfl ?_
  refine Ev.bipush dX5_poll_21 ⟨by decide, by decide⟩ (by decide) ?_
  refine Ev.Vv2 (I' := jX5_sendsTo) ml_X5_167 dX5_poll_23 cyX5_sendsTo lm_0 rfl (by decide) ⟨by decide, by decide⟩ (by simp) rfl rfl (s_X5_sendsTo h1 (by omega) (by omega) (by omega) (by decide) (by decide)) (fun σ' hq => ?_)
  subst hq
  refine Ev.aload_n dX5_poll_26 rfl ?_
  refine Ev.bipush dX5_poll_27 ⟨by decide, by decide⟩ (by decide) ?_
  refine Ev.Vv1 (I' := jX5_sends) ml_X5_154 dX5_poll_29 cyX5_sends lm_0 rfl (by decide) ⟨by decide, by decide⟩ (by simp) rfl rfl (s_X5_sends h1' (by omega) (by decide) (by decide)) (fun σ' hq => ?_)
  subst hq
  rw [show m_sends 24 (m_sendsTo (m_pl1 σ 5) 32 (m_pl1 σ)) = m_pl2 σ from rfl]
  refine Ev.bipush dX5_poll_32 ⟨by decide, by decide⟩ (by decide) ?_
  refine Ev.istore1 rfl dX5_poll_34 ?_
  refine Ev.iconst dX5_poll_35 ⟨by decide, by decide⟩ ?_
  refine Ev.istore2 rfl dX5_poll_36 ?_
  exact loop (σ 2).toNat 0 _ _ (by omega) rfl
end
section
/-! the reference: the text, all as at first -/
theorem ev_up_up {σ : ev_M} {n a b : Int} : ev_up (ev_up σ n a) n b = ev_up σ n b := by
  funext k
  unfold ev_up
  split <;> rfl
def Lm (τ : ev_M) (p : Int) : Int := if p < τ 0 then τ (100 + p) else 0
theorem s_X5_letterAt' {p : Int} {σ : ev_M} (hp : 0 ≤ p) (hl : σ 0 ≤ 200) : Ev jX5_letterAt layM 0 [some (rv 0), some (iv p)] [] σ (fun r σ' => r = Lm σ p ∧ σ' = σ) := s_X5_letterAt hp hl
theorem Lm_up {τ : ev_M} {n v p : Int} (h0 : n ≠ 0) (h1 : n ≠ 100 + p) : Lm (ev_up τ n v) p = Lm τ p := by
  unfold Lm
  rw [ev_up_ne (Ne.symm h0), ev_up_ne (Ne.symm h1)]
theorem MI.txt {b p : Int} {τ : ev_M} (h : MI b τ) (h0 : 0 ≤ p) : 0 ≤ Lm τ p ∧ Lm τ p ≤ 126 := by
  have hl := h.s0
  unfold Lm
  split
  · have h2 := h (100 + p)
    have e1 : mlo (100 + p) = 0 := by
      unfold mlo
      rw [if_neg (by omega), if_neg (by omega), if_pos (by omega)]
    have e2 : mhi b (100 + p) = 126 := by
      unfold mhi
      repeat' split
      all_goals omega
    rwa [e1, e2] at h2
  · decide
def nf (L : Int → Int) (p : Int) : Int := if 48 ≤ L p ∧ L p ≤ 57 then (if 48 ≤ L (p + 1) ∧ L (p + 1) ≤ 57 then 2 else 1) else 0
def nv (L : Int → Int) (p : Int) : Int := if 48 ≤ L p ∧ L p ≤ 57 then (if 48 ≤ L (p + 1) ∧ L (p + 1) ≤ 57 then 10 * (L p - 48) + L (p + 1) - 48 else L p - 48) else 0
theorem nf_rng {L : Int → Int} {p : Int} : 0 ≤ nf L p ∧ nf L p ≤ 2 := by unfold nf; split <;> (try split) <;> decide
theorem nv_rng {L : Int → Int} {p : Int} : 0 ≤ nv L p ∧ nv L p ≤ 99 := by unfold nv; split <;> (try split) <;> omega
theorem t_num {p lo hi at_ : Int} {ρ : ev_M} (h : p ≤ at_) (hin : ev_in (at_ + 1)) : Ev jX5_number layM 65 [some (rv 0), some (iv p), some (iv lo), some (iv hi), some (iv at_)] [] ρ (fun r σ' => r = (if p < at_ ∧ lo ≤ ρ 17 ∧ ρ 17 ≤ hi then 1 else 0) ∧ σ' = ev_up ρ 18 at_) := by
  refine Ev.aload_n dX5_number_65 rfl ?_
  refine Ev.iload dX5_number_66 rfl ?_
  refine Ev.puti (18) dX5_number_68 fl_X5_79 ft_5_18 lm_0 (by decide) rfl rfl ?_
  refine Ev.iload dX5_number_71 rfl ?_
  refine Ev.iload_n dX5_number_73 rfl ?_
  refine Ev.icmp_le (tgt := 93) dX5_number_74 rfl (fun c74 => ?_) (fun c74 => ?_)
  · skip
    refine Ev.iconst dX5_number_93 ⟨by decide, by decide⟩ ?_
    refine Ev.bool rfl dX5_number_94 (by omega) ?_
    refine ⟨?_, rfl⟩
    first | rw [if_pos (by omega)] | rw [if_neg (by omega)]
  · skip
    refine Ev.aload_n dX5_number_77 rfl ?_
    refine Ev.geti (17) dX5_number_78 fl_X5_72 lm_0 (by decide) rfl rfl ?_
    try simp (disch := omega) only [ev_up_ne, ev_up_eqs]
    refine Ev.iload_n dX5_number_81 rfl ?_
    refine Ev.iload_n dX5_number_82 rfl ?_
    refine Ev.Si3 (I' := jX5_isIn) ml_X5_82 dX5_number_83 cyX5_isIn (by decide) ⟨by decide, by decide⟩ (by simp) rfl rfl (s_X5_isIn') (fun r σ' hr83 hq => ?_)
    obtain ⟨hq1, hq⟩ := hq
    replace hq := hq.symm
    subst hq
    try simp (disch := omega) only [ev_up_ne, ev_up_eqs]
    refine Ev.if_eq (tgt := 93) dX5_number_86 rfl (fun c86 => ?_) (fun c86 => ?_)
    · skip
      refine Ev.iconst dX5_number_93 ⟨by decide, by decide⟩ ?_
      refine Ev.bool rfl dX5_number_94 (by omega) ?_
      refine ⟨?_, rfl⟩
      first | rw [if_pos (by omega)] | rw [if_neg (by omega)]
    · skip
      refine Ev.iconst dX5_number_89 ⟨by decide, by decide⟩ ?_
      refine Ev.goto (tgt := 94) dX5_number_90 rfl ?_
      refine Ev.bool rfl dX5_number_94 (by omega) ?_
      refine ⟨?_, rfl⟩
      first | rw [if_pos (by omega)] | rw [if_neg (by omega)]
theorem num_fin {σ ρ σ2 : ev_M} {p lo hi at_ r : Int} (h : r = (if p < at_ ∧ lo ≤ ρ 17 ∧ ρ 17 ≤ hi then 1 else 0) ∧ σ2 = ev_up ρ 18 at_) (e1 : ρ = ev_up σ 17 (nv (Lm σ) p)) (e2 : at_ = p + nf (Lm σ) p) : r = (if 0 < nf (Lm σ) p ∧ lo ≤ nv (Lm σ) p ∧ nv (Lm σ) p ≤ hi then 1 else 0) ∧ σ2 = ev_up (ev_up σ 17 (nv (Lm σ) p)) 18 (p + nf (Lm σ) p) := by
  subst e1
  subst e2
  rw [ev_up_eq] at h
  refine ⟨?_, h.2⟩
  rw [h.1]
  by_cases hc : 0 < nf (Lm σ) p ∧ lo ≤ nv (Lm σ) p ∧ nv (Lm σ) p ≤ hi
  · rw [if_pos hc, if_pos (by omega)]
  · rw [if_neg hc, if_neg (by omega)]
theorem s_X5_number {b p lo hi : Int} {σ : ev_M} (hM : MI b σ) (hp : 0 ≤ p) (hp2 : p ≤ 900) : Ev jX5_number layM 0 [some (rv 0), some (iv p), some (iv lo), some (iv hi), none] [] σ (fun r σ' => r = (if 0 < nf (Lm σ) p ∧ lo ≤ nv (Lm σ) p ∧ nv (Lm σ) p ≤ hi then 1 else 0) ∧ σ' = ev_up (ev_up σ 17 (nv (Lm σ) p)) 18 (p + nf (Lm σ) p)) := by
  have hl := hM.s0
  have l0 := hM.txt (p := p) hp
  have l1 := hM.txt (p := p + 1) (by omega)
  refine Ev.iload_n dX5_number_0 rfl ?_
  refine Ev.istore4 dX5_number_1 ?_
  refine Ev.aload_n dX5_number_3 rfl ?_
  refine Ev.iconst dX5_number_4 ⟨by decide, by decide⟩ ?_
  refine Ev.puti (17) dX5_number_5 fl_X5_72 ft_5_17 lm_0 (by decide) rfl rfl ?_
  refine Ev.aload_n dX5_number_8 rfl ?_
  refine Ev.iload dX5_number_9 rfl ?_
  refine Ev.Vi1 (I' := jX5_letterAt) ml_X5_75 dX5_number_11 cyX5_letterAt lm_0 rfl (by decide) ⟨by decide, by decide⟩ (by simp) rfl rfl (s_X5_letterAt' (by omega) (by simp (disch := omega) only [ev_up_ne]; omega)) (fun r σ' hr11 hq => ?_)
  obtain ⟨rfl, hq⟩ := hq
  replace hq := hq.symm
  subst hq
  try simp (disch := omega) only [ev_up_ne, ev_up_eqs, Lm_up, ev_up_up]
  refine Ev.bipush dX5_number_14 ⟨by decide, by decide⟩ (by decide) ?_
  refine Ev.icmp_lt (tgt := 65) dX5_number_16 rfl (fun c16 => ?_) (fun c16 => ?_)
  · skip
    refine (t_num (by omega) (by unfold ev_in; omega)).mono (fun r σ2 h => num_fin h ?_ ?_)
    · unfold nv
      repeat (first | rw [if_pos (by omega)] | rw [if_neg (by omega)])
      all_goals (try simp only [ev_up_up])
      all_goals (congr 1; omega)
    · unfold nf
      repeat (first | rw [if_pos (by omega)] | rw [if_neg (by omega)])
      all_goals omega
  · skip
    refine Ev.aload_n dX5_number_19 rfl ?_
    refine Ev.iload dX5_number_20 rfl ?_
    refine Ev.Vi1 (I' := jX5_letterAt) ml_X5_75 dX5_number_22 cyX5_letterAt lm_0 rfl (by decide) ⟨by decide, by decide⟩ (by simp) rfl rfl (s_X5_letterAt' (by omega) (by simp (disch := omega) only [ev_up_ne]; omega)) (fun r σ' hr22 hq => ?_)
    obtain ⟨rfl, hq⟩ := hq
    replace hq := hq.symm
    subst hq
    try simp (disch := omega) only [ev_up_ne, ev_up_eqs, Lm_up, ev_up_up]
    refine Ev.bipush dX5_number_25 ⟨by decide, by decide⟩ (by decide) ?_
    refine Ev.icmp_gt (tgt := 65) dX5_number_27 rfl (fun c27 => ?_) (fun c27 => ?_)
    · skip
      refine (t_num (by omega) (by unfold ev_in; omega)).mono (fun r σ2 h => num_fin h ?_ ?_)
      · unfold nv
        repeat (first | rw [if_pos (by omega)] | rw [if_neg (by omega)])
        all_goals (try simp only [ev_up_up])
        all_goals (congr 1; omega)
      · unfold nf
        repeat (first | rw [if_pos (by omega)] | rw [if_neg (by omega)])
        all_goals omega
    · skip
      refine Ev.iload dX5_number_30 rfl ?_
      refine Ev.iload_n dX5_number_32 rfl ?_
      refine Ev.iconst dX5_number_33 ⟨by decide, by decide⟩ ?_
      refine Ev.iadd dX5_number_34 (by unfold ev_in; omega) ?_
      refine Ev.icmp_ge (tgt := 65) dX5_number_35 rfl (fun c35 => ?_) (fun c35 => ?_)
      · skip
        omega
      · skip
        refine Ev.aload_n dX5_number_38 rfl ?_
        refine Ev.bipush dX5_number_39 ⟨by decide, by decide⟩ (by decide) ?_
        refine Ev.aload_n dX5_number_41 rfl ?_
        refine Ev.geti (17) dX5_number_42 fl_X5_72 lm_0 (by decide) rfl rfl ?_
        try simp (disch := omega) only [ev_up_ne, ev_up_eqs, Lm_up, ev_up_up]
        refine Ev.imul dX5_number_45 (by unfold ev_in; omega) ?_
        refine Ev.aload_n dX5_number_46 rfl ?_
        refine Ev.iload dX5_number_47 rfl ?_
        refine Ev.Vi1 (I' := jX5_letterAt) ml_X5_75 dX5_number_49 cyX5_letterAt lm_0 rfl (by decide) ⟨by decide, by decide⟩ (by simp) rfl rfl (s_X5_letterAt' (by omega) (by simp (disch := omega) only [ev_up_ne]; omega)) (fun r σ' hr49 hq => ?_)
        obtain ⟨rfl, hq⟩ := hq
        replace hq := hq.symm
        subst hq
        try simp (disch := omega) only [ev_up_ne, ev_up_eqs, Lm_up, ev_up_up]
        refine Ev.iadd dX5_number_52 (by unfold ev_in; omega) ?_
        refine Ev.bipush dX5_number_53 ⟨by decide, by decide⟩ (by decide) ?_
        refine Ev.isub dX5_number_55 (by unfold ev_in; omega) ?_
        refine Ev.puti (17) dX5_number_56 fl_X5_72 ft_5_17 lm_0 (by decide) rfl rfl ?_
        refine Ev.iinc4 dX5_number_59 (by unfold ev_in; omega) ?_
        refine Ev.goto (tgt := 8) dX5_number_62 rfl ?_
        refine Ev.aload_n dX5_number_8 rfl ?_
        refine Ev.iload dX5_number_9 rfl ?_
        refine Ev.Vi1 (I' := jX5_letterAt) ml_X5_75 dX5_number_11 cyX5_letterAt lm_0 rfl (by decide) ⟨by decide, by decide⟩ (by simp) rfl rfl (s_X5_letterAt' (by omega) (by simp (disch := omega) only [ev_up_ne]; omega)) (fun r σ' hr11 hq => ?_)
        obtain ⟨rfl, hq⟩ := hq
        replace hq := hq.symm
        subst hq
        try simp (disch := omega) only [ev_up_ne, ev_up_eqs, Lm_up, ev_up_up]
        refine Ev.bipush dX5_number_14 ⟨by decide, by decide⟩ (by decide) ?_
        refine Ev.icmp_lt (tgt := 65) dX5_number_16 rfl (fun c16 => ?_) (fun c16 => ?_)
        · skip
          refine (t_num (by omega) (by unfold ev_in; omega)).mono (fun r σ2 h => num_fin h ?_ ?_)
          · unfold nv
            repeat (first | rw [if_pos (by omega)] | rw [if_neg (by omega)])
            all_goals (try simp only [ev_up_up])
            all_goals (congr 1; omega)
          · unfold nf
            repeat (first | rw [if_pos (by omega)] | rw [if_neg (by omega)])
            all_goals omega
        · skip
          refine Ev.aload_n dX5_number_19 rfl ?_
          refine Ev.iload dX5_number_20 rfl ?_
          refine Ev.Vi1 (I' := jX5_letterAt) ml_X5_75 dX5_number_22 cyX5_letterAt lm_0 rfl (by decide) ⟨by decide, by decide⟩ (by simp) rfl rfl (s_X5_letterAt' (by omega) (by simp (disch := omega) only [ev_up_ne]; omega)) (fun r σ' hr22 hq => ?_)
          obtain ⟨rfl, hq⟩ := hq
          replace hq := hq.symm
          subst hq
          try simp (disch := omega) only [ev_up_ne, ev_up_eqs, Lm_up, ev_up_up]
          refine Ev.bipush dX5_number_25 ⟨by decide, by decide⟩ (by decide) ?_
          refine Ev.icmp_gt (tgt := 65) dX5_number_27 rfl (fun c27 => ?_) (fun c27 => ?_)
          · skip
            refine (t_num (by omega) (by unfold ev_in; omega)).mono (fun r σ2 h => num_fin h ?_ ?_)
            · unfold nv
              repeat (first | rw [if_pos (by omega)] | rw [if_neg (by omega)])
              all_goals (try simp only [ev_up_up])
              all_goals (congr 1; omega)
            · unfold nf
              repeat (first | rw [if_pos (by omega)] | rw [if_neg (by omega)])
              all_goals omega
          · skip
            refine Ev.iload dX5_number_30 rfl ?_
            refine Ev.iload_n dX5_number_32 rfl ?_
            refine Ev.iconst dX5_number_33 ⟨by decide, by decide⟩ ?_
            refine Ev.iadd dX5_number_34 (by unfold ev_in; omega) ?_
            refine Ev.icmp_ge (tgt := 65) dX5_number_35 rfl (fun c35 => ?_) (fun c35 => ?_)
            · skip
              omega
            · skip
              refine Ev.aload_n dX5_number_38 rfl ?_
              refine Ev.bipush dX5_number_39 ⟨by decide, by decide⟩ (by decide) ?_
              refine Ev.aload_n dX5_number_41 rfl ?_
              refine Ev.geti (17) dX5_number_42 fl_X5_72 lm_0 (by decide) rfl rfl ?_
              try simp (disch := omega) only [ev_up_ne, ev_up_eqs, Lm_up, ev_up_up]
              refine Ev.imul dX5_number_45 (by unfold ev_in; omega) ?_
              refine Ev.aload_n dX5_number_46 rfl ?_
              refine Ev.iload dX5_number_47 rfl ?_
              refine Ev.Vi1 (I' := jX5_letterAt) ml_X5_75 dX5_number_49 cyX5_letterAt lm_0 rfl (by decide) ⟨by decide, by decide⟩ (by simp) rfl rfl (s_X5_letterAt' (by omega) (by simp (disch := omega) only [ev_up_ne]; omega)) (fun r σ' hr49 hq => ?_)
              obtain ⟨rfl, hq⟩ := hq
              replace hq := hq.symm
              subst hq
              try simp (disch := omega) only [ev_up_ne, ev_up_eqs, Lm_up, ev_up_up]
              refine Ev.iadd dX5_number_52 (by unfold ev_in; omega) ?_
              refine Ev.bipush dX5_number_53 ⟨by decide, by decide⟩ (by decide) ?_
              refine Ev.isub dX5_number_55 (by unfold ev_in; omega) ?_
              refine Ev.puti (17) dX5_number_56 fl_X5_72 ft_5_17 lm_0 (by decide) rfl rfl ?_
              refine Ev.iinc4 dX5_number_59 (by unfold ev_in; omega) ?_
              refine Ev.goto (tgt := 8) dX5_number_62 rfl ?_
              refine Ev.aload_n dX5_number_8 rfl ?_
              refine Ev.iload dX5_number_9 rfl ?_
              refine Ev.Vi1 (I' := jX5_letterAt) ml_X5_75 dX5_number_11 cyX5_letterAt lm_0 rfl (by decide) ⟨by decide, by decide⟩ (by simp) rfl rfl (s_X5_letterAt' (by omega) (by simp (disch := omega) only [ev_up_ne]; omega)) (fun r σ' hr11 hq => ?_)
              obtain ⟨rfl, hq⟩ := hq
              replace hq := hq.symm
              subst hq
              try simp (disch := omega) only [ev_up_ne, ev_up_eqs, Lm_up, ev_up_up]
              refine Ev.bipush dX5_number_14 ⟨by decide, by decide⟩ (by decide) ?_
              refine Ev.icmp_lt (tgt := 65) dX5_number_16 rfl (fun c16 => ?_) (fun c16 => ?_)
              · skip
                refine (t_num (by omega) (by unfold ev_in; omega)).mono (fun r σ2 h => num_fin h ?_ ?_)
                · unfold nv
                  repeat (first | rw [if_pos (by omega)] | rw [if_neg (by omega)])
                  all_goals (try simp only [ev_up_up])
                  all_goals (congr 1; omega)
                · unfold nf
                  repeat (first | rw [if_pos (by omega)] | rw [if_neg (by omega)])
                  all_goals omega
              · skip
                refine Ev.aload_n dX5_number_19 rfl ?_
                refine Ev.iload dX5_number_20 rfl ?_
                refine Ev.Vi1 (I' := jX5_letterAt) ml_X5_75 dX5_number_22 cyX5_letterAt lm_0 rfl (by decide) ⟨by decide, by decide⟩ (by simp) rfl rfl (s_X5_letterAt' (by omega) (by simp (disch := omega) only [ev_up_ne]; omega)) (fun r σ' hr22 hq => ?_)
                obtain ⟨rfl, hq⟩ := hq
                replace hq := hq.symm
                subst hq
                try simp (disch := omega) only [ev_up_ne, ev_up_eqs, Lm_up, ev_up_up]
                refine Ev.bipush dX5_number_25 ⟨by decide, by decide⟩ (by decide) ?_
                refine Ev.icmp_gt (tgt := 65) dX5_number_27 rfl (fun c27 => ?_) (fun c27 => ?_)
                · skip
                  refine (t_num (by omega) (by unfold ev_in; omega)).mono (fun r σ2 h => num_fin h ?_ ?_)
                  · unfold nv
                    repeat (first | rw [if_pos (by omega)] | rw [if_neg (by omega)])
                    all_goals (try simp only [ev_up_up])
                    all_goals (congr 1; omega)
                  · unfold nf
                    repeat (first | rw [if_pos (by omega)] | rw [if_neg (by omega)])
                    all_goals omega
                · skip
                  refine Ev.iload dX5_number_30 rfl ?_
                  refine Ev.iload_n dX5_number_32 rfl ?_
                  refine Ev.iconst dX5_number_33 ⟨by decide, by decide⟩ ?_
                  refine Ev.iadd dX5_number_34 (by unfold ev_in; omega) ?_
                  refine Ev.icmp_ge (tgt := 65) dX5_number_35 rfl (fun c35 => ?_) (fun c35 => ?_)
                  · skip
                    refine (t_num (by omega) (by unfold ev_in; omega)).mono (fun r σ2 h => num_fin h ?_ ?_)
                    · unfold nv
                      repeat (first | rw [if_pos (by omega)] | rw [if_neg (by omega)])
                      all_goals (try simp only [ev_up_up])
                      all_goals (congr 1; omega)
                    · unfold nf
                      repeat (first | rw [if_pos (by omega)] | rw [if_neg (by omega)])
                      all_goals omega
                  · skip
                    omega
def en (L : Int → Int) (p : Int) : Nat → Int
  | 0 => p
  | k + 1 => en L p k + 1 + nf L (en L p k + 1)
def vl (L : Int → Int) (p : Int) (k : Nat) : Int := nv L (en L p k + 1)
def hst (k : Int) : Int := if k = 0 then 2 else if k = 1 then 30 else if k = 2 then 31 else if k = 3 then 9 else 60
def nok (L : Int → Int) (p : Int) (k : Nat) : Prop := (k = 0 ∨ L (en L p k) = 44) ∧ 0 < nf L (en L p k + 1) ∧ (if k = 3 then 1 else 0) ≤ vl L p k ∧ vl L p k ≤ hst (k : Int)
def itok (L : Int → Int) (p : Int) : Prop := L p = 100 ∧ (∀ k : Nat, k < 5 → nok L p k) ∧ L (en L p 5) = 59
def sp (L : Int → Int) : Nat → Int
  | 0 => 0
  | n + 1 => en L (sp L n) 5 + 1
def va (L : Int → Int) (n : Nat) (f : Nat) : Int := vl L (sp L n) f
def apt (L : Int → Int) (d n : Nat) : Prop := va L d 1 ≠ va L n 1 ∨ (va L d 2 ≠ va L n 2 ∧ va L d 2 < 31 ∧ va L n 2 < 31)
def okit (L : Int → Int) (n : Nat) : Prop := itok L (sp L n) ∧ ∀ d : Nat, d < n → apt L d n
def RdP (L : Int → Int) (len r : Int) (n : Nat) : Prop := n ≤ 6 ∧ (∀ i : Nat, i < n → sp L i < len ∧ okit L i) ∧ ((len ≤ sp L n ∧ r = -4) ∨ (sp L n < len ∧ (n = 6 ∨ ¬ okit L n) ∧ r = sp L n))
theorem en_rng {L : Int → Int} {p : Int} : ∀ k : Nat, p + (k : Int) ≤ en L p k ∧ en L p k ≤ p + 3 * (k : Int)
  | 0 => ⟨by show p + ((0 : Nat) : Int) ≤ p; omega, by show p ≤ p + 3 * ((0 : Nat) : Int); omega⟩
  | k + 1 => by
    have := en_rng (L := L) (p := p) k
    have := nf_rng (L := L) (p := en L p k + 1)
    show p + ((k + 1 : Nat) : Int) ≤ en L p k + 1 + nf L (en L p k + 1) ∧ en L p k + 1 + nf L (en L p k + 1) ≤ p + 3 * ((k + 1 : Nat) : Int)
    omega
/-- only what is read of the text has changed -/
def RF (σ σ' : ev_M) : Prop := ∀ k, ¬ (k = 15 ∨ k = 17 ∨ k = 18 ∨ (640 ≤ k ∧ k < 670)) → σ' k = σ k
theorem RF.rf {σ : ev_M} : RF σ σ := fun _ _ => rfl
theorem RF.up {σ ρ : ev_M} {n v : Int} (h : RF σ ρ) (hn : n = 15 ∨ n = 17 ∨ n = 18 ∨ (640 ≤ n ∧ n < 670)) : RF σ (ev_up ρ n v) := fun k hk => by
  rw [ev_up_ne (by intro z; subst z; exact hk hn)]
  exact h k hk
theorem RF.L {σ ρ : ev_M} {b : Int} (h : RF σ ρ) (hM : MI b σ) : ∀ p : Int, 0 ≤ p → Lm ρ p = Lm σ p := by
  intro p hp
  have := hM.s0
  unfold Lm
  rw [h 0 (by decide)]
  split
  · rw [h (100 + p) (by omega)]
  · rfl
theorem nf_c {L L' : Int → Int} {p : Int} (h : ∀ q, 0 ≤ q → L q = L' q) (hp : 0 ≤ p) : nf L p = nf L' p := by unfold nf; rw [h p hp, h (p + 1) (by omega)]
theorem nv_c {L L' : Int → Int} {p : Int} (h : ∀ q, 0 ≤ q → L q = L' q) (hp : 0 ≤ p) : nv L p = nv L' p := by unfold nv; rw [h p hp, h (p + 1) (by omega)]
theorem MI.rd {b n : Int} {τ : ev_M} (h : MI b τ) (h0 : 640 ≤ n) (h1 : n < 710) : 0 ≤ τ n ∧ τ n ≤ 99 := by
  have h2 := h n
  have e1 : mlo n = 0 := by
    unfold mlo
    rw [if_neg (by omega), if_neg (by omega), if_pos (by omega)]
  have e2 : mhi b n = 99 := by
    unfold mhi
    repeat' split
    all_goals omega
  rwa [e1, e2] at h2
theorem MI.urd {b n v : Int} {τ : ev_M} (h : MI b τ) (h0 : 640 ≤ n) (h1 : n < 710) (g0 : 0 ≤ v) (g1 : v ≤ 99) : MI b (ev_up τ n v) := by
  refine h.up ?_ ?_
  · have e1 : mlo n = 0 := by
      unfold mlo
      rw [if_neg (by omega), if_neg (by omega), if_pos (by omega)]
    rw [e1]; exact g0
  · have e2 : mhi b n = 99 := by
      unfold mhi
      repeat' split
      all_goals omega
    rw [e2]; exact g1
end
section
/-! the reference: items, the text read, laid -/
theorem s_X5_highest' {w : Int} {σ : ev_M} : Ev jX5_highest layM 0 [some (iv w)] [] σ (fun r σ' => r = hst w ∧ σ' = σ) := s_X5_highest
def APs (σ : ev_M) (p d : Int) : Prop := σ (640 + (5 * d + 1)) ≠ vl (Lm σ) p 1 ∨ (σ (640 + (5 * d + 2)) ≠ vl (Lm σ) p 2 ∧ σ (640 + (5 * d + 2)) < 31 ∧ vl (Lm σ) p 2 < 31)
def RI (σ : ev_M) (p b : Int) (k : Nat) (ρ : ev_M) : Prop := RF σ ρ ∧ MI b ρ ∧ ρ 15 = σ 15 ∧ ρ 18 = en (Lm σ) p k ∧ (∀ j : Nat, j < k → nok (Lm σ) p j) ∧ (∀ j : Nat, j < k → ρ (640 + (5 * σ 15 + (j : Int))) = vl (Lm σ) p j) ∧ ∀ m, 640 ≤ m → m < 640 + 5 * σ 15 → ρ m = σ m
def RQ (σ : ev_M) (p b r : Int) (σ' : ev_M) : Prop := RF σ σ' ∧ MI b σ' ∧ ((r = 1 ∧ σ 15 ≠ 6 ∧ itok (Lm σ) p ∧ (∀ d : Int, 0 ≤ d → d < σ 15 → APs σ p d) ∧ σ' 15 = σ 15 + 1 ∧ σ' 18 = en (Lm σ) p 5 ∧ (∀ j : Nat, j < 5 → σ' (640 + (5 * σ 15 + (j : Int))) = vl (Lm σ) p j) ∧ ∀ m, 640 ≤ m → m < 640 + 5 * σ 15 → σ' m = σ m) ∨ (r = 0 ∧ (σ 15 = 6 ∨ ¬ itok (Lm σ) p ∨ ∃ d : Int, 0 ≤ d ∧ d < σ 15 ∧ ¬ APs σ p d)))
theorem t_ri_end {σ ρ : ev_M} {p b wl : Int} {x4 x5 x2 : Option ev_V} (hM : MI b σ) (h6 : σ 15 ≠ 6) (hd : Lm σ p = 100) (hR : RI σ p b 5 ρ) (hw : (wl = 1 ∧ Lm σ (en (Lm σ) p 5) = 59 ∧ ∀ d : Int, 0 ≤ d → d < σ 15 → APs σ p d) ∨ (wl = 0 ∧ ¬ (Lm σ (en (Lm σ) p 5) = 59 ∧ ∀ d : Int, 0 ≤ d → d < σ 15 → APs σ p d))) : Ev jX5_readsItem layM 236 [some (rv 0), some (iv p), x2, some (iv wl), x4, x5] [] ρ (fun r σ' => RQ σ p b r σ') := by
  obtain ⟨r1, r2, r3, r4, r5, r6, r7⟩ := hR
  have h15 := hM.s15
  refine Ev.aload_n dX5_readsItem_236 rfl ?_
  refine Ev.dup dX5_readsItem_237 ?_
  refine Ev.geti (15) dX5_readsItem_238 fl_X5_37 lm_0 (by decide) rfl rfl ?_
  refine Ev.iconst dX5_readsItem_241 ⟨by decide, by decide⟩ ?_
  refine Ev.iadd dX5_readsItem_242 (by unfold ev_in; omega) ?_
  refine Ev.puti (15) dX5_readsItem_243 fl_X5_37 ft_5_15 lm_0 (by decide) rfl rfl ?_
  refine Ev.iload_n dX5_readsItem_246 rfl ?_
  refine Ev.bool rfl dX5_readsItem_247 (by omega) ?_
  refine ⟨r1.up (Or.inl rfl), r2.t15 (by omega) (by omega), ?_⟩
  rcases hw with ⟨rfl, hw1, hw2⟩ | ⟨rfl, hw1⟩
  · left
    refine ⟨rfl, h6, ⟨hd, r5, hw1⟩, hw2, ?_, ?_, ?_, ?_⟩
    · rw [ev_up_eq, r3]
    · rw [ev_up_ne (by decide), r4]
    · intro j hj
      rw [ev_up_ne (by omega), r6 j hj]
    · intro m m0 m1
      rw [ev_up_ne (by omega), r7 m m0 m1]
  · right
    refine ⟨rfl, ?_⟩
    by_cases hi : itok (Lm σ) p
    · right; right
      by_cases hx : ∃ d : Int, 0 ≤ d ∧ d < σ 15 ∧ ¬ APs σ p d
      · exact hx
      · exact absurd ⟨hi.2.2, fun d d0 d1 => Classical.byContradiction (fun z => hx ⟨d, d0, d1, z⟩)⟩ hw1
    · right; left; exact hi
theorem t_ri_ap {σ ρ : ev_M} {p b : Int} (hM : MI b σ) (h6 : σ 15 ≠ 6) (hd : Lm σ p = 100) (hR : RI σ p b 5 ρ) : ∀ (j k : Nat) (wl : Int) (x5 : Option ev_V), (k : Int) + j = σ 15 → ((wl = 1 ∧ Lm σ (en (Lm σ) p 5) = 59 ∧ ∀ d : Int, 0 ≤ d → d < (k : Int) → APs σ p d) ∨ (wl = 0 ∧ ¬ (Lm σ (en (Lm σ) p 5) = 59 ∧ ∀ d : Int, 0 ≤ d → d < (k : Int) → APs σ p d))) → Ev jX5_readsItem layM 126 [some (rv 0), some (iv p), some (iv (5 * σ 15)), some (iv wl), some (iv (k : Int)), x5] [] ρ (fun r σ' => RQ σ p b r σ') := by
  have h15 := hM.s15
  have hR' := hR
  obtain ⟨r1, r2, r3, r4, r5, r6, r7⟩ := hR'
  have v1 : ρ (640 + (5 * σ 15 + 1)) = vl (Lm σ) p 1 := r6 1 (by decide)
  have v2 : ρ (640 + (5 * σ 15 + 2)) = vl (Lm σ) p 2 := r6 2 (by decide)
  intro j
  induction j with
  | zero =>
    intro k wl x5 hk hw
    refine Ev.iload dX5_readsItem_126 rfl ?_
    refine Ev.aload_n dX5_readsItem_128 rfl ?_
    refine Ev.geti (15) dX5_readsItem_129 fl_X5_37 lm_0 (by decide) rfl rfl ?_
    refine Ev.icmp_ge (tgt := 236) dX5_readsItem_132 rfl (fun c132 => ?_) (fun c132 => ?_)
    · skip
      exact t_ri_end hM h6 hd hR (by rw [show σ 15 = (k : Int) by omega]; exact hw)
    · skip
      exact absurd c132 (by omega)
  | succ j ih =>
    intro k wl x5 hk hw
    have u1 : ρ (640 + (5 * (k : Int) + 1)) = σ (640 + (5 * (k : Int) + 1)) := r7 _ (by omega) (by omega)
    have u2 : ρ (640 + (5 * (k : Int) + 2)) = σ (640 + (5 * (k : Int) + 2)) := r7 _ (by omega) (by omega)
    have nx : ∀ (wl2 : Int) (x : Option ev_V), ((wl2 = 1 ∧ wl = 1 ∧ APs σ p (k : Int)) ∨ (wl2 = 0 ∧ (wl = 0 ∨ ¬ APs σ p (k : Int)))) → Ev jX5_readsItem layM 126 [some (rv 0), some (iv p), some (iv (5 * σ 15)), some (iv wl2), some (iv ((k : Int) + 1)), x] [] ρ (fun r σ' => RQ σ p b r σ') := by
      intro wl2 x h2
      refine ih (k + 1) wl2 x (by omega) ?_
      rcases h2 with ⟨a1, a2, a3⟩ | ⟨a1, a2⟩
      · left
        rcases hw with ⟨-, w2, w3⟩ | ⟨w1, -⟩
        · refine ⟨a1, w2, fun d d0 d1 => ?_⟩
          by_cases hdk : d = (k : Int)
          · rw [hdk]; exact a3
          · exact w3 d d0 (by omega)
        · omega
      · right
        refine ⟨a1, ?_⟩
        intro z
        rcases a2 with a2 | a2
        · rcases hw with ⟨w1, -⟩ | ⟨-, w2⟩
          · omega
          · exact w2 ⟨z.1, fun d d0 d1 => z.2 d d0 (by omega)⟩
        · exact a2 (z.2 (k : Int) (by omega) (by omega))
    refine Ev.iload dX5_readsItem_126 rfl ?_
    refine Ev.aload_n dX5_readsItem_128 rfl ?_
    refine Ev.geti (15) dX5_readsItem_129 fl_X5_37 lm_0 (by decide) rfl rfl ?_
    refine Ev.icmp_ge (tgt := 236) dX5_readsItem_132 rfl (fun c132 => ?_) (fun c132 => ?_)
    · skip
      exact absurd c132 (by omega)
    · skip
      refine Ev.aload_n dX5_readsItem_135 rfl ?_
      refine Ev.getr (640) dX5_readsItem_136 fl_X5_31 lm_0 (by decide) rfl rfl ?_
      refine Ev.iconst dX5_readsItem_139 ⟨by decide, by decide⟩ ?_
      refine Ev.iload dX5_readsItem_140 rfl ?_
      refine Ev.imul dX5_readsItem_142 (by unfold ev_in; omega) ?_
      refine Ev.iconst dX5_readsItem_143 ⟨by decide, by decide⟩ ?_
      refine Ev.iadd dX5_readsItem_144 (by unfold ev_in; omega) ?_
      refine Ev.iald dX5_readsItem_145 lm_640 (Or.inl rfl) (by omega) (by omega) ?_
      refine Ev.aload_n dX5_readsItem_146 rfl ?_
      refine Ev.getr (640) dX5_readsItem_147 fl_X5_31 lm_0 (by decide) rfl rfl ?_
      refine Ev.iload_n dX5_readsItem_150 rfl ?_
      refine Ev.iconst dX5_readsItem_151 ⟨by decide, by decide⟩ ?_
      refine Ev.iadd dX5_readsItem_152 (by unfold ev_in; omega) ?_
      refine Ev.iald dX5_readsItem_153 lm_640 (Or.inl rfl) (by omega) (by omega) ?_
      refine Ev.icmp_eq (tgt := 190) dX5_readsItem_154 rfl (fun c154 => ?_) (fun c154 => ?_)
      · skip
        refine Ev.iconst dX5_readsItem_190 ⟨by decide, by decide⟩ ?_
        refine Ev.istore5 dX5_readsItem_191 ?_
        refine Ev.iload_n dX5_readsItem_193 rfl ?_
        refine Ev.if_eq (tgt := 228) dX5_readsItem_194 rfl (fun c194 => ?_) (fun c194 => ?_)
        · skip
          refine Ev.iconst dX5_readsItem_228 ⟨by decide, by decide⟩ ?_
          refine Ev.istore3 rfl dX5_readsItem_229 ?_
          refine Ev.iinc4 dX5_readsItem_230 (by unfold ev_in; omega) ?_
          refine Ev.goto (tgt := 126) dX5_readsItem_233 rfl ?_
          refine nx _ _ ?_
          unfold APs
          rcases hw with ⟨w1, -⟩ | ⟨w1, -⟩ <;> omega
        · skip
          refine Ev.aload_n dX5_readsItem_197 rfl ?_
          refine Ev.getr (640) dX5_readsItem_198 fl_X5_31 lm_0 (by decide) rfl rfl ?_
          refine Ev.iconst dX5_readsItem_201 ⟨by decide, by decide⟩ ?_
          refine Ev.iload dX5_readsItem_202 rfl ?_
          refine Ev.imul dX5_readsItem_204 (by unfold ev_in; omega) ?_
          refine Ev.iconst dX5_readsItem_205 ⟨by decide, by decide⟩ ?_
          refine Ev.iadd dX5_readsItem_206 (by unfold ev_in; omega) ?_
          refine Ev.iald dX5_readsItem_207 lm_640 (Or.inl rfl) (by omega) (by omega) ?_
          refine Ev.aload_n dX5_readsItem_208 rfl ?_
          refine Ev.getr (640) dX5_readsItem_209 fl_X5_31 lm_0 (by decide) rfl rfl ?_
          refine Ev.iload_n dX5_readsItem_212 rfl ?_
          refine Ev.iconst dX5_readsItem_213 ⟨by decide, by decide⟩ ?_
          refine Ev.iadd dX5_readsItem_214 (by unfold ev_in; omega) ?_
          refine Ev.iald dX5_readsItem_215 lm_640 (Or.inl rfl) (by omega) (by omega) ?_
          refine Ev.icmp_ne (tgt := 224) dX5_readsItem_216 rfl (fun c216 => ?_) (fun c216 => ?_)
          · skip
            refine Ev.iconst dX5_readsItem_224 ⟨by decide, by decide⟩ ?_
            refine Ev.goto (tgt := 229) dX5_readsItem_225 rfl ?_
            refine Ev.istore3 rfl dX5_readsItem_229 ?_
            refine Ev.iinc4 dX5_readsItem_230 (by unfold ev_in; omega) ?_
            refine Ev.goto (tgt := 126) dX5_readsItem_233 rfl ?_
            refine nx _ _ ?_
            unfold APs
            rcases hw with ⟨w1, -⟩ | ⟨w1, -⟩ <;> omega
          · skip
            refine Ev.iload dX5_readsItem_219 rfl ?_
            refine Ev.if_eq (tgt := 228) dX5_readsItem_221 rfl (fun c221 => ?_) (fun c221 => ?_)
            · skip
              refine Ev.iconst dX5_readsItem_228 ⟨by decide, by decide⟩ ?_
              refine Ev.istore3 rfl dX5_readsItem_229 ?_
              refine Ev.iinc4 dX5_readsItem_230 (by unfold ev_in; omega) ?_
              refine Ev.goto (tgt := 126) dX5_readsItem_233 rfl ?_
              refine nx _ _ ?_
              unfold APs
              rcases hw with ⟨w1, -⟩ | ⟨w1, -⟩ <;> omega
            · skip
              refine Ev.iconst dX5_readsItem_224 ⟨by decide, by decide⟩ ?_
              refine Ev.goto (tgt := 229) dX5_readsItem_225 rfl ?_
              refine Ev.istore3 rfl dX5_readsItem_229 ?_
              refine Ev.iinc4 dX5_readsItem_230 (by unfold ev_in; omega) ?_
              refine Ev.goto (tgt := 126) dX5_readsItem_233 rfl ?_
              refine nx _ _ ?_
              unfold APs
              rcases hw with ⟨w1, -⟩ | ⟨w1, -⟩ <;> omega
      · skip
        refine Ev.aload_n dX5_readsItem_157 rfl ?_
        refine Ev.getr (640) dX5_readsItem_158 fl_X5_31 lm_0 (by decide) rfl rfl ?_
        refine Ev.iconst dX5_readsItem_161 ⟨by decide, by decide⟩ ?_
        refine Ev.iload dX5_readsItem_162 rfl ?_
        refine Ev.imul dX5_readsItem_164 (by unfold ev_in; omega) ?_
        refine Ev.iconst dX5_readsItem_165 ⟨by decide, by decide⟩ ?_
        refine Ev.iadd dX5_readsItem_166 (by unfold ev_in; omega) ?_
        refine Ev.iald dX5_readsItem_167 lm_640 (Or.inl rfl) (by omega) (by omega) ?_
        refine Ev.bipush dX5_readsItem_168 ⟨by decide, by decide⟩ (by decide) ?_
        refine Ev.icmp_ge (tgt := 190) dX5_readsItem_170 rfl (fun c170 => ?_) (fun c170 => ?_)
        · skip
          refine Ev.iconst dX5_readsItem_190 ⟨by decide, by decide⟩ ?_
          refine Ev.istore5 dX5_readsItem_191 ?_
          refine Ev.iload_n dX5_readsItem_193 rfl ?_
          refine Ev.if_eq (tgt := 228) dX5_readsItem_194 rfl (fun c194 => ?_) (fun c194 => ?_)
          · skip
            refine Ev.iconst dX5_readsItem_228 ⟨by decide, by decide⟩ ?_
            refine Ev.istore3 rfl dX5_readsItem_229 ?_
            refine Ev.iinc4 dX5_readsItem_230 (by unfold ev_in; omega) ?_
            refine Ev.goto (tgt := 126) dX5_readsItem_233 rfl ?_
            refine nx _ _ ?_
            unfold APs
            rcases hw with ⟨w1, -⟩ | ⟨w1, -⟩ <;> omega
          · skip
            refine Ev.aload_n dX5_readsItem_197 rfl ?_
            refine Ev.getr (640) dX5_readsItem_198 fl_X5_31 lm_0 (by decide) rfl rfl ?_
            refine Ev.iconst dX5_readsItem_201 ⟨by decide, by decide⟩ ?_
            refine Ev.iload dX5_readsItem_202 rfl ?_
            refine Ev.imul dX5_readsItem_204 (by unfold ev_in; omega) ?_
            refine Ev.iconst dX5_readsItem_205 ⟨by decide, by decide⟩ ?_
            refine Ev.iadd dX5_readsItem_206 (by unfold ev_in; omega) ?_
            refine Ev.iald dX5_readsItem_207 lm_640 (Or.inl rfl) (by omega) (by omega) ?_
            refine Ev.aload_n dX5_readsItem_208 rfl ?_
            refine Ev.getr (640) dX5_readsItem_209 fl_X5_31 lm_0 (by decide) rfl rfl ?_
            refine Ev.iload_n dX5_readsItem_212 rfl ?_
            refine Ev.iconst dX5_readsItem_213 ⟨by decide, by decide⟩ ?_
            refine Ev.iadd dX5_readsItem_214 (by unfold ev_in; omega) ?_
            refine Ev.iald dX5_readsItem_215 lm_640 (Or.inl rfl) (by omega) (by omega) ?_
            refine Ev.icmp_ne (tgt := 224) dX5_readsItem_216 rfl (fun c216 => ?_) (fun c216 => ?_)
            · skip
              refine Ev.iconst dX5_readsItem_224 ⟨by decide, by decide⟩ ?_
              refine Ev.goto (tgt := 229) dX5_readsItem_225 rfl ?_
              refine Ev.istore3 rfl dX5_readsItem_229 ?_
              refine Ev.iinc4 dX5_readsItem_230 (by unfold ev_in; omega) ?_
              refine Ev.goto (tgt := 126) dX5_readsItem_233 rfl ?_
              refine nx _ _ ?_
              unfold APs
              rcases hw with ⟨w1, -⟩ | ⟨w1, -⟩ <;> omega
            · skip
              refine Ev.iload dX5_readsItem_219 rfl ?_
              refine Ev.if_eq (tgt := 228) dX5_readsItem_221 rfl (fun c221 => ?_) (fun c221 => ?_)
              · skip
                refine Ev.iconst dX5_readsItem_228 ⟨by decide, by decide⟩ ?_
                refine Ev.istore3 rfl dX5_readsItem_229 ?_
                refine Ev.iinc4 dX5_readsItem_230 (by unfold ev_in; omega) ?_
                refine Ev.goto (tgt := 126) dX5_readsItem_233 rfl ?_
                refine nx _ _ ?_
                unfold APs
                rcases hw with ⟨w1, -⟩ | ⟨w1, -⟩ <;> omega
              · skip
                refine Ev.iconst dX5_readsItem_224 ⟨by decide, by decide⟩ ?_
                refine Ev.goto (tgt := 229) dX5_readsItem_225 rfl ?_
                refine Ev.istore3 rfl dX5_readsItem_229 ?_
                refine Ev.iinc4 dX5_readsItem_230 (by unfold ev_in; omega) ?_
                refine Ev.goto (tgt := 126) dX5_readsItem_233 rfl ?_
                refine nx _ _ ?_
                unfold APs
                rcases hw with ⟨w1, -⟩ | ⟨w1, -⟩ <;> omega
        · skip
          refine Ev.aload_n dX5_readsItem_173 rfl ?_
          refine Ev.getr (640) dX5_readsItem_174 fl_X5_31 lm_0 (by decide) rfl rfl ?_
          refine Ev.iload_n dX5_readsItem_177 rfl ?_
          refine Ev.iconst dX5_readsItem_178 ⟨by decide, by decide⟩ ?_
          refine Ev.iadd dX5_readsItem_179 (by unfold ev_in; omega) ?_
          refine Ev.iald dX5_readsItem_180 lm_640 (Or.inl rfl) (by omega) (by omega) ?_
          refine Ev.bipush dX5_readsItem_181 ⟨by decide, by decide⟩ (by decide) ?_
          refine Ev.icmp_ge (tgt := 190) dX5_readsItem_183 rfl (fun c183 => ?_) (fun c183 => ?_)
          · skip
            refine Ev.iconst dX5_readsItem_190 ⟨by decide, by decide⟩ ?_
            refine Ev.istore5 dX5_readsItem_191 ?_
            refine Ev.iload_n dX5_readsItem_193 rfl ?_
            refine Ev.if_eq (tgt := 228) dX5_readsItem_194 rfl (fun c194 => ?_) (fun c194 => ?_)
            · skip
              refine Ev.iconst dX5_readsItem_228 ⟨by decide, by decide⟩ ?_
              refine Ev.istore3 rfl dX5_readsItem_229 ?_
              refine Ev.iinc4 dX5_readsItem_230 (by unfold ev_in; omega) ?_
              refine Ev.goto (tgt := 126) dX5_readsItem_233 rfl ?_
              refine nx _ _ ?_
              unfold APs
              rcases hw with ⟨w1, -⟩ | ⟨w1, -⟩ <;> omega
            · skip
              refine Ev.aload_n dX5_readsItem_197 rfl ?_
              refine Ev.getr (640) dX5_readsItem_198 fl_X5_31 lm_0 (by decide) rfl rfl ?_
              refine Ev.iconst dX5_readsItem_201 ⟨by decide, by decide⟩ ?_
              refine Ev.iload dX5_readsItem_202 rfl ?_
              refine Ev.imul dX5_readsItem_204 (by unfold ev_in; omega) ?_
              refine Ev.iconst dX5_readsItem_205 ⟨by decide, by decide⟩ ?_
              refine Ev.iadd dX5_readsItem_206 (by unfold ev_in; omega) ?_
              refine Ev.iald dX5_readsItem_207 lm_640 (Or.inl rfl) (by omega) (by omega) ?_
              refine Ev.aload_n dX5_readsItem_208 rfl ?_
              refine Ev.getr (640) dX5_readsItem_209 fl_X5_31 lm_0 (by decide) rfl rfl ?_
              refine Ev.iload_n dX5_readsItem_212 rfl ?_
              refine Ev.iconst dX5_readsItem_213 ⟨by decide, by decide⟩ ?_
              refine Ev.iadd dX5_readsItem_214 (by unfold ev_in; omega) ?_
              refine Ev.iald dX5_readsItem_215 lm_640 (Or.inl rfl) (by omega) (by omega) ?_
              refine Ev.icmp_ne (tgt := 224) dX5_readsItem_216 rfl (fun c216 => ?_) (fun c216 => ?_)
              · skip
                refine Ev.iconst dX5_readsItem_224 ⟨by decide, by decide⟩ ?_
                refine Ev.goto (tgt := 229) dX5_readsItem_225 rfl ?_
                refine Ev.istore3 rfl dX5_readsItem_229 ?_
                refine Ev.iinc4 dX5_readsItem_230 (by unfold ev_in; omega) ?_
                refine Ev.goto (tgt := 126) dX5_readsItem_233 rfl ?_
                refine nx _ _ ?_
                unfold APs
                rcases hw with ⟨w1, -⟩ | ⟨w1, -⟩ <;> omega
              · skip
                refine Ev.iload dX5_readsItem_219 rfl ?_
                refine Ev.if_eq (tgt := 228) dX5_readsItem_221 rfl (fun c221 => ?_) (fun c221 => ?_)
                · skip
                  refine Ev.iconst dX5_readsItem_228 ⟨by decide, by decide⟩ ?_
                  refine Ev.istore3 rfl dX5_readsItem_229 ?_
                  refine Ev.iinc4 dX5_readsItem_230 (by unfold ev_in; omega) ?_
                  refine Ev.goto (tgt := 126) dX5_readsItem_233 rfl ?_
                  refine nx _ _ ?_
                  unfold APs
                  rcases hw with ⟨w1, -⟩ | ⟨w1, -⟩ <;> omega
                · skip
                  refine Ev.iconst dX5_readsItem_224 ⟨by decide, by decide⟩ ?_
                  refine Ev.goto (tgt := 229) dX5_readsItem_225 rfl ?_
                  refine Ev.istore3 rfl dX5_readsItem_229 ?_
                  refine Ev.iinc4 dX5_readsItem_230 (by unfold ev_in; omega) ?_
                  refine Ev.goto (tgt := 126) dX5_readsItem_233 rfl ?_
                  refine nx _ _ ?_
                  unfold APs
                  rcases hw with ⟨w1, -⟩ | ⟨w1, -⟩ <;> omega
          · skip
            refine Ev.iconst dX5_readsItem_186 ⟨by decide, by decide⟩ ?_
            refine Ev.goto (tgt := 191) dX5_readsItem_187 rfl ?_
            refine Ev.istore5 dX5_readsItem_191 ?_
            refine Ev.iload_n dX5_readsItem_193 rfl ?_
            refine Ev.if_eq (tgt := 228) dX5_readsItem_194 rfl (fun c194 => ?_) (fun c194 => ?_)
            · skip
              refine Ev.iconst dX5_readsItem_228 ⟨by decide, by decide⟩ ?_
              refine Ev.istore3 rfl dX5_readsItem_229 ?_
              refine Ev.iinc4 dX5_readsItem_230 (by unfold ev_in; omega) ?_
              refine Ev.goto (tgt := 126) dX5_readsItem_233 rfl ?_
              refine nx _ _ ?_
              unfold APs
              rcases hw with ⟨w1, -⟩ | ⟨w1, -⟩ <;> omega
            · skip
              refine Ev.aload_n dX5_readsItem_197 rfl ?_
              refine Ev.getr (640) dX5_readsItem_198 fl_X5_31 lm_0 (by decide) rfl rfl ?_
              refine Ev.iconst dX5_readsItem_201 ⟨by decide, by decide⟩ ?_
              refine Ev.iload dX5_readsItem_202 rfl ?_
              refine Ev.imul dX5_readsItem_204 (by unfold ev_in; omega) ?_
              refine Ev.iconst dX5_readsItem_205 ⟨by decide, by decide⟩ ?_
              refine Ev.iadd dX5_readsItem_206 (by unfold ev_in; omega) ?_
              refine Ev.iald dX5_readsItem_207 lm_640 (Or.inl rfl) (by omega) (by omega) ?_
              refine Ev.aload_n dX5_readsItem_208 rfl ?_
              refine Ev.getr (640) dX5_readsItem_209 fl_X5_31 lm_0 (by decide) rfl rfl ?_
              refine Ev.iload_n dX5_readsItem_212 rfl ?_
              refine Ev.iconst dX5_readsItem_213 ⟨by decide, by decide⟩ ?_
              refine Ev.iadd dX5_readsItem_214 (by unfold ev_in; omega) ?_
              refine Ev.iald dX5_readsItem_215 lm_640 (Or.inl rfl) (by omega) (by omega) ?_
              refine Ev.icmp_ne (tgt := 224) dX5_readsItem_216 rfl (fun c216 => ?_) (fun c216 => ?_)
              · skip
                refine Ev.iconst dX5_readsItem_224 ⟨by decide, by decide⟩ ?_
                refine Ev.goto (tgt := 229) dX5_readsItem_225 rfl ?_
                refine Ev.istore3 rfl dX5_readsItem_229 ?_
                refine Ev.iinc4 dX5_readsItem_230 (by unfold ev_in; omega) ?_
                refine Ev.goto (tgt := 126) dX5_readsItem_233 rfl ?_
                refine nx _ _ ?_
                unfold APs
                rcases hw with ⟨w1, -⟩ | ⟨w1, -⟩ <;> omega
              · skip
                refine Ev.iload dX5_readsItem_219 rfl ?_
                refine Ev.if_eq (tgt := 228) dX5_readsItem_221 rfl (fun c221 => ?_) (fun c221 => ?_)
                · skip
                  refine Ev.iconst dX5_readsItem_228 ⟨by decide, by decide⟩ ?_
                  refine Ev.istore3 rfl dX5_readsItem_229 ?_
                  refine Ev.iinc4 dX5_readsItem_230 (by unfold ev_in; omega) ?_
                  refine Ev.goto (tgt := 126) dX5_readsItem_233 rfl ?_
                  refine nx _ _ ?_
                  unfold APs
                  rcases hw with ⟨w1, -⟩ | ⟨w1, -⟩ <;> omega
                · skip
                  refine Ev.iconst dX5_readsItem_224 ⟨by decide, by decide⟩ ?_
                  refine Ev.goto (tgt := 229) dX5_readsItem_225 rfl ?_
                  refine Ev.istore3 rfl dX5_readsItem_229 ?_
                  refine Ev.iinc4 dX5_readsItem_230 (by unfold ev_in; omega) ?_
                  refine Ev.goto (tgt := 126) dX5_readsItem_233 rfl ?_
                  refine nx _ _ ?_
                  unfold APs
                  rcases hw with ⟨w1, -⟩ | ⟨w1, -⟩ <;> omega
end
section
/-! the reference: the text read, laid -/
theorem ite_01 {c : Prop} {i : Decidable c} {r : Int} (h : r = @ite Int c i 1 0) : (r = 1 ∧ c) ∨ (r = 0 ∧ ¬ c) := by
  rw [h]
  split
  · next a => exact Or.inl ⟨rfl, a⟩
  · next a => exact Or.inr ⟨rfl, a⟩
theorem t_ri_num {σ : ev_M} {p b : Int} (hM : MI b σ) (h6 : σ 15 ≠ 6) (hp : 0 ≤ p) (hp2 : p ≤ 300) (hd : Lm σ p = 100) : ∀ (j k : Nat) (ρ : ev_M), k + j = 5 → RI σ p b k ρ → Ev jX5_readsItem layM 35 [some (rv 0), some (iv p), some (iv (5 * σ 15)), some (iv (k : Int)), none, none] [] ρ (fun r σ' => RQ σ p b r σ') := by
  have h15 := hM.s15
  intro j
  induction j with
  | zero =>
    intro k ρ hk hR
    have hk5 : k = 5 := by omega
    subst hk5
    have hR' := hR
    obtain ⟨r1, r2, r3, r4, r5, r6, r7⟩ := hR'
    have l0 := r2.s0
    have e5 := en_rng (L := Lm σ) (p := p) 5
    have hL := r1.L hM (en (Lm σ) p 5) (by omega)
    refine Ev.iload_n dX5_readsItem_35 rfl ?_
    refine Ev.iconst dX5_readsItem_36 ⟨by decide, by decide⟩ ?_
    refine Ev.icmp_ge (tgt := 104) dX5_readsItem_37 rfl (fun c37 => ?_) (fun c37 => ?_)
    · skip
      refine Ev.aload_n dX5_readsItem_104 rfl ?_
      refine Ev.aload_n dX5_readsItem_105 rfl ?_
      refine Ev.geti (18) dX5_readsItem_106 fl_X5_79 lm_0 (by decide) rfl rfl ?_
      rw [r4]
      refine Ev.Vi1 (I' := jX5_letterAt) ml_X5_75 dX5_readsItem_109 cyX5_letterAt lm_0 rfl (by decide) ⟨by decide, by decide⟩ (by simp) rfl rfl (s_X5_letterAt' (by omega) (by omega)) (fun r σ' hr109 hq => ?_)
      obtain ⟨rfl, hq⟩ := hq
      replace hq := hq.symm
      subst hq
      refine Ev.bipush dX5_readsItem_112 ⟨by decide, by decide⟩ (by decide) ?_
      refine Ev.icmp_ne (tgt := 121) dX5_readsItem_114 rfl (fun c114 => ?_) (fun c114 => ?_)
      · skip
        refine Ev.iconst dX5_readsItem_121 ⟨by decide, by decide⟩ ?_
        refine Ev.istore3 rfl dX5_readsItem_122 ?_
        refine Ev.iconst dX5_readsItem_123 ⟨by decide, by decide⟩ ?_
        refine Ev.istore4 dX5_readsItem_124 ?_
        exact t_ri_ap hM h6 hd hR (σ 15).toNat 0 _ _ (by omega) (by first | (left; exact ⟨rfl, by omega, fun d d0 d1 => absurd d1 (by omega)⟩) | (right; exact ⟨rfl, fun z => absurd z.1 (by omega)⟩))
      · skip
        refine Ev.iconst dX5_readsItem_117 ⟨by decide, by decide⟩ ?_
        refine Ev.goto (tgt := 122) dX5_readsItem_118 rfl ?_
        refine Ev.istore3 rfl dX5_readsItem_122 ?_
        refine Ev.iconst dX5_readsItem_123 ⟨by decide, by decide⟩ ?_
        refine Ev.istore4 dX5_readsItem_124 ?_
        exact t_ri_ap hM h6 hd hR (σ 15).toNat 0 _ _ (by omega) (by first | (left; exact ⟨rfl, by omega, fun d d0 d1 => absurd d1 (by omega)⟩) | (right; exact ⟨rfl, fun z => absurd z.1 (by omega)⟩))
    · skip
      exact absurd c37 (by decide)
  | succ j ih =>
    intro k ρ hk hR
    have hR' := hR
    obtain ⟨r1, r2, r3, r4, r5, r6, r7⟩ := hR'
    have l0 := r2.s0
    have ek := en_rng (L := Lm σ) (p := p) k
    have hL := r1.L hM (en (Lm σ) p k) (by omega)
    have hLf := nf_c (p := en (Lm σ) p k + 1) (r1.L hM) (by omega)
    have hLv := nv_c (p := en (Lm σ) p k + 1) (r1.L hM) (by omega)
    have fr := nf_rng (L := Lm σ) (p := en (Lm σ) p k + 1)
    have vr := nv_rng (L := Lm σ) (p := en (Lm σ) p k + 1)
    have bad : ¬ nok (Lm σ) p k → ∀ ρ' : ev_M, RF σ ρ' → MI b ρ' → RQ σ p b 0 ρ' := fun hn ρ' q1 q2 => ⟨q1, q2, Or.inr ⟨rfl, Or.inr (Or.inl (fun z => hn (z.2.1 k (by omega))))⟩⟩
    have good : nok (Lm σ) p k → ∀ ρ' : ev_M, ρ' = ev_up (ev_up (ev_up ρ 17 (nv (Lm σ) (en (Lm σ) p k + 1))) 18 (en (Lm σ) p k + 1 + nf (Lm σ) (en (Lm σ) p k + 1))) (640 + (5 * σ 15 + (k : Int))) (nv (Lm σ) (en (Lm σ) p k + 1)) → RI σ p b (k + 1) ρ' := by
      intro hn ρ' e
      subst e
      refine ⟨((r1.up (Or.inr (Or.inl rfl))).up (Or.inr (Or.inr (Or.inl rfl)))).up (Or.inr (Or.inr (Or.inr (by omega)))), ((r2.t17 (by omega) (by omega)).t18 (by omega) (by omega)).urd (by omega) (by omega) (by omega) (by omega), ?_, ?_, ?_, ?_, ?_⟩
      · rw [ev_up_ne (by omega), ev_up_ne (by decide), ev_up_ne (by decide), r3]
      · rw [ev_up_ne (by omega), ev_up_eq]; rfl
      · intro i hi
        by_cases hik : i = k
        · rw [hik]; exact hn
        · exact r5 i (by omega)
      · intro i hi
        by_cases hik : i = k
        · subst hik; rw [ev_up_eq]; rfl
        · rw [ev_up_ne (by omega), ev_up_ne (by omega), ev_up_ne (by omega), r6 i (by omega)]
      · intro m m0 m1
        rw [ev_up_ne (by omega), ev_up_ne (by omega), ev_up_ne (by omega), r7 m m0 m1]
    refine Ev.iload_n dX5_readsItem_35 rfl ?_
    refine Ev.iconst dX5_readsItem_36 ⟨by decide, by decide⟩ ?_
    refine Ev.icmp_ge (tgt := 104) dX5_readsItem_37 rfl (fun c37 => ?_) (fun c37 => ?_)
    · skip
      exact absurd c37 (by omega)
    · skip
      refine Ev.iload_n dX5_readsItem_40 rfl ?_
      refine Ev.if_le (tgt := 57) dX5_readsItem_41 rfl (fun c41 => ?_) (fun c41 => ?_)
      · skip
        refine Ev.aload_n dX5_readsItem_57 rfl ?_
        refine Ev.aload_n dX5_readsItem_58 rfl ?_
        refine Ev.geti (18) dX5_readsItem_59 fl_X5_79 lm_0 (by decide) rfl rfl ?_
        rw [r4]
        refine Ev.iconst dX5_readsItem_62 ⟨by decide, by decide⟩ ?_
        refine Ev.iadd dX5_readsItem_63 (by unfold ev_in; omega) ?_
        refine Ev.iload_n dX5_readsItem_64 rfl ?_
        refine Ev.iconst dX5_readsItem_65 ⟨by decide, by decide⟩ ?_
        refine Ev.icmp_ne (tgt := 73) dX5_readsItem_66 rfl (fun c66 => ?_) (fun c66 => ?_)
        · skip
          refine Ev.iconst dX5_readsItem_73 ⟨by decide, by decide⟩ ?_
          refine Ev.iload_n dX5_readsItem_74 rfl ?_
          refine Ev.Si1 (I' := jX5_highest) ml_X5_86 dX5_readsItem_75 cyX5_highest (by decide) ⟨by decide, by decide⟩ (by simp) rfl rfl (s_X5_highest') (fun r σ' hr75 hq => ?_)
          obtain ⟨rfl, hq⟩ := hq
          replace hq := hq.symm
          subst hq
          refine Ev.Vi3 (I' := jX5_number) ml_X5_89 dX5_readsItem_78 cyX5_number lm_0 rfl (by decide) ⟨by decide, by decide⟩ (by simp) rfl rfl (s_X5_number r2 (by omega) (by omega)) (fun r σ' hr78 hq => ?_)
          rw [hLf, hLv] at hq
          obtain ⟨hq1, hq⟩ := hq
          subst hq
          have hq2 := ite_01 hq1
          clear hq1
          refine Ev.if_ne (tgt := 86) dX5_readsItem_81 rfl (fun c81 => ?_) (fun c81 => ?_)
          · skip
            refine Ev.aload_n dX5_readsItem_86 rfl ?_
            refine Ev.getr (640) dX5_readsItem_87 fl_X5_31 lm_0 (by decide) rfl rfl ?_
            refine Ev.iload_n dX5_readsItem_90 rfl ?_
            refine Ev.iload_n dX5_readsItem_91 rfl ?_
            refine Ev.iadd dX5_readsItem_92 (by unfold ev_in; omega) ?_
            refine Ev.aload_n dX5_readsItem_93 rfl ?_
            refine Ev.geti (17) dX5_readsItem_94 fl_X5_72 lm_0 (by decide) rfl rfl ?_
            try simp (disch := omega) only [ev_up_ne, ev_up_eqs]
            refine Ev.iast dX5_readsItem_97 lm_640 (by omega) (by omega) ?_
            refine Ev.iinc3 dX5_readsItem_98 (by unfold ev_in; omega) ?_
            refine Ev.goto (tgt := 35) dX5_readsItem_101 rfl ?_
            first | (exfalso; omega) | (refine ih (k + 1) _ (by omega) (good ?_ _ rfl); refine ⟨by omega, ?_⟩; unfold vl; (first | rw [if_pos (by omega)] | rw [if_neg (by omega)]); omega)
          · skip
            refine Ev.iconst dX5_readsItem_84 ⟨by decide, by decide⟩ ?_
            refine Ev.bool rfl dX5_readsItem_85 (by omega) ?_
            first | (exfalso; omega) | exact bad (fun z => by have := z.1; omega) _ r1 r2 | (refine bad (fun z => ?_) _ ((r1.up (Or.inr (Or.inl rfl))).up (Or.inr (Or.inr (Or.inl rfl)))) ((r2.t17 (by omega) (by omega)).t18 (by omega) (by omega)); have z2 := z.2; unfold vl at z2; (first | rw [if_pos (by omega)] at z2 | rw [if_neg (by omega)] at z2); omega)
        · skip
          refine Ev.iconst dX5_readsItem_69 ⟨by decide, by decide⟩ ?_
          refine Ev.goto (tgt := 74) dX5_readsItem_70 rfl ?_
          refine Ev.iload_n dX5_readsItem_74 rfl ?_
          refine Ev.Si1 (I' := jX5_highest) ml_X5_86 dX5_readsItem_75 cyX5_highest (by decide) ⟨by decide, by decide⟩ (by simp) rfl rfl (s_X5_highest') (fun r σ' hr75 hq => ?_)
          obtain ⟨rfl, hq⟩ := hq
          replace hq := hq.symm
          subst hq
          refine Ev.Vi3 (I' := jX5_number) ml_X5_89 dX5_readsItem_78 cyX5_number lm_0 rfl (by decide) ⟨by decide, by decide⟩ (by simp) rfl rfl (s_X5_number r2 (by omega) (by omega)) (fun r σ' hr78 hq => ?_)
          rw [hLf, hLv] at hq
          obtain ⟨hq1, hq⟩ := hq
          subst hq
          have hq2 := ite_01 hq1
          clear hq1
          refine Ev.if_ne (tgt := 86) dX5_readsItem_81 rfl (fun c81 => ?_) (fun c81 => ?_)
          · skip
            refine Ev.aload_n dX5_readsItem_86 rfl ?_
            refine Ev.getr (640) dX5_readsItem_87 fl_X5_31 lm_0 (by decide) rfl rfl ?_
            refine Ev.iload_n dX5_readsItem_90 rfl ?_
            refine Ev.iload_n dX5_readsItem_91 rfl ?_
            refine Ev.iadd dX5_readsItem_92 (by unfold ev_in; omega) ?_
            refine Ev.aload_n dX5_readsItem_93 rfl ?_
            refine Ev.geti (17) dX5_readsItem_94 fl_X5_72 lm_0 (by decide) rfl rfl ?_
            try simp (disch := omega) only [ev_up_ne, ev_up_eqs]
            refine Ev.iast dX5_readsItem_97 lm_640 (by omega) (by omega) ?_
            refine Ev.iinc3 dX5_readsItem_98 (by unfold ev_in; omega) ?_
            refine Ev.goto (tgt := 35) dX5_readsItem_101 rfl ?_
            first | (exfalso; omega) | (refine ih (k + 1) _ (by omega) (good ?_ _ rfl); refine ⟨by omega, ?_⟩; unfold vl; (first | rw [if_pos (by omega)] | rw [if_neg (by omega)]); omega)
          · skip
            refine Ev.iconst dX5_readsItem_84 ⟨by decide, by decide⟩ ?_
            refine Ev.bool rfl dX5_readsItem_85 (by omega) ?_
            first | (exfalso; omega) | exact bad (fun z => by have := z.1; omega) _ r1 r2 | (refine bad (fun z => ?_) _ ((r1.up (Or.inr (Or.inl rfl))).up (Or.inr (Or.inr (Or.inl rfl)))) ((r2.t17 (by omega) (by omega)).t18 (by omega) (by omega)); have z2 := z.2; unfold vl at z2; (first | rw [if_pos (by omega)] at z2 | rw [if_neg (by omega)] at z2); omega)
      · skip
        refine Ev.aload_n dX5_readsItem_44 rfl ?_
        refine Ev.aload_n dX5_readsItem_45 rfl ?_
        refine Ev.geti (18) dX5_readsItem_46 fl_X5_79 lm_0 (by decide) rfl rfl ?_
        rw [r4]
        refine Ev.Vi1 (I' := jX5_letterAt) ml_X5_75 dX5_readsItem_49 cyX5_letterAt lm_0 rfl (by decide) ⟨by decide, by decide⟩ (by simp) rfl rfl (s_X5_letterAt' (by omega) (by omega)) (fun r σ' hr49 hq => ?_)
        obtain ⟨rfl, hq⟩ := hq
        replace hq := hq.symm
        subst hq
        refine Ev.bipush dX5_readsItem_52 ⟨by decide, by decide⟩ (by decide) ?_
        refine Ev.icmp_ne (tgt := 84) dX5_readsItem_54 rfl (fun c54 => ?_) (fun c54 => ?_)
        · skip
          refine Ev.iconst dX5_readsItem_84 ⟨by decide, by decide⟩ ?_
          refine Ev.bool rfl dX5_readsItem_85 (by omega) ?_
          first | (exfalso; omega) | exact bad (fun z => by have := z.1; omega) _ r1 r2 | (refine bad (fun z => ?_) _ ((r1.up (Or.inr (Or.inl rfl))).up (Or.inr (Or.inr (Or.inl rfl)))) ((r2.t17 (by omega) (by omega)).t18 (by omega) (by omega)); have z2 := z.2; unfold vl at z2; (first | rw [if_pos (by omega)] at z2 | rw [if_neg (by omega)] at z2); omega)
        · skip
          refine Ev.aload_n dX5_readsItem_57 rfl ?_
          refine Ev.aload_n dX5_readsItem_58 rfl ?_
          refine Ev.geti (18) dX5_readsItem_59 fl_X5_79 lm_0 (by decide) rfl rfl ?_
          rw [r4]
          refine Ev.iconst dX5_readsItem_62 ⟨by decide, by decide⟩ ?_
          refine Ev.iadd dX5_readsItem_63 (by unfold ev_in; omega) ?_
          refine Ev.iload_n dX5_readsItem_64 rfl ?_
          refine Ev.iconst dX5_readsItem_65 ⟨by decide, by decide⟩ ?_
          refine Ev.icmp_ne (tgt := 73) dX5_readsItem_66 rfl (fun c66 => ?_) (fun c66 => ?_)
          · skip
            refine Ev.iconst dX5_readsItem_73 ⟨by decide, by decide⟩ ?_
            refine Ev.iload_n dX5_readsItem_74 rfl ?_
            refine Ev.Si1 (I' := jX5_highest) ml_X5_86 dX5_readsItem_75 cyX5_highest (by decide) ⟨by decide, by decide⟩ (by simp) rfl rfl (s_X5_highest') (fun r σ' hr75 hq => ?_)
            obtain ⟨rfl, hq⟩ := hq
            replace hq := hq.symm
            subst hq
            refine Ev.Vi3 (I' := jX5_number) ml_X5_89 dX5_readsItem_78 cyX5_number lm_0 rfl (by decide) ⟨by decide, by decide⟩ (by simp) rfl rfl (s_X5_number r2 (by omega) (by omega)) (fun r σ' hr78 hq => ?_)
            rw [hLf, hLv] at hq
            obtain ⟨hq1, hq⟩ := hq
            subst hq
            have hq2 := ite_01 hq1
            clear hq1
            refine Ev.if_ne (tgt := 86) dX5_readsItem_81 rfl (fun c81 => ?_) (fun c81 => ?_)
            · skip
              refine Ev.aload_n dX5_readsItem_86 rfl ?_
              refine Ev.getr (640) dX5_readsItem_87 fl_X5_31 lm_0 (by decide) rfl rfl ?_
              refine Ev.iload_n dX5_readsItem_90 rfl ?_
              refine Ev.iload_n dX5_readsItem_91 rfl ?_
              refine Ev.iadd dX5_readsItem_92 (by unfold ev_in; omega) ?_
              refine Ev.aload_n dX5_readsItem_93 rfl ?_
              refine Ev.geti (17) dX5_readsItem_94 fl_X5_72 lm_0 (by decide) rfl rfl ?_
              try simp (disch := omega) only [ev_up_ne, ev_up_eqs]
              refine Ev.iast dX5_readsItem_97 lm_640 (by omega) (by omega) ?_
              refine Ev.iinc3 dX5_readsItem_98 (by unfold ev_in; omega) ?_
              refine Ev.goto (tgt := 35) dX5_readsItem_101 rfl ?_
              first | (exfalso; omega) | (refine ih (k + 1) _ (by omega) (good ?_ _ rfl); refine ⟨by omega, ?_⟩; unfold vl; (first | rw [if_pos (by omega)] | rw [if_neg (by omega)]); omega)
            · skip
              refine Ev.iconst dX5_readsItem_84 ⟨by decide, by decide⟩ ?_
              refine Ev.bool rfl dX5_readsItem_85 (by omega) ?_
              first | (exfalso; omega) | exact bad (fun z => by have := z.1; omega) _ r1 r2 | (refine bad (fun z => ?_) _ ((r1.up (Or.inr (Or.inl rfl))).up (Or.inr (Or.inr (Or.inl rfl)))) ((r2.t17 (by omega) (by omega)).t18 (by omega) (by omega)); have z2 := z.2; unfold vl at z2; (first | rw [if_pos (by omega)] at z2 | rw [if_neg (by omega)] at z2); omega)
          · skip
            refine Ev.iconst dX5_readsItem_69 ⟨by decide, by decide⟩ ?_
            refine Ev.goto (tgt := 74) dX5_readsItem_70 rfl ?_
            refine Ev.iload_n dX5_readsItem_74 rfl ?_
            refine Ev.Si1 (I' := jX5_highest) ml_X5_86 dX5_readsItem_75 cyX5_highest (by decide) ⟨by decide, by decide⟩ (by simp) rfl rfl (s_X5_highest') (fun r σ' hr75 hq => ?_)
            obtain ⟨rfl, hq⟩ := hq
            replace hq := hq.symm
            subst hq
            refine Ev.Vi3 (I' := jX5_number) ml_X5_89 dX5_readsItem_78 cyX5_number lm_0 rfl (by decide) ⟨by decide, by decide⟩ (by simp) rfl rfl (s_X5_number r2 (by omega) (by omega)) (fun r σ' hr78 hq => ?_)
            rw [hLf, hLv] at hq
            obtain ⟨hq1, hq⟩ := hq
            subst hq
            have hq2 := ite_01 hq1
            clear hq1
            refine Ev.if_ne (tgt := 86) dX5_readsItem_81 rfl (fun c81 => ?_) (fun c81 => ?_)
            · skip
              refine Ev.aload_n dX5_readsItem_86 rfl ?_
              refine Ev.getr (640) dX5_readsItem_87 fl_X5_31 lm_0 (by decide) rfl rfl ?_
              refine Ev.iload_n dX5_readsItem_90 rfl ?_
              refine Ev.iload_n dX5_readsItem_91 rfl ?_
              refine Ev.iadd dX5_readsItem_92 (by unfold ev_in; omega) ?_
              refine Ev.aload_n dX5_readsItem_93 rfl ?_
              refine Ev.geti (17) dX5_readsItem_94 fl_X5_72 lm_0 (by decide) rfl rfl ?_
              try simp (disch := omega) only [ev_up_ne, ev_up_eqs]
              refine Ev.iast dX5_readsItem_97 lm_640 (by omega) (by omega) ?_
              refine Ev.iinc3 dX5_readsItem_98 (by unfold ev_in; omega) ?_
              refine Ev.goto (tgt := 35) dX5_readsItem_101 rfl ?_
              first | (exfalso; omega) | (refine ih (k + 1) _ (by omega) (good ?_ _ rfl); refine ⟨by omega, ?_⟩; unfold vl; (first | rw [if_pos (by omega)] | rw [if_neg (by omega)]); omega)
            · skip
              refine Ev.iconst dX5_readsItem_84 ⟨by decide, by decide⟩ ?_
              refine Ev.bool rfl dX5_readsItem_85 (by omega) ?_
              first | (exfalso; omega) | exact bad (fun z => by have := z.1; omega) _ r1 r2 | (refine bad (fun z => ?_) _ ((r1.up (Or.inr (Or.inl rfl))).up (Or.inr (Or.inr (Or.inl rfl)))) ((r2.t17 (by omega) (by omega)).t18 (by omega) (by omega)); have z2 := z.2; unfold vl at z2; (first | rw [if_pos (by omega)] at z2 | rw [if_neg (by omega)] at z2); omega)
theorem s_X5_readsItem {σ : ev_M} {p b : Int} (hM : MI b σ) (hp : 0 ≤ p) (hp2 : p ≤ 300) : Ev jX5_readsItem layM 0 [some (rv 0), some (iv p), none, none, none, none] [] σ (fun r σ' => RQ σ p b r σ') := by
  have h15 := hM.s15
  have h0 := hM.s0
  have zz : ∀ (ρ : ev_M), ρ = ev_up σ 18 p → RI σ p b 0 ρ := by
    intro ρ e
    subst e
    refine ⟨RF.rf.up (Or.inr (Or.inr (Or.inl rfl))), hM.t18 (by omega) (by omega), ev_up_ne (by decide), ev_up_eq, fun j hj => absurd hj (by omega), fun j hj => absurd hj (by omega), fun m m0 m1 => ev_up_ne (by omega)⟩
  refine Ev.aload_n dX5_readsItem_0 rfl ?_
  refine Ev.iload_n dX5_readsItem_1 rfl ?_
  refine Ev.Vi1 (I' := jX5_letterAt) ml_X5_75 dX5_readsItem_2 cyX5_letterAt lm_0 rfl (by decide) ⟨by decide, by decide⟩ (by simp) rfl rfl (s_X5_letterAt' (by omega) (by omega)) (fun r σ' hr2 hq => ?_)
  obtain ⟨rfl, hq⟩ := hq
  replace hq := hq.symm
  subst hq
  refine Ev.bipush dX5_readsItem_5 ⟨by decide, by decide⟩ (by decide) ?_
  refine Ev.icmp_ne (tgt := 19) dX5_readsItem_7 rfl (fun c7 => ?_) (fun c7 => ?_)
  · skip
    refine Ev.iconst dX5_readsItem_19 ⟨by decide, by decide⟩ ?_
    refine Ev.bool rfl dX5_readsItem_20 (by omega) ?_
    refine ⟨RF.rf, hM, Or.inr ⟨rfl, ?_⟩⟩
    first | (left; omega) | (right; left; exact fun z => absurd z.1 (by omega))
  · skip
    refine Ev.aload_n dX5_readsItem_10 rfl ?_
    refine Ev.geti (15) dX5_readsItem_11 fl_X5_37 lm_0 (by decide) rfl rfl ?_
    refine Ev.bipush dX5_readsItem_14 ⟨by decide, by decide⟩ (by decide) ?_
    refine Ev.icmp_ne (tgt := 21) dX5_readsItem_16 rfl (fun c16 => ?_) (fun c16 => ?_)
    · skip
      refine Ev.aload_n dX5_readsItem_21 rfl ?_
      refine Ev.iload_n dX5_readsItem_22 rfl ?_
      refine Ev.puti (18) dX5_readsItem_23 fl_X5_79 ft_5_18 lm_0 (by decide) rfl rfl ?_
      refine Ev.iconst dX5_readsItem_26 ⟨by decide, by decide⟩ ?_
      refine Ev.aload_n dX5_readsItem_27 rfl ?_
      refine Ev.geti (15) dX5_readsItem_28 fl_X5_37 lm_0 (by decide) rfl rfl ?_
      try simp (disch := omega) only [ev_up_ne, ev_up_eqs]
      refine Ev.imul dX5_readsItem_31 (by unfold ev_in; omega) ?_
      refine Ev.istore2 rfl dX5_readsItem_32 ?_
      refine Ev.iconst dX5_readsItem_33 ⟨by decide, by decide⟩ ?_
      refine Ev.istore3 rfl dX5_readsItem_34 ?_
      exact t_ri_num hM (by omega) hp hp2 (by omega) 5 0 _ (by decide) (zz _ rfl)
    · skip
      refine Ev.iconst dX5_readsItem_19 ⟨by decide, by decide⟩ ?_
      refine Ev.bool rfl dX5_readsItem_20 (by omega) ?_
      refine ⟨RF.rf, hM, Or.inr ⟨rfl, ?_⟩⟩
      first | (left; omega) | (right; left; exact fun z => absurd z.1 (by omega))
/-- what the items before n told, in the store -/
def RdI (σ : ev_M) (b : Int) (n : Nat) (ρ : ev_M) : Prop := n ≤ 6 ∧ RF σ ρ ∧ MI b ρ ∧ ρ 15 = (n : Int) ∧ (∀ i : Nat, i < n → sp (Lm σ) i < σ 0 ∧ okit (Lm σ) i) ∧ ∀ i j : Nat, i < n → j < 5 → ρ (640 + (5 * (i : Int) + (j : Int))) = va (Lm σ) i j
def RdQ (σ : ev_M) (b r : Int) (σ' : ev_M) : Prop := RF σ σ' ∧ MI b σ' ∧ ∃ n : Nat, RdP (Lm σ) (σ 0) r n ∧ (r = -4 → RdI σ b n σ')
theorem itok_c {L L' : Int → Int} {p : Int} (h : ∀ q, 0 ≤ q → L q = L' q) (hp : 0 ≤ p) : (∀ k : Nat, en L p k = en L' p k) ∧ (∀ k : Nat, vl L p k = vl L' p k) ∧ (itok L p ↔ itok L' p) := by
  have he : ∀ k : Nat, en L p k = en L' p k := by
    intro k
    induction k with
    | zero => rfl
    | succ k ih =>
      show en L p k + 1 + nf L (en L p k + 1) = en L' p k + 1 + nf L' (en L' p k + 1)
      have := en_rng (L := L') (p := p) k
      rw [ih, nf_c h (by omega)]
  have hv : ∀ k : Nat, vl L p k = vl L' p k := by
    intro k
    unfold vl
    have := en_rng (L := L') (p := p) k
    rw [he k, nv_c h (by omega)]
  refine ⟨he, hv, ?_⟩
  have hn : ∀ k : Nat, nok L p k ↔ nok L' p k := by
    intro k
    have := en_rng (L := L') (p := p) k
    unfold nok
    rw [hv k, he k, h _ (by omega), nf_c h (by omega)]
  have e5 := en_rng (L := L') (p := p) 5
  unfold itok
  rw [h p hp, he 5, h _ (by omega)]
  constructor
  · intro z; exact ⟨z.1, fun k hk => (hn k).mp (z.2.1 k hk), z.2.2⟩
  · intro z; exact ⟨z.1, fun k hk => (hn k).mpr (z.2.1 k hk), z.2.2⟩
theorem sp_rng {L : Int → Int} {len : Int} : ∀ n : Nat, (∀ i : Nat, i < n → sp L i < len) → 0 ≤ len → 0 ≤ sp L n ∧ sp L n ≤ len + 15
  | 0, _, hl => ⟨Int.le_refl 0, by show (0 : Int) ≤ len + 15; omega⟩
  | n + 1, h, hl => by
    have h1 := sp_rng n (fun i hi => h i (by omega)) hl
    have h2 := h n (by omega)
    have h3 := en_rng (L := L) (p := sp L n) 5
    show 0 ≤ en L (sp L n) 5 + 1 ∧ en L (sp L n) 5 + 1 ≤ len + 15
    omega
theorem s_X5_reads {σ : ev_M} {b : Int} (hM : MI b σ) : Ev jX5_reads layM 0 [some (rv 0), none] [] σ (fun r σ' => RdQ σ b r σ') := by
  have h0 := hM.s0
  have loop : ∀ (j n : Nat) (ρ : ev_M), n + j = 7 → RdI σ b n ρ → Ev jX5_reads layM 7 [some (rv 0), some (iv (sp (Lm σ) n))] [] ρ (fun r σ' => RdQ σ b r σ') := by
    intro j
    induction j with
    | zero =>
      intro n ρ hn hI
      exact absurd hI.1 (by omega)
    | succ j ih =>
      intro n ρ hn hI
      have hI' := hI
      obtain ⟨i0, i1, i2, i3, i4, i5⟩ := hI'
      have e0 : ρ 0 = σ 0 := i1 0 (by decide)
      have hs := sp_rng (L := Lm σ) (len := σ 0) n (fun i hi => (i4 i hi).1) h0.1
      obtain ⟨c1, c2, c3⟩ := itok_c (i1.L hM) hs.1
      have hap : ∀ d : Nat, d < n → (APs ρ (sp (Lm σ) n) (d : Int) ↔ apt (Lm σ) d n) := by
        intro d hd
        have j1 : ρ (640 + (5 * (d : Int) + 1)) = va (Lm σ) d 1 := i5 d 1 hd (by decide)
        have j2 : ρ (640 + (5 * (d : Int) + 2)) = va (Lm σ) d 2 := i5 d 2 hd (by decide)
        unfold APs apt
        rw [j1, j2, c2 1, c2 2]
        exact Iff.rfl
      refine Ev.iload_n dX5_reads_7 rfl ?_
      refine Ev.aload_n dX5_reads_8 rfl ?_
      refine Ev.geti (0) dX5_reads_9 fl_X5_69 lm_0 (by decide) rfl rfl ?_
      refine Ev.icmp_ge (tgt := 35) dX5_reads_12 rfl (fun c12 => ?_) (fun c12 => ?_)
      · skip
        refine Ev.bipush dX5_reads_35 ⟨by decide, by decide⟩ (by decide) ?_
        refine Ev.int rfl dX5_reads_37 ?_
        exact ⟨i1, i2, n, ⟨i0, i4, Or.inl ⟨by omega, rfl⟩⟩, fun _ => hI⟩
      · skip
        refine Ev.aload_n dX5_reads_15 rfl ?_
        refine Ev.iload_n dX5_reads_16 rfl ?_
        refine Ev.Vi1 (I' := jX5_readsItem) ml_X5_92 dX5_reads_17 cyX5_readsItem lm_0 rfl (by decide) ⟨by decide, by decide⟩ (by simp) rfl rfl (s_X5_readsItem i2 (by omega) (by omega)) (fun r σ' hr17 hq => ?_)
        obtain ⟨q1, q2, q3⟩ := hq
        have qF : RF σ σ' := fun k hk => (q1 k hk).trans (i1 k hk)
        refine Ev.if_ne (tgt := 25) dX5_reads_20 rfl (fun c20 => ?_) (fun c20 => ?_)
        · skip
          rcases q3 with ⟨-, q6, q7, q8, q9, q10, q11, q12⟩ | ⟨q4, -⟩
          rotate_left
          · exact absurd q4 c20
          have e18 := q2.s18
          refine Ev.aload_n dX5_reads_25 rfl ?_
          refine Ev.geti (18) dX5_reads_26 fl_X5_79 lm_0 (by decide) rfl rfl ?_
          refine Ev.iconst dX5_reads_29 ⟨by decide, by decide⟩ ?_
          refine Ev.iadd dX5_reads_30 (by unfold ev_in; omega) ?_
          refine Ev.istore1 rfl dX5_reads_31 ?_
          refine Ev.goto (tgt := 7) dX5_reads_32 rfl ?_
          rw [q10, c1 5]
          refine ih (n + 1) _ (by omega) ⟨by omega, qF, q2, by omega, ?_, ?_⟩
          · intro i hi
            by_cases hin : i = n
            · subst hin
              exact ⟨by omega, c3.mp q7, fun d hd => (hap d hd).mp (q8 (d : Int) (by omega) (by omega))⟩
            · exact i4 i (by omega)
          · intro i f hi hf
            by_cases hin : i = n
            · subst hin
              have := q11 f hf
              rw [i3] at this
              rw [this, c2 f]
              rfl
            · rw [q12 _ (by omega) (by omega), i5 i f (by omega) hf]
        · skip
          refine Ev.iload_n dX5_reads_23 rfl ?_
          refine Ev.int rfl dX5_reads_24 ?_
          refine ⟨qF, q2, n, ⟨i0, i4, Or.inr ⟨by omega, ?_, rfl⟩⟩, fun z => absurd z (by omega)⟩
          rcases q3 with ⟨q4, -⟩ | ⟨-, q5⟩
          · exact absurd q4 (by omega)
          · rcases q5 with q5 | q5 | ⟨d, d0, d1, q5⟩
            · left; omega
            · right; exact fun z => q5 (c3.mpr z.1)
            · right; exact fun z => q5 (by have := (hap d.toNat (by omega)).mpr (z.2 d.toNat (by omega)); rwa [show ((d.toNat : Nat) : Int) = d by omega] at this)
  refine Ev.aload_n dX5_reads_0 rfl ?_
  refine Ev.iconst dX5_reads_1 ⟨by decide, by decide⟩ ?_
  refine Ev.puti (15) dX5_reads_2 fl_X5_37 ft_5_15 lm_0 (by decide) rfl rfl ?_
  refine Ev.iconst dX5_reads_5 ⟨by decide, by decide⟩ ?_
  refine Ev.istore1 rfl dX5_reads_6 ?_
  exact loop 7 0 _ (by decide) ⟨by decide, RF.rf.up (Or.inl rfl), hM.t15 (by decide) (by decide), ev_up_eq, fun i hi => absurd hi (by omega), fun i j hi hj => absurd hi (by omega)⟩
theorem s_X5_fault {σ : ev_M} {b : Int} (hM : MI b σ) : Ev jX5_fault layM 0 [some (rv 0)] [] σ (fun r σ' => RdQ σ b r σ') := by
  refine Ev.aload_n dX5_fault_0 rfl ?_
  refine Ev.Vi0 (I' := jX5_reads) ml_X5_96 dX5_fault_1 cyX5_reads lm_0 rfl (by decide) ⟨by decide, by decide⟩ (by simp) rfl rfl (s_X5_reads hM) (fun r σ' hr1 hq => ?_)
  skip
  refine Ev.int rfl dX5_fault_4 ?_
  exact hq
def rawv (τ : ev_M) (e w : Int) : Int := if w < 5 ∧ e < τ 15 then τ (640 + (5 * e + w)) else 0
def finv (τ : ev_M) (e w : Int) : Int := if w = 11 ∨ w = 14 then -4 else rawv τ e w
def bgk (d k : Int) (τ : ev_M) : ev_M := fun n => if 300 ≤ n ∧ n < 408 then (if (n - 300) / 18 < d then finv τ ((n - 300) / 18) ((n - 300) % 18) else if (n - 300) / 18 = d ∧ (n - 300) % 18 < k then rawv τ ((n - 300) / 18) ((n - 300) % 18) else τ n) else τ n
theorem bgk_o {d k n : Int} {τ : ev_M} (h : n < 300 ∨ 408 ≤ n) : bgk d k τ n = τ n := by unfold bgk; rw [if_neg (by omega)]
theorem bgk_k {d k : Int} {τ : ev_M} (h0 : 0 ≤ d) (h1 : d < 6) (k0 : 0 ≤ k) (k1 : k < 18) : ev_up (bgk d k τ) (300 + (18 * d + k)) (rawv τ d k) = bgk d (k + 1) τ := by
  funext n
  by_cases hn : n = (300 + (18 * d + k))
  · rw [ev_up_eqs hn]
    unfold bgk
    rw [if_pos (by omega), if_neg (by omega), if_pos (by omega), show (n - 300) / 18 = d by omega, show (n - 300) % 18 = k by omega]
  · rw [ev_up_ne hn]
    unfold bgk
    by_cases a1 : 300 ≤ n ∧ n < 408
    · rw [if_pos a1, if_pos a1]
      by_cases a2 : (n - 300) / 18 < d
      · rw [if_pos a2, if_pos a2]
      · rw [if_neg a2, if_neg a2]
        by_cases a3 : (n - 300) / 18 = d ∧ (n - 300) % 18 < k
        · rw [if_pos a3, if_pos (by omega)]
        · rw [if_neg a3, if_neg (by omega)]
    · rw [if_neg a1, if_neg a1]
theorem bgk_d {d : Int} {τ : ev_M} (h0 : 0 ≤ d) (h1 : d < 6) : ev_up (ev_up (bgk d 18 τ) (300 + (18 * d + 11)) (-4)) (300 + (18 * d + 14)) (-4) = bgk (d + 1) 0 τ := by
  funext n
  by_cases h14 : n = (300 + (18 * d + 14))
  · rw [ev_up_eqs h14]
    unfold bgk finv
    rw [if_pos (by omega), if_pos (by omega), if_pos (by omega)]
  · rw [ev_up_ne h14]
    by_cases h11 : n = (300 + (18 * d + 11))
    · rw [ev_up_eqs h11]
      unfold bgk finv
      rw [if_pos (by omega), if_pos (by omega), if_pos (by omega)]
    · rw [ev_up_ne h11]
      unfold bgk
      by_cases a1 : 300 ≤ n ∧ n < 408
      · rw [if_pos a1, if_pos a1]
        by_cases a2 : (n - 300) / 18 < d
        · rw [if_pos a2, if_pos (by omega)]
        · rw [if_neg a2]
          by_cases a3 : (n - 300) / 18 = d
          · rw [if_pos (by omega), if_pos (by omega)]
            unfold finv
            rw [if_neg (by omega)]
          · rw [if_neg (by omega), if_neg (by omega), if_neg (by omega)]
      · rw [if_neg a1, if_neg a1]
def szk (k : Int) (τ : ev_M) : ev_M := fun n => if 570 ≤ n ∧ n < 570 + k then 0 else τ n
theorem szk_s {k : Int} {τ : ev_M} (h0 : 0 ≤ k) : ev_up (szk k τ) (570 + k) 0 = szk (k + 1) τ := by
  funext n
  by_cases hn : n = 570 + k
  · rw [ev_up_eqs hn]; unfold szk; rw [if_pos (by omega)]
  · rw [ev_up_ne hn]
    unfold szk
    by_cases a : 570 ≤ n ∧ n < 570 + k
    · rw [if_pos a, if_pos (by omega)]
    · rw [if_neg a, if_neg (by omega)]
def m_bg1 (τ : ev_M) : ev_M := ev_up (ev_up (ev_up (ev_up (ev_up (ev_up (bgk 6 0 (ev_up τ 2 (τ 15))) 5 0) 6 0) 7 0) 8 (-4)) 9 0) 11 0
def m_begins (τ : ev_M) : ev_M := szk 8 (m_bg1 τ)
theorem s_X5_begins {σ : ev_M} (h15 : 0 ≤ σ 15) (h15' : σ 15 ≤ 6) : Ev jX5_begins layM 0 [some (rv 0), none, none] [] σ (fun _ σ' => σ' = m_begins σ) := by
  have sl : ∀ (j k : Nat) (ρ : ev_M) (x : Option ev_V), k + j = 8 → ρ = szk (k : Int) (m_bg1 σ) → Ev jX5_begins layM 120 [some (rv 0), some (iv (k : Int)), x] [] ρ (fun _ σ' => σ' = m_begins σ) := by
    intro j
    induction j with
    | zero =>
      intro k ρ x hk hρ
      refine Ev.iload_n dX5_begins_120 rfl ?_
      refine Ev.bipush dX5_begins_121 ⟨by decide, by decide⟩ (by decide) ?_
      refine Ev.icmp_ge (tgt := 139) dX5_begins_123 rfl (fun c123 => ?_) (fun c123 => ?_)
      · skip
        refine Ev.vret dX5_begins_139 rfl ?_
        rw [hρ, show k = 8 by omega]
        rfl
      · skip
        exact absurd c123 (by omega)
    | succ j ih =>
      intro k ρ x hk hρ
      refine Ev.iload_n dX5_begins_120 rfl ?_
      refine Ev.bipush dX5_begins_121 ⟨by decide, by decide⟩ (by decide) ?_
      refine Ev.icmp_ge (tgt := 139) dX5_begins_123 rfl (fun c123 => ?_) (fun c123 => ?_)
      · skip
        exact absurd c123 (by omega)
      · skip
        refine Ev.aload_n dX5_begins_126 rfl ?_
        refine Ev.getr (570) dX5_begins_127 fl_X5_19 lm_0 (by decide) rfl rfl ?_
        refine Ev.iload_n dX5_begins_130 rfl ?_
        refine Ev.iconst dX5_begins_131 ⟨by decide, by decide⟩ ?_
        refine Ev.iast dX5_begins_132 lm_570 (by omega) (by omega) ?_
        refine Ev.iinc1 dX5_begins_133 (by unfold ev_in; omega) ?_
        refine Ev.goto (tgt := 120) dX5_begins_136 rfl ?_
        refine ih (k + 1) _ _ (by omega) ?_
        rw [hρ]
        exact szk_s (by omega)
  have il : ∀ (d : Nat), d < 6 → (∀ (ρ : ev_M) (x : Option ev_V), ρ = bgk ((d + 1 : Nat) : Int) 0 (ev_up σ 2 (σ 15)) → Ev jX5_begins layM 10 [some (rv 0), some (iv ((d + 1 : Nat) : Int)), x] [] ρ (fun _ σ' => σ' = m_begins σ)) → ∀ (j k : Nat) (ρ : ev_M), k + j = 18 → ρ = bgk (d : Int) (k : Int) (ev_up σ 2 (σ 15)) → Ev jX5_begins layM 18 [some (rv 0), some (iv (d : Int)), some (iv (k : Int))] [] ρ (fun _ σ' => σ' = m_begins σ) := by
    intro d hd nx j
    induction j with
    | zero =>
      intro k ρ hk hρ
      have hk18 : k = 18 := by omega
      subst hk18
      refine Ev.iload_n dX5_begins_18 rfl ?_
      refine Ev.bipush dX5_begins_19 ⟨by decide, by decide⟩ (by decide) ?_
      refine Ev.icmp_ge (tgt := 63) dX5_begins_21 rfl (fun c21 => ?_) (fun c21 => ?_)
      · skip
        refine Ev.aload_n dX5_begins_63 rfl ?_
        refine Ev.iload_n dX5_begins_64 rfl ?_
        refine Ev.bipush dX5_begins_65 ⟨by decide, by decide⟩ (by decide) ?_
        refine Ev.bipush dX5_begins_67 ⟨by decide, by decide⟩ (by decide) ?_
        refine Ev.Vv3 (I' := jX5_puts) ml_X5_47 dX5_begins_69 cyX5_puts lm_0 rfl (by decide) ⟨by decide, by decide⟩ (by simp) rfl rfl (s_X5_puts (by omega) (by omega) (by decide) (by decide)) (fun σ' hq => ?_)
        subst hq
        refine Ev.aload_n dX5_begins_72 rfl ?_
        refine Ev.iload_n dX5_begins_73 rfl ?_
        refine Ev.bipush dX5_begins_74 ⟨by decide, by decide⟩ (by decide) ?_
        refine Ev.bipush dX5_begins_76 ⟨by decide, by decide⟩ (by decide) ?_
        refine Ev.Vv3 (I' := jX5_puts) ml_X5_47 dX5_begins_78 cyX5_puts lm_0 rfl (by decide) ⟨by decide, by decide⟩ (by simp) rfl rfl (s_X5_puts (by omega) (by omega) (by decide) (by decide)) (fun σ' hq => ?_)
        subst hq
        refine Ev.iinc1 dX5_begins_81 (by unfold ev_in; omega) ?_
        refine Ev.goto (tgt := 10) dX5_begins_84 rfl ?_
        refine nx _ _ ?_
        rw [hρ]
        exact bgk_d (by omega) (by omega)
      · skip
        exact absurd c21 (by decide)
    | succ j ih =>
      intro k ρ hk hρ
      have e15 : ρ 15 = σ 15 := by rw [hρ, bgk_o (by decide), ev_up_ne (by decide)]
      have er : ρ (640 + (5 * (d : Int) + (k : Int))) = σ (640 + (5 * (d : Int) + (k : Int))) := by rw [hρ, bgk_o (by omega), ev_up_ne (by omega)]
      have ew : rawv (ev_up σ 2 (σ 15)) (d : Int) (k : Int) = (if (k : Int) < 5 ∧ (d : Int) < σ 15 then σ (640 + (5 * (d : Int) + (k : Int))) else 0) := by unfold rawv; rw [ev_up_ne (by decide), ev_up_ne (by omega)]
      refine Ev.iload_n dX5_begins_18 rfl ?_
      refine Ev.bipush dX5_begins_19 ⟨by decide, by decide⟩ (by decide) ?_
      refine Ev.icmp_ge (tgt := 63) dX5_begins_21 rfl (fun c21 => ?_) (fun c21 => ?_)
      · skip
        exact absurd c21 (by omega)
      · skip
        refine Ev.aload_n dX5_begins_24 rfl ?_
        refine Ev.iload_n dX5_begins_25 rfl ?_
        refine Ev.iload_n dX5_begins_26 rfl ?_
        refine Ev.iload_n dX5_begins_27 rfl ?_
        refine Ev.iconst dX5_begins_28 ⟨by decide, by decide⟩ ?_
        refine Ev.icmp_ge (tgt := 53) dX5_begins_29 rfl (fun c29 => ?_) (fun c29 => ?_)
        · skip
          refine Ev.iconst dX5_begins_53 ⟨by decide, by decide⟩ ?_
          refine Ev.Vv3 (I' := jX5_puts) ml_X5_47 dX5_begins_54 cyX5_puts lm_0 rfl (by decide) ⟨by decide, by decide⟩ (by simp) rfl rfl (s_X5_puts (by omega) (by omega) (by omega) (by omega)) (fun σ' hq => ?_)
          subst hq
          refine Ev.iinc2 dX5_begins_57 (by unfold ev_in; omega) ?_
          refine Ev.goto (tgt := 18) dX5_begins_60 rfl ?_
          refine ih (k + 1) _ (by omega) ?_
          have := bgk_k (d := (d : Int)) (k := (k : Int)) (τ := ev_up σ 2 (σ 15)) (by omega) (by omega) (by omega) (by omega)
          rw [ew] at this
          first | rw [if_pos (by omega)] at this | rw [if_neg (by omega)] at this
          rw [hρ]
          exact this
        · skip
          refine Ev.iload_n dX5_begins_32 rfl ?_
          refine Ev.aload_n dX5_begins_33 rfl ?_
          refine Ev.geti (15) dX5_begins_34 fl_X5_37 lm_0 (by decide) rfl rfl ?_
          refine Ev.icmp_ge (tgt := 53) dX5_begins_37 rfl (fun c37 => ?_) (fun c37 => ?_)
          · skip
            refine Ev.iconst dX5_begins_53 ⟨by decide, by decide⟩ ?_
            refine Ev.Vv3 (I' := jX5_puts) ml_X5_47 dX5_begins_54 cyX5_puts lm_0 rfl (by decide) ⟨by decide, by decide⟩ (by simp) rfl rfl (s_X5_puts (by omega) (by omega) (by omega) (by omega)) (fun σ' hq => ?_)
            subst hq
            refine Ev.iinc2 dX5_begins_57 (by unfold ev_in; omega) ?_
            refine Ev.goto (tgt := 18) dX5_begins_60 rfl ?_
            refine ih (k + 1) _ (by omega) ?_
            have := bgk_k (d := (d : Int)) (k := (k : Int)) (τ := ev_up σ 2 (σ 15)) (by omega) (by omega) (by omega) (by omega)
            rw [ew] at this
            first | rw [if_pos (by omega)] at this | rw [if_neg (by omega)] at this
            rw [hρ]
            exact this
          · skip
            refine Ev.aload_n dX5_begins_40 rfl ?_
            refine Ev.getr (640) dX5_begins_41 fl_X5_31 lm_0 (by decide) rfl rfl ?_
            refine Ev.iconst dX5_begins_44 ⟨by decide, by decide⟩ ?_
            refine Ev.iload_n dX5_begins_45 rfl ?_
            refine Ev.imul dX5_begins_46 (by unfold ev_in; omega) ?_
            refine Ev.iload_n dX5_begins_47 rfl ?_
            refine Ev.iadd dX5_begins_48 (by unfold ev_in; omega) ?_
            refine Ev.iald dX5_begins_49 lm_640 (Or.inl rfl) (by omega) (by omega) ?_
            rw [er]
            refine Ev.goto (tgt := 54) dX5_begins_50 rfl ?_
            refine Ev.Vv3 (I' := jX5_puts) ml_X5_47 dX5_begins_54 cyX5_puts lm_0 rfl (by decide) ⟨by decide, by decide⟩ (by simp) rfl rfl (s_X5_puts (by omega) (by omega) (by omega) (by omega)) (fun σ' hq => ?_)
            subst hq
            refine Ev.iinc2 dX5_begins_57 (by unfold ev_in; omega) ?_
            refine Ev.goto (tgt := 18) dX5_begins_60 rfl ?_
            refine ih (k + 1) _ (by omega) ?_
            have := bgk_k (d := (d : Int)) (k := (k : Int)) (τ := ev_up σ 2 (σ 15)) (by omega) (by omega) (by omega) (by omega)
            rw [ew] at this
            first | rw [if_pos (by omega)] at this | rw [if_neg (by omega)] at this
            rw [hρ]
            exact this
  have ol : ∀ (j d : Nat) (ρ : ev_M) (x : Option ev_V), d + j = 6 → ρ = bgk (d : Int) 0 (ev_up σ 2 (σ 15)) → Ev jX5_begins layM 10 [some (rv 0), some (iv (d : Int)), x] [] ρ (fun _ σ' => σ' = m_begins σ) := by
    intro j
    induction j with
    | zero =>
      intro d ρ x hd hρ
      have hd6 : d = 6 := by omega
      subst hd6
      refine Ev.iload_n dX5_begins_10 rfl ?_
      refine Ev.bipush dX5_begins_11 ⟨by decide, by decide⟩ (by decide) ?_
      refine Ev.icmp_ge (tgt := 87) dX5_begins_13 rfl (fun c13 => ?_) (fun c13 => ?_)
      · skip
        refine Ev.aload_n dX5_begins_87 rfl ?_
        refine Ev.iconst dX5_begins_88 ⟨by decide, by decide⟩ ?_
        refine Ev.puti (5) dX5_begins_89 fl_X5_51 ft_5_5 lm_0 (by decide) rfl rfl ?_
        refine Ev.aload_n dX5_begins_92 rfl ?_
        refine Ev.iconst dX5_begins_93 ⟨by decide, by decide⟩ ?_
        refine Ev.puti (6) dX5_begins_94 fl_X5_54 ft_5_6 lm_0 (by decide) rfl rfl ?_
        refine Ev.aload_n dX5_begins_97 rfl ?_
        refine Ev.iconst dX5_begins_98 ⟨by decide, by decide⟩ ?_
        refine Ev.puti (7) dX5_begins_99 fl_X5_57 ft_5_7 lm_0 (by decide) rfl rfl ?_
        refine Ev.aload_n dX5_begins_102 rfl ?_
        refine Ev.bipush dX5_begins_103 ⟨by decide, by decide⟩ (by decide) ?_
        refine Ev.puti (8) dX5_begins_105 fl_X5_60 ft_5_8 lm_0 (by decide) rfl rfl ?_
        refine Ev.aload_n dX5_begins_108 rfl ?_
        refine Ev.iconst dX5_begins_109 ⟨by decide, by decide⟩ ?_
        refine Ev.puti (9) dX5_begins_110 fl_X5_63 ft_5_9 lm_0 (by decide) rfl rfl ?_
        refine Ev.aload_n dX5_begins_113 rfl ?_
        refine Ev.iconst dX5_begins_114 ⟨by decide, by decide⟩ ?_
        refine Ev.puti (11) dX5_begins_115 fl_X5_66 ft_5_11 lm_0 (by decide) rfl rfl ?_
        refine Ev.iconst dX5_begins_118 ⟨by decide, by decide⟩ ?_
        refine Ev.istore1 rfl dX5_begins_119 ?_
        refine sl 8 0 _ _ (by decide) ?_
        rw [hρ]
        funext n
        unfold szk
        rw [if_neg (by omega)]
        rfl
      · skip
        exact absurd c13 (by decide)
    | succ j ih =>
      intro d ρ x hd hρ
      refine Ev.iload_n dX5_begins_10 rfl ?_
      refine Ev.bipush dX5_begins_11 ⟨by decide, by decide⟩ (by decide) ?_
      refine Ev.icmp_ge (tgt := 87) dX5_begins_13 rfl (fun c13 => ?_) (fun c13 => ?_)
      · skip
        exact absurd c13 (by omega)
      · skip
        refine Ev.iconst dX5_begins_16 ⟨by decide, by decide⟩ ?_
        refine Ev.istore2 rfl dX5_begins_17 ?_
        exact il d (by omega) (fun ρ x h => ih (d + 1) ρ x (by omega) h) 18 0 _ (by decide) hρ
  refine Ev.aload_n dX5_begins_0 rfl ?_
  refine Ev.aload_n dX5_begins_1 rfl ?_
  refine Ev.geti (15) dX5_begins_2 fl_X5_37 lm_0 (by decide) rfl rfl ?_
  refine Ev.puti (2) dX5_begins_5 fl_X5_44 ft_5_2 lm_0 (by decide) rfl rfl ?_
  refine Ev.iconst dX5_begins_8 ⟨by decide, by decide⟩ ?_
  refine Ev.istore1 rfl dX5_begins_9 ?_
  refine ol 6 0 _ _ (by decide) ?_
  funext n
  unfold bgk
  by_cases a1 : 300 ≤ n ∧ n < 408
  · rw [if_pos a1, if_neg (by omega), if_neg (by omega)]
  · rw [if_neg a1]
def LyQ (σ : ev_M) (b r : Int) (σ' : ev_M) : Prop := ∃ (q : Int) (ρ : ev_M), RdQ σ b q ρ ∧ ((r = -2 ∧ σ' = ρ ∧ ¬ (q = -4 ∧ ρ 15 ≠ 0 ∧ ρ 640 = 2)) ∨ (q = -4 ∧ ρ 15 ≠ 0 ∧ ρ 640 = 2 ∧ σ' = m_begins ρ ∧ r = m_begins ρ 2))
theorem s_X5_lay {σ : ev_M} {b : Int} (hM : MI b σ) : Ev jX5_lay layM 0 [some (rv 0)] [] σ (fun r σ' => LyQ σ b r σ') := by
  refine Ev.aload_n dX5_lay_0 rfl ?_
  refine Ev.Vi0 (I' := jX5_reads) ml_X5_96 dX5_lay_1 cyX5_reads lm_0 rfl (by decide) ⟨by decide, by decide⟩ (by simp) rfl rfl (s_X5_reads hM) (fun r σ' hr1 hq => ?_)
  have hR := hq
  refine Ev.bipush dX5_lay_4 ⟨by decide, by decide⟩ (by decide) ?_
  refine Ev.icmp_ne (tgt := 26) dX5_lay_6 rfl (fun c6 => ?_) (fun c6 => ?_)
  · skip
    refine Ev.bipush dX5_lay_26 ⟨by decide, by decide⟩ (by decide) ?_
    refine Ev.int rfl dX5_lay_28 ?_
    exact ⟨r, σ', hR, Or.inl ⟨rfl, rfl, by omega⟩⟩
  · skip
    refine Ev.aload_n dX5_lay_9 rfl ?_
    refine Ev.geti (15) dX5_lay_10 fl_X5_37 lm_0 (by decide) rfl rfl ?_
    refine Ev.if_eq (tgt := 26) dX5_lay_13 rfl (fun c13 => ?_) (fun c13 => ?_)
    · skip
      refine Ev.bipush dX5_lay_26 ⟨by decide, by decide⟩ (by decide) ?_
      refine Ev.int rfl dX5_lay_28 ?_
      exact ⟨r, σ', hR, Or.inl ⟨rfl, rfl, by omega⟩⟩
    · skip
      refine Ev.aload_n dX5_lay_16 rfl ?_
      refine Ev.getr (640) dX5_lay_17 fl_X5_31 lm_0 (by decide) rfl rfl ?_
      refine Ev.iconst dX5_lay_20 ⟨by decide, by decide⟩ ?_
      refine Ev.ialdn (640) dX5_lay_21 lm_640 (Or.inl rfl) (by decide) (by decide) rfl ?_
      refine Ev.iconst dX5_lay_22 ⟨by decide, by decide⟩ ?_
      refine Ev.icmp_eq (tgt := 29) dX5_lay_23 rfl (fun c23 => ?_) (fun c23 => ?_)
      · skip
        refine Ev.aload_n dX5_lay_29 rfl ?_
        refine Ev.Vv0 (I' := jX5_begins) ml_X5_41 dX5_lay_30 cyX5_begins lm_0 rfl (by decide) ⟨by decide, by decide⟩ (by simp) rfl rfl (s_X5_begins (hR.2.1.s15).1 (hR.2.1.s15).2) (fun σ' hq => ?_)
        subst hq
        refine Ev.aload_n dX5_lay_33 rfl ?_
        refine Ev.geti (2) dX5_lay_34 fl_X5_44 lm_0 (by decide) rfl rfl ?_
        refine Ev.int rfl dX5_lay_37 ?_
        exact ⟨r, σ', hR, Or.inr ⟨by omega, by omega, by omega, rfl, rfl⟩⟩
      · skip
        refine Ev.bipush dX5_lay_26 ⟨by decide, by decide⟩ (by decide) ?_
        refine Ev.int rfl dX5_lay_28 ?_
        exact ⟨r, σ', hR, Or.inl ⟨rfl, rfl, by omega⟩⟩
end
