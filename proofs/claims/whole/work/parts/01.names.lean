-- ===== PART A: goes FIRST, ahead of the names: the tables' words, and 'selects' of the private methods out of them =====
/-- a private method of a class that the tables say can be made, by its rows of tables_1 -/
def lw_okq (q : MethodName × Nat) : Prop := (q.1.cls ≠ "java/lang/invoke/MethodHandle" ∧ q.1.cls ≠ "java/lang/invoke/VarHandle") ∧ Cond.instantiable q.1.cls q.2 ∈ tables_1 ∧ Cond.privateMethod q.1 ∈ tables_1 ∧ Cond.instanceMethod q.1 ∈ tables_1
theorem lw_p0 : lw_okq (⟨"RhythmBench$Score", "start", "()V"⟩, 11) := ⟨⟨by decide +kernel, by decide +kernel⟩, List.mem_of_getElem? (i := 78) (by decide +kernel), List.mem_of_getElem? (i := 103) (by decide +kernel), List.mem_of_getElem? (i := 104) (by decide +kernel)⟩
theorem lw_p1 : lw_okq (⟨"RhythmBench", "partAt", "(I)LRhythmBench$Part;"⟩, 11) := ⟨⟨by decide +kernel, by decide +kernel⟩, List.mem_of_getElem? (i := 19) (by decide +kernel), List.mem_of_getElem? (i := 264) (by decide +kernel), List.mem_of_getElem? (i := 265) (by decide +kernel)⟩
theorem lw_p2 : lw_okq (⟨"RhythmBench$Grammar", "start", "()V"⟩, 6) := ⟨⟨by decide +kernel, by decide +kernel⟩, List.mem_of_getElem? (i := 44) (by decide +kernel), List.mem_of_getElem? (i := 272) (by decide +kernel), List.mem_of_getElem? (i := 273) (by decide +kernel)⟩
theorem lw_p3 : lw_okq (⟨"RhythmBench$Grammar", "endSound", "()V"⟩, 6) := ⟨⟨by decide +kernel, by decide +kernel⟩, List.mem_of_getElem? (i := 44) (by decide +kernel), List.mem_of_getElem? (i := 276) (by decide +kernel), List.mem_of_getElem? (i := 277) (by decide +kernel)⟩
theorem lw_p4 : lw_okq (⟨"RhythmBench$Grammar", "accepts", "(I)Z"⟩, 6) := ⟨⟨by decide +kernel, by decide +kernel⟩, List.mem_of_getElem? (i := 44) (by decide +kernel), List.mem_of_getElem? (i := 285) (by decide +kernel), List.mem_of_getElem? (i := 286) (by decide +kernel)⟩
theorem lw_p5 : lw_okq (⟨"RhythmBench$Grammar", "beginsSound", "(IZ)Z"⟩, 6) := ⟨⟨by decide +kernel, by decide +kernel⟩, List.mem_of_getElem? (i := 44) (by decide +kernel), List.mem_of_getElem? (i := 292) (by decide +kernel), List.mem_of_getElem? (i := 293) (by decide +kernel)⟩
theorem lw_p6 : lw_okq (⟨"RhythmBench$Grammar", "goesOn", "(ZI)Z"⟩, 6) := ⟨⟨by decide +kernel, by decide +kernel⟩, List.mem_of_getElem? (i := 44) (by decide +kernel), List.mem_of_getElem? (i := 384) (by decide +kernel), List.mem_of_getElem? (i := 385) (by decide +kernel)⟩
theorem lw_p7 : lw_okq (⟨"RhythmBench$Grammar", "acceptsItem", "(I)Z"⟩, 6) := ⟨⟨by decide +kernel, by decide +kernel⟩, List.mem_of_getElem? (i := 44) (by decide +kernel), List.mem_of_getElem? (i := 388) (by decide +kernel), List.mem_of_getElem? (i := 389) (by decide +kernel)⟩
theorem lw_p8 : lw_okq (⟨"RhythmBench$Grammar", "addsDot", "()Z"⟩, 6) := ⟨⟨by decide +kernel, by decide +kernel⟩, List.mem_of_getElem? (i := 44) (by decide +kernel), List.mem_of_getElem? (i := 392) (by decide +kernel), List.mem_of_getElem? (i := 393) (by decide +kernel)⟩
theorem lw_p9 : lw_okq (⟨"RhythmBench$Grammar", "addsTie", "()Z"⟩, 6) := ⟨⟨by decide +kernel, by decide +kernel⟩, List.mem_of_getElem? (i := 44) (by decide +kernel), List.mem_of_getElem? (i := 396) (by decide +kernel), List.mem_of_getElem? (i := 397) (by decide +kernel)⟩
theorem lw_p10 : lw_okq (⟨"RhythmBench$Grammar", "opensTuplet", "()Z"⟩, 6) := ⟨⟨by decide +kernel, by decide +kernel⟩, List.mem_of_getElem? (i := 44) (by decide +kernel), List.mem_of_getElem? (i := 400) (by decide +kernel), List.mem_of_getElem? (i := 401) (by decide +kernel)⟩
theorem lw_p11 : lw_okq (⟨"RhythmBench$Grammar", "closesTuplet", "()Z"⟩, 6) := ⟨⟨by decide +kernel, by decide +kernel⟩, List.mem_of_getElem? (i := 44) (by decide +kernel), List.mem_of_getElem? (i := 404) (by decide +kernel), List.mem_of_getElem? (i := 405) (by decide +kernel)⟩
theorem lw_p12 : lw_okq (⟨"RhythmBench$Grammar", "opensRepeat", "()Z"⟩, 6) := ⟨⟨by decide +kernel, by decide +kernel⟩, List.mem_of_getElem? (i := 44) (by decide +kernel), List.mem_of_getElem? (i := 408) (by decide +kernel), List.mem_of_getElem? (i := 409) (by decide +kernel)⟩
theorem lw_p13 : lw_okq (⟨"RhythmBench$Grammar", "closesRepeat", "()Z"⟩, 6) := ⟨⟨by decide +kernel, by decide +kernel⟩, List.mem_of_getElem? (i := 44) (by decide +kernel), List.mem_of_getElem? (i := 412) (by decide +kernel), List.mem_of_getElem? (i := 413) (by decide +kernel)⟩
theorem lw_p14 : lw_okq (⟨"RhythmBench", "remember", "()V"⟩, 11) := ⟨⟨by decide +kernel, by decide +kernel⟩, List.mem_of_getElem? (i := 19) (by decide +kernel), List.mem_of_getElem? (i := 448) (by decide +kernel), List.mem_of_getElem? (i := 449) (by decide +kernel)⟩
theorem lw_p15 : lw_okq (⟨"RhythmBench", "dropOldest", "()V"⟩, 11) := ⟨⟨by decide +kernel, by decide +kernel⟩, List.mem_of_getElem? (i := 19) (by decide +kernel), List.mem_of_getElem? (i := 452) (by decide +kernel), List.mem_of_getElem? (i := 453) (by decide +kernel)⟩
def lw_privs_1 : List (MethodName × Nat) := [(⟨"RhythmBench$Score", "start", "()V"⟩, 11), (⟨"RhythmBench", "partAt", "(I)LRhythmBench$Part;"⟩, 11), (⟨"RhythmBench$Grammar", "start", "()V"⟩, 6), (⟨"RhythmBench$Grammar", "endSound", "()V"⟩, 6), (⟨"RhythmBench$Grammar", "accepts", "(I)Z"⟩, 6), (⟨"RhythmBench$Grammar", "beginsSound", "(IZ)Z"⟩, 6), (⟨"RhythmBench$Grammar", "goesOn", "(ZI)Z"⟩, 6), (⟨"RhythmBench$Grammar", "acceptsItem", "(I)Z"⟩, 6), (⟨"RhythmBench$Grammar", "addsDot", "()Z"⟩, 6), (⟨"RhythmBench$Grammar", "addsTie", "()Z"⟩, 6), (⟨"RhythmBench$Grammar", "opensTuplet", "()Z"⟩, 6), (⟨"RhythmBench$Grammar", "closesTuplet", "()Z"⟩, 6), (⟨"RhythmBench$Grammar", "opensRepeat", "()Z"⟩, 6), (⟨"RhythmBench$Grammar", "closesRepeat", "()Z"⟩, 6), (⟨"RhythmBench", "remember", "()V"⟩, 11), (⟨"RhythmBench", "dropOldest", "()V"⟩, 11)]
theorem lw_r1 : ∀ q ∈ lw_privs_1, lw_okq q := List.forall_mem_cons.mpr ⟨lw_p0, List.forall_mem_cons.mpr ⟨lw_p1, List.forall_mem_cons.mpr ⟨lw_p2, List.forall_mem_cons.mpr ⟨lw_p3, List.forall_mem_cons.mpr ⟨lw_p4, List.forall_mem_cons.mpr ⟨lw_p5, List.forall_mem_cons.mpr ⟨lw_p6, List.forall_mem_cons.mpr ⟨lw_p7, List.forall_mem_cons.mpr ⟨lw_p8, List.forall_mem_cons.mpr ⟨lw_p9, List.forall_mem_cons.mpr ⟨lw_p10, List.forall_mem_cons.mpr ⟨lw_p11, List.forall_mem_cons.mpr ⟨lw_p12, List.forall_mem_cons.mpr ⟨lw_p13, List.forall_mem_cons.mpr ⟨lw_p14, List.forall_mem_cons.mpr ⟨lw_p15, fun _ h => absurd h List.not_mem_nil⟩⟩⟩⟩⟩⟩⟩⟩⟩⟩⟩⟩⟩⟩⟩⟩
theorem lw_p16 : lw_okq (⟨"RhythmBench$Score", "beginBar", "()V"⟩, 11) := ⟨⟨by decide +kernel, by decide +kernel⟩, List.mem_of_getElem? (i := 78) (by decide +kernel), List.mem_of_getElem? (i := 472) (by decide +kernel), List.mem_of_getElem? (i := 473) (by decide +kernel)⟩
theorem lw_p17 : lw_okq (⟨"RhythmBench$Score", "addSound", "(LRhythmBench$Text;I)V"⟩, 11) := ⟨⟨by decide +kernel, by decide +kernel⟩, List.mem_of_getElem? (i := 78) (by decide +kernel), List.mem_of_getElem? (i := 486) (by decide +kernel), List.mem_of_getElem? (i := 487) (by decide +kernel)⟩
theorem lw_p18 : lw_okq (⟨"RhythmBench$Score", "addNote", "(JZ)V"⟩, 11) := ⟨⟨by decide +kernel, by decide +kernel⟩, List.mem_of_getElem? (i := 78) (by decide +kernel), List.mem_of_getElem? (i := 498) (by decide +kernel), List.mem_of_getElem? (i := 499) (by decide +kernel)⟩
theorem lw_p19 : lw_okq (⟨"RhythmBench", "swing", "(J)J"⟩, 11) := ⟨⟨by decide +kernel, by decide +kernel⟩, List.mem_of_getElem? (i := 19) (by decide +kernel), List.mem_of_getElem? (i := 588) (by decide +kernel), List.mem_of_getElem? (i := 589) (by decide +kernel)⟩
theorem lw_p20 : lw_okq (⟨"RhythmBench", "level", "(J)I"⟩, 11) := ⟨⟨by decide +kernel, by decide +kernel⟩, List.mem_of_getElem? (i := 19) (by decide +kernel), List.mem_of_getElem? (i := 611) (by decide +kernel), List.mem_of_getElem? (i := 612) (by decide +kernel)⟩
theorem lw_p21 : lw_okq (⟨"RhythmBench", "meterLength", "()J"⟩, 11) := ⟨⟨by decide +kernel, by decide +kernel⟩, List.mem_of_getElem? (i := 19) (by decide +kernel), List.mem_of_getElem? (i := 615) (by decide +kernel), List.mem_of_getElem? (i := 616) (by decide +kernel)⟩
theorem lw_p22 : lw_okq (⟨"RhythmBench", "syncopationOf", "(LRhythmBench$Score;I)I"⟩, 11) := ⟨⟨by decide +kernel, by decide +kernel⟩, List.mem_of_getElem? (i := 19) (by decide +kernel), List.mem_of_getElem? (i := 619) (by decide +kernel), List.mem_of_getElem? (i := 620) (by decide +kernel)⟩
theorem lw_p23 : lw_okq (⟨"RhythmBench", "leastLevelBetween", "(JJ)I"⟩, 11) := ⟨⟨by decide +kernel, by decide +kernel⟩, List.mem_of_getElem? (i := 19) (by decide +kernel), List.mem_of_getElem? (i := 623) (by decide +kernel), List.mem_of_getElem? (i := 624) (by decide +kernel)⟩
theorem lw_p24 : lw_okq (⟨"RhythmBench$Overlay", "offer", "(IJ)V"⟩, 3) := ⟨⟨by decide +kernel, by decide +kernel⟩, List.mem_of_getElem? (i := 186) (by decide +kernel), List.mem_of_getElem? (i := 676) (by decide +kernel), List.mem_of_getElem? (i := 677) (by decide +kernel)⟩
theorem lw_p25 : lw_okq (⟨"RhythmBenchModel", "wrongAt", "()I"⟩, 29) := ⟨⟨by decide +kernel, by decide +kernel⟩, List.mem_of_getElem? (i := 719) (by decide +kernel), List.mem_of_getElem? (i := 831) (by decide +kernel), List.mem_of_getElem? (i := 832) (by decide +kernel)⟩
theorem lw_p26 : lw_okq (⟨"RhythmBenchModel", "may", "(I)Z"⟩, 29) := ⟨⟨by decide +kernel, by decide +kernel⟩, List.mem_of_getElem? (i := 719) (by decide +kernel), List.mem_of_getElem? (i := 835) (by decide +kernel), List.mem_of_getElem? (i := 836) (by decide +kernel)⟩
theorem lw_p27 : lw_okq (⟨"RhythmBenchModel", "begins", "(I)Z"⟩, 29) := ⟨⟨by decide +kernel, by decide +kernel⟩, List.mem_of_getElem? (i := 719) (by decide +kernel), List.mem_of_getElem? (i := 839) (by decide +kernel), List.mem_of_getElem? (i := 840) (by decide +kernel)⟩
theorem lw_p28 : lw_okq (⟨"RhythmBenchModel", "outside", "(I)Z"⟩, 29) := ⟨⟨by decide +kernel, by decide +kernel⟩, List.mem_of_getElem? (i := 719) (by decide +kernel), List.mem_of_getElem? (i := 846) (by decide +kernel), List.mem_of_getElem? (i := 847) (by decide +kernel)⟩
theorem lw_p29 : lw_okq (⟨"RhythmBenchModel", "dotted", "(I)Z"⟩, 29) := ⟨⟨by decide +kernel, by decide +kernel⟩, List.mem_of_getElem? (i := 719) (by decide +kernel), List.mem_of_getElem? (i := 850) (by decide +kernel), List.mem_of_getElem? (i := 851) (by decide +kernel)⟩
theorem lw_p30 : lw_okq (⟨"RhythmBenchModel", "numbered", "(I)Z"⟩, 29) := ⟨⟨by decide +kernel, by decide +kernel⟩, List.mem_of_getElem? (i := 719) (by decide +kernel), List.mem_of_getElem? (i := 854) (by decide +kernel), List.mem_of_getElem? (i := 855) (by decide +kernel)⟩
theorem lw_p31 : lw_okq (⟨"RhythmBenchModel", "takes", "(I[II)V"⟩, 29) := ⟨⟨by decide +kernel, by decide +kernel⟩, List.mem_of_getElem? (i := 719) (by decide +kernel), List.mem_of_getElem? (i := 861) (by decide +kernel), List.mem_of_getElem? (i := 862) (by decide +kernel)⟩
def lw_privs_2 : List (MethodName × Nat) := [(⟨"RhythmBench$Score", "beginBar", "()V"⟩, 11), (⟨"RhythmBench$Score", "addSound", "(LRhythmBench$Text;I)V"⟩, 11), (⟨"RhythmBench$Score", "addNote", "(JZ)V"⟩, 11), (⟨"RhythmBench", "swing", "(J)J"⟩, 11), (⟨"RhythmBench", "level", "(J)I"⟩, 11), (⟨"RhythmBench", "meterLength", "()J"⟩, 11), (⟨"RhythmBench", "syncopationOf", "(LRhythmBench$Score;I)I"⟩, 11), (⟨"RhythmBench", "leastLevelBetween", "(JJ)I"⟩, 11), (⟨"RhythmBench$Overlay", "offer", "(IJ)V"⟩, 3), (⟨"RhythmBenchModel", "wrongAt", "()I"⟩, 29), (⟨"RhythmBenchModel", "may", "(I)Z"⟩, 29), (⟨"RhythmBenchModel", "begins", "(I)Z"⟩, 29), (⟨"RhythmBenchModel", "outside", "(I)Z"⟩, 29), (⟨"RhythmBenchModel", "dotted", "(I)Z"⟩, 29), (⟨"RhythmBenchModel", "numbered", "(I)Z"⟩, 29), (⟨"RhythmBenchModel", "takes", "(I[II)V"⟩, 29)]
theorem lw_r2 : ∀ q ∈ lw_privs_2, lw_okq q := List.forall_mem_cons.mpr ⟨lw_p16, List.forall_mem_cons.mpr ⟨lw_p17, List.forall_mem_cons.mpr ⟨lw_p18, List.forall_mem_cons.mpr ⟨lw_p19, List.forall_mem_cons.mpr ⟨lw_p20, List.forall_mem_cons.mpr ⟨lw_p21, List.forall_mem_cons.mpr ⟨lw_p22, List.forall_mem_cons.mpr ⟨lw_p23, List.forall_mem_cons.mpr ⟨lw_p24, List.forall_mem_cons.mpr ⟨lw_p25, List.forall_mem_cons.mpr ⟨lw_p26, List.forall_mem_cons.mpr ⟨lw_p27, List.forall_mem_cons.mpr ⟨lw_p28, List.forall_mem_cons.mpr ⟨lw_p29, List.forall_mem_cons.mpr ⟨lw_p30, List.forall_mem_cons.mpr ⟨lw_p31, fun _ h => absurd h List.not_mem_nil⟩⟩⟩⟩⟩⟩⟩⟩⟩⟩⟩⟩⟩⟩⟩⟩
theorem lw_p32 : lw_okq (⟨"RhythmBenchModel", "works", "(I)V"⟩, 29) := ⟨⟨by decide +kernel, by decide +kernel⟩, List.mem_of_getElem? (i := 719) (by decide +kernel), List.mem_of_getElem? (i := 865) (by decide +kernel), List.mem_of_getElem? (i := 866) (by decide +kernel)⟩
theorem lw_p33 : lw_okq (⟨"RhythmBenchModel", "unfolds", "(I)V"⟩, 29) := ⟨⟨by decide +kernel, by decide +kernel⟩, List.mem_of_getElem? (i := 719) (by decide +kernel), List.mem_of_getElem? (i := 869) (by decide +kernel), List.mem_of_getElem? (i := 870) (by decide +kernel)⟩
theorem lw_p34 : lw_okq (⟨"RhythmBenchModel", "at", "(II)I"⟩, 29) := ⟨⟨by decide +kernel, by decide +kernel⟩, List.mem_of_getElem? (i := 719) (by decide +kernel), List.mem_of_getElem? (i := 873) (by decide +kernel), List.mem_of_getElem? (i := 874) (by decide +kernel)⟩
theorem lw_p35 : lw_okq (⟨"RhythmBenchModel", "closing", "(II)I"⟩, 29) := ⟨⟨by decide +kernel, by decide +kernel⟩, List.mem_of_getElem? (i := 719) (by decide +kernel), List.mem_of_getElem? (i := 877) (by decide +kernel), List.mem_of_getElem? (i := 878) (by decide +kernel)⟩
theorem lw_p36 : lw_okq (⟨"RhythmBenchModel", "passes", "(III)V"⟩, 29) := ⟨⟨by decide +kernel, by decide +kernel⟩, List.mem_of_getElem? (i := 719) (by decide +kernel), List.mem_of_getElem? (i := 881) (by decide +kernel), List.mem_of_getElem? (i := 882) (by decide +kernel)⟩
theorem lw_p37 : lw_okq (⟨"RhythmBenchModel", "lays", "(IIZ)I"⟩, 29) := ⟨⟨by decide +kernel, by decide +kernel⟩, List.mem_of_getElem? (i := 719) (by decide +kernel), List.mem_of_getElem? (i := 885) (by decide +kernel), List.mem_of_getElem? (i := 886) (by decide +kernel)⟩
theorem lw_p38 : lw_okq (⟨"RhythmBenchModel", "lengthAt", "(III)J"⟩, 29) := ⟨⟨by decide +kernel, by decide +kernel⟩, List.mem_of_getElem? (i := 719) (by decide +kernel), List.mem_of_getElem? (i := 889) (by decide +kernel), List.mem_of_getElem? (i := 890) (by decide +kernel)⟩
theorem lw_p39 : lw_okq (⟨"RhythmBenchModel", "addsEvent", "(IJJZIZ)V"⟩, 29) := ⟨⟨by decide +kernel, by decide +kernel⟩, List.mem_of_getElem? (i := 719) (by decide +kernel), List.mem_of_getElem? (i := 898) (by decide +kernel), List.mem_of_getElem? (i := 899) (by decide +kernel)⟩
theorem lw_p40 : lw_okq (⟨"RhythmBenchModel", "act", "()V"⟩, 29) := ⟨⟨by decide +kernel, by decide +kernel⟩, List.mem_of_getElem? (i := 719) (by decide +kernel), List.mem_of_getElem? (i := 902) (by decide +kernel), List.mem_of_getElem? (i := 903) (by decide +kernel)⟩
theorem lw_p41 : lw_okq (⟨"RhythmBenchModel", "isEvent", "(II)Z"⟩, 29) := ⟨⟨by decide +kernel, by decide +kernel⟩, List.mem_of_getElem? (i := 719) (by decide +kernel), List.mem_of_getElem? (i := 949) (by decide +kernel), List.mem_of_getElem? (i := 950) (by decide +kernel)⟩
theorem lw_p42 : lw_okq (⟨"RhythmBenchModel", "swungOf", "(J)J"⟩, 29) := ⟨⟨by decide +kernel, by decide +kernel⟩, List.mem_of_getElem? (i := 719) (by decide +kernel), List.mem_of_getElem? (i := 961) (by decide +kernel), List.mem_of_getElem? (i := 962) (by decide +kernel)⟩
theorem lw_p43 : lw_okq (⟨"RhythmBenchModel", "levelOf", "(J)I"⟩, 29) := ⟨⟨by decide +kernel, by decide +kernel⟩, List.mem_of_getElem? (i := 719) (by decide +kernel), List.mem_of_getElem? (i := 971) (by decide +kernel), List.mem_of_getElem? (i := 972) (by decide +kernel)⟩
theorem lw_p44 : lw_okq (⟨"RhythmBenchModel", "meter", "()J"⟩, 29) := ⟨⟨by decide +kernel, by decide +kernel⟩, List.mem_of_getElem? (i := 719) (by decide +kernel), List.mem_of_getElem? (i := 975) (by decide +kernel), List.mem_of_getElem? (i := 976) (by decide +kernel)⟩
theorem lw_p45 : lw_okq (⟨"RhythmBenchModel", "syncopationOf", "(I)I"⟩, 29) := ⟨⟨by decide +kernel, by decide +kernel⟩, List.mem_of_getElem? (i := 719) (by decide +kernel), List.mem_of_getElem? (i := 979) (by decide +kernel), List.mem_of_getElem? (i := 980) (by decide +kernel)⟩
theorem lw_p46 : lw_okq (⟨"RhythmBenchModel", "startsAll", "()V"⟩, 29) := ⟨⟨by decide +kernel, by decide +kernel⟩, List.mem_of_getElem? (i := 719) (by decide +kernel), List.mem_of_getElem? (i := 1012) (by decide +kernel), List.mem_of_getElem? (i := 1013) (by decide +kernel)⟩
theorem lw_p47 : lw_okq (⟨"RhythmBenchModel", "nextTime", "()J"⟩, 29) := ⟨⟨by decide +kernel, by decide +kernel⟩, List.mem_of_getElem? (i := 719) (by decide +kernel), List.mem_of_getElem? (i := 1016) (by decide +kernel), List.mem_of_getElem? (i := 1017) (by decide +kernel)⟩
def lw_privs_3 : List (MethodName × Nat) := [(⟨"RhythmBenchModel", "works", "(I)V"⟩, 29), (⟨"RhythmBenchModel", "unfolds", "(I)V"⟩, 29), (⟨"RhythmBenchModel", "at", "(II)I"⟩, 29), (⟨"RhythmBenchModel", "closing", "(II)I"⟩, 29), (⟨"RhythmBenchModel", "passes", "(III)V"⟩, 29), (⟨"RhythmBenchModel", "lays", "(IIZ)I"⟩, 29), (⟨"RhythmBenchModel", "lengthAt", "(III)J"⟩, 29), (⟨"RhythmBenchModel", "addsEvent", "(IJJZIZ)V"⟩, 29), (⟨"RhythmBenchModel", "act", "()V"⟩, 29), (⟨"RhythmBenchModel", "isEvent", "(II)Z"⟩, 29), (⟨"RhythmBenchModel", "swungOf", "(J)J"⟩, 29), (⟨"RhythmBenchModel", "levelOf", "(J)I"⟩, 29), (⟨"RhythmBenchModel", "meter", "()J"⟩, 29), (⟨"RhythmBenchModel", "syncopationOf", "(I)I"⟩, 29), (⟨"RhythmBenchModel", "startsAll", "()V"⟩, 29), (⟨"RhythmBenchModel", "nextTime", "()J"⟩, 29)]
theorem lw_r3 : ∀ q ∈ lw_privs_3, lw_okq q := List.forall_mem_cons.mpr ⟨lw_p32, List.forall_mem_cons.mpr ⟨lw_p33, List.forall_mem_cons.mpr ⟨lw_p34, List.forall_mem_cons.mpr ⟨lw_p35, List.forall_mem_cons.mpr ⟨lw_p36, List.forall_mem_cons.mpr ⟨lw_p37, List.forall_mem_cons.mpr ⟨lw_p38, List.forall_mem_cons.mpr ⟨lw_p39, List.forall_mem_cons.mpr ⟨lw_p40, List.forall_mem_cons.mpr ⟨lw_p41, List.forall_mem_cons.mpr ⟨lw_p42, List.forall_mem_cons.mpr ⟨lw_p43, List.forall_mem_cons.mpr ⟨lw_p44, List.forall_mem_cons.mpr ⟨lw_p45, List.forall_mem_cons.mpr ⟨lw_p46, List.forall_mem_cons.mpr ⟨lw_p47, fun _ h => absurd h List.not_mem_nil⟩⟩⟩⟩⟩⟩⟩⟩⟩⟩⟩⟩⟩⟩⟩⟩
theorem lw_p48 : lw_okq (⟨"RhythmBenchModel", "cycleOf", "(II)J"⟩, 29) := ⟨⟨by decide +kernel, by decide +kernel⟩, List.mem_of_getElem? (i := 719) (by decide +kernel), List.mem_of_getElem? (i := 1028) (by decide +kernel), List.mem_of_getElem? (i := 1029) (by decide +kernel)⟩
def lw_privs_4 : List (MethodName × Nat) := [(⟨"RhythmBenchModel", "cycleOf", "(II)J"⟩, 29)]
theorem lw_r4 : ∀ q ∈ lw_privs_4, lw_okq q := List.forall_mem_cons.mpr ⟨lw_p48, fun _ h => absurd h List.not_mem_nil⟩
def lw_privs : List (MethodName × Nat) := lw_privs_1 ++ (lw_privs_2 ++ (lw_privs_3 ++ (lw_privs_4)))
def lw_tbl : List Cond := k2_sels lw_privs ++ tables_1
theorem lw_privs_ok : ∀ q ∈ lw_privs, lw_okq q := by
  show ∀ q ∈ lw_privs_1 ++ (lw_privs_2 ++ (lw_privs_3 ++ (lw_privs_4))), lw_okq q
  exact List.forall_mem_append.mpr ⟨lw_r1, List.forall_mem_append.mpr ⟨lw_r2, List.forall_mem_append.mpr ⟨lw_r3, lw_r4⟩⟩⟩

def RX0 : String := "RhythmBench$Grammar"
def TX0 : u_T := fun k => match k with
  | 0 => ("RhythmBench$Grammar", "state", "I", false)
  | 1 => ("RhythmBench$Grammar", "depth", "I", false)
  | 2 => ("RhythmBench$Grammar", "isFilled", "Z", false)
  | 3 => ("RhythmBench$Grammar", "isInRepeat", "Z", false)
  | 4 => ("RhythmBench$Grammar", "dotsLeft", "I", false)
  | _ => ("RhythmBench$Grammar", "canTie", "Z", false)
def tyX0 : Nat → FieldType := fun k => match k with
  | 0 => .int
  | 1 => .int
  | 2 => .boolean
  | 3 => .boolean
  | 4 => .int
  | _ => .boolean
abbrev wsX00 : List Cond := u_ws RX0 TX0 6
theorem nmX0 : ∀ a, a < 6 → ∀ b, b < 6 → a ≠ b → (TX0 a).2.1 ≠ (TX0 b).2.1 := by decide +kernel
theorem tyX0_ok : ∀ k, k < 6 → parseFieldDescriptor (TX0 k).2.2.1 = some (tyX0 k) := by decide +kernel
abbrev cX0_init : ByteArray := prog_2_method_1_code
def yX0_init : MethodName := ⟨RX0, "<init>", "()V"⟩
abbrev cX0_wrongPlace : ByteArray := prog_2_method_2_code
def yX0_wrongPlace : MethodName := ⟨RX0, "wrongPlace", "(LRhythmBench$Text;)I"⟩
abbrev cX0_start : ByteArray := prog_2_method_3_code
def yX0_start : MethodName := ⟨RX0, "start", "()V"⟩
abbrev cX0_accepts : ByteArray := prog_2_method_4_code
def yX0_accepts : MethodName := ⟨RX0, "accepts", "(I)Z"⟩
abbrev cX0_goesOn : ByteArray := prog_2_method_5_code
def yX0_goesOn : MethodName := ⟨RX0, "goesOn", "(ZI)Z"⟩
abbrev cX0_acceptsItem : ByteArray := prog_2_method_6_code
def yX0_acceptsItem : MethodName := ⟨RX0, "acceptsItem", "(I)Z"⟩
abbrev cX0_beginsSound : ByteArray := prog_2_method_7_code
def yX0_beginsSound : MethodName := ⟨RX0, "beginsSound", "(IZ)Z"⟩
abbrev cX0_endSound : ByteArray := prog_2_method_8_code
def yX0_endSound : MethodName := ⟨RX0, "endSound", "()V"⟩
abbrev cX0_addsDot : ByteArray := prog_2_method_9_code
def yX0_addsDot : MethodName := ⟨RX0, "addsDot", "()Z"⟩
abbrev cX0_addsTie : ByteArray := prog_2_method_10_code
def yX0_addsTie : MethodName := ⟨RX0, "addsTie", "()Z"⟩
abbrev cX0_opensTuplet : ByteArray := prog_2_method_11_code
def yX0_opensTuplet : MethodName := ⟨RX0, "opensTuplet", "()Z"⟩
abbrev cX0_closesTuplet : ByteArray := prog_2_method_12_code
def yX0_closesTuplet : MethodName := ⟨RX0, "closesTuplet", "()Z"⟩
abbrev cX0_opensRepeat : ByteArray := prog_2_method_13_code
def yX0_opensRepeat : MethodName := ⟨RX0, "opensRepeat", "()Z"⟩
abbrev cX0_closesRepeat : ByteArray := prog_2_method_14_code
def yX0_closesRepeat : MethodName := ⟨RX0, "closesRepeat", "()Z"⟩
def RX1 : String := "RhythmBench$Notation"
def TX1 : u_T := fun k => match k with
  | _ => ("", "", "", false)
def tyX1 : Nat → FieldType := fun k => match k with
  | _ => .int
abbrev wsX10 : List Cond := u_ws RX1 TX1 0
theorem nmX1 : ∀ a, a < 0 → ∀ b, b < 0 → a ≠ b → (TX1 a).2.1 ≠ (TX1 b).2.1 := by decide +kernel
theorem tyX1_ok : ∀ k, k < 0 → parseFieldDescriptor (TX1 k).2.2.1 = some (tyX1 k) := by decide +kernel
abbrev cX1_halvings : ByteArray := prog_3_method_2_code
def yX1_halvings : MethodName := ⟨RX1, "halvings", "(I)I"⟩
abbrev cX1_digit : ByteArray := prog_3_method_3_code
def yX1_digit : MethodName := ⟨RX1, "digit", "(I)I"⟩
def RX2 : String := "RhythmBench$Overlay"
def TX2 : u_T := fun k => match k with
  | 0 => ("RhythmBench$Overlay", "ahead", "[I", true)
  | 1 => ("RhythmBench$Overlay", "now", "J", false)
  | _ => ("RhythmBench$Overlay", "set", "I", false)
def tyX2 : Nat → FieldType := fun k => match k with
  | 0 => .array .int
  | 1 => .long
  | _ => .int
abbrev wsX20 : List Cond := u_ws RX2 TX2 3
theorem nmX2 : ∀ a, a < 3 → ∀ b, b < 3 → a ≠ b → (TX2 a).2.1 ≠ (TX2 b).2.1 := by decide +kernel
theorem tyX2_ok : ∀ k, k < 3 → parseFieldDescriptor (TX2 k).2.2.1 = some (tyX2 k) := by decide +kernel
abbrev cX2_init : ByteArray := prog_4_method_1_code
def yX2_init : MethodName := ⟨RX2, "<init>", "()V"⟩
abbrev cX2_now : ByteArray := prog_4_method_2_code
def yX2_now : MethodName := ⟨RX2, "now", "()J"⟩
abbrev cX2_set : ByteArray := prog_4_method_3_code
def yX2_set : MethodName := ⟨RX2, "set", "()I"⟩
abbrev cX2_start : ByteArray := prog_4_method_4_code
def yX2_start : MethodName := ⟨RX2, "start", "()V"⟩
abbrev cX2_advance : ByteArray := prog_4_method_5_code
def yX2_advance : MethodName := ⟨RX2, "advance", "([LRhythmBench$Part;)Z"⟩
abbrev cX2_offer : ByteArray := prog_4_method_6_code
def yX2_offer : MethodName := ⟨RX2, "offer", "(IJ)V"⟩
def RX3 : String := "RhythmBench$Part"
def TX3 : u_T := fun k => match k with
  | 0 => ("RhythmBench$Part", "text", "LRhythmBench$Text;", true)
  | 1 => ("RhythmBench$Part", "unfoldedText", "LRhythmBench$Text;", true)
  | _ => ("RhythmBench$Part", "score", "LRhythmBench$Score;", true)
def tyX3 : Nat → FieldType := fun k => match k with
  | 0 => .object "RhythmBench$Text"
  | 1 => .object "RhythmBench$Text"
  | _ => .object "RhythmBench$Score"
abbrev wsX30 : List Cond := u_ws RX3 TX3 3
theorem nmX3 : ∀ a, a < 3 → ∀ b, b < 3 → a ≠ b → (TX3 a).2.1 ≠ (TX3 b).2.1 := by decide +kernel
theorem tyX3_ok : ∀ k, k < 3 → parseFieldDescriptor (TX3 k).2.2.1 = some (tyX3 k) := by decide +kernel
abbrev cX3_init : ByteArray := prog_5_method_1_code
def yX3_init : MethodName := ⟨RX3, "<init>", "()V"⟩
abbrev cX3_take : ByteArray := prog_5_method_2_code
def yX3_take : MethodName := ⟨RX3, "take", "(LRhythmBench$Text;)V"⟩
def RX4 : String := "RhythmBench$Score"
def TX4 : u_T := fun k => match k with
  | 0 => ("RhythmBench$Score", "begins", "[J", true)
  | 1 => ("RhythmBench$Score", "ends", "[J", true)
  | 2 => ("RhythmBench$Score", "noteCounts", "[I", true)
  | 3 => ("RhythmBench$Score", "barNumbers", "[I", true)
  | 4 => ("RhythmBench$Score", "accents", "[Z", true)
  | 5 => ("RhythmBench$Score", "barLengths", "[J", true)
  | 6 => ("RhythmBench$Score", "scale", "LRhythmBench$TupletScale;", true)
  | 7 => ("RhythmBench$Score", "count", "I", false)
  | 8 => ("RhythmBench$Score", "barCount", "I", false)
  | 9 => ("RhythmBench$Score", "total", "J", false)
  | _ => ("RhythmBench$Score", "isTied", "Z", false)
def tyX4 : Nat → FieldType := fun k => match k with
  | 0 => .array .long
  | 1 => .array .long
  | 2 => .array .int
  | 3 => .array .int
  | 4 => .array .boolean
  | 5 => .array .long
  | 6 => .object "RhythmBench$TupletScale"
  | 7 => .int
  | 8 => .int
  | 9 => .long
  | _ => .boolean
abbrev wsX40 : List Cond := u_ws RX4 TX4 11
theorem nmX4 : ∀ a, a < 11 → ∀ b, b < 11 → a ≠ b → (TX4 a).2.1 ≠ (TX4 b).2.1 := by decide +kernel
theorem tyX4_ok : ∀ k, k < 11 → parseFieldDescriptor (TX4 k).2.2.1 = some (tyX4 k) := by decide +kernel
abbrev cX4_init : ByteArray := prog_6_method_1_code
def yX4_init : MethodName := ⟨RX4, "<init>", "()V"⟩
abbrev cX4_count : ByteArray := prog_6_method_2_code
def yX4_count : MethodName := ⟨RX4, "count", "()I"⟩
abbrev cX4_barCount : ByteArray := prog_6_method_3_code
def yX4_barCount : MethodName := ⟨RX4, "barCount", "()I"⟩
abbrev cX4_total : ByteArray := prog_6_method_4_code
def yX4_total : MethodName := ⟨RX4, "total", "()J"⟩
abbrev cX4_hasEvent : ByteArray := prog_6_method_5_code
def yX4_hasEvent : MethodName := ⟨RX4, "hasEvent", "(I)Z"⟩
abbrev cX4_hasBar : ByteArray := prog_6_method_6_code
def yX4_hasBar : MethodName := ⟨RX4, "hasBar", "(I)Z"⟩
abbrev cX4_begin : ByteArray := prog_6_method_7_code
def yX4_begin : MethodName := ⟨RX4, "begin", "(I)J"⟩
abbrev cX4_end : ByteArray := prog_6_method_8_code
def yX4_end : MethodName := ⟨RX4, "end", "(I)J"⟩
abbrev cX4_notesOf : ByteArray := prog_6_method_9_code
def yX4_notesOf : MethodName := ⟨RX4, "notesOf", "(I)I"⟩
abbrev cX4_barOf : ByteArray := prog_6_method_10_code
def yX4_barOf : MethodName := ⟨RX4, "barOf", "(I)I"⟩
abbrev cX4_isAccented : ByteArray := prog_6_method_11_code
def yX4_isAccented : MethodName := ⟨RX4, "isAccented", "(I)Z"⟩
abbrev cX4_barLength : ByteArray := prog_6_method_12_code
def yX4_barLength : MethodName := ⟨RX4, "barLength", "(I)J"⟩
abbrev cX4_build : ByteArray := prog_6_method_13_code
def yX4_build : MethodName := ⟨RX4, "build", "(LRhythmBench$Text;)V"⟩
abbrev cX4_start : ByteArray := prog_6_method_14_code
def yX4_start : MethodName := ⟨RX4, "start", "()V"⟩
abbrev cX4_beginBar : ByteArray := prog_6_method_15_code
def yX4_beginBar : MethodName := ⟨RX4, "beginBar", "()V"⟩
abbrev cX4_addSound : ByteArray := prog_6_method_16_code
def yX4_addSound : MethodName := ⟨RX4, "addSound", "(LRhythmBench$Text;I)V"⟩
abbrev cX4_addNote : ByteArray := prog_6_method_17_code
def yX4_addNote : MethodName := ⟨RX4, "addNote", "(JZ)V"⟩
def RX5 : String := "RhythmBench$State"
def TX5 : u_T := fun k => match k with
  | 0 => ("RhythmBench$State", "texts", "[LRhythmBench$Text;", true)
  | 1 => ("RhythmBench$State", "beats", "I", false)
  | 2 => ("RhythmBench$State", "value", "I", false)
  | 3 => ("RhythmBench$State", "swingA", "I", false)
  | _ => ("RhythmBench$State", "swingB", "I", false)
def tyX5 : Nat → FieldType := fun k => match k with
  | 0 => .array (.object "RhythmBench$Text")
  | 1 => .int
  | 2 => .int
  | 3 => .int
  | _ => .int
abbrev wsX50 : List Cond := u_ws RX5 TX5 5
theorem nmX5 : ∀ a, a < 5 → ∀ b, b < 5 → a ≠ b → (TX5 a).2.1 ≠ (TX5 b).2.1 := by decide +kernel
theorem tyX5_ok : ∀ k, k < 5 → parseFieldDescriptor (TX5 k).2.2.1 = some (tyX5 k) := by decide +kernel
abbrev cX5_init : ByteArray := prog_7_method_1_code
def yX5_init : MethodName := ⟨RX5, "<init>", "()V"⟩
def RX6 : String := "RhythmBench$Text"
def TX6 : u_T := fun k => match k with
  | 0 => ("RhythmBench$Text", "codes", "[C", true)
  | _ => ("RhythmBench$Text", "size", "I", false)
def tyX6 : Nat → FieldType := fun k => match k with
  | 0 => .array .char
  | _ => .int
abbrev wsX60 : List Cond := u_ws RX6 TX6 2
theorem nmX6 : ∀ a, a < 2 → ∀ b, b < 2 → a ≠ b → (TX6 a).2.1 ≠ (TX6 b).2.1 := by decide +kernel
theorem tyX6_ok : ∀ k, k < 2 → parseFieldDescriptor (TX6 k).2.2.1 = some (tyX6 k) := by decide +kernel
abbrev cX6_init : ByteArray := prog_8_method_1_code
def yX6_init : MethodName := ⟨RX6, "<init>", "(I)V"⟩
abbrev cX6_size : ByteArray := prog_8_method_2_code
def yX6_size : MethodName := ⟨RX6, "size", "()I"⟩
abbrev cX6_isFull : ByteArray := prog_8_method_3_code
def yX6_isFull : MethodName := ⟨RX6, "isFull", "()Z"⟩
abbrev cX6_at : ByteArray := prog_8_method_4_code
def yX6_at : MethodName := ⟨RX6, "at", "(I)I"⟩
abbrev cX6_makeEmpty : ByteArray := prog_8_method_5_code
def yX6_makeEmpty : MethodName := ⟨RX6, "makeEmpty", "()V"⟩
abbrev cX6_append : ByteArray := prog_8_method_6_code
def yX6_append : MethodName := ⟨RX6, "append", "(I)V"⟩
abbrev cX6_appendPiece : ByteArray := prog_8_method_7_code
def yX6_appendPiece : MethodName := ⟨RX6, "appendPiece", "(LRhythmBench$Text;II)V"⟩
abbrev cX6_become : ByteArray := prog_8_method_8_code
def yX6_become : MethodName := ⟨RX6, "become", "(LRhythmBench$Text;)V"⟩
abbrev cX6_seek : ByteArray := prog_8_method_9_code
def yX6_seek : MethodName := ⟨RX6, "seek", "(III)I"⟩
def RX7 : String := "RhythmBench$TupletScale"
def TX7 : u_T := fun k => match k with
  | 0 => ("RhythmBench$TupletScale", "ups", "[J", true)
  | 1 => ("RhythmBench$TupletScale", "downs", "[J", true)
  | _ => ("RhythmBench$TupletScale", "depth", "I", false)
def tyX7 : Nat → FieldType := fun k => match k with
  | 0 => .array .long
  | 1 => .array .long
  | _ => .int
abbrev wsX70 : List Cond := u_ws RX7 TX7 3
theorem nmX7 : ∀ a, a < 3 → ∀ b, b < 3 → a ≠ b → (TX7 a).2.1 ≠ (TX7 b).2.1 := by decide +kernel
theorem tyX7_ok : ∀ k, k < 3 → parseFieldDescriptor (TX7 k).2.2.1 = some (tyX7 k) := by decide +kernel
abbrev cX7_init : ByteArray := prog_9_method_1_code
def yX7_init : MethodName := ⟨RX7, "<init>", "()V"⟩
abbrev cX7_start : ByteArray := prog_9_method_2_code
def yX7_start : MethodName := ⟨RX7, "start", "()V"⟩
abbrev cX7_open : ByteArray := prog_9_method_3_code
def yX7_open : MethodName := ⟨RX7, "open", "(II)V"⟩
abbrev cX7_close : ByteArray := prog_9_method_4_code
def yX7_close : MethodName := ⟨RX7, "close", "()V"⟩
abbrev cX7_apply : ByteArray := prog_9_method_5_code
def yX7_apply : MethodName := ⟨RX7, "apply", "(JJ)J"⟩
def RX8 : String := "RhythmBench$Unfolding"
def TX8 : u_T := fun k => match k with
  | _ => ("", "", "", false)
def tyX8 : Nat → FieldType := fun k => match k with
  | _ => .int
abbrev wsX80 : List Cond := u_ws RX8 TX8 0
theorem nmX8 : ∀ a, a < 0 → ∀ b, b < 0 → a ≠ b → (TX8 a).2.1 ≠ (TX8 b).2.1 := by decide +kernel
theorem tyX8_ok : ∀ k, k < 0 → parseFieldDescriptor (TX8 k).2.2.1 = some (tyX8 k) := by decide +kernel
abbrev cX8_unfold : ByteArray := prog_10_method_2_code
def yX8_unfold : MethodName := ⟨RX8, "unfold", "(LRhythmBench$Text;LRhythmBench$Text;)V"⟩
abbrev cX8_appendPasses : ByteArray := prog_10_method_3_code
def yX8_appendPasses : MethodName := ⟨RX8, "appendPasses", "(LRhythmBench$Text;IILRhythmBench$Text;)V"⟩
abbrev cX8_appendEnding : ByteArray := prog_10_method_4_code
def yX8_appendEnding : MethodName := ⟨RX8, "appendEnding", "(LRhythmBench$Text;IIILRhythmBench$Text;)V"⟩
abbrev cX8_isEndingOf : ByteArray := prog_10_method_5_code
def yX8_isEndingOf : MethodName := ⟨RX8, "isEndingOf", "(LRhythmBench$Text;II)Z"⟩
abbrev cX8_sounds : ByteArray := prog_10_method_6_code
def yX8_sounds : MethodName := ⟨RX8, "sounds", "(LRhythmBench$Text;)I"⟩
def RX9 : String := "RhythmBench"
def TX9 : u_T := fun k => match k with
  | 0 => ("RhythmBench", "buffer", "LRhythmBench$Text;", true)
  | 1 => ("RhythmBench", "draft", "LRhythmBench$Text;", true)
  | 2 => ("RhythmBench", "grammar", "LRhythmBench$Grammar;", true)
  | 3 => ("RhythmBench", "parts", "[LRhythmBench$Part;", true)
  | 4 => ("RhythmBench", "history", "[LRhythmBench$State;", true)
  | 5 => ("RhythmBench", "overlay", "LRhythmBench$Overlay;", true)
  | 6 => ("RhythmBench", "remembered", "I", false)
  | 7 => ("RhythmBench", "beats", "I", false)
  | 8 => ("RhythmBench", "value", "I", false)
  | 9 => ("RhythmBench", "swingA", "I", false)
  | _ => ("RhythmBench", "swingB", "I", false)
def tyX9 : Nat → FieldType := fun k => match k with
  | 0 => .object "RhythmBench$Text"
  | 1 => .object "RhythmBench$Text"
  | 2 => .object "RhythmBench$Grammar"
  | 3 => .array (.object "RhythmBench$Part")
  | 4 => .array (.object "RhythmBench$State")
  | 5 => .object "RhythmBench$Overlay"
  | 6 => .int
  | 7 => .int
  | 8 => .int
  | 9 => .int
  | _ => .int
abbrev wsX90 : List Cond := u_ws RX9 TX9 11
theorem nmX9 : ∀ a, a < 11 → ∀ b, b < 11 → a ≠ b → (TX9 a).2.1 ≠ (TX9 b).2.1 := by decide +kernel
theorem tyX9_ok : ∀ k, k < 11 → parseFieldDescriptor (TX9 k).2.2.1 = some (tyX9 k) := by decide +kernel
abbrev cX9_init : ByteArray := prog_1_method_1_code
def yX9_init : MethodName := ⟨RX9, "<init>", "()V"⟩
abbrev cX9_type : ByteArray := prog_1_method_2_code
def yX9_type : MethodName := ⟨RX9, "type", "(I)I"⟩
abbrev cX9_clear : ByteArray := prog_1_method_3_code
def yX9_clear : MethodName := ⟨RX9, "clear", "()I"⟩
abbrev cX9_read : ByteArray := prog_1_method_4_code
def yX9_read : MethodName := ⟨RX9, "read", "(I)I"⟩
abbrev cX9_copy : ByteArray := prog_1_method_5_code
def yX9_copy : MethodName := ⟨RX9, "copy", "(II)I"⟩
abbrev cX9_spread : ByteArray := prog_1_method_6_code
def yX9_spread : MethodName := ⟨RX9, "spread", "(IIII)I"⟩
abbrev cX9_textOf : ByteArray := prog_1_method_7_code
def yX9_textOf : MethodName := ⟨RX9, "textOf", "(II)I"⟩
abbrev cX9_unfolded : ByteArray := prog_1_method_8_code
def yX9_unfolded : MethodName := ⟨RX9, "unfolded", "(II)I"⟩
abbrev cX9_setMeter : ByteArray := prog_1_method_9_code
def yX9_setMeter : MethodName := ⟨RX9, "setMeter", "(II)I"⟩
abbrev cX9_setSwing : ByteArray := prog_1_method_10_code
def yX9_setSwing : MethodName := ⟨RX9, "setSwing", "(II)I"⟩
abbrev cX9_events : ByteArray := prog_1_method_11_code
def yX9_events : MethodName := ⟨RX9, "events", "(I)I"⟩
abbrev cX9_length : ByteArray := prog_1_method_12_code
def yX9_length : MethodName := ⟨RX9, "length", "(II)J"⟩
abbrev cX9_onset : ByteArray := prog_1_method_13_code
def yX9_onset : MethodName := ⟨RX9, "onset", "(III)J"⟩
abbrev cX9_lasts : ByteArray := prog_1_method_14_code
def yX9_lasts : MethodName := ⟨RX9, "lasts", "(III)J"⟩
abbrev cX9_swung : ByteArray := prog_1_method_15_code
def yX9_swung : MethodName := ⟨RX9, "swung", "(III)J"⟩
abbrev cX9_event : ByteArray := prog_1_method_16_code
def yX9_event : MethodName := ⟨RX9, "event", "(III)I"⟩
abbrev cX9_bars : ByteArray := prog_1_method_17_code
def yX9_bars : MethodName := ⟨RX9, "bars", "(I)I"⟩
abbrev cX9_bar : ByteArray := prog_1_method_18_code
def yX9_bar : MethodName := ⟨RX9, "bar", "(III)J"⟩
abbrev cX9_wrongBar : ByteArray := prog_1_method_19_code
def yX9_wrongBar : MethodName := ⟨RX9, "wrongBar", "(I)I"⟩
abbrev cX9_syncopation : ByteArray := prog_1_method_20_code
def yX9_syncopation : MethodName := ⟨RX9, "syncopation", "(I)I"⟩
abbrev cX9_offGrid : ByteArray := prog_1_method_21_code
def yX9_offGrid : MethodName := ⟨RX9, "offGrid", "(II)I"⟩
abbrev cX9_leastGrid : ByteArray := prog_1_method_22_code
def yX9_leastGrid : MethodName := ⟨RX9, "leastGrid", "(I)I"⟩
abbrev cX9_times : ByteArray := prog_1_method_23_code
def yX9_times : MethodName := ⟨RX9, "times", "()I"⟩
abbrev cX9_time : ByteArray := prog_1_method_24_code
def yX9_time : MethodName := ⟨RX9, "time", "(II)J"⟩
abbrev cX9_cycle : ByteArray := prog_1_method_25_code
def yX9_cycle : MethodName := ⟨RX9, "cycle", "(III)J"⟩
abbrev cX9_meets : ByteArray := prog_1_method_26_code
def yX9_meets : MethodName := ⟨RX9, "meets", "(II)I"⟩
abbrev cX9_undo : ByteArray := prog_1_method_27_code
def yX9_undo : MethodName := ⟨RX9, "undo", "()I"⟩
abbrev cX9_fingerprint : ByteArray := prog_1_method_28_code
def yX9_fingerprint : MethodName := ⟨RX9, "fingerprint", "()J"⟩
abbrev cX9_partAt : ByteArray := prog_1_method_29_code
def yX9_partAt : MethodName := ⟨RX9, "partAt", "(I)LRhythmBench$Part;"⟩
abbrev cX9_remember : ByteArray := prog_1_method_30_code
def yX9_remember : MethodName := ⟨RX9, "remember", "()V"⟩
abbrev cX9_dropOldest : ByteArray := prog_1_method_31_code
def yX9_dropOldest : MethodName := ⟨RX9, "dropOldest", "()V"⟩
abbrev cX9_isMeterValue : ByteArray := prog_1_method_32_code
def yX9_isMeterValue : MethodName := ⟨RX9, "isMeterValue", "(I)Z"⟩
abbrev cX9_meterLength : ByteArray := prog_1_method_33_code
def yX9_meterLength : MethodName := ⟨RX9, "meterLength", "()J"⟩
abbrev cX9_level : ByteArray := prog_1_method_34_code
def yX9_level : MethodName := ⟨RX9, "level", "(J)I"⟩
abbrev cX9_leastLevelBetween : ByteArray := prog_1_method_35_code
def yX9_leastLevelBetween : MethodName := ⟨RX9, "leastLevelBetween", "(JJ)I"⟩
abbrev cX9_syncopationOf : ByteArray := prog_1_method_36_code
def yX9_syncopationOf : MethodName := ⟨RX9, "syncopationOf", "(LRhythmBench$Score;I)I"⟩
abbrev cX9_swing : ByteArray := prog_1_method_37_code
def yX9_swing : MethodName := ⟨RX9, "swing", "(J)J"⟩
abbrev cX9_isSide : ByteArray := prog_1_method_38_code
def yX9_isSide : MethodName := ⟨RX9, "isSide", "(I)Z"⟩
abbrev cX9_side : ByteArray := prog_1_method_39_code
def yX9_side : MethodName := ⟨RX9, "side", "(JJI)J"⟩
abbrev cX9_commonDivisor : ByteArray := prog_1_method_40_code
def yX9_commonDivisor : MethodName := ⟨RX9, "commonDivisor", "(JJ)J"⟩
abbrev cX9_commonCycle : ByteArray := prog_1_method_41_code
def yX9_commonCycle : MethodName := ⟨RX9, "commonCycle", "(JJ)J"⟩
abbrev cX9_meetings : ByteArray := prog_1_method_42_code
def yX9_meetings : MethodName := ⟨RX9, "meetings", "(LRhythmBench$Score;LRhythmBench$Score;)I"⟩
def RX10 : String := "RhythmBenchModel"
def TX10 : u_T := fun k => match k with
  | 0 => ("RhythmBenchModel", "v", "[I", true)
  | 1 => ("RhythmBenchModel", "past", "[I", true)
  | 2 => ("RhythmBenchModel", "pastMany", "I", false)
  | 3 => ("RhythmBenchModel", "typed", "[I", true)
  | 4 => ("RhythmBenchModel", "typedMany", "I", false)
  | 5 => ("RhythmBenchModel", "must", "I", false)
  | 6 => ("RhythmBenchModel", "dots", "I", false)
  | 7 => ("RhythmBenchModel", "deep", "I", false)
  | 8 => ("RhythmBenchModel", "isRepeat", "Z", false)
  | 9 => ("RhythmBenchModel", "items", "[I", true)
  | 10 => ("RhythmBenchModel", "un", "[I", true)
  | 11 => ("RhythmBenchModel", "unMany", "I", false)
  | 12 => ("RhythmBenchModel", "onsets", "[J", true)
  | 13 => ("RhythmBenchModel", "spans", "[J", true)
  | 14 => ("RhythmBenchModel", "accents", "[I", true)
  | 15 => ("RhythmBenchModel", "barOf", "[I", true)
  | 16 => ("RhythmBenchModel", "notes", "[I", true)
  | 17 => ("RhythmBenchModel", "many", "[I", true)
  | 18 => ("RhythmBenchModel", "lengths", "[J", true)
  | 19 => ("RhythmBenchModel", "barMany", "[I", true)
  | 20 => ("RhythmBenchModel", "barLengths", "[J", true)
  | 21 => ("RhythmBenchModel", "isBarEmpty", "[Z", true)
  | 22 => ("RhythmBenchModel", "counted", "I", false)
  | 23 => ("RhythmBenchModel", "upper", "[I", true)
  | 24 => ("RhythmBenchModel", "lower", "[I", true)
  | 25 => ("RhythmBenchModel", "had", "[I", true)
  | 26 => ("RhythmBenchModel", "made", "[I", true)
  | 27 => ("RhythmBenchModel", "next", "[I", true)
  | _ => ("RhythmBenchModel", "together", "I", false)
def tyX10 : Nat → FieldType := fun k => match k with
  | 0 => .array .int
  | 1 => .array .int
  | 2 => .int
  | 3 => .array .int
  | 4 => .int
  | 5 => .int
  | 6 => .int
  | 7 => .int
  | 8 => .boolean
  | 9 => .array .int
  | 10 => .array .int
  | 11 => .int
  | 12 => .array .long
  | 13 => .array .long
  | 14 => .array .int
  | 15 => .array .int
  | 16 => .array .int
  | 17 => .array .int
  | 18 => .array .long
  | 19 => .array .int
  | 20 => .array .long
  | 21 => .array .boolean
  | 22 => .int
  | 23 => .array .int
  | 24 => .array .int
  | 25 => .array .int
  | 26 => .array .int
  | 27 => .array .int
  | _ => .int
abbrev wsX100 : List Cond := u_ws RX10 TX10 29
theorem nmX10 : ∀ a, a < 29 → ∀ b, b < 29 → a ≠ b → (TX10 a).2.1 ≠ (TX10 b).2.1 := by decide +kernel
theorem tyX10_ok : ∀ k, k < 29 → parseFieldDescriptor (TX10 k).2.2.1 = some (tyX10 k) := by decide +kernel
abbrev cX10_init : ByteArray := prog_12_method_1_code
def yX10_init : MethodName := ⟨RX10, "<init>", "()V"⟩
abbrev cX10_in : ByteArray := prog_12_method_2_code
def yX10_in : MethodName := ⟨RX10, "in", "(III)Z"⟩
abbrev cX10_act : ByteArray := prog_12_method_3_code
def yX10_act : MethodName := ⟨RX10, "act", "()V"⟩
abbrev cX10_isPart : ByteArray := prog_12_method_4_code
def yX10_isPart : MethodName := ⟨RX10, "isPart", "(I)Z"⟩
abbrev cX10_halvings : ByteArray := prog_12_method_5_code
def yX10_halvings : MethodName := ⟨RX10, "halvings", "(I)I"⟩
abbrev cX10_isDigit : ByteArray := prog_12_method_6_code
def yX10_isDigit : MethodName := ⟨RX10, "isDigit", "(II)Z"⟩
abbrev cX10_begins : ByteArray := prog_12_method_7_code
def yX10_begins : MethodName := ⟨RX10, "begins", "(I)Z"⟩
abbrev cX10_outside : ByteArray := prog_12_method_8_code
def yX10_outside : MethodName := ⟨RX10, "outside", "(I)Z"⟩
abbrev cX10_dotted : ByteArray := prog_12_method_9_code
def yX10_dotted : MethodName := ⟨RX10, "dotted", "(I)Z"⟩
abbrev cX10_numbered : ByteArray := prog_12_method_10_code
def yX10_numbered : MethodName := ⟨RX10, "numbered", "(I)Z"⟩
abbrev cX10_may : ByteArray := prog_12_method_11_code
def yX10_may : MethodName := ⟨RX10, "may", "(I)Z"⟩
abbrev cX10_wrongAt : ByteArray := prog_12_method_12_code
def yX10_wrongAt : MethodName := ⟨RX10, "wrongAt", "()I"⟩
abbrev cX10_at : ByteArray := prog_12_method_13_code
def yX10_at : MethodName := ⟨RX10, "at", "(II)I"⟩
abbrev cX10_lays : ByteArray := prog_12_method_14_code
def yX10_lays : MethodName := ⟨RX10, "lays", "(IIZ)I"⟩
abbrev cX10_closing : ByteArray := prog_12_method_15_code
def yX10_closing : MethodName := ⟨RX10, "closing", "(II)I"⟩
abbrev cX10_passes : ByteArray := prog_12_method_16_code
def yX10_passes : MethodName := ⟨RX10, "passes", "(III)V"⟩
abbrev cX10_unfolds : ByteArray := prog_12_method_17_code
def yX10_unfolds : MethodName := ⟨RX10, "unfolds", "(I)V"⟩
abbrev cX10_lengthAt : ByteArray := prog_12_method_18_code
def yX10_lengthAt : MethodName := ⟨RX10, "lengthAt", "(III)J"⟩
abbrev cX10_addsEvent : ByteArray := prog_12_method_19_code
def yX10_addsEvent : MethodName := ⟨RX10, "addsEvent", "(IJJZIZ)V"⟩
abbrev cX10_works : ByteArray := prog_12_method_20_code
def yX10_works : MethodName := ⟨RX10, "works", "(I)V"⟩
abbrev cX10_type : ByteArray := prog_12_method_21_code
def yX10_type : MethodName := ⟨RX10, "type", "(I)I"⟩
abbrev cX10_clear : ByteArray := prog_12_method_22_code
def yX10_clear : MethodName := ⟨RX10, "clear", "()I"⟩
abbrev cX10_takes : ByteArray := prog_12_method_23_code
def yX10_takes : MethodName := ⟨RX10, "takes", "(I[II)V"⟩
abbrev cX10_read : ByteArray := prog_12_method_24_code
def yX10_read : MethodName := ⟨RX10, "read", "(I)I"⟩
abbrev cX10_copy : ByteArray := prog_12_method_25_code
def yX10_copy : MethodName := ⟨RX10, "copy", "(II)I"⟩
abbrev cX10_spread : ByteArray := prog_12_method_26_code
def yX10_spread : MethodName := ⟨RX10, "spread", "(IIII)I"⟩
abbrev cX10_textOf : ByteArray := prog_12_method_27_code
def yX10_textOf : MethodName := ⟨RX10, "textOf", "(II)I"⟩
abbrev cX10_unfolded : ByteArray := prog_12_method_28_code
def yX10_unfolded : MethodName := ⟨RX10, "unfolded", "(II)I"⟩
abbrev cX10_setMeter : ByteArray := prog_12_method_29_code
def yX10_setMeter : MethodName := ⟨RX10, "setMeter", "(II)I"⟩
abbrev cX10_setSwing : ByteArray := prog_12_method_30_code
def yX10_setSwing : MethodName := ⟨RX10, "setSwing", "(II)I"⟩
abbrev cX10_divisor : ByteArray := prog_12_method_31_code
def yX10_divisor : MethodName := ⟨RX10, "divisor", "(JJ)J"⟩
abbrev cX10_told : ByteArray := prog_12_method_32_code
def yX10_told : MethodName := ⟨RX10, "told", "(JJI)J"⟩
abbrev cX10_events : ByteArray := prog_12_method_33_code
def yX10_events : MethodName := ⟨RX10, "events", "(I)I"⟩
abbrev cX10_length : ByteArray := prog_12_method_34_code
def yX10_length : MethodName := ⟨RX10, "length", "(II)J"⟩
abbrev cX10_isEvent : ByteArray := prog_12_method_35_code
def yX10_isEvent : MethodName := ⟨RX10, "isEvent", "(II)Z"⟩
abbrev cX10_onset : ByteArray := prog_12_method_36_code
def yX10_onset : MethodName := ⟨RX10, "onset", "(III)J"⟩
abbrev cX10_lasts : ByteArray := prog_12_method_37_code
def yX10_lasts : MethodName := ⟨RX10, "lasts", "(III)J"⟩
abbrev cX10_swungOf : ByteArray := prog_12_method_38_code
def yX10_swungOf : MethodName := ⟨RX10, "swungOf", "(J)J"⟩
abbrev cX10_swung : ByteArray := prog_12_method_39_code
def yX10_swung : MethodName := ⟨RX10, "swung", "(III)J"⟩
abbrev cX10_meter : ByteArray := prog_12_method_40_code
def yX10_meter : MethodName := ⟨RX10, "meter", "()J"⟩
abbrev cX10_levelOf : ByteArray := prog_12_method_41_code
def yX10_levelOf : MethodName := ⟨RX10, "levelOf", "(J)I"⟩
abbrev cX10_syncopationOf : ByteArray := prog_12_method_42_code
def yX10_syncopationOf : MethodName := ⟨RX10, "syncopationOf", "(I)I"⟩
abbrev cX10_event : ByteArray := prog_12_method_43_code
def yX10_event : MethodName := ⟨RX10, "event", "(III)I"⟩
abbrev cX10_bars : ByteArray := prog_12_method_44_code
def yX10_bars : MethodName := ⟨RX10, "bars", "(I)I"⟩
abbrev cX10_bar : ByteArray := prog_12_method_45_code
def yX10_bar : MethodName := ⟨RX10, "bar", "(III)J"⟩
abbrev cX10_wrongBar : ByteArray := prog_12_method_46_code
def yX10_wrongBar : MethodName := ⟨RX10, "wrongBar", "(I)I"⟩
abbrev cX10_syncopation : ByteArray := prog_12_method_47_code
def yX10_syncopation : MethodName := ⟨RX10, "syncopation", "(I)I"⟩
abbrev cX10_offGrid : ByteArray := prog_12_method_48_code
def yX10_offGrid : MethodName := ⟨RX10, "offGrid", "(II)I"⟩
abbrev cX10_leastGrid : ByteArray := prog_12_method_49_code
def yX10_leastGrid : MethodName := ⟨RX10, "leastGrid", "(I)I"⟩
abbrev cX10_startsAll : ByteArray := prog_12_method_50_code
def yX10_startsAll : MethodName := ⟨RX10, "startsAll", "()V"⟩
abbrev cX10_nextTime : ByteArray := prog_12_method_51_code
def yX10_nextTime : MethodName := ⟨RX10, "nextTime", "()J"⟩
abbrev cX10_times : ByteArray := prog_12_method_52_code
def yX10_times : MethodName := ⟨RX10, "times", "()I"⟩
abbrev cX10_time : ByteArray := prog_12_method_53_code
def yX10_time : MethodName := ⟨RX10, "time", "(II)J"⟩
abbrev cX10_cycleOf : ByteArray := prog_12_method_54_code
def yX10_cycleOf : MethodName := ⟨RX10, "cycleOf", "(II)J"⟩
abbrev cX10_cycle : ByteArray := prog_12_method_55_code
def yX10_cycle : MethodName := ⟨RX10, "cycle", "(III)J"⟩
abbrev cX10_meets : ByteArray := prog_12_method_56_code
def yX10_meets : MethodName := ⟨RX10, "meets", "(II)I"⟩
abbrev cX10_undo : ByteArray := prog_12_method_57_code
def yX10_undo : MethodName := ⟨RX10, "undo", "()I"⟩
abbrev cX10_fingerprint : ByteArray := prog_12_method_58_code
def yX10_fingerprint : MethodName := ⟨RX10, "fingerprint", "()J"⟩
def RJ11 : String := "java/lang/Character"
def TJ11 : u_T := fun k => match k with
  | _ => ("", "", "", false)
def tyJ11 : Nat → FieldType := fun k => match k with
  | _ => .int
abbrev wsJ110 : List Cond := u_ws RJ11 TJ11 0
theorem nmJ11 : ∀ a, a < 0 → ∀ b, b < 0 → a ≠ b → (TJ11 a).2.1 ≠ (TJ11 b).2.1 := by decide +kernel
theorem tyJ11_ok : ∀ k, k < 0 → parseFieldDescriptor (TJ11 k).2.2.1 = some (tyJ11 k) := by decide +kernel
abbrev cJ11_isValidCodePoint_9a6ad : ByteArray := prog_13_method_11_code
def yJ11_isValidCodePoint_9a6ad : MethodName := ⟨RJ11, "isValidCodePoint", "(I)Z"⟩
abbrev cJ11_highSurrogate_5068e : ByteArray := prog_13_method_28_code
def yJ11_highSurrogate_5068e : MethodName := ⟨RJ11, "highSurrogate", "(I)C"⟩
abbrev cJ11_lowSurrogate_5068e : ByteArray := prog_13_method_29_code
def yJ11_lowSurrogate_5068e : MethodName := ⟨RJ11, "lowSurrogate", "(I)C"⟩
def RJ9 : String := "java/lang/Math"
def TJ9 : u_T := fun k => match k with
  | _ => ("", "", "", false)
def tyJ9 : Nat → FieldType := fun k => match k with
  | _ => .int
abbrev wsJ90 : List Cond := u_ws RJ9 TJ9 0
theorem nmJ9 : ∀ a, a < 0 → ∀ b, b < 0 → a ≠ b → (TJ9 a).2.1 ≠ (TJ9 b).2.1 := by decide +kernel
theorem tyJ9_ok : ∀ k, k < 0 → parseFieldDescriptor (TJ9 k).2.2.1 = some (tyJ9 k) := by decide +kernel
abbrev cJ9_max_7cf53 : ByteArray := prog_14_method_65_code
def yJ9_max_7cf53 : MethodName := ⟨RJ9, "max", "(II)I"⟩
abbrev cJ9_min_7cf53 : ByteArray := prog_14_method_69_code
def yJ9_min_7cf53 : MethodName := ⟨RJ9, "min", "(II)I"⟩
def RJ0 : String := "java/lang/String"
def TJ0 : u_T := fun k => match k with
  | _ => ("", "", "", false)
def tyJ0 : Nat → FieldType := fun k => match k with
  | _ => .int
abbrev wsJ00 : List Cond := u_ws RJ0 TJ0 0
theorem nmJ0 : ∀ a, a < 0 → ∀ b, b < 0 → a ≠ b → (TJ0 a).2.1 ≠ (TJ0 b).2.1 := by decide +kernel
theorem tyJ0_ok : ∀ k, k < 0 → parseFieldDescriptor (TJ0 k).2.2.1 = some (tyJ0 k) := by decide +kernel
abbrev cJ0_length_8abf5 : ByteArray := prog_15_method_54_code
def yJ0_length_8abf5 : MethodName := ⟨RJ0, "length", "()I"⟩
abbrev cJ0_indexOf_0f7a4 : ByteArray := prog_15_method_79_code
def yJ0_indexOf_0f7a4 : MethodName := ⟨RJ0, "indexOf", "(I)I"⟩
abbrev cJ0_indexOf_7cf53 : ByteArray := prog_15_method_80_code
def yJ0_indexOf_7cf53 : MethodName := ⟨RJ0, "indexOf", "(II)I"⟩
abbrev cJ0_coder_7d493 : ByteArray := prog_15_method_152_code
def yJ0_coder_7d493 : MethodName := ⟨RJ0, "coder", "()B"⟩
abbrev cJ0_isLatin1_aae02 : ByteArray := prog_15_method_154_code
def yJ0_isLatin1_aae02 : MethodName := ⟨RJ0, "isLatin1", "()Z"⟩
abbrev cJ0_checkBoundsBeginEnd_23922 : ByteArray := prog_15_method_158_code
def yJ0_checkBoundsBeginEnd_23922 : MethodName := ⟨RJ0, "checkBoundsBeginEnd", "(III)V"⟩
def RJ1 : String := "java/lang/StringLatin1"
def TJ1 : u_T := fun k => match k with
  | _ => ("", "", "", false)
def tyJ1 : Nat → FieldType := fun k => match k with
  | _ => .int
abbrev wsJ10 : List Cond := u_ws RJ1 TJ1 0
theorem nmJ1 : ∀ a, a < 0 → ∀ b, b < 0 → a ≠ b → (TJ1 a).2.1 ≠ (TJ1 b).2.1 := by decide +kernel
theorem tyJ1_ok : ∀ k, k < 0 → parseFieldDescriptor (TJ1 k).2.2.1 = some (tyJ1 k) := by decide +kernel
abbrev cJ1_canEncode_9a6ad : ByteArray := prog_16_method_4_code
def yJ1_canEncode_9a6ad : MethodName := ⟨RJ1, "canEncode", "(I)Z"⟩
abbrev cJ1_indexOf_4cfef : ByteArray := prog_16_method_22_code
def yJ1_indexOf_4cfef : MethodName := ⟨RJ1, "indexOf", "([BIII)I"⟩
abbrev cJ1_indexOfChar_4cfef : ByteArray := prog_16_method_23_code
def yJ1_indexOfChar_4cfef : MethodName := ⟨RJ1, "indexOfChar", "([BIII)I"⟩
def RJ2 : String := "java/lang/StringUTF16"
def TJ2 : u_T := fun k => match k with
  | _ => ("", "", "", false)
def tyJ2 : Nat → FieldType := fun k => match k with
  | _ => .int
abbrev wsJ20 : List Cond := u_ws RJ2 TJ2 0
theorem nmJ2 : ∀ a, a < 0 → ∀ b, b < 0 → a ≠ b → (TJ2 a).2.1 ≠ (TJ2 b).2.1 := by decide +kernel
theorem tyJ2_ok : ∀ k, k < 0 → parseFieldDescriptor (TJ2 k).2.2.1 = some (tyJ2 k) := by decide +kernel
abbrev cJ2_getChar_3b067 : ByteArray := prog_17_method_5_code
def yJ2_getChar_3b067 : MethodName := ⟨RJ2, "getChar", "([BI)C"⟩
abbrev cJ2_length_9d52b : ByteArray := prog_17_method_6_code
def yJ2_length_9d52b : MethodName := ⟨RJ2, "length", "([B)I"⟩
abbrev cJ2_indexOf_4cfef : ByteArray := prog_17_method_40_code
def yJ2_indexOf_4cfef : MethodName := ⟨RJ2, "indexOf", "([BIII)I"⟩
abbrev cJ2_indexOfChar_4cfef : ByteArray := prog_17_method_47_code
def yJ2_indexOfChar_4cfef : MethodName := ⟨RJ2, "indexOfChar", "([BIII)I"⟩
abbrev cJ2_indexOfCharUnsafe_4cfef : ByteArray := prog_17_method_48_code
def yJ2_indexOfCharUnsafe_4cfef : MethodName := ⟨RJ2, "indexOfCharUnsafe", "([BIII)I"⟩
abbrev cJ2_indexOfSupplementary_4cfef : ByteArray := prog_17_method_49_code
def yJ2_indexOfSupplementary_4cfef : MethodName := ⟨RJ2, "indexOfSupplementary", "([BIII)I"⟩
abbrev cJ2_checkBoundsBeginEnd_d044e : ByteArray := prog_17_method_93_code
def yJ2_checkBoundsBeginEnd_d044e : MethodName := ⟨RJ2, "checkBoundsBeginEnd", "(II[B)V"⟩
def RJ3 : String := "jdk/internal/util/Preconditions"
def TJ3 : u_T := fun k => match k with
  | _ => ("", "", "", false)
def tyJ3 : Nat → FieldType := fun k => match k with
  | _ => .int
abbrev wsJ30 : List Cond := u_ws RJ3 TJ3 0
theorem nmJ3 : ∀ a, a < 0 → ∀ b, b < 0 → a ≠ b → (TJ3 a).2.1 ≠ (TJ3 b).2.1 := by decide +kernel
theorem tyJ3_ok : ∀ k, k < 0 → parseFieldDescriptor (TJ3 k).2.2.1 = some (tyJ3 k) := by decide +kernel
abbrev cJ3_checkFromToIndex_8c36e : ByteArray := prog_18_method_12_code
def yJ3_checkFromToIndex_8c36e : MethodName := ⟨RJ3, "checkFromToIndex", "(IIILjava/util/function/BiFunction;)I"⟩
def RL : String := "RhythmBenchLaw"
abbrev cL_law : ByteArray := code
def yL_law : MethodName := ⟨RL, "law", "([I)Z"⟩
theorem am_in_r {big : List Cond} (ws : List Cond) (ps : List Nat) (hp : ws = ps.filterMap (fun i => big[i]?)) : ∀ w ∈ ws, w ∈ big := by
  intro w hw
  rw [hp] at hw
  obtain ⟨i, -, hi⟩ := List.mem_filterMap.mp hw
  exact List.mem_of_getElem? hi
theorem inX0 : ∀ w ∈ wsX00, w ∈ lw_tbl := am_in_r _ [104, 106, 108, 110, 112, 114] (by decide +kernel)
theorem inX1 : ∀ w ∈ wsX10, w ∈ lw_tbl := am_in_r _ [] (by decide +kernel)
theorem inX2 : ∀ w ∈ wsX20, w ∈ lw_tbl := am_in_r _ [243, 245, 247] (by decide +kernel)
theorem inX3 : ∀ w ∈ wsX30, w ∈ lw_tbl := am_in_r _ [200, 202, 204] (by decide +kernel)
theorem inX4 : ∀ w ∈ wsX40, w ∈ lw_tbl := am_in_r _ [170, 172, 174, 176, 178, 180, 182, 184, 186, 188, 190] (by decide +kernel)
theorem inX5 : ∀ w ∈ wsX50, w ∈ lw_tbl := am_in_r _ [223, 225, 227, 229, 231] (by decide +kernel)
theorem inX6 : ∀ w ∈ wsX60, w ∈ lw_tbl := am_in_r _ [86, 88] (by decide +kernel)
theorem inX7 : ∀ w ∈ wsX70, w ∈ lw_tbl := am_in_r _ [141, 143, 145] (by decide +kernel)
theorem inX8 : ∀ w ∈ wsX80, w ∈ lw_tbl := am_in_r _ [] (by decide +kernel)
theorem inX9 : ∀ w ∈ wsX90, w ∈ lw_tbl := am_in_r _ [261, 263, 265, 267, 269, 271, 273, 275, 277, 279, 281] (by decide +kernel)
theorem inX10 : ∀ w ∈ wsX100, w ∈ lw_tbl := am_in_r _ [802, 804, 806, 808, 810, 812, 814, 816, 818, 820, 822, 824, 826, 828, 830, 832, 834, 836, 838, 840, 842, 844, 846, 848, 850, 852, 854, 856, 858] (by decide +kernel)
