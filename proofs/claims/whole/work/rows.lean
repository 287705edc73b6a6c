section
-- ===== PART A: goes FIRST, ahead of the names: the tables' words, and 'selects' of the private methods out of them =====
/-- a private method of a class that the tables say can be made, by its rows of tables_1 -/
def lw_okq (q : MethodName × Nat) : Prop := (q.1.cls ≠ "java/lang/invoke/MethodHandle" ∧ q.1.cls ≠ "java/lang/invoke/VarHandle") ∧ Cond.instantiable q.1.cls q.2 ∈ tables_1 ∧ Cond.privateMethod q.1 ∈ tables_1 ∧ Cond.instanceMethod q.1 ∈ tables_1
theorem lw_p0 : lw_okq (⟨"RhythmBench$Score", "start", "()V"⟩, 11) := ⟨⟨by decide +kernel, by decide +kernel⟩, List.mem_of_getElem? (i := 78) (by decide +kernel), List.mem_of_getElem? (i := 103) (by decide +kernel), List.mem_of_getElem? (i := 104) (by decide +kernel)⟩
theorem lw_p1 : lw_okq (⟨"RhythmBench", "partAt", "(I)LRhythmBench$Part;"⟩, 11) := ⟨⟨by decide +kernel, by decide +kernel⟩, List.mem_of_getElem? (i := 19) (by decide +kernel), List.mem_of_getElem? (i := 264) (by decide +kernel), List.mem_of_getElem? (i := 265) (by decide +kernel)⟩
theorem lw_p2 : lw_okq (⟨"RhythmBench$Grammar", "start", "()V"⟩, 6) := ⟨⟨by decide +kernel, by decide +kernel⟩, List.mem_of_getElem? (i := 44) (by decide +kernel), List.mem_of_getElem? (i := 272) (by decide +kernel), List.mem_of_getElem? (i := 273) (by decide +kernel)⟩
theorem lw_p3 : lw_okq (⟨"RhythmBench$Grammar", "endSound", "()V"⟩, 6) := ⟨⟨by decide +kernel, by decide +kernel⟩, List.mem_of_getElem? (i := 44) (by decide +kernel), List.mem_of_getElem? (i := 276) (by decide +kernel), List.mem_of_getElem? (i := 277) (by decide +kernel)⟩
theorem lw_p4 : lw_okq (⟨"RhythmBench$Grammar", "accepts", "(I)Z"⟩, 6) := ⟨⟨by decide +kernel, by decide +kernel⟩, List.mem_of_getElem? (i := 44) (by decide +kernel), List.mem_of_getElem? (i := 285) (by decide +kernel), List.mem_of_getElem? (i := 286) (by decide +kernel)⟩
theorem lw_p5 : lw_okq (⟨"RhythmBench$Grammar", "beginsSound", "(IZ)Z"⟩, 6) := ⟨⟨by decide +kernel, by decide +kernel⟩, List.mem_of_getElem? (i := 44) (by decide +kernel), List.mem_of_getElem? (i := 292) (by decide +kernel), List.mem_of_getElem? (i := 293) (by decide +kernel)⟩
theorem lw_p6 : lw_okq (⟨"RhythmBench$Grammar", "goesOn", "(ZI)Z"⟩, 6) := ⟨⟨by decide +kernel, by decide +kernel⟩, List.mem_of_getElem? (i := 44) (by decide +kernel), List.mem_of_getElem? (i := 384) (by decide +kernel), List.mem_of_getElem? (i := 385) (by decide +kernel)⟩
theorem lw_p7 : lw_okq (⟨"RhythmBench$Grammar", "acceptsItem", "(I)Z"⟩, 6) := ⟨⟨by decide +kernel, by decide +kernel⟩, List.mem_of_getElem? (i := 44) (by decide +kernel), List.mem_of_getElem? (i := 388) (by decide +kernel), List.mem_of_getElem? (i := 389) (by decide +kernel)⟩
theorem lw_p8 : lw_okq (⟨"RhythmBench$Grammar", "addsDot", "()Z"⟩, 6) := ⟨⟨by decide +kernel, by decide +kernel⟩, List.mem_of_getElem? (i := 44) (by decide +kernel), List.mem_of_getElem? (i := 392) (by decide +kernel), List.mem_of_getElem? (i := 393) (by decide +kernel)⟩
theorem lw_p9 : lw_okq (⟨"RhythmBench$Grammar", "addsTie", "()Z"⟩, 6) := ⟨⟨by decide +kernel, by decide +kernel⟩, List.mem_of_getElem? (i := 44) (by decide +kernel), List.mem_of_getElem? (i := 396) (by decide +kernel), List.mem_of_getElem? (i := 397) (by decide +kernel)⟩
theorem lw_p10 : lw_okq (⟨"RhythmBench$Grammar", "opensTuplet", "()Z"⟩, 6) := ⟨⟨by decide +kernel, by decide +kernel⟩, List.mem_of_getElem? (i := 44) (by decide +kernel), List.mem_of_getElem? (i := 400) (by decide +kernel), List.mem_of_getElem? (i := 401) (by decide +kernel)⟩
theorem lw_p11 : lw_okq (⟨"RhythmBench$Grammar", "closesTuplet", "()Z"⟩, 6) := ⟨⟨by decide +kernel, by decide +kernel⟩, List.mem_of_getElem? (i := 44) (by decide +kernel), List.mem_of_getElem? (i := 404) (by decide +kernel), List.mem_of_getElem? (i := 405) (by decide +kernel)⟩
theorem lw_p12 : lw_okq (⟨"RhythmBench$Grammar", "opensRepeat", "()Z"⟩, 6) := ⟨⟨by decide +kernel, by decide +kernel⟩, List.mem_of_getElem? (i := 44) (by decide +kernel), List.mem_of_getElem? (i := 408) (by decide +kernel), List.mem_of_getElem? (i := 409) (by decide +kernel)⟩
theorem lw_p13 : lw_okq (⟨"RhythmBench$Grammar", "closesRepeat", "()Z"⟩, 6) := ⟨⟨by decide +kernel, by decide +kernel⟩, List.mem_of_getElem? (i := 44) (by decide +kernel), List.mem_of_getElem? (i := 412) (by decide +kernel), List.mem_of_getElem? (i := 413) (by decide +kernel)⟩
theorem lw_p14 : lw_okq (⟨"RhythmBench", "remember", "()V"⟩, 11) := ⟨⟨by decide +kernel, by decide +kernel⟩, List.mem_of_getElem? (i := 19) (by decide +kernel), List.mem_of_getElem? (i := 448) (by decide +kernel), List.mem_of_getElem? (i := 449) (by decide +kernel)⟩
theorem lw_p15 : lw_okq (⟨"RhythmBench", "dropOldest", "()V"⟩, 11) := ⟨⟨by decide +kernel, by decide +kernel⟩, List.mem_of_getElem? (i := 19) (by decide +kernel), List.mem_of_getElem? (i := 452) (by decide +kernel), List.mem_of_getElem? (i := 453) (by decide +kernel)⟩
def lw_privs_1 : List (MethodName × Nat) := [(⟨"RhythmBench$Score", "start", "()V"⟩, 11), (⟨"RhythmBench", "partAt", "(I)LRhythmBench$Part;"⟩, 11), (⟨"RhythmBench$Grammar", "start", "()V"⟩, 6), (⟨"RhythmBench$Grammar", "endSound", "()V"⟩, 6), (⟨"RhythmBench$Grammar", "accepts", "(I)Z"⟩, 6), (⟨"RhythmBench$Grammar", "beginsSound", "(IZ)Z"⟩, 6), (⟨"RhythmBench$Grammar", "goesOn", "(ZI)Z"⟩, 6), (⟨"RhythmBench$Grammar", "acceptsItem", "(I)Z"⟩, 6), (⟨"RhythmBench$Grammar", "addsDot", "()Z"⟩, 6), (⟨"RhythmBench$Grammar", "addsTie", "()Z"⟩, 6), (⟨"RhythmBench$Grammar", "opensTuplet", "()Z"⟩, 6), (⟨"RhythmBench$Grammar", "closesTuplet", "()Z"⟩, 6), (⟨"RhythmBench$Grammar", "opensRepeat", "()Z"⟩, 6), (⟨"RhythmBench$Grammar", "closesRepeat", "()Z"⟩, 6), (⟨"RhythmBench", "remember", "()V"⟩, 11), (⟨"RhythmBench", "dropOldest", "()V"⟩, 11)]
theorem lw_r1 : ∀ q ∈ lw_privs_1, lw_okq q := List.forall_mem_cons.mpr ⟨lw_p0, List.forall_mem_cons.mpr ⟨lw_p1, List.forall_mem_cons.mpr ⟨lw_p2, List.forall_mem_cons.mpr ⟨lw_p3, List.forall_mem_cons.mpr ⟨lw_p4, List.forall_mem_cons.mpr ⟨lw_p5, List.forall_mem_cons.mpr ⟨lw_p6, List.forall_mem_cons.mpr ⟨lw_p7, List.forall_mem_cons.mpr ⟨lw_p8, List.forall_mem_cons.mpr ⟨lw_p9, List.forall_mem_cons.mpr ⟨lw_p10, List.forall_mem_cons.mpr ⟨lw_p11, List.forall_mem_cons.mpr ⟨lw_p12, List.forall_mem_cons.mpr ⟨lw_p13, List.forall_mem_cons.mpr ⟨lw_p14, List.forall_mem_cons.mpr ⟨lw_p15, fun _ h => absurd h List.not_mem_nil⟩⟩⟩⟩⟩⟩⟩⟩⟩⟩⟩⟩⟩⟩⟩⟩
theorem lw_p16 : lw_okq (⟨"RhythmBench$Score", "beginBar", "()V"⟩, 11) := ⟨⟨by decide +kernel, by decide +kernel⟩, List.mem_of_getElem? (i := 78) (by decide +kernel), List.mem_of_getElem? (i := 472) (by decide +kernel), List.mem_of_getElem? (i := 473) (by decide +kernel)⟩
theorem lw_p17 : lw_okq (⟨"RhythmBench$Score", "addSound", "(LRhythmBench$Text;I)V"⟩, 11) := ⟨⟨by decide +kernel, by decide +kernel⟩, List.mem_of_getElem? (i := 78) (by decide +kernel), List.mem_of_getElem? (i := 486) (by decide +kernel), List.mem_of_getElem? (i := 487) (by decide +kernel)⟩
theorem lw_p18 : lw_okq (⟨"RhythmBench$Score", "addNote", "(JZ)V"⟩, 11) := ⟨⟨by decide +kernel, by decide +kernel⟩, List.mem_of_getElem? (i := 78) (by decide +kernel), List.mem_of_getElem? (i := 498) (by decide +kernel), List.mem_of_getElem? (i := 499) (by decide +kernel)⟩
theorem lw_p19 : lw_okq (⟨"RhythmBench", "swing", "(J)J"⟩, 11) := ⟨⟨by decide +kernel, by decide +kernel⟩, List.mem_of_getElem? (i := 19) (by decide +kernel), List.mem_of_getElem? (i := 588) (by decide +kernel), List.mem_of_getElem? (i := 589) (by decide +kernel)⟩
theorem lw_p20 : lw_okq (⟨"RhythmBench", "level", "(J)I"⟩, 11) := ⟨⟨by decide +kernel, by decide +kernel⟩, List.mem_of_getElem? (i := 19) (by decide +kernel), List.mem_of_getElem? (i := 611) (by decide +kernel), List.mem_of_getElem? (i := 612) (by decide +kernel)⟩
theorem lw_p21 : lw_okq (⟨"RhythmBench", "meterLength", "()J"⟩, 11) := ⟨⟨by decide +kernel, by decide +kernel⟩, List.mem_of_getElem? (i := 19) (by decide +kernel), List.mem_of_getElem? (i := 615) (by decide +kernel), List.mem_of_getElem? (i := 616) (by decide +kernel)⟩
theorem lw_p22 : lw_okq (⟨"RhythmBench", "syncopationOf", "(LRhythmBench$Score;I)I"⟩, 11) := ⟨⟨by decide +kernel, by decide +kernel⟩, List.mem_of_getElem? (i := 19) (by decide +kernel), List.mem_of_getElem? (i := 619) (by decide +kernel), List.mem_of_getElem? (i := 620) (by decide +kernel)⟩
theorem lw_p23 : lw_okq (⟨"RhythmBench", "leastLevelBetween", "(JJ)I"⟩, 11) := ⟨⟨by decide +kernel, by decide +kernel⟩, List.mem_of_getElem? (i := 19) (by decide +kernel), List.mem_of_getElem? (i := 623) (by decide +kernel), List.mem_of_getElem? (i := 624) (by decide +kernel)⟩
theorem lw_p24 : lw_okq (⟨"RhythmBench$Overlay", "offer", "(IJ)V"⟩, 3) := ⟨⟨by decide +kernel, by decide +kernel⟩, List.mem_of_getElem? (i := 186) (by decide +kernel), List.mem_of_getElem? (i := 676) (by decide +kernel), List.mem_of_getElem? (i := 677) (by decide +kernel)⟩
theorem lw_p25 : lw_okq (⟨"RhythmBenchModel", "wrongAt", "()I"⟩, 29) := ⟨⟨by decide +kernel, by decide +kernel⟩, List.mem_of_getElem? (i := 719) (by decide +kernel), List.mem_of_getElem? (i := 831) (by decide +kernel), List.mem_of_getElem? (i := 832) (by decide +kernel)⟩
theorem lw_p26 : lw_okq (⟨"RhythmBenchModel", "may", "(I)Z"⟩, 29) := ⟨⟨by decide +kernel, by decide +kernel⟩, List.mem_of_getElem? (i := 719) (by decide +kernel), List.mem_of_getElem? (i := 835) (by decide +kernel), List.mem_of_getElem? (i := 836) (by decide +kernel)⟩
theorem lw_p27 : lw_okq (⟨"RhythmBenchModel", "begins", "(I)Z"⟩, 29) := ⟨⟨by decide +kernel, by decide +kernel⟩, List.mem_of_getElem? (i := 719) (by decide +kernel), List.mem_of_getElem? (i := 839) (by decide +kernel), List.mem_of_getElem? (i := 840) (by decide +kernel)⟩
theorem lw_p28 : lw_okq (⟨"RhythmBenchModel", "outside", "(I)Z"⟩, 29) := ⟨⟨by decide +kernel, by decide +kernel⟩, List.mem_of_getElem? (i := 719) (by decide +kernel), List.mem_of_getElem? (i := 846) (by decide +kernel), List.mem_of_getElem? (i := 847) (by decide +kernel)⟩
theorem lw_p29 : lw_okq (⟨"RhythmBenchModel", "dotted", "(I)Z"⟩, 29) := ⟨⟨by decide +kernel, by decide +kernel⟩, List.mem_of_getElem? (i := 719) (by decide +kernel), List.mem_of_getElem? (i := 850) (by decide +kernel), List.mem_of_getElem? (i := 851) (by decide +kernel)⟩
theorem lw_p30 : lw_okq (⟨"RhythmBenchModel", "numbered", "(I)Z"⟩, 29) := ⟨⟨by decide +kernel, by decide +kernel⟩, List.mem_of_getElem? (i := 719) (by decide +kernel), List.mem_of_getElem? (i := 854) (by decide +kernel), List.mem_of_getElem? (i := 855) (by decide +kernel)⟩
theorem lw_p31 : lw_okq (⟨"RhythmBenchModel", "takes", "(I[II)V"⟩, 29) := ⟨⟨by decide +kernel, by decide +kernel⟩, List.mem_of_getElem? (i := 719) (by decide +kernel), List.mem_of_getElem? (i := 861) (by decide +kernel), List.mem_of_getElem? (i := 862) (by decide +kernel)⟩
def lw_privs_2 : List (MethodName × Nat) := [(⟨"RhythmBench$Score", "beginBar", "()V"⟩, 11), (⟨"RhythmBench$Score", "addSound", "(LRhythmBench$Text;I)V"⟩, 11), (⟨"RhythmBench$Score", "addNote", "(JZ)V"⟩, 11), (⟨"RhythmBench", "swing", "(J)J"⟩, 11), (⟨"RhythmBench", "level", "(J)I"⟩, 11), (⟨"RhythmBench", "meterLength", "()J"⟩, 11), (⟨"RhythmBench", "syncopationOf", "(LRhythmBench$Score;I)I"⟩, 11), (⟨"RhythmBench", "leastLevelBetween", "(JJ)I"⟩, 11), (⟨"RhythmBench$Overlay", "offer", "(IJ)V"⟩, 3), (⟨"RhythmBenchModel", "wrongAt", "()I"⟩, 29), (⟨"RhythmBenchModel", "may", "(I)Z"⟩, 29), (⟨"RhythmBenchModel", "begins", "(I)Z"⟩, 29), (⟨"RhythmBenchModel", "outside", "(I)Z"⟩, 29), (⟨"RhythmBenchModel", "dotted", "(I)Z"⟩, 29), (⟨"RhythmBenchModel", "numbered", "(I)Z"⟩, 29), (⟨"RhythmBenchModel", "takes", "(I[II)V"⟩, 29)]
theorem lw_r2 : ∀ q ∈ lw_privs_2, lw_okq q := List.forall_mem_cons.mpr ⟨lw_p16, List.forall_mem_cons.mpr ⟨lw_p17, List.forall_mem_cons.mpr ⟨lw_p18, List.forall_mem_cons.mpr ⟨lw_p19, List.forall_mem_cons.mpr ⟨lw_p20, List.forall_mem_cons.mpr ⟨lw_p21, List.forall_mem_cons.mpr ⟨lw_p22, List.forall_mem_cons.mpr ⟨lw_p23, List.forall_mem_cons.mpr ⟨lw_p24, List.forall_mem_cons.mpr ⟨lw_p25, List.forall_mem_cons.mpr ⟨lw_p26, List.forall_mem_cons.mpr ⟨lw_p27, List.forall_mem_cons.mpr ⟨lw_p28, List.forall_mem_cons.mpr ⟨lw_p29, List.forall_mem_cons.mpr ⟨lw_p30, List.forall_mem_cons.mpr ⟨lw_p31, fun _ h => absurd h List.not_mem_nil⟩⟩⟩⟩⟩⟩⟩⟩⟩⟩⟩⟩⟩⟩⟩⟩
theorem lw_p32 : lw_okq (⟨"RhythmBenchModel", "works", "(I)V"⟩, 29) := ⟨⟨by decide +kernel, by decide +kernel⟩, List.mem_of_getElem? (i := 719) (by decide +kernel), List.mem_of_getElem? (i := 865) (by decide +kernel), List.mem_of_getElem? (i := 866) (by decide +kernel)⟩
theorem lw_p33 : lw_okq (⟨"RhythmBenchModel", "unfolds", "(I)V"⟩, 29) := ⟨⟨by decide +kernel, by decide +kernel⟩, List.mem_of_getElem? (i := 719) (by decide +kernel), List.mem_of_getElem? (i := 869) (by decide +kernel), List.mem_of_getElem? (i := 870) (by decide +kernel)⟩
theorem lw_p34 : lw_okq (⟨"RhythmBenchModel", "at", "(II)I"⟩, 29) := ⟨⟨by decide +kernel, by decide +kernel⟩, List.mem_of_getElem? (i := 719) (by decide +kernel), List.mem_of_getElem? (i := 873) (by decide +kernel), List.mem_of_getElem? (i := 874) (by decide +kernel)⟩
theorem lw_p35 : lw_okq (⟨"RhythmBenchModel", "closing", "(II)I"⟩, 29) := ⟨⟨by decide +kernel, by decide +kernel⟩, List.mem_of_getElem? (i := 719) (by decide +kernel), List.mem_of_getElem? (i := 877) (by decide +kernel), List.mem_of_getElem? (i := 878) (by decide +kernel)⟩
theorem lw_p36 : lw_okq (⟨"RhythmBenchModel", "passes", "(III)V"⟩, 29) := ⟨⟨by decide +kernel, by decide +kernel⟩, List.mem_of_getElem? (i := 719) (by decide +kernel), List.mem_of_getElem? (i := 881) (by decide +kernel), List.mem_of_getElem? (i := 882) (by decide +kernel)⟩
theorem lw_p37 : lw_okq (⟨"RhythmBenchModel", "lays", "(IIZ)I"⟩, 29) := ⟨⟨by decide +kernel, by decide +kernel⟩, List.mem_of_getElem? (i := 719) (by decide +kernel), List.mem_of_getElem? (i := 885) (by decide +kernel), List.mem_of_getElem? (i := 886) (by decide +kernel)⟩
theorem lw_p38 : lw_okq (⟨"RhythmBenchModel", "lengthAt", "(III)J"⟩, 29) := ⟨⟨by decide +kernel, by decide +kernel⟩, List.mem_of_getElem? (i := 719) (by decide +kernel), List.mem_of_getElem? (i := 889) (by decide +kernel), List.mem_of_getElem? (i := 890) (by decide +kernel)⟩
theorem lw_p39 : lw_okq (⟨"RhythmBenchModel", "addsEvent", "(IJJZIZ)V"⟩, 29) := ⟨⟨by decide +kernel, by decide +kernel⟩, List.mem_of_getElem? (i := 719) (by decide +kernel), List.mem_of_getElem? (i := 898) (by decide +kernel), List.mem_of_getElem? (i := 899) (by decide +kernel)⟩
theorem lw_p40 : lw_okq (⟨"RhythmBenchModel", "act", "()V"⟩, 29) := ⟨⟨by decide +kernel, by decide +kernel⟩, List.mem_of_getElem? (i := 719) (by decide +kernel), List.mem_of_getElem? (i := 902) (by decide +kernel), List.mem_of_getElem? (i := 903) (by decide +kernel)⟩
theorem lw_p41 : lw_okq (⟨"RhythmBenchModel", "isEvent", "(II)Z"⟩, 29) := ⟨⟨by decide +kernel, by decide +kernel⟩, List.mem_of_getElem? (i := 719) (by decide +kernel), List.mem_of_getElem? (i := 949) (by decide +kernel), List.mem_of_getElem? (i := 950) (by decide +kernel)⟩
theorem lw_p42 : lw_okq (⟨"RhythmBenchModel", "swungOf", "(J)J"⟩, 29) := ⟨⟨by decide +kernel, by decide +kernel⟩, List.mem_of_getElem? (i := 719) (by decide +kernel), List.mem_of_getElem? (i := 961) (by decide +kernel), List.mem_of_getElem? (i := 962) (by decide +kernel)⟩
theorem lw_p43 : lw_okq (⟨"RhythmBenchModel", "levelOf", "(J)I"⟩, 29) := ⟨⟨by decide +kernel, by decide +kernel⟩, List.mem_of_getElem? (i := 719) (by decide +kernel), List.mem_of_getElem? (i := 971) (by decide +kernel), List.mem_of_getElem? (i := 972) (by decide +kernel)⟩
theorem lw_p44 : lw_okq (⟨"RhythmBenchModel", "meter", "()J"⟩, 29) := ⟨⟨by decide +kernel, by decide +kernel⟩, List.mem_of_getElem? (i := 719) (by decide +kernel), List.mem_of_getElem? (i := 975) (by decide +kernel), List.mem_of_getElem? (i := 976) (by decide +kernel)⟩
theorem lw_p45 : lw_okq (⟨"RhythmBenchModel", "syncopationOf", "(I)I"⟩, 29) := ⟨⟨by decide +kernel, by decide +kernel⟩, List.mem_of_getElem? (i := 719) (by decide +kernel), List.mem_of_getElem? (i := 979) (by decide +kernel), List.mem_of_getElem? (i := 980) (by decide +kernel)⟩
theorem lw_p46 : lw_okq (⟨"RhythmBenchModel", "startsAll", "()V"⟩, 29) := ⟨⟨by decide +kernel, by decide +kernel⟩, List.mem_of_getElem? (i := 719) (by decide +kernel), List.mem_of_getElem? (i := 1012) (by decide +kernel), List.mem_of_getElem? (i := 1013) (by decide +kernel)⟩
theorem lw_p47 : lw_okq (⟨"RhythmBenchModel", "nextTime", "()J"⟩, 29) := ⟨⟨by decide +kernel, by decide +kernel⟩, List.mem_of_getElem? (i := 719) (by decide +kernel), List.mem_of_getElem? (i := 1016) (by decide +kernel), List.mem_of_getElem? (i := 1017) (by decide +kernel)⟩
def lw_privs_3 : List (MethodName × Nat) := [(⟨"RhythmBenchModel", "works", "(I)V"⟩, 29), (⟨"RhythmBenchModel", "unfolds", "(I)V"⟩, 29), (⟨"RhythmBenchModel", "at", "(II)I"⟩, 29), (⟨"RhythmBenchModel", "closing", "(II)I"⟩, 29), (⟨"RhythmBenchModel", "passes", "(III)V"⟩, 29), (⟨"RhythmBenchModel", "lays", "(IIZ)I"⟩, 29), (⟨"RhythmBenchModel", "lengthAt", "(III)J"⟩, 29), (⟨"RhythmBenchModel", "addsEvent", "(IJJZIZ)V"⟩, 29), (⟨"RhythmBenchModel", "act", "()V"⟩, 29), (⟨"RhythmBenchModel", "isEvent", "(II)Z"⟩, 29), (⟨"RhythmBenchModel", "swungOf", "(J)J"⟩, 29), (⟨"RhythmBenchModel", "levelOf", "(J)I"⟩, 29), (⟨"RhythmBenchModel", "meter", "()J"⟩, 29), (⟨"RhythmBenchModel", "syncopationOf", "(I)I"⟩, 29), (⟨"RhythmBenchModel", "startsAll", "()V"⟩, 29), (⟨"RhythmBenchModel", "nextTime", "()J"⟩, 29)]
theorem lw_r3 : ∀ q ∈ lw_privs_3, lw_okq q := List.forall_mem_cons.mpr ⟨lw_p32, List.forall_mem_cons.mpr ⟨lw_p33, List.forall_mem_cons.mpr ⟨lw_p34, List.forall_mem_cons.mpr ⟨lw_p35, List.forall_mem_cons.mpr ⟨lw_p36, List.forall_mem_cons.mpr ⟨lw_p37, List.forall_mem_cons.mpr ⟨lw_p38, List.forall_mem_cons.mpr ⟨lw_p39, List.forall_mem_cons.mpr ⟨lw_p40, List.forall_mem_cons.mpr ⟨lw_p41, List.forall_mem_cons.mpr ⟨lw_p42, List.forall_mem_cons.mpr ⟨lw_p43, List.forall_mem_cons.mpr ⟨lw_p44, List.forall_mem_cons.mpr ⟨lw_p45, List.forall_mem_cons.mpr ⟨lw_p46, List.forall_mem_cons.mpr ⟨lw_p47, fun _ h => absurd h List.not_mem_nil⟩⟩⟩⟩⟩⟩⟩⟩⟩⟩⟩⟩⟩⟩⟩⟩
theorem lw_p48 : lw_okq (⟨"RhythmBenchModel", "cycleOf", "(II)J"⟩, 29) := ⟨⟨by decide +kernel, by decide +kernel⟩, List.mem_of_getElem? (i := 719) (by decide +kernel), List.mem_of_getElem? (i := 1028) (by decide +kernel), List.mem_of_getElem? (i := 1029) (by decide +kernel)⟩
def lw_privs_4 : List (MethodName × Nat) := [(⟨"RhythmBenchModel", "cycleOf", "(II)J"⟩, 29)]
theorem lw_r4 : ∀ q ∈ lw_privs_4, lw_okq q := List.forall_mem_cons.mpr ⟨lw_p48, fun _ h => absurd h List.not_mem_nil⟩
def lw_privs : List (MethodName × Nat) := lw_privs_1 ++ (lw_privs_2 ++ (lw_privs_3 ++ (lw_privs_4)))
def lw_tbl : List Cond := k2_sels lw_privs ++ tables_1
theorem lw_privs_ok : ∀ q ∈ lw_privs, lw_okq q := by
  show ∀ q ∈ lw_privs_1 ++ (lw_privs_2 ++ (lw_privs_3 ++ (lw_privs_4))), lw_okq q
  exact List.forall_mem_append.mpr ⟨lw_r1, List.forall_mem_append.mpr ⟨lw_r2, List.forall_mem_append.mpr ⟨lw_r3, lw_r4⟩⟩⟩

def RX0 : String := "RhythmBench$Grammar"
def TX0 : u_T := fun k => match k with
  | 0 => ("RhythmBench$Grammar", "state", "I", false)
  | 1 => ("RhythmBench$Grammar", "depth", "I", false)
  | 2 => ("RhythmBench$Grammar", "isFilled", "Z", false)
  | 3 => ("RhythmBench$Grammar", "isInRepeat", "Z", false)
  | 4 => ("RhythmBench$Grammar", "dotsLeft", "I", false)
  | _ => ("RhythmBench$Grammar", "canTie", "Z", false)
def tyX0 : Nat → FieldType := fun k => match k with
  | 0 => .int
  | 1 => .int
  | 2 => .boolean
  | 3 => .boolean
  | 4 => .int
  | _ => .boolean
abbrev wsX00 : List Cond := u_ws RX0 TX0 6
theorem nmX0 : ∀ a, a < 6 → ∀ b, b < 6 → a ≠ b → (TX0 a).2.1 ≠ (TX0 b).2.1 := by decide +kernel
theorem tyX0_ok : ∀ k, k < 6 → parseFieldDescriptor (TX0 k).2.2.1 = some (tyX0 k) := by decide +kernel
abbrev cX0_init : ByteArray := prog_2_method_1_code
def yX0_init : MethodName := ⟨RX0, "<init>", "()V"⟩
abbrev cX0_wrongPlace : ByteArray := prog_2_method_2_code
def yX0_wrongPlace : MethodName := ⟨RX0, "wrongPlace", "(LRhythmBench$Text;)I"⟩
abbrev cX0_start : ByteArray := prog_2_method_3_code
def yX0_start : MethodName := ⟨RX0, "start", "()V"⟩
abbrev cX0_accepts : ByteArray := prog_2_method_4_code
def yX0_accepts : MethodName := ⟨RX0, "accepts", "(I)Z"⟩
abbrev cX0_goesOn : ByteArray := prog_2_method_5_code
def yX0_goesOn : MethodName := ⟨RX0, "goesOn", "(ZI)Z"⟩
abbrev cX0_acceptsItem : ByteArray := prog_2_method_6_code
def yX0_acceptsItem : MethodName := ⟨RX0, "acceptsItem", "(I)Z"⟩
abbrev cX0_beginsSound : ByteArray := prog_2_method_7_code
def yX0_beginsSound : MethodName := ⟨RX0, "beginsSound", "(IZ)Z"⟩
abbrev cX0_endSound : ByteArray := prog_2_method_8_code
def yX0_endSound : MethodName := ⟨RX0, "endSound", "()V"⟩
abbrev cX0_addsDot : ByteArray := prog_2_method_9_code
def yX0_addsDot : MethodName := ⟨RX0, "addsDot", "()Z"⟩
abbrev cX0_addsTie : ByteArray := prog_2_method_10_code
def yX0_addsTie : MethodName := ⟨RX0, "addsTie", "()Z"⟩
abbrev cX0_opensTuplet : ByteArray := prog_2_method_11_code
def yX0_opensTuplet : MethodName := ⟨RX0, "opensTuplet", "()Z"⟩
abbrev cX0_closesTuplet : ByteArray := prog_2_method_12_code
def yX0_closesTuplet : MethodName := ⟨RX0, "closesTuplet", "()Z"⟩
abbrev cX0_opensRepeat : ByteArray := prog_2_method_13_code
def yX0_opensRepeat : MethodName := ⟨RX0, "opensRepeat", "()Z"⟩
abbrev cX0_closesRepeat : ByteArray := prog_2_method_14_code
def yX0_closesRepeat : MethodName := ⟨RX0, "closesRepeat", "()Z"⟩
def RX1 : String := "RhythmBench$Notation"
def TX1 : u_T := fun k => match k with
  | _ => ("", "", "", false)
def tyX1 : Nat → FieldType := fun k => match k with
  | _ => .int
abbrev wsX10 : List Cond := u_ws RX1 TX1 0
theorem nmX1 : ∀ a, a < 0 → ∀ b, b < 0 → a ≠ b → (TX1 a).2.1 ≠ (TX1 b).2.1 := by decide +kernel
theorem tyX1_ok : ∀ k, k < 0 → parseFieldDescriptor (TX1 k).2.2.1 = some (tyX1 k) := by decide +kernel
abbrev cX1_halvings : ByteArray := prog_3_method_2_code
def yX1_halvings : MethodName := ⟨RX1, "halvings", "(I)I"⟩
abbrev cX1_digit : ByteArray := prog_3_method_3_code
def yX1_digit : MethodName := ⟨RX1, "digit", "(I)I"⟩
def RX2 : String := "RhythmBench$Overlay"
def TX2 : u_T := fun k => match k with
  | 0 => ("RhythmBench$Overlay", "ahead", "[I", true)
  | 1 => ("RhythmBench$Overlay", "now", "J", false)
  | _ => ("RhythmBench$Overlay", "set", "I", false)
def tyX2 : Nat → FieldType := fun k => match k with
  | 0 => .array .int
  | 1 => .long
  | _ => .int
abbrev wsX20 : List Cond := u_ws RX2 TX2 3
theorem nmX2 : ∀ a, a < 3 → ∀ b, b < 3 → a ≠ b → (TX2 a).2.1 ≠ (TX2 b).2.1 := by decide +kernel
theorem tyX2_ok : ∀ k, k < 3 → parseFieldDescriptor (TX2 k).2.2.1 = some (tyX2 k) := by decide +kernel
abbrev cX2_init : ByteArray := prog_4_method_1_code
def yX2_init : MethodName := ⟨RX2, "<init>", "()V"⟩
abbrev cX2_now : ByteArray := prog_4_method_2_code
def yX2_now : MethodName := ⟨RX2, "now", "()J"⟩
abbrev cX2_set : ByteArray := prog_4_method_3_code
def yX2_set : MethodName := ⟨RX2, "set", "()I"⟩
abbrev cX2_start : ByteArray := prog_4_method_4_code
def yX2_start : MethodName := ⟨RX2, "start", "()V"⟩
abbrev cX2_advance : ByteArray := prog_4_method_5_code
def yX2_advance : MethodName := ⟨RX2, "advance", "([LRhythmBench$Part;)Z"⟩
abbrev cX2_offer : ByteArray := prog_4_method_6_code
def yX2_offer : MethodName := ⟨RX2, "offer", "(IJ)V"⟩
def RX3 : String := "RhythmBench$Part"
def TX3 : u_T := fun k => match k with
  | 0 => ("RhythmBench$Part", "text", "LRhythmBench$Text;", true)
  | 1 => ("RhythmBench$Part", "unfoldedText", "LRhythmBench$Text;", true)
  | _ => ("RhythmBench$Part", "score", "LRhythmBench$Score;", true)
def tyX3 : Nat → FieldType := fun k => match k with
  | 0 => .object "RhythmBench$Text"
  | 1 => .object "RhythmBench$Text"
  | _ => .object "RhythmBench$Score"
abbrev wsX30 : List Cond := u_ws RX3 TX3 3
theorem nmX3 : ∀ a, a < 3 → ∀ b, b < 3 → a ≠ b → (TX3 a).2.1 ≠ (TX3 b).2.1 := by decide +kernel
theorem tyX3_ok : ∀ k, k < 3 → parseFieldDescriptor (TX3 k).2.2.1 = some (tyX3 k) := by decide +kernel
abbrev cX3_init : ByteArray := prog_5_method_1_code
def yX3_init : MethodName := ⟨RX3, "<init>", "()V"⟩
abbrev cX3_take : ByteArray := prog_5_method_2_code
def yX3_take : MethodName := ⟨RX3, "take", "(LRhythmBench$Text;)V"⟩
def RX4 : String := "RhythmBench$Score"
def TX4 : u_T := fun k => match k with
  | 0 => ("RhythmBench$Score", "begins", "[J", true)
  | 1 => ("RhythmBench$Score", "ends", "[J", true)
  | 2 => ("RhythmBench$Score", "noteCounts", "[I", true)
  | 3 => ("RhythmBench$Score", "barNumbers", "[I", true)
  | 4 => ("RhythmBench$Score", "accents", "[Z", true)
  | 5 => ("RhythmBench$Score", "barLengths", "[J", true)
  | 6 => ("RhythmBench$Score", "scale", "LRhythmBench$TupletScale;", true)
  | 7 => ("RhythmBench$Score", "count", "I", false)
  | 8 => ("RhythmBench$Score", "barCount", "I", false)
  | 9 => ("RhythmBench$Score", "total", "J", false)
  | _ => ("RhythmBench$Score", "isTied", "Z", false)
def tyX4 : Nat → FieldType := fun k => match k with
  | 0 => .array .long
  | 1 => .array .long
  | 2 => .array .int
  | 3 => .array .int
  | 4 => .array .boolean
  | 5 => .array .long
  | 6 => .object "RhythmBench$TupletScale"
  | 7 => .int
  | 8 => .int
  | 9 => .long
  | _ => .boolean
abbrev wsX40 : List Cond := u_ws RX4 TX4 11
theorem nmX4 : ∀ a, a < 11 → ∀ b, b < 11 → a ≠ b → (TX4 a).2.1 ≠ (TX4 b).2.1 := by decide +kernel
theorem tyX4_ok : ∀ k, k < 11 → parseFieldDescriptor (TX4 k).2.2.1 = some (tyX4 k) := by decide +kernel
abbrev cX4_init : ByteArray := prog_6_method_1_code
def yX4_init : MethodName := ⟨RX4, "<init>", "()V"⟩
abbrev cX4_count : ByteArray := prog_6_method_2_code
def yX4_count : MethodName := ⟨RX4, "count", "()I"⟩
abbrev cX4_barCount : ByteArray := prog_6_method_3_code
def yX4_barCount : MethodName := ⟨RX4, "barCount", "()I"⟩
abbrev cX4_total : ByteArray := prog_6_method_4_code
def yX4_total : MethodName := ⟨RX4, "total", "()J"⟩
abbrev cX4_hasEvent : ByteArray := prog_6_method_5_code
def yX4_hasEvent : MethodName := ⟨RX4, "hasEvent", "(I)Z"⟩
abbrev cX4_hasBar : ByteArray := prog_6_method_6_code
def yX4_hasBar : MethodName := ⟨RX4, "hasBar", "(I)Z"⟩
abbrev cX4_begin : ByteArray := prog_6_method_7_code
def yX4_begin : MethodName := ⟨RX4, "begin", "(I)J"⟩
abbrev cX4_end : ByteArray := prog_6_method_8_code
def yX4_end : MethodName := ⟨RX4, "end", "(I)J"⟩
abbrev cX4_notesOf : ByteArray := prog_6_method_9_code
def yX4_notesOf : MethodName := ⟨RX4, "notesOf", "(I)I"⟩
abbrev cX4_barOf : ByteArray := prog_6_method_10_code
def yX4_barOf : MethodName := ⟨RX4, "barOf", "(I)I"⟩
abbrev cX4_isAccented : ByteArray := prog_6_method_11_code
def yX4_isAccented : MethodName := ⟨RX4, "isAccented", "(I)Z"⟩
abbrev cX4_barLength : ByteArray := prog_6_method_12_code
def yX4_barLength : MethodName := ⟨RX4, "barLength", "(I)J"⟩
abbrev cX4_build : ByteArray := prog_6_method_13_code
def yX4_build : MethodName := ⟨RX4, "build", "(LRhythmBench$Text;)V"⟩
abbrev cX4_start : ByteArray := prog_6_method_14_code
def yX4_start : MethodName := ⟨RX4, "start", "()V"⟩
abbrev cX4_beginBar : ByteArray := prog_6_method_15_code
def yX4_beginBar : MethodName := ⟨RX4, "beginBar", "()V"⟩
abbrev cX4_addSound : ByteArray := prog_6_method_16_code
def yX4_addSound : MethodName := ⟨RX4, "addSound", "(LRhythmBench$Text;I)V"⟩
abbrev cX4_addNote : ByteArray := prog_6_method_17_code
def yX4_addNote : MethodName := ⟨RX4, "addNote", "(JZ)V"⟩
def RX5 : String := "RhythmBench$State"
def TX5 : u_T := fun k => match k with
  | 0 => ("RhythmBench$State", "texts", "[LRhythmBench$Text;", true)
  | 1 => ("RhythmBench$State", "beats", "I", false)
  | 2 => ("RhythmBench$State", "value", "I", false)
  | 3 => ("RhythmBench$State", "swingA", "I", false)
  | _ => ("RhythmBench$State", "swingB", "I", false)
def tyX5 : Nat → FieldType := fun k => match k with
  | 0 => .array (.object "RhythmBench$Text")
  | 1 => .int
  | 2 => .int
  | 3 => .int
  | _ => .int
abbrev wsX50 : List Cond := u_ws RX5 TX5 5
theorem nmX5 : ∀ a, a < 5 → ∀ b, b < 5 → a ≠ b → (TX5 a).2.1 ≠ (TX5 b).2.1 := by decide +kernel
theorem tyX5_ok : ∀ k, k < 5 → parseFieldDescriptor (TX5 k).2.2.1 = some (tyX5 k) := by decide +kernel
abbrev cX5_init : ByteArray := prog_7_method_1_code
def yX5_init : MethodName := ⟨RX5, "<init>", "()V"⟩
def RX6 : String := "RhythmBench$Text"
def TX6 : u_T := fun k => match k with
  | 0 => ("RhythmBench$Text", "codes", "[C", true)
  | _ => ("RhythmBench$Text", "size", "I", false)
def tyX6 : Nat → FieldType := fun k => match k with
  | 0 => .array .char
  | _ => .int
abbrev wsX60 : List Cond := u_ws RX6 TX6 2
theorem nmX6 : ∀ a, a < 2 → ∀ b, b < 2 → a ≠ b → (TX6 a).2.1 ≠ (TX6 b).2.1 := by decide +kernel
theorem tyX6_ok : ∀ k, k < 2 → parseFieldDescriptor (TX6 k).2.2.1 = some (tyX6 k) := by decide +kernel
abbrev cX6_init : ByteArray := prog_8_method_1_code
def yX6_init : MethodName := ⟨RX6, "<init>", "(I)V"⟩
abbrev cX6_size : ByteArray := prog_8_method_2_code
def yX6_size : MethodName := ⟨RX6, "size", "()I"⟩
abbrev cX6_isFull : ByteArray := prog_8_method_3_code
def yX6_isFull : MethodName := ⟨RX6, "isFull", "()Z"⟩
abbrev cX6_at : ByteArray := prog_8_method_4_code
def yX6_at : MethodName := ⟨RX6, "at", "(I)I"⟩
abbrev cX6_makeEmpty : ByteArray := prog_8_method_5_code
def yX6_makeEmpty : MethodName := ⟨RX6, "makeEmpty", "()V"⟩
abbrev cX6_append : ByteArray := prog_8_method_6_code
def yX6_append : MethodName := ⟨RX6, "append", "(I)V"⟩
abbrev cX6_appendPiece : ByteArray := prog_8_method_7_code
def yX6_appendPiece : MethodName := ⟨RX6, "appendPiece", "(LRhythmBench$Text;II)V"⟩
abbrev cX6_become : ByteArray := prog_8_method_8_code
def yX6_become : MethodName := ⟨RX6, "become", "(LRhythmBench$Text;)V"⟩
abbrev cX6_seek : ByteArray := prog_8_method_9_code
def yX6_seek : MethodName := ⟨RX6, "seek", "(III)I"⟩
def RX7 : String := "RhythmBench$TupletScale"
def TX7 : u_T := fun k => match k with
  | 0 => ("RhythmBench$TupletScale", "ups", "[J", true)
  | 1 => ("RhythmBench$TupletScale", "downs", "[J", true)
  | _ => ("RhythmBench$TupletScale", "depth", "I", false)
def tyX7 : Nat → FieldType := fun k => match k with
  | 0 => .array .long
  | 1 => .array .long
  | _ => .int
abbrev wsX70 : List Cond := u_ws RX7 TX7 3
theorem nmX7 : ∀ a, a < 3 → ∀ b, b < 3 → a ≠ b → (TX7 a).2.1 ≠ (TX7 b).2.1 := by decide +kernel
theorem tyX7_ok : ∀ k, k < 3 → parseFieldDescriptor (TX7 k).2.2.1 = some (tyX7 k) := by decide +kernel
abbrev cX7_init : ByteArray := prog_9_method_1_code
def yX7_init : MethodName := ⟨RX7, "<init>", "()V"⟩
abbrev cX7_start : ByteArray := prog_9_method_2_code
def yX7_start : MethodName := ⟨RX7, "start", "()V"⟩
abbrev cX7_open : ByteArray := prog_9_method_3_code
def yX7_open : MethodName := ⟨RX7, "open", "(II)V"⟩
abbrev cX7_close : ByteArray := prog_9_method_4_code
def yX7_close : MethodName := ⟨RX7, "close", "()V"⟩
abbrev cX7_apply : ByteArray := prog_9_method_5_code
def yX7_apply : MethodName := ⟨RX7, "apply", "(JJ)J"⟩
def RX8 : String := "RhythmBench$Unfolding"
def TX8 : u_T := fun k => match k with
  | _ => ("", "", "", false)
def tyX8 : Nat → FieldType := fun k => match k with
  | _ => .int
abbrev wsX80 : List Cond := u_ws RX8 TX8 0
theorem nmX8 : ∀ a, a < 0 → ∀ b, b < 0 → a ≠ b → (TX8 a).2.1 ≠ (TX8 b).2.1 := by decide +kernel
theorem tyX8_ok : ∀ k, k < 0 → parseFieldDescriptor (TX8 k).2.2.1 = some (tyX8 k) := by decide +kernel
abbrev cX8_unfold : ByteArray := prog_10_method_2_code
def yX8_unfold : MethodName := ⟨RX8, "unfold", "(LRhythmBench$Text;LRhythmBench$Text;)V"⟩
abbrev cX8_appendPasses : ByteArray := prog_10_method_3_code
def yX8_appendPasses : MethodName := ⟨RX8, "appendPasses", "(LRhythmBench$Text;IILRhythmBench$Text;)V"⟩
abbrev cX8_appendEnding : ByteArray := prog_10_method_4_code
def yX8_appendEnding : MethodName := ⟨RX8, "appendEnding", "(LRhythmBench$Text;IIILRhythmBench$Text;)V"⟩
abbrev cX8_isEndingOf : ByteArray := prog_10_method_5_code
def yX8_isEndingOf : MethodName := ⟨RX8, "isEndingOf", "(LRhythmBench$Text;II)Z"⟩
abbrev cX8_sounds : ByteArray := prog_10_method_6_code
def yX8_sounds : MethodName := ⟨RX8, "sounds", "(LRhythmBench$Text;)I"⟩
def RX9 : String := "RhythmBench"
def TX9 : u_T := fun k => match k with
  | 0 => ("RhythmBench", "buffer", "LRhythmBench$Text;", true)
  | 1 => ("RhythmBench", "draft", "LRhythmBench$Text;", true)
  | 2 => ("RhythmBench", "grammar", "LRhythmBench$Grammar;", true)
  | 3 => ("RhythmBench", "parts", "[LRhythmBench$Part;", true)
  | 4 => ("RhythmBench", "history", "[LRhythmBench$State;", true)
  | 5 => ("RhythmBench", "overlay", "LRhythmBench$Overlay;", true)
  | 6 => ("RhythmBench", "remembered", "I", false)
  | 7 => ("RhythmBench", "beats", "I", false)
  | 8 => ("RhythmBench", "value", "I", false)
  | 9 => ("RhythmBench", "swingA", "I", false)
  | _ => ("RhythmBench", "swingB", "I", false)
def tyX9 : Nat → FieldType := fun k => match k with
  | 0 => .object "RhythmBench$Text"
  | 1 => .object "RhythmBench$Text"
  | 2 => .object "RhythmBench$Grammar"
  | 3 => .array (.object "RhythmBench$Part")
  | 4 => .array (.object "RhythmBench$State")
  | 5 => .object "RhythmBench$Overlay"
  | 6 => .int
  | 7 => .int
  | 8 => .int
  | 9 => .int
  | _ => .int
abbrev wsX90 : List Cond := u_ws RX9 TX9 11
theorem nmX9 : ∀ a, a < 11 → ∀ b, b < 11 → a ≠ b → (TX9 a).2.1 ≠ (TX9 b).2.1 := by decide +kernel
theorem tyX9_ok : ∀ k, k < 11 → parseFieldDescriptor (TX9 k).2.2.1 = some (tyX9 k) := by decide +kernel
abbrev cX9_init : ByteArray := prog_1_method_1_code
def yX9_init : MethodName := ⟨RX9, "<init>", "()V"⟩
abbrev cX9_type : ByteArray := prog_1_method_2_code
def yX9_type : MethodName := ⟨RX9, "type", "(I)I"⟩
abbrev cX9_clear : ByteArray := prog_1_method_3_code
def yX9_clear : MethodName := ⟨RX9, "clear", "()I"⟩
abbrev cX9_read : ByteArray := prog_1_method_4_code
def yX9_read : MethodName := ⟨RX9, "read", "(I)I"⟩
abbrev cX9_copy : ByteArray := prog_1_method_5_code
def yX9_copy : MethodName := ⟨RX9, "copy", "(II)I"⟩
abbrev cX9_spread : ByteArray := prog_1_method_6_code
def yX9_spread : MethodName := ⟨RX9, "spread", "(IIII)I"⟩
abbrev cX9_textOf : ByteArray := prog_1_method_7_code
def yX9_textOf : MethodName := ⟨RX9, "textOf", "(II)I"⟩
abbrev cX9_unfolded : ByteArray := prog_1_method_8_code
def yX9_unfolded : MethodName := ⟨RX9, "unfolded", "(II)I"⟩
abbrev cX9_setMeter : ByteArray := prog_1_method_9_code
def yX9_setMeter : MethodName := ⟨RX9, "setMeter", "(II)I"⟩
abbrev cX9_setSwing : ByteArray := prog_1_method_10_code
def yX9_setSwing : MethodName := ⟨RX9, "setSwing", "(II)I"⟩
abbrev cX9_events : ByteArray := prog_1_method_11_code
def yX9_events : MethodName := ⟨RX9, "events", "(I)I"⟩
abbrev cX9_length : ByteArray := prog_1_method_12_code
def yX9_length : MethodName := ⟨RX9, "length", "(II)J"⟩
abbrev cX9_onset : ByteArray := prog_1_method_13_code
def yX9_onset : MethodName := ⟨RX9, "onset", "(III)J"⟩
abbrev cX9_lasts : ByteArray := prog_1_method_14_code
def yX9_lasts : MethodName := ⟨RX9, "lasts", "(III)J"⟩
abbrev cX9_swung : ByteArray := prog_1_method_15_code
def yX9_swung : MethodName := ⟨RX9, "swung", "(III)J"⟩
abbrev cX9_event : ByteArray := prog_1_method_16_code
def yX9_event : MethodName := ⟨RX9, "event", "(III)I"⟩
abbrev cX9_bars : ByteArray := prog_1_method_17_code
def yX9_bars : MethodName := ⟨RX9, "bars", "(I)I"⟩
abbrev cX9_bar : ByteArray := prog_1_method_18_code
def yX9_bar : MethodName := ⟨RX9, "bar", "(III)J"⟩
abbrev cX9_wrongBar : ByteArray := prog_1_method_19_code
def yX9_wrongBar : MethodName := ⟨RX9, "wrongBar", "(I)I"⟩
abbrev cX9_syncopation : ByteArray := prog_1_method_20_code
def yX9_syncopation : MethodName := ⟨RX9, "syncopation", "(I)I"⟩
abbrev cX9_offGrid : ByteArray := prog_1_method_21_code
def yX9_offGrid : MethodName := ⟨RX9, "offGrid", "(II)I"⟩
abbrev cX9_leastGrid : ByteArray := prog_1_method_22_code
def yX9_leastGrid : MethodName := ⟨RX9, "leastGrid", "(I)I"⟩
abbrev cX9_times : ByteArray := prog_1_method_23_code
def yX9_times : MethodName := ⟨RX9, "times", "()I"⟩
abbrev cX9_time : ByteArray := prog_1_method_24_code
def yX9_time : MethodName := ⟨RX9, "time", "(II)J"⟩
abbrev cX9_cycle : ByteArray := prog_1_method_25_code
def yX9_cycle : MethodName := ⟨RX9, "cycle", "(III)J"⟩
abbrev cX9_meets : ByteArray := prog_1_method_26_code
def yX9_meets : MethodName := ⟨RX9, "meets", "(II)I"⟩
abbrev cX9_undo : ByteArray := prog_1_method_27_code
def yX9_undo : MethodName := ⟨RX9, "undo", "()I"⟩
abbrev cX9_fingerprint : ByteArray := prog_1_method_28_code
def yX9_fingerprint : MethodName := ⟨RX9, "fingerprint", "()J"⟩
abbrev cX9_partAt : ByteArray := prog_1_method_29_code
def yX9_partAt : MethodName := ⟨RX9, "partAt", "(I)LRhythmBench$Part;"⟩
abbrev cX9_remember : ByteArray := prog_1_method_30_code
def yX9_remember : MethodName := ⟨RX9, "remember", "()V"⟩
abbrev cX9_dropOldest : ByteArray := prog_1_method_31_code
def yX9_dropOldest : MethodName := ⟨RX9, "dropOldest", "()V"⟩
abbrev cX9_isMeterValue : ByteArray := prog_1_method_32_code
def yX9_isMeterValue : MethodName := ⟨RX9, "isMeterValue", "(I)Z"⟩
abbrev cX9_meterLength : ByteArray := prog_1_method_33_code
def yX9_meterLength : MethodName := ⟨RX9, "meterLength", "()J"⟩
abbrev cX9_level : ByteArray := prog_1_method_34_code
def yX9_level : MethodName := ⟨RX9, "level", "(J)I"⟩
abbrev cX9_leastLevelBetween : ByteArray := prog_1_method_35_code
def yX9_leastLevelBetween : MethodName := ⟨RX9, "leastLevelBetween", "(JJ)I"⟩
abbrev cX9_syncopationOf : ByteArray := prog_1_method_36_code
def yX9_syncopationOf : MethodName := ⟨RX9, "syncopationOf", "(LRhythmBench$Score;I)I"⟩
abbrev cX9_swing : ByteArray := prog_1_method_37_code
def yX9_swing : MethodName := ⟨RX9, "swing", "(J)J"⟩
abbrev cX9_isSide : ByteArray := prog_1_method_38_code
def yX9_isSide : MethodName := ⟨RX9, "isSide", "(I)Z"⟩
abbrev cX9_side : ByteArray := prog_1_method_39_code
def yX9_side : MethodName := ⟨RX9, "side", "(JJI)J"⟩
abbrev cX9_commonDivisor : ByteArray := prog_1_method_40_code
def yX9_commonDivisor : MethodName := ⟨RX9, "commonDivisor", "(JJ)J"⟩
abbrev cX9_commonCycle : ByteArray := prog_1_method_41_code
def yX9_commonCycle : MethodName := ⟨RX9, "commonCycle", "(JJ)J"⟩
abbrev cX9_meetings : ByteArray := prog_1_method_42_code
def yX9_meetings : MethodName := ⟨RX9, "meetings", "(LRhythmBench$Score;LRhythmBench$Score;)I"⟩
def RX10 : String := "RhythmBenchModel"
def TX10 : u_T := fun k => match k with
  | 0 => ("RhythmBenchModel", "v", "[I", true)
  | 1 => ("RhythmBenchModel", "past", "[I", true)
  | 2 => ("RhythmBenchModel", "pastMany", "I", false)
  | 3 => ("RhythmBenchModel", "typed", "[I", true)
  | 4 => ("RhythmBenchModel", "typedMany", "I", false)
  | 5 => ("RhythmBenchModel", "must", "I", false)
  | 6 => ("RhythmBenchModel", "dots", "I", false)
  | 7 => ("RhythmBenchModel", "deep", "I", false)
  | 8 => ("RhythmBenchModel", "isRepeat", "Z", false)
  | 9 => ("RhythmBenchModel", "items", "[I", true)
  | 10 => ("RhythmBenchModel", "un", "[I", true)
  | 11 => ("RhythmBenchModel", "unMany", "I", false)
  | 12 => ("RhythmBenchModel", "onsets", "[J", true)
  | 13 => ("RhythmBenchModel", "spans", "[J", true)
  | 14 => ("RhythmBenchModel", "accents", "[I", true)
  | 15 => ("RhythmBenchModel", "barOf", "[I", true)
  | 16 => ("RhythmBenchModel", "notes", "[I", true)
  | 17 => ("RhythmBenchModel", "many", "[I", true)
  | 18 => ("RhythmBenchModel", "lengths", "[J", true)
  | 19 => ("RhythmBenchModel", "barMany", "[I", true)
  | 20 => ("RhythmBenchModel", "barLengths", "[J", true)
  | 21 => ("RhythmBenchModel", "isBarEmpty", "[Z", true)
  | 22 => ("RhythmBenchModel", "counted", "I", false)
  | 23 => ("RhythmBenchModel", "upper", "[I", true)
  | 24 => ("RhythmBenchModel", "lower", "[I", true)
  | 25 => ("RhythmBenchModel", "had", "[I", true)
  | 26 => ("RhythmBenchModel", "made", "[I", true)
  | 27 => ("RhythmBenchModel", "next", "[I", true)
  | _ => ("RhythmBenchModel", "together", "I", false)
def tyX10 : Nat → FieldType := fun k => match k with
  | 0 => .array .int
  | 1 => .array .int
  | 2 => .int
  | 3 => .array .int
  | 4 => .int
  | 5 => .int
  | 6 => .int
  | 7 => .int
  | 8 => .boolean
  | 9 => .array .int
  | 10 => .array .int
  | 11 => .int
  | 12 => .array .long
  | 13 => .array .long
  | 14 => .array .int
  | 15 => .array .int
  | 16 => .array .int
  | 17 => .array .int
  | 18 => .array .long
  | 19 => .array .int
  | 20 => .array .long
  | 21 => .array .boolean
  | 22 => .int
  | 23 => .array .int
  | 24 => .array .int
  | 25 => .array .int
  | 26 => .array .int
  | 27 => .array .int
  | _ => .int
abbrev wsX100 : List Cond := u_ws RX10 TX10 29
theorem nmX10 : ∀ a, a < 29 → ∀ b, b < 29 → a ≠ b → (TX10 a).2.1 ≠ (TX10 b).2.1 := by decide +kernel
theorem tyX10_ok : ∀ k, k < 29 → parseFieldDescriptor (TX10 k).2.2.1 = some (tyX10 k) := by decide +kernel
abbrev cX10_init : ByteArray := prog_12_method_1_code
def yX10_init : MethodName := ⟨RX10, "<init>", "()V"⟩
abbrev cX10_in : ByteArray := prog_12_method_2_code
def yX10_in : MethodName := ⟨RX10, "in", "(III)Z"⟩
abbrev cX10_act : ByteArray := prog_12_method_3_code
def yX10_act : MethodName := ⟨RX10, "act", "()V"⟩
abbrev cX10_isPart : ByteArray := prog_12_method_4_code
def yX10_isPart : MethodName := ⟨RX10, "isPart", "(I)Z"⟩
abbrev cX10_halvings : ByteArray := prog_12_method_5_code
def yX10_halvings : MethodName := ⟨RX10, "halvings", "(I)I"⟩
abbrev cX10_isDigit : ByteArray := prog_12_method_6_code
def yX10_isDigit : MethodName := ⟨RX10, "isDigit", "(II)Z"⟩
abbrev cX10_begins : ByteArray := prog_12_method_7_code
def yX10_begins : MethodName := ⟨RX10, "begins", "(I)Z"⟩
abbrev cX10_outside : ByteArray := prog_12_method_8_code
def yX10_outside : MethodName := ⟨RX10, "outside", "(I)Z"⟩
abbrev cX10_dotted : ByteArray := prog_12_method_9_code
def yX10_dotted : MethodName := ⟨RX10, "dotted", "(I)Z"⟩
abbrev cX10_numbered : ByteArray := prog_12_method_10_code
def yX10_numbered : MethodName := ⟨RX10, "numbered", "(I)Z"⟩
abbrev cX10_may : ByteArray := prog_12_method_11_code
def yX10_may : MethodName := ⟨RX10, "may", "(I)Z"⟩
abbrev cX10_wrongAt : ByteArray := prog_12_method_12_code
def yX10_wrongAt : MethodName := ⟨RX10, "wrongAt", "()I"⟩
abbrev cX10_at : ByteArray := prog_12_method_13_code
def yX10_at : MethodName := ⟨RX10, "at", "(II)I"⟩
abbrev cX10_lays : ByteArray := prog_12_method_14_code
def yX10_lays : MethodName := ⟨RX10, "lays", "(IIZ)I"⟩
abbrev cX10_closing : ByteArray := prog_12_method_15_code
def yX10_closing : MethodName := ⟨RX10, "closing", "(II)I"⟩
abbrev cX10_passes : ByteArray := prog_12_method_16_code
def yX10_passes : MethodName := ⟨RX10, "passes", "(III)V"⟩
abbrev cX10_unfolds : ByteArray := prog_12_method_17_code
def yX10_unfolds : MethodName := ⟨RX10, "unfolds", "(I)V"⟩
abbrev cX10_lengthAt : ByteArray := prog_12_method_18_code
def yX10_lengthAt : MethodName := ⟨RX10, "lengthAt", "(III)J"⟩
abbrev cX10_addsEvent : ByteArray := prog_12_method_19_code
def yX10_addsEvent : MethodName := ⟨RX10, "addsEvent", "(IJJZIZ)V"⟩
abbrev cX10_works : ByteArray := prog_12_method_20_code
def yX10_works : MethodName := ⟨RX10, "works", "(I)V"⟩
abbrev cX10_type : ByteArray := prog_12_method_21_code
def yX10_type : MethodName := ⟨RX10, "type", "(I)I"⟩
abbrev cX10_clear : ByteArray := prog_12_method_22_code
def yX10_clear : MethodName := ⟨RX10, "clear", "()I"⟩
abbrev cX10_takes : ByteArray := prog_12_method_23_code
def yX10_takes : MethodName := ⟨RX10, "takes", "(I[II)V"⟩
abbrev cX10_read : ByteArray := prog_12_method_24_code
def yX10_read : MethodName := ⟨RX10, "read", "(I)I"⟩
abbrev cX10_copy : ByteArray := prog_12_method_25_code
def yX10_copy : MethodName := ⟨RX10, "copy", "(II)I"⟩
abbrev cX10_spread : ByteArray := prog_12_method_26_code
def yX10_spread : MethodName := ⟨RX10, "spread", "(IIII)I"⟩
abbrev cX10_textOf : ByteArray := prog_12_method_27_code
def yX10_textOf : MethodName := ⟨RX10, "textOf", "(II)I"⟩
abbrev cX10_unfolded : ByteArray := prog_12_method_28_code
def yX10_unfolded : MethodName := ⟨RX10, "unfolded", "(II)I"⟩
abbrev cX10_setMeter : ByteArray := prog_12_method_29_code
def yX10_setMeter : MethodName := ⟨RX10, "setMeter", "(II)I"⟩
abbrev cX10_setSwing : ByteArray := prog_12_method_30_code
def yX10_setSwing : MethodName := ⟨RX10, "setSwing", "(II)I"⟩
abbrev cX10_divisor : ByteArray := prog_12_method_31_code
def yX10_divisor : MethodName := ⟨RX10, "divisor", "(JJ)J"⟩
abbrev cX10_told : ByteArray := prog_12_method_32_code
def yX10_told : MethodName := ⟨RX10, "told", "(JJI)J"⟩
abbrev cX10_events : ByteArray := prog_12_method_33_code
def yX10_events : MethodName := ⟨RX10, "events", "(I)I"⟩
abbrev cX10_length : ByteArray := prog_12_method_34_code
def yX10_length : MethodName := ⟨RX10, "length", "(II)J"⟩
abbrev cX10_isEvent : ByteArray := prog_12_method_35_code
def yX10_isEvent : MethodName := ⟨RX10, "isEvent", "(II)Z"⟩
abbrev cX10_onset : ByteArray := prog_12_method_36_code
def yX10_onset : MethodName := ⟨RX10, "onset", "(III)J"⟩
abbrev cX10_lasts : ByteArray := prog_12_method_37_code
def yX10_lasts : MethodName := ⟨RX10, "lasts", "(III)J"⟩
abbrev cX10_swungOf : ByteArray := prog_12_method_38_code
def yX10_swungOf : MethodName := ⟨RX10, "swungOf", "(J)J"⟩
abbrev cX10_swung : ByteArray := prog_12_method_39_code
def yX10_swung : MethodName := ⟨RX10, "swung", "(III)J"⟩
abbrev cX10_meter : ByteArray := prog_12_method_40_code
def yX10_meter : MethodName := ⟨RX10, "meter", "()J"⟩
abbrev cX10_levelOf : ByteArray := prog_12_method_41_code
def yX10_levelOf : MethodName := ⟨RX10, "levelOf", "(J)I"⟩
abbrev cX10_syncopationOf : ByteArray := prog_12_method_42_code
def yX10_syncopationOf : MethodName := ⟨RX10, "syncopationOf", "(I)I"⟩
abbrev cX10_event : ByteArray := prog_12_method_43_code
def yX10_event : MethodName := ⟨RX10, "event", "(III)I"⟩
abbrev cX10_bars : ByteArray := prog_12_method_44_code
def yX10_bars : MethodName := ⟨RX10, "bars", "(I)I"⟩
abbrev cX10_bar : ByteArray := prog_12_method_45_code
def yX10_bar : MethodName := ⟨RX10, "bar", "(III)J"⟩
abbrev cX10_wrongBar : ByteArray := prog_12_method_46_code
def yX10_wrongBar : MethodName := ⟨RX10, "wrongBar", "(I)I"⟩
abbrev cX10_syncopation : ByteArray := prog_12_method_47_code
def yX10_syncopation : MethodName := ⟨RX10, "syncopation", "(I)I"⟩
abbrev cX10_offGrid : ByteArray := prog_12_method_48_code
def yX10_offGrid : MethodName := ⟨RX10, "offGrid", "(II)I"⟩
abbrev cX10_leastGrid : ByteArray := prog_12_method_49_code
def yX10_leastGrid : MethodName := ⟨RX10, "leastGrid", "(I)I"⟩
abbrev cX10_startsAll : ByteArray := prog_12_method_50_code
def yX10_startsAll : MethodName := ⟨RX10, "startsAll", "()V"⟩
abbrev cX10_nextTime : ByteArray := prog_12_method_51_code
def yX10_nextTime : MethodName := ⟨RX10, "nextTime", "()J"⟩
abbrev cX10_times : ByteArray := prog_12_method_52_code
def yX10_times : MethodName := ⟨RX10, "times", "()I"⟩
abbrev cX10_time : ByteArray := prog_12_method_53_code
def yX10_time : MethodName := ⟨RX10, "time", "(II)J"⟩
abbrev cX10_cycleOf : ByteArray := prog_12_method_54_code
def yX10_cycleOf : MethodName := ⟨RX10, "cycleOf", "(II)J"⟩
abbrev cX10_cycle : ByteArray := prog_12_method_55_code
def yX10_cycle : MethodName := ⟨RX10, "cycle", "(III)J"⟩
abbrev cX10_meets : ByteArray := prog_12_method_56_code
def yX10_meets : MethodName := ⟨RX10, "meets", "(II)I"⟩
abbrev cX10_undo : ByteArray := prog_12_method_57_code
def yX10_undo : MethodName := ⟨RX10, "undo", "()I"⟩
abbrev cX10_fingerprint : ByteArray := prog_12_method_58_code
def yX10_fingerprint : MethodName := ⟨RX10, "fingerprint", "()J"⟩
def RJ11 : String := "java/lang/Character"
def TJ11 : u_T := fun k => match k with
  | _ => ("", "", "", false)
def tyJ11 : Nat → FieldType := fun k => match k with
  | _ => .int
abbrev wsJ110 : List Cond := u_ws RJ11 TJ11 0
theorem nmJ11 : ∀ a, a < 0 → ∀ b, b < 0 → a ≠ b → (TJ11 a).2.1 ≠ (TJ11 b).2.1 := by decide +kernel
theorem tyJ11_ok : ∀ k, k < 0 → parseFieldDescriptor (TJ11 k).2.2.1 = some (tyJ11 k) := by decide +kernel
abbrev cJ11_isValidCodePoint_9a6ad : ByteArray := prog_13_method_11_code
def yJ11_isValidCodePoint_9a6ad : MethodName := ⟨RJ11, "isValidCodePoint", "(I)Z"⟩
abbrev cJ11_highSurrogate_5068e : ByteArray := prog_13_method_28_code
def yJ11_highSurrogate_5068e : MethodName := ⟨RJ11, "highSurrogate", "(I)C"⟩
abbrev cJ11_lowSurrogate_5068e : ByteArray := prog_13_method_29_code
def yJ11_lowSurrogate_5068e : MethodName := ⟨RJ11, "lowSurrogate", "(I)C"⟩
def RJ9 : String := "java/lang/Math"
def TJ9 : u_T := fun k => match k with
  | _ => ("", "", "", false)
def tyJ9 : Nat → FieldType := fun k => match k with
  | _ => .int
abbrev wsJ90 : List Cond := u_ws RJ9 TJ9 0
theorem nmJ9 : ∀ a, a < 0 → ∀ b, b < 0 → a ≠ b → (TJ9 a).2.1 ≠ (TJ9 b).2.1 := by decide +kernel
theorem tyJ9_ok : ∀ k, k < 0 → parseFieldDescriptor (TJ9 k).2.2.1 = some (tyJ9 k) := by decide +kernel
abbrev cJ9_max_7cf53 : ByteArray := prog_14_method_65_code
def yJ9_max_7cf53 : MethodName := ⟨RJ9, "max", "(II)I"⟩
abbrev cJ9_min_7cf53 : ByteArray := prog_14_method_69_code
def yJ9_min_7cf53 : MethodName := ⟨RJ9, "min", "(II)I"⟩
def RJ0 : String := "java/lang/String"
def TJ0 : u_T := fun k => match k with
  | _ => ("", "", "", false)
def tyJ0 : Nat → FieldType := fun k => match k with
  | _ => .int
abbrev wsJ00 : List Cond := u_ws RJ0 TJ0 0
theorem nmJ0 : ∀ a, a < 0 → ∀ b, b < 0 → a ≠ b → (TJ0 a).2.1 ≠ (TJ0 b).2.1 := by decide +kernel
theorem tyJ0_ok : ∀ k, k < 0 → parseFieldDescriptor (TJ0 k).2.2.1 = some (tyJ0 k) := by decide +kernel
abbrev cJ0_length_8abf5 : ByteArray := prog_15_method_54_code
def yJ0_length_8abf5 : MethodName := ⟨RJ0, "length", "()I"⟩
abbrev cJ0_indexOf_0f7a4 : ByteArray := prog_15_method_79_code
def yJ0_indexOf_0f7a4 : MethodName := ⟨RJ0, "indexOf", "(I)I"⟩
abbrev cJ0_indexOf_7cf53 : ByteArray := prog_15_method_80_code
def yJ0_indexOf_7cf53 : MethodName := ⟨RJ0, "indexOf", "(II)I"⟩
abbrev cJ0_coder_7d493 : ByteArray := prog_15_method_152_code
def yJ0_coder_7d493 : MethodName := ⟨RJ0, "coder", "()B"⟩
abbrev cJ0_isLatin1_aae02 : ByteArray := prog_15_method_154_code
def yJ0_isLatin1_aae02 : MethodName := ⟨RJ0, "isLatin1", "()Z"⟩
abbrev cJ0_checkBoundsBeginEnd_23922 : ByteArray := prog_15_method_158_code
def yJ0_checkBoundsBeginEnd_23922 : MethodName := ⟨RJ0, "checkBoundsBeginEnd", "(III)V"⟩
def RJ1 : String := "java/lang/StringLatin1"
def TJ1 : u_T := fun k => match k with
  | _ => ("", "", "", false)
def tyJ1 : Nat → FieldType := fun k => match k with
  | _ => .int
abbrev wsJ10 : List Cond := u_ws RJ1 TJ1 0
theorem nmJ1 : ∀ a, a < 0 → ∀ b, b < 0 → a ≠ b → (TJ1 a).2.1 ≠ (TJ1 b).2.1 := by decide +kernel
theorem tyJ1_ok : ∀ k, k < 0 → parseFieldDescriptor (TJ1 k).2.2.1 = some (tyJ1 k) := by decide +kernel
abbrev cJ1_canEncode_9a6ad : ByteArray := prog_16_method_4_code
def yJ1_canEncode_9a6ad : MethodName := ⟨RJ1, "canEncode", "(I)Z"⟩
abbrev cJ1_indexOf_4cfef : ByteArray := prog_16_method_22_code
def yJ1_indexOf_4cfef : MethodName := ⟨RJ1, "indexOf", "([BIII)I"⟩
abbrev cJ1_indexOfChar_4cfef : ByteArray := prog_16_method_23_code
def yJ1_indexOfChar_4cfef : MethodName := ⟨RJ1, "indexOfChar", "([BIII)I"⟩
def RJ2 : String := "java/lang/StringUTF16"
def TJ2 : u_T := fun k => match k with
  | _ => ("", "", "", false)
def tyJ2 : Nat → FieldType := fun k => match k with
  | _ => .int
abbrev wsJ20 : List Cond := u_ws RJ2 TJ2 0
theorem nmJ2 : ∀ a, a < 0 → ∀ b, b < 0 → a ≠ b → (TJ2 a).2.1 ≠ (TJ2 b).2.1 := by decide +kernel
theorem tyJ2_ok : ∀ k, k < 0 → parseFieldDescriptor (TJ2 k).2.2.1 = some (tyJ2 k) := by decide +kernel
abbrev cJ2_getChar_3b067 : ByteArray := prog_17_method_5_code
def yJ2_getChar_3b067 : MethodName := ⟨RJ2, "getChar", "([BI)C"⟩
abbrev cJ2_length_9d52b : ByteArray := prog_17_method_6_code
def yJ2_length_9d52b : MethodName := ⟨RJ2, "length", "([B)I"⟩
abbrev cJ2_indexOf_4cfef : ByteArray := prog_17_method_40_code
def yJ2_indexOf_4cfef : MethodName := ⟨RJ2, "indexOf", "([BIII)I"⟩
abbrev cJ2_indexOfChar_4cfef : ByteArray := prog_17_method_47_code
def yJ2_indexOfChar_4cfef : MethodName := ⟨RJ2, "indexOfChar", "([BIII)I"⟩
abbrev cJ2_indexOfCharUnsafe_4cfef : ByteArray := prog_17_method_48_code
def yJ2_indexOfCharUnsafe_4cfef : MethodName := ⟨RJ2, "indexOfCharUnsafe", "([BIII)I"⟩
abbrev cJ2_indexOfSupplementary_4cfef : ByteArray := prog_17_method_49_code
def yJ2_indexOfSupplementary_4cfef : MethodName := ⟨RJ2, "indexOfSupplementary", "([BIII)I"⟩
abbrev cJ2_checkBoundsBeginEnd_d044e : ByteArray := prog_17_method_93_code
def yJ2_checkBoundsBeginEnd_d044e : MethodName := ⟨RJ2, "checkBoundsBeginEnd", "(II[B)V"⟩
def RJ3 : String := "jdk/internal/util/Preconditions"
def TJ3 : u_T := fun k => match k with
  | _ => ("", "", "", false)
def tyJ3 : Nat → FieldType := fun k => match k with
  | _ => .int
abbrev wsJ30 : List Cond := u_ws RJ3 TJ3 0
theorem nmJ3 : ∀ a, a < 0 → ∀ b, b < 0 → a ≠ b → (TJ3 a).2.1 ≠ (TJ3 b).2.1 := by decide +kernel
theorem tyJ3_ok : ∀ k, k < 0 → parseFieldDescriptor (TJ3 k).2.2.1 = some (tyJ3 k) := by decide +kernel
abbrev cJ3_checkFromToIndex_8c36e : ByteArray := prog_18_method_12_code
def yJ3_checkFromToIndex_8c36e : MethodName := ⟨RJ3, "checkFromToIndex", "(IIILjava/util/function/BiFunction;)I"⟩
def RL : String := "RhythmBenchLaw"
abbrev cL_law : ByteArray := code
def yL_law : MethodName := ⟨RL, "law", "([I)Z"⟩
theorem am_in_r {big : List Cond} (ws : List Cond) (ps : List Nat) (hp : ws = ps.filterMap (fun i => big[i]?)) : ∀ w ∈ ws, w ∈ big := by
  intro w hw
  rw [hp] at hw
  obtain ⟨i, -, hi⟩ := List.mem_filterMap.mp hw
  exact List.mem_of_getElem? hi
theorem inX0 : ∀ w ∈ wsX00, w ∈ lw_tbl := am_in_r _ [104, 106, 108, 110, 112, 114] (by decide +kernel)
theorem inX1 : ∀ w ∈ wsX10, w ∈ lw_tbl := am_in_r _ [] (by decide +kernel)
theorem inX2 : ∀ w ∈ wsX20, w ∈ lw_tbl := am_in_r _ [243, 245, 247] (by decide +kernel)
theorem inX3 : ∀ w ∈ wsX30, w ∈ lw_tbl := am_in_r _ [200, 202, 204] (by decide +kernel)
theorem inX4 : ∀ w ∈ wsX40, w ∈ lw_tbl := am_in_r _ [170, 172, 174, 176, 178, 180, 182, 184, 186, 188, 190] (by decide +kernel)
theorem inX5 : ∀ w ∈ wsX50, w ∈ lw_tbl := am_in_r _ [223, 225, 227, 229, 231] (by decide +kernel)
theorem inX6 : ∀ w ∈ wsX60, w ∈ lw_tbl := am_in_r _ [86, 88] (by decide +kernel)
theorem inX7 : ∀ w ∈ wsX70, w ∈ lw_tbl := am_in_r _ [141, 143, 145] (by decide +kernel)
theorem inX8 : ∀ w ∈ wsX80, w ∈ lw_tbl := am_in_r _ [] (by decide +kernel)
theorem inX9 : ∀ w ∈ wsX90, w ∈ lw_tbl := am_in_r _ [261, 263, 265, 267, 269, 271, 273, 275, 277, 279, 281] (by decide +kernel)
theorem inX10 : ∀ w ∈ wsX100, w ∈ lw_tbl := am_in_r _ [802, 804, 806, 808, 810, 812, 814, 816, 818, 820, 822, 824, 826, 828, 830, 832, 834, 836, 838, 840, 842, 844, 846, 848, 850, 852, 854, 856, 858] (by decide +kernel)
end
section
theorem dX0_init_0 : decode cX0_init 0 = .ok (.aload_n 0, 1) := by decide +kernel
theorem dX0_init_1 : decode cX0_init 1 = .ok (.invokespecial 3, 3) := by decide +kernel
theorem dX0_init_4 : decode cX0_init 4 = .ok (.return_, 1) := by decide +kernel
theorem dX0_wrongPlace_0 : decode cX0_wrongPlace 0 = .ok (.aload_n 0, 1) := by decide +kernel
theorem dX0_wrongPlace_1 : decode cX0_wrongPlace 1 = .ok (.invokevirtual 9, 3) := by decide +kernel
theorem dX0_wrongPlace_4 : decode cX0_wrongPlace 4 = .ok (.iconst 0, 1) := by decide +kernel
theorem dX0_wrongPlace_5 : decode cX0_wrongPlace 5 = .ok (.istore_n 2, 1) := by decide +kernel
theorem dX0_wrongPlace_6 : decode cX0_wrongPlace 6 = .ok (.iload_n 2, 1) := by decide +kernel
theorem dX0_wrongPlace_7 : decode cX0_wrongPlace 7 = .ok (.aload_n 1, 1) := by decide +kernel
theorem dX0_wrongPlace_8 : decode cX0_wrongPlace 8 = .ok (.invokevirtual 14, 3) := by decide +kernel
theorem dX0_wrongPlace_11 : decode cX0_wrongPlace 11 = .ok (.if_icmp .ge 23, 3) := by decide +kernel
theorem dX0_wrongPlace_14 : decode cX0_wrongPlace 14 = .ok (.aload_n 0, 1) := by decide +kernel
theorem dX0_wrongPlace_15 : decode cX0_wrongPlace 15 = .ok (.aload_n 1, 1) := by decide +kernel
theorem dX0_wrongPlace_16 : decode cX0_wrongPlace 16 = .ok (.iload_n 2, 1) := by decide +kernel
theorem dX0_wrongPlace_17 : decode cX0_wrongPlace 17 = .ok (.invokevirtual 20, 3) := by decide +kernel
theorem dX0_wrongPlace_20 : decode cX0_wrongPlace 20 = .ok (.invokevirtual 24, 3) := by decide +kernel
theorem dX0_wrongPlace_23 : decode cX0_wrongPlace 23 = .ok (.ifCond .ne 5, 3) := by decide +kernel
theorem dX0_wrongPlace_26 : decode cX0_wrongPlace 26 = .ok (.iload_n 2, 1) := by decide +kernel
theorem dX0_wrongPlace_27 : decode cX0_wrongPlace 27 = .ok (.ireturn, 1) := by decide +kernel
theorem dX0_wrongPlace_28 : decode cX0_wrongPlace 28 = .ok (.iinc 2 1, 3) := by decide +kernel
theorem dX0_wrongPlace_31 : decode cX0_wrongPlace 31 = .ok (.goto (-25), 3) := by decide +kernel
theorem dX0_wrongPlace_34 : decode cX0_wrongPlace 34 = .ok (.aload_n 0, 1) := by decide +kernel
theorem dX0_wrongPlace_35 : decode cX0_wrongPlace 35 = .ok (.getfield 28, 3) := by decide +kernel
theorem dX0_wrongPlace_38 : decode cX0_wrongPlace 38 = .ok (.ifCond .ne 21, 3) := by decide +kernel
theorem dX0_wrongPlace_41 : decode cX0_wrongPlace 41 = .ok (.aload_n 0, 1) := by decide +kernel
theorem dX0_wrongPlace_42 : decode cX0_wrongPlace 42 = .ok (.getfield 32, 3) := by decide +kernel
theorem dX0_wrongPlace_45 : decode cX0_wrongPlace 45 = .ok (.ifCond .ne 14, 3) := by decide +kernel
theorem dX0_wrongPlace_48 : decode cX0_wrongPlace 48 = .ok (.aload_n 0, 1) := by decide +kernel
theorem dX0_wrongPlace_49 : decode cX0_wrongPlace 49 = .ok (.getfield 35, 3) := by decide +kernel
theorem dX0_wrongPlace_52 : decode cX0_wrongPlace 52 = .ok (.ifCond .ne 7, 3) := by decide +kernel
theorem dX0_wrongPlace_55 : decode cX0_wrongPlace 55 = .ok (.iconst 1, 1) := by decide +kernel
theorem dX0_wrongPlace_56 : decode cX0_wrongPlace 56 = .ok (.goto 4, 3) := by decide +kernel
theorem dX0_wrongPlace_59 : decode cX0_wrongPlace 59 = .ok (.iconst 0, 1) := by decide +kernel
theorem dX0_wrongPlace_60 : decode cX0_wrongPlace 60 = .ok (.istore_n 2, 1) := by decide +kernel
theorem dX0_wrongPlace_61 : decode cX0_wrongPlace 61 = .ok (.iload_n 2, 1) := by decide +kernel
theorem dX0_wrongPlace_62 : decode cX0_wrongPlace 62 = .ok (.ifCond .eq 8, 3) := by decide +kernel
theorem dX0_wrongPlace_65 : decode cX0_wrongPlace 65 = .ok (.bipush (-9), 2) := by decide +kernel
theorem dX0_wrongPlace_67 : decode cX0_wrongPlace 67 = .ok (.goto 7, 3) := by decide +kernel
theorem dX0_wrongPlace_70 : decode cX0_wrongPlace 70 = .ok (.aload_n 1, 1) := by decide +kernel
theorem dX0_wrongPlace_71 : decode cX0_wrongPlace 71 = .ok (.invokevirtual 14, 3) := by decide +kernel
theorem dX0_wrongPlace_74 : decode cX0_wrongPlace 74 = .ok (.ireturn, 1) := by decide +kernel
theorem dX0_start_0 : decode cX0_start 0 = .ok (.aload_n 0, 1) := by decide +kernel
theorem dX0_start_1 : decode cX0_start 1 = .ok (.iconst 0, 1) := by decide +kernel
theorem dX0_start_2 : decode cX0_start 2 = .ok (.putfield 28, 3) := by decide +kernel
theorem dX0_start_5 : decode cX0_start 5 = .ok (.aload_n 0, 1) := by decide +kernel
theorem dX0_start_6 : decode cX0_start 6 = .ok (.iconst 0, 1) := by decide +kernel
theorem dX0_start_7 : decode cX0_start 7 = .ok (.putfield 32, 3) := by decide +kernel
theorem dX0_start_10 : decode cX0_start 10 = .ok (.aload_n 0, 1) := by decide +kernel
theorem dX0_start_11 : decode cX0_start 11 = .ok (.iconst 0, 1) := by decide +kernel
theorem dX0_start_12 : decode cX0_start 12 = .ok (.putfield 39, 3) := by decide +kernel
theorem dX0_start_15 : decode cX0_start 15 = .ok (.aload_n 0, 1) := by decide +kernel
theorem dX0_start_16 : decode cX0_start 16 = .ok (.iconst 0, 1) := by decide +kernel
theorem dX0_start_17 : decode cX0_start 17 = .ok (.putfield 35, 3) := by decide +kernel
theorem dX0_start_20 : decode cX0_start 20 = .ok (.aload_n 0, 1) := by decide +kernel
theorem dX0_start_21 : decode cX0_start 21 = .ok (.invokevirtual 42, 3) := by decide +kernel
theorem dX0_start_24 : decode cX0_start 24 = .ok (.return_, 1) := by decide +kernel
theorem dX0_accepts_0 : decode cX0_accepts 0 = .ok (.iload_n 1, 1) := by decide +kernel
theorem dX0_accepts_1 : decode cX0_accepts 1 = .ok (.invokestatic 45, 3) := by decide +kernel
theorem dX0_accepts_4 : decode cX0_accepts 4 = .ok (.istore_n 2, 1) := by decide +kernel
theorem dX0_accepts_5 : decode cX0_accepts 5 = .ok (.aload_n 0, 1) := by decide +kernel
theorem dX0_accepts_6 : decode cX0_accepts 6 = .ok (.getfield 28, 3) := by decide +kernel
theorem dX0_accepts_9 : decode cX0_accepts 9 = .ok (.tableswitch 173 1 8 #[47, 54, 61, 77, 94, 110, 127, 157], 47) := by decide +kernel
theorem dX0_accepts_56 : decode cX0_accepts 56 = .ok (.aload_n 0, 1) := by decide +kernel
theorem dX0_accepts_57 : decode cX0_accepts 57 = .ok (.iload_n 1, 1) := by decide +kernel
theorem dX0_accepts_58 : decode cX0_accepts 58 = .ok (.iconst 1, 1) := by decide +kernel
theorem dX0_accepts_59 : decode cX0_accepts 59 = .ok (.invokevirtual 50, 3) := by decide +kernel
theorem dX0_accepts_62 : decode cX0_accepts 62 = .ok (.ireturn, 1) := by decide +kernel
theorem dX0_accepts_63 : decode cX0_accepts 63 = .ok (.aload_n 0, 1) := by decide +kernel
theorem dX0_accepts_64 : decode cX0_accepts 64 = .ok (.iload_n 1, 1) := by decide +kernel
theorem dX0_accepts_65 : decode cX0_accepts 65 = .ok (.iconst 0, 1) := by decide +kernel
theorem dX0_accepts_66 : decode cX0_accepts 66 = .ok (.invokevirtual 50, 3) := by decide +kernel
theorem dX0_accepts_69 : decode cX0_accepts 69 = .ok (.ireturn, 1) := by decide +kernel
theorem dX0_accepts_70 : decode cX0_accepts 70 = .ok (.aload_n 0, 1) := by decide +kernel
theorem dX0_accepts_71 : decode cX0_accepts 71 = .ok (.iload_n 2, 1) := by decide +kernel
theorem dX0_accepts_72 : decode cX0_accepts 72 = .ok (.iconst 2, 1) := by decide +kernel
theorem dX0_accepts_73 : decode cX0_accepts 73 = .ok (.if_icmp .lt 7, 3) := by decide +kernel
theorem dX0_accepts_76 : decode cX0_accepts 76 = .ok (.iconst 1, 1) := by decide +kernel
theorem dX0_accepts_77 : decode cX0_accepts 77 = .ok (.goto 4, 3) := by decide +kernel
theorem dX0_accepts_80 : decode cX0_accepts 80 = .ok (.iconst 0, 1) := by decide +kernel
theorem dX0_accepts_81 : decode cX0_accepts 81 = .ok (.iconst 4, 1) := by decide +kernel
theorem dX0_accepts_82 : decode cX0_accepts 82 = .ok (.invokevirtual 54, 3) := by decide +kernel
theorem dX0_accepts_85 : decode cX0_accepts 85 = .ok (.ireturn, 1) := by decide +kernel
theorem dX0_accepts_86 : decode cX0_accepts 86 = .ok (.aload_n 0, 1) := by decide +kernel
theorem dX0_accepts_87 : decode cX0_accepts 87 = .ok (.iload_n 1, 1) := by decide +kernel
theorem dX0_accepts_88 : decode cX0_accepts 88 = .ok (.bipush 58, 2) := by decide +kernel
theorem dX0_accepts_90 : decode cX0_accepts 90 = .ok (.if_icmp .ne 7, 3) := by decide +kernel
theorem dX0_accepts_93 : decode cX0_accepts 93 = .ok (.iconst 1, 1) := by decide +kernel
theorem dX0_accepts_94 : decode cX0_accepts 94 = .ok (.goto 4, 3) := by decide +kernel
theorem dX0_accepts_97 : decode cX0_accepts 97 = .ok (.iconst 0, 1) := by decide +kernel
theorem dX0_accepts_98 : decode cX0_accepts 98 = .ok (.iconst 5, 1) := by decide +kernel
theorem dX0_accepts_99 : decode cX0_accepts 99 = .ok (.invokevirtual 54, 3) := by decide +kernel
theorem dX0_accepts_102 : decode cX0_accepts 102 = .ok (.ireturn, 1) := by decide +kernel
theorem dX0_accepts_103 : decode cX0_accepts 103 = .ok (.aload_n 0, 1) := by decide +kernel
theorem dX0_accepts_104 : decode cX0_accepts 104 = .ok (.iload_n 2, 1) := by decide +kernel
theorem dX0_accepts_105 : decode cX0_accepts 105 = .ok (.iconst 2, 1) := by decide +kernel
theorem dX0_accepts_106 : decode cX0_accepts 106 = .ok (.if_icmp .lt 7, 3) := by decide +kernel
theorem dX0_accepts_109 : decode cX0_accepts 109 = .ok (.iconst 1, 1) := by decide +kernel
theorem dX0_accepts_110 : decode cX0_accepts 110 = .ok (.goto 4, 3) := by decide +kernel
theorem dX0_accepts_113 : decode cX0_accepts 113 = .ok (.iconst 0, 1) := by decide +kernel
theorem dX0_accepts_114 : decode cX0_accepts 114 = .ok (.iconst 0, 1) := by decide +kernel
theorem dX0_accepts_115 : decode cX0_accepts 115 = .ok (.invokevirtual 54, 3) := by decide +kernel
theorem dX0_accepts_118 : decode cX0_accepts 118 = .ok (.ireturn, 1) := by decide +kernel
theorem dX0_accepts_119 : decode cX0_accepts 119 = .ok (.aload_n 0, 1) := by decide +kernel
theorem dX0_accepts_120 : decode cX0_accepts 120 = .ok (.iload_n 2, 1) := by decide +kernel
theorem dX0_accepts_121 : decode cX0_accepts 121 = .ok (.iconst 1, 1) := by decide +kernel
theorem dX0_accepts_122 : decode cX0_accepts 122 = .ok (.if_icmp .lt 7, 3) := by decide +kernel
theorem dX0_accepts_125 : decode cX0_accepts 125 = .ok (.iconst 1, 1) := by decide +kernel
theorem dX0_accepts_126 : decode cX0_accepts 126 = .ok (.goto 4, 3) := by decide +kernel
theorem dX0_accepts_129 : decode cX0_accepts 129 = .ok (.iconst 0, 1) := by decide +kernel
theorem dX0_accepts_130 : decode cX0_accepts 130 = .ok (.bipush 7, 2) := by decide +kernel
theorem dX0_accepts_132 : decode cX0_accepts 132 = .ok (.invokevirtual 54, 3) := by decide +kernel
theorem dX0_accepts_135 : decode cX0_accepts 135 = .ok (.ireturn, 1) := by decide +kernel
theorem dX0_accepts_136 : decode cX0_accepts 136 = .ok (.iload_n 2, 1) := by decide +kernel
theorem dX0_accepts_137 : decode cX0_accepts 137 = .ok (.iconst 1, 1) := by decide +kernel
theorem dX0_accepts_138 : decode cX0_accepts 138 = .ok (.if_icmp .ge 22, 3) := by decide +kernel
theorem dX0_accepts_141 : decode cX0_accepts 141 = .ok (.aload_n 0, 1) := by decide +kernel
theorem dX0_accepts_142 : decode cX0_accepts 142 = .ok (.iload_n 1, 1) := by decide +kernel
theorem dX0_accepts_143 : decode cX0_accepts 143 = .ok (.bipush 58, 2) := by decide +kernel
theorem dX0_accepts_145 : decode cX0_accepts 145 = .ok (.if_icmp .ne 7, 3) := by decide +kernel
theorem dX0_accepts_148 : decode cX0_accepts 148 = .ok (.iconst 1, 1) := by decide +kernel
theorem dX0_accepts_149 : decode cX0_accepts 149 = .ok (.goto 4, 3) := by decide +kernel
theorem dX0_accepts_152 : decode cX0_accepts 152 = .ok (.iconst 0, 1) := by decide +kernel
theorem dX0_accepts_153 : decode cX0_accepts 153 = .ok (.iconst 0, 1) := by decide +kernel
theorem dX0_accepts_154 : decode cX0_accepts 154 = .ok (.invokevirtual 54, 3) := by decide +kernel
theorem dX0_accepts_157 : decode cX0_accepts 157 = .ok (.ifCond .eq 7, 3) := by decide +kernel
theorem dX0_accepts_160 : decode cX0_accepts 160 = .ok (.iconst 1, 1) := by decide +kernel
theorem dX0_accepts_161 : decode cX0_accepts 161 = .ok (.goto 4, 3) := by decide +kernel
theorem dX0_accepts_164 : decode cX0_accepts 164 = .ok (.iconst 0, 1) := by decide +kernel
theorem dX0_accepts_165 : decode cX0_accepts 165 = .ok (.ireturn, 1) := by decide +kernel
theorem dX0_accepts_166 : decode cX0_accepts 166 = .ok (.aload_n 0, 1) := by decide +kernel
theorem dX0_accepts_167 : decode cX0_accepts 167 = .ok (.iload_n 2, 1) := by decide +kernel
theorem dX0_accepts_168 : decode cX0_accepts 168 = .ok (.iconst 2, 1) := by decide +kernel
theorem dX0_accepts_169 : decode cX0_accepts 169 = .ok (.if_icmp .lt 7, 3) := by decide +kernel
theorem dX0_accepts_172 : decode cX0_accepts 172 = .ok (.iconst 1, 1) := by decide +kernel
theorem dX0_accepts_173 : decode cX0_accepts 173 = .ok (.goto 4, 3) := by decide +kernel
theorem dX0_accepts_176 : decode cX0_accepts 176 = .ok (.iconst 0, 1) := by decide +kernel
theorem dX0_accepts_177 : decode cX0_accepts 177 = .ok (.iconst 0, 1) := by decide +kernel
theorem dX0_accepts_178 : decode cX0_accepts 178 = .ok (.invokevirtual 54, 3) := by decide +kernel
theorem dX0_accepts_181 : decode cX0_accepts 181 = .ok (.ireturn, 1) := by decide +kernel
theorem dX0_accepts_182 : decode cX0_accepts 182 = .ok (.aload_n 0, 1) := by decide +kernel
theorem dX0_accepts_183 : decode cX0_accepts 183 = .ok (.iload_n 1, 1) := by decide +kernel
theorem dX0_accepts_184 : decode cX0_accepts 184 = .ok (.invokevirtual 58, 3) := by decide +kernel
theorem dX0_accepts_187 : decode cX0_accepts 187 = .ok (.ireturn, 1) := by decide +kernel
theorem dX0_goesOn_0 : decode cX0_goesOn 0 = .ok (.iload_n 1, 1) := by decide +kernel
theorem dX0_goesOn_1 : decode cX0_goesOn 1 = .ok (.ifCond .eq 8, 3) := by decide +kernel
theorem dX0_goesOn_4 : decode cX0_goesOn 4 = .ok (.aload_n 0, 1) := by decide +kernel
theorem dX0_goesOn_5 : decode cX0_goesOn 5 = .ok (.iload_n 2, 1) := by decide +kernel
theorem dX0_goesOn_6 : decode cX0_goesOn 6 = .ok (.putfield 28, 3) := by decide +kernel
theorem dX0_goesOn_9 : decode cX0_goesOn 9 = .ok (.iload_n 1, 1) := by decide +kernel
theorem dX0_goesOn_10 : decode cX0_goesOn 10 = .ok (.ireturn, 1) := by decide +kernel
theorem dX0_acceptsItem_0 : decode cX0_acceptsItem 0 = .ok (.iload_n 1, 1) := by decide +kernel
theorem dX0_acceptsItem_1 : decode cX0_acceptsItem 1 = .ok (.bipush 46, 2) := by decide +kernel
theorem dX0_acceptsItem_3 : decode cX0_acceptsItem 3 = .ok (.if_icmp .ne 8, 3) := by decide +kernel
theorem dX0_acceptsItem_6 : decode cX0_acceptsItem 6 = .ok (.aload_n 0, 1) := by decide +kernel
theorem dX0_acceptsItem_7 : decode cX0_acceptsItem 7 = .ok (.invokevirtual 61, 3) := by decide +kernel
theorem dX0_acceptsItem_10 : decode cX0_acceptsItem 10 = .ok (.ireturn, 1) := by decide +kernel
theorem dX0_acceptsItem_11 : decode cX0_acceptsItem 11 = .ok (.iload_n 1, 1) := by decide +kernel
theorem dX0_acceptsItem_12 : decode cX0_acceptsItem 12 = .ok (.bipush 126, 2) := by decide +kernel
theorem dX0_acceptsItem_14 : decode cX0_acceptsItem 14 = .ok (.if_icmp .ne 8, 3) := by decide +kernel
theorem dX0_acceptsItem_17 : decode cX0_acceptsItem 17 = .ok (.aload_n 0, 1) := by decide +kernel
theorem dX0_acceptsItem_18 : decode cX0_acceptsItem 18 = .ok (.invokevirtual 65, 3) := by decide +kernel
theorem dX0_acceptsItem_21 : decode cX0_acceptsItem 21 = .ok (.ireturn, 1) := by decide +kernel
theorem dX0_acceptsItem_22 : decode cX0_acceptsItem 22 = .ok (.aload_n 0, 1) := by decide +kernel
theorem dX0_acceptsItem_23 : decode cX0_acceptsItem 23 = .ok (.invokevirtual 42, 3) := by decide +kernel
theorem dX0_acceptsItem_26 : decode cX0_acceptsItem 26 = .ok (.iload_n 1, 1) := by decide +kernel
theorem dX0_acceptsItem_27 : decode cX0_acceptsItem 27 = .ok (.lookupswitch 146 #[(47, 115), (91, 110), (93, 141), (94, 73), (114, 80), (123, 87), (124, 97), (125, 92)], 73) := by decide +kernel
theorem dX0_acceptsItem_100 : decode cX0_acceptsItem 100 = .ok (.aload_n 0, 1) := by decide +kernel
theorem dX0_acceptsItem_101 : decode cX0_acceptsItem 101 = .ok (.iconst 1, 1) := by decide +kernel
theorem dX0_acceptsItem_102 : decode cX0_acceptsItem 102 = .ok (.iconst 1, 1) := by decide +kernel
theorem dX0_acceptsItem_103 : decode cX0_acceptsItem 103 = .ok (.invokevirtual 54, 3) := by decide +kernel
theorem dX0_acceptsItem_106 : decode cX0_acceptsItem 106 = .ok (.ireturn, 1) := by decide +kernel
theorem dX0_acceptsItem_107 : decode cX0_acceptsItem 107 = .ok (.aload_n 0, 1) := by decide +kernel
theorem dX0_acceptsItem_108 : decode cX0_acceptsItem 108 = .ok (.iconst 1, 1) := by decide +kernel
theorem dX0_acceptsItem_109 : decode cX0_acceptsItem 109 = .ok (.iconst 2, 1) := by decide +kernel
theorem dX0_acceptsItem_110 : decode cX0_acceptsItem 110 = .ok (.invokevirtual 54, 3) := by decide +kernel
theorem dX0_acceptsItem_113 : decode cX0_acceptsItem 113 = .ok (.ireturn, 1) := by decide +kernel
theorem dX0_acceptsItem_114 : decode cX0_acceptsItem 114 = .ok (.aload_n 0, 1) := by decide +kernel
theorem dX0_acceptsItem_115 : decode cX0_acceptsItem 115 = .ok (.invokevirtual 68, 3) := by decide +kernel
theorem dX0_acceptsItem_118 : decode cX0_acceptsItem 118 = .ok (.ireturn, 1) := by decide +kernel
theorem dX0_acceptsItem_119 : decode cX0_acceptsItem 119 = .ok (.aload_n 0, 1) := by decide +kernel
theorem dX0_acceptsItem_120 : decode cX0_acceptsItem 120 = .ok (.invokevirtual 71, 3) := by decide +kernel
theorem dX0_acceptsItem_123 : decode cX0_acceptsItem 123 = .ok (.ireturn, 1) := by decide +kernel
theorem dX0_acceptsItem_124 : decode cX0_acceptsItem 124 = .ok (.aload_n 0, 1) := by decide +kernel
theorem dX0_acceptsItem_125 : decode cX0_acceptsItem 125 = .ok (.getfield 32, 3) := by decide +kernel
theorem dX0_acceptsItem_128 : decode cX0_acceptsItem 128 = .ok (.ifCond .ne 7, 3) := by decide +kernel
theorem dX0_acceptsItem_131 : decode cX0_acceptsItem 131 = .ok (.iconst 1, 1) := by decide +kernel
theorem dX0_acceptsItem_132 : decode cX0_acceptsItem 132 = .ok (.goto 4, 3) := by decide +kernel
theorem dX0_acceptsItem_135 : decode cX0_acceptsItem 135 = .ok (.iconst 0, 1) := by decide +kernel
theorem dX0_acceptsItem_136 : decode cX0_acceptsItem 136 = .ok (.ireturn, 1) := by decide +kernel
theorem dX0_acceptsItem_137 : decode cX0_acceptsItem 137 = .ok (.aload_n 0, 1) := by decide +kernel
theorem dX0_acceptsItem_138 : decode cX0_acceptsItem 138 = .ok (.invokevirtual 74, 3) := by decide +kernel
theorem dX0_acceptsItem_141 : decode cX0_acceptsItem 141 = .ok (.ireturn, 1) := by decide +kernel
theorem dX0_acceptsItem_142 : decode cX0_acceptsItem 142 = .ok (.aload_n 0, 1) := by decide +kernel
theorem dX0_acceptsItem_143 : decode cX0_acceptsItem 143 = .ok (.aload_n 0, 1) := by decide +kernel
theorem dX0_acceptsItem_144 : decode cX0_acceptsItem 144 = .ok (.getfield 35, 3) := by decide +kernel
theorem dX0_acceptsItem_147 : decode cX0_acceptsItem 147 = .ok (.ifCond .eq 14, 3) := by decide +kernel
theorem dX0_acceptsItem_150 : decode cX0_acceptsItem 150 = .ok (.aload_n 0, 1) := by decide +kernel
theorem dX0_acceptsItem_151 : decode cX0_acceptsItem 151 = .ok (.getfield 32, 3) := by decide +kernel
theorem dX0_acceptsItem_154 : decode cX0_acceptsItem 154 = .ok (.ifCond .ne 7, 3) := by decide +kernel
theorem dX0_acceptsItem_157 : decode cX0_acceptsItem 157 = .ok (.iconst 1, 1) := by decide +kernel
theorem dX0_acceptsItem_158 : decode cX0_acceptsItem 158 = .ok (.goto 4, 3) := by decide +kernel
theorem dX0_acceptsItem_161 : decode cX0_acceptsItem 161 = .ok (.iconst 0, 1) := by decide +kernel
theorem dX0_acceptsItem_162 : decode cX0_acceptsItem 162 = .ok (.bipush 6, 2) := by decide +kernel
theorem dX0_acceptsItem_164 : decode cX0_acceptsItem 164 = .ok (.invokevirtual 54, 3) := by decide +kernel
theorem dX0_acceptsItem_167 : decode cX0_acceptsItem 167 = .ok (.ireturn, 1) := by decide +kernel
theorem dX0_acceptsItem_168 : decode cX0_acceptsItem 168 = .ok (.aload_n 0, 1) := by decide +kernel
theorem dX0_acceptsItem_169 : decode cX0_acceptsItem 169 = .ok (.invokevirtual 77, 3) := by decide +kernel
theorem dX0_acceptsItem_172 : decode cX0_acceptsItem 172 = .ok (.ireturn, 1) := by decide +kernel
theorem dX0_acceptsItem_173 : decode cX0_acceptsItem 173 = .ok (.aload_n 0, 1) := by decide +kernel
theorem dX0_acceptsItem_174 : decode cX0_acceptsItem 174 = .ok (.iload_n 1, 1) := by decide +kernel
theorem dX0_acceptsItem_175 : decode cX0_acceptsItem 175 = .ok (.iconst 1, 1) := by decide +kernel
theorem dX0_acceptsItem_176 : decode cX0_acceptsItem 176 = .ok (.invokevirtual 50, 3) := by decide +kernel
theorem dX0_acceptsItem_179 : decode cX0_acceptsItem 179 = .ok (.ireturn, 1) := by decide +kernel
theorem dX0_beginsSound_0 : decode cX0_beginsSound 0 = .ok (.iload_n 1, 1) := by decide +kernel
theorem dX0_beginsSound_1 : decode cX0_beginsSound 1 = .ok (.invokestatic 80, 3) := by decide +kernel
theorem dX0_beginsSound_4 : decode cX0_beginsSound 4 = .ok (.ifCond .ge 5, 3) := by decide +kernel
theorem dX0_beginsSound_7 : decode cX0_beginsSound 7 = .ok (.iconst 0, 1) := by decide +kernel
theorem dX0_beginsSound_8 : decode cX0_beginsSound 8 = .ok (.ireturn, 1) := by decide +kernel
theorem dX0_beginsSound_9 : decode cX0_beginsSound 9 = .ok (.aload_n 0, 1) := by decide +kernel
theorem dX0_beginsSound_10 : decode cX0_beginsSound 10 = .ok (.iconst 0, 1) := by decide +kernel
theorem dX0_beginsSound_11 : decode cX0_beginsSound 11 = .ok (.putfield 28, 3) := by decide +kernel
theorem dX0_beginsSound_14 : decode cX0_beginsSound 14 = .ok (.aload_n 0, 1) := by decide +kernel
theorem dX0_beginsSound_15 : decode cX0_beginsSound 15 = .ok (.iconst 1, 1) := by decide +kernel
theorem dX0_beginsSound_16 : decode cX0_beginsSound 16 = .ok (.putfield 39, 3) := by decide +kernel
theorem dX0_beginsSound_19 : decode cX0_beginsSound 19 = .ok (.aload_n 0, 1) := by decide +kernel
theorem dX0_beginsSound_20 : decode cX0_beginsSound 20 = .ok (.iconst 2, 1) := by decide +kernel
theorem dX0_beginsSound_21 : decode cX0_beginsSound 21 = .ok (.putfield 83, 3) := by decide +kernel
theorem dX0_beginsSound_24 : decode cX0_beginsSound 24 = .ok (.aload_n 0, 1) := by decide +kernel
theorem dX0_beginsSound_25 : decode cX0_beginsSound 25 = .ok (.iload_n 2, 1) := by decide +kernel
theorem dX0_beginsSound_26 : decode cX0_beginsSound 26 = .ok (.putfield 86, 3) := by decide +kernel
theorem dX0_beginsSound_29 : decode cX0_beginsSound 29 = .ok (.iconst 1, 1) := by decide +kernel
theorem dX0_beginsSound_30 : decode cX0_beginsSound 30 = .ok (.ireturn, 1) := by decide +kernel
theorem dX0_endSound_0 : decode cX0_endSound 0 = .ok (.aload_n 0, 1) := by decide +kernel
theorem dX0_endSound_1 : decode cX0_endSound 1 = .ok (.iconst 0, 1) := by decide +kernel
theorem dX0_endSound_2 : decode cX0_endSound 2 = .ok (.putfield 83, 3) := by decide +kernel
theorem dX0_endSound_5 : decode cX0_endSound 5 = .ok (.aload_n 0, 1) := by decide +kernel
theorem dX0_endSound_6 : decode cX0_endSound 6 = .ok (.iconst 0, 1) := by decide +kernel
theorem dX0_endSound_7 : decode cX0_endSound 7 = .ok (.putfield 86, 3) := by decide +kernel
theorem dX0_endSound_10 : decode cX0_endSound 10 = .ok (.return_, 1) := by decide +kernel
theorem dX0_addsDot_0 : decode cX0_addsDot 0 = .ok (.aload_n 0, 1) := by decide +kernel
theorem dX0_addsDot_1 : decode cX0_addsDot 1 = .ok (.getfield 83, 3) := by decide +kernel
theorem dX0_addsDot_4 : decode cX0_addsDot 4 = .ok (.iconst 1, 1) := by decide +kernel
theorem dX0_addsDot_5 : decode cX0_addsDot 5 = .ok (.if_icmp .ge 5, 3) := by decide +kernel
theorem dX0_addsDot_8 : decode cX0_addsDot 8 = .ok (.iconst 0, 1) := by decide +kernel
theorem dX0_addsDot_9 : decode cX0_addsDot 9 = .ok (.ireturn, 1) := by decide +kernel
theorem dX0_addsDot_10 : decode cX0_addsDot 10 = .ok (.aload_n 0, 1) := by decide +kernel
theorem dX0_addsDot_11 : decode cX0_addsDot 11 = .ok (.dup, 1) := by decide +kernel
theorem dX0_addsDot_12 : decode cX0_addsDot 12 = .ok (.getfield 83, 3) := by decide +kernel
theorem dX0_addsDot_15 : decode cX0_addsDot 15 = .ok (.iconst 1, 1) := by decide +kernel
theorem dX0_addsDot_16 : decode cX0_addsDot 16 = .ok (.isub, 1) := by decide +kernel
theorem dX0_addsDot_17 : decode cX0_addsDot 17 = .ok (.putfield 83, 3) := by decide +kernel
theorem dX0_addsDot_20 : decode cX0_addsDot 20 = .ok (.iconst 1, 1) := by decide +kernel
theorem dX0_addsDot_21 : decode cX0_addsDot 21 = .ok (.ireturn, 1) := by decide +kernel
theorem dX0_addsTie_0 : decode cX0_addsTie 0 = .ok (.aload_n 0, 1) := by decide +kernel
theorem dX0_addsTie_1 : decode cX0_addsTie 1 = .ok (.getfield 86, 3) := by decide +kernel
theorem dX0_addsTie_4 : decode cX0_addsTie 4 = .ok (.istore_n 1, 1) := by decide +kernel
theorem dX0_addsTie_5 : decode cX0_addsTie 5 = .ok (.aload_n 0, 1) := by decide +kernel
theorem dX0_addsTie_6 : decode cX0_addsTie 6 = .ok (.invokevirtual 42, 3) := by decide +kernel
theorem dX0_addsTie_9 : decode cX0_addsTie 9 = .ok (.iload_n 1, 1) := by decide +kernel
theorem dX0_addsTie_10 : decode cX0_addsTie 10 = .ok (.ireturn, 1) := by decide +kernel
theorem dX0_opensTuplet_0 : decode cX0_opensTuplet 0 = .ok (.aload_n 0, 1) := by decide +kernel
theorem dX0_opensTuplet_1 : decode cX0_opensTuplet 1 = .ok (.getfield 32, 3) := by decide +kernel
theorem dX0_opensTuplet_4 : decode cX0_opensTuplet 4 = .ok (.iconst 2, 1) := by decide +kernel
theorem dX0_opensTuplet_5 : decode cX0_opensTuplet 5 = .ok (.if_icmp .lt 5, 3) := by decide +kernel
theorem dX0_opensTuplet_8 : decode cX0_opensTuplet 8 = .ok (.iconst 0, 1) := by decide +kernel
theorem dX0_opensTuplet_9 : decode cX0_opensTuplet 9 = .ok (.ireturn, 1) := by decide +kernel
theorem dX0_opensTuplet_10 : decode cX0_opensTuplet 10 = .ok (.aload_n 0, 1) := by decide +kernel
theorem dX0_opensTuplet_11 : decode cX0_opensTuplet 11 = .ok (.dup, 1) := by decide +kernel
theorem dX0_opensTuplet_12 : decode cX0_opensTuplet 12 = .ok (.getfield 32, 3) := by decide +kernel
theorem dX0_opensTuplet_15 : decode cX0_opensTuplet 15 = .ok (.iconst 1, 1) := by decide +kernel
theorem dX0_opensTuplet_16 : decode cX0_opensTuplet 16 = .ok (.iadd, 1) := by decide +kernel
theorem dX0_opensTuplet_17 : decode cX0_opensTuplet 17 = .ok (.putfield 32, 3) := by decide +kernel
theorem dX0_opensTuplet_20 : decode cX0_opensTuplet 20 = .ok (.aload_n 0, 1) := by decide +kernel
theorem dX0_opensTuplet_21 : decode cX0_opensTuplet 21 = .ok (.iconst 0, 1) := by decide +kernel
theorem dX0_opensTuplet_22 : decode cX0_opensTuplet 22 = .ok (.putfield 39, 3) := by decide +kernel
theorem dX0_opensTuplet_25 : decode cX0_opensTuplet 25 = .ok (.aload_n 0, 1) := by decide +kernel
theorem dX0_opensTuplet_26 : decode cX0_opensTuplet 26 = .ok (.iconst 1, 1) := by decide +kernel
theorem dX0_opensTuplet_27 : decode cX0_opensTuplet 27 = .ok (.iconst 3, 1) := by decide +kernel
theorem dX0_opensTuplet_28 : decode cX0_opensTuplet 28 = .ok (.invokevirtual 54, 3) := by decide +kernel
theorem dX0_opensTuplet_31 : decode cX0_opensTuplet 31 = .ok (.ireturn, 1) := by decide +kernel
theorem dX0_closesTuplet_0 : decode cX0_closesTuplet 0 = .ok (.aload_n 0, 1) := by decide +kernel
theorem dX0_closesTuplet_1 : decode cX0_closesTuplet 1 = .ok (.getfield 32, 3) := by decide +kernel
theorem dX0_closesTuplet_4 : decode cX0_closesTuplet 4 = .ok (.iconst 1, 1) := by decide +kernel
theorem dX0_closesTuplet_5 : decode cX0_closesTuplet 5 = .ok (.if_icmp .lt 10, 3) := by decide +kernel
theorem dX0_closesTuplet_8 : decode cX0_closesTuplet 8 = .ok (.aload_n 0, 1) := by decide +kernel
theorem dX0_closesTuplet_9 : decode cX0_closesTuplet 9 = .ok (.getfield 39, 3) := by decide +kernel
theorem dX0_closesTuplet_12 : decode cX0_closesTuplet 12 = .ok (.ifCond .ne 5, 3) := by decide +kernel
theorem dX0_closesTuplet_15 : decode cX0_closesTuplet 15 = .ok (.iconst 0, 1) := by decide +kernel
theorem dX0_closesTuplet_16 : decode cX0_closesTuplet 16 = .ok (.ireturn, 1) := by decide +kernel
theorem dX0_closesTuplet_17 : decode cX0_closesTuplet 17 = .ok (.aload_n 0, 1) := by decide +kernel
theorem dX0_closesTuplet_18 : decode cX0_closesTuplet 18 = .ok (.dup, 1) := by decide +kernel
theorem dX0_closesTuplet_19 : decode cX0_closesTuplet 19 = .ok (.getfield 32, 3) := by decide +kernel
theorem dX0_closesTuplet_22 : decode cX0_closesTuplet 22 = .ok (.iconst 1, 1) := by decide +kernel
theorem dX0_closesTuplet_23 : decode cX0_closesTuplet 23 = .ok (.isub, 1) := by decide +kernel
theorem dX0_closesTuplet_24 : decode cX0_closesTuplet 24 = .ok (.putfield 32, 3) := by decide +kernel
theorem dX0_closesTuplet_27 : decode cX0_closesTuplet 27 = .ok (.iconst 1, 1) := by decide +kernel
theorem dX0_closesTuplet_28 : decode cX0_closesTuplet 28 = .ok (.ireturn, 1) := by decide +kernel
theorem dX0_opensRepeat_0 : decode cX0_opensRepeat 0 = .ok (.aload_n 0, 1) := by decide +kernel
theorem dX0_opensRepeat_1 : decode cX0_opensRepeat 1 = .ok (.getfield 32, 3) := by decide +kernel
theorem dX0_opensRepeat_4 : decode cX0_opensRepeat 4 = .ok (.ifCond .gt 10, 3) := by decide +kernel
theorem dX0_opensRepeat_7 : decode cX0_opensRepeat 7 = .ok (.aload_n 0, 1) := by decide +kernel
theorem dX0_opensRepeat_8 : decode cX0_opensRepeat 8 = .ok (.getfield 35, 3) := by decide +kernel
theorem dX0_opensRepeat_11 : decode cX0_opensRepeat 11 = .ok (.ifCond .eq 5, 3) := by decide +kernel
theorem dX0_opensRepeat_14 : decode cX0_opensRepeat 14 = .ok (.iconst 0, 1) := by decide +kernel
theorem dX0_opensRepeat_15 : decode cX0_opensRepeat 15 = .ok (.ireturn, 1) := by decide +kernel
theorem dX0_opensRepeat_16 : decode cX0_opensRepeat 16 = .ok (.aload_n 0, 1) := by decide +kernel
theorem dX0_opensRepeat_17 : decode cX0_opensRepeat 17 = .ok (.iconst 1, 1) := by decide +kernel
theorem dX0_opensRepeat_18 : decode cX0_opensRepeat 18 = .ok (.putfield 35, 3) := by decide +kernel
theorem dX0_opensRepeat_21 : decode cX0_opensRepeat 21 = .ok (.iconst 1, 1) := by decide +kernel
theorem dX0_opensRepeat_22 : decode cX0_opensRepeat 22 = .ok (.ireturn, 1) := by decide +kernel
theorem dX0_closesRepeat_0 : decode cX0_closesRepeat 0 = .ok (.aload_n 0, 1) := by decide +kernel
theorem dX0_closesRepeat_1 : decode cX0_closesRepeat 1 = .ok (.getfield 32, 3) := by decide +kernel
theorem dX0_closesRepeat_4 : decode cX0_closesRepeat 4 = .ok (.ifCond .gt 10, 3) := by decide +kernel
theorem dX0_closesRepeat_7 : decode cX0_closesRepeat 7 = .ok (.aload_n 0, 1) := by decide +kernel
theorem dX0_closesRepeat_8 : decode cX0_closesRepeat 8 = .ok (.getfield 35, 3) := by decide +kernel
theorem dX0_closesRepeat_11 : decode cX0_closesRepeat 11 = .ok (.ifCond .ne 5, 3) := by decide +kernel
theorem dX0_closesRepeat_14 : decode cX0_closesRepeat 14 = .ok (.iconst 0, 1) := by decide +kernel
theorem dX0_closesRepeat_15 : decode cX0_closesRepeat 15 = .ok (.ireturn, 1) := by decide +kernel
theorem dX0_closesRepeat_16 : decode cX0_closesRepeat 16 = .ok (.aload_n 0, 1) := by decide +kernel
theorem dX0_closesRepeat_17 : decode cX0_closesRepeat 17 = .ok (.iconst 0, 1) := by decide +kernel
theorem dX0_closesRepeat_18 : decode cX0_closesRepeat 18 = .ok (.putfield 35, 3) := by decide +kernel
theorem dX0_closesRepeat_21 : decode cX0_closesRepeat 21 = .ok (.aload_n 0, 1) := by decide +kernel
theorem dX0_closesRepeat_22 : decode cX0_closesRepeat 22 = .ok (.iconst 1, 1) := by decide +kernel
theorem dX0_closesRepeat_23 : decode cX0_closesRepeat 23 = .ok (.bipush 8, 2) := by decide +kernel
theorem dX0_closesRepeat_25 : decode cX0_closesRepeat 25 = .ok (.invokevirtual 54, 3) := by decide +kernel
theorem dX0_closesRepeat_28 : decode cX0_closesRepeat 28 = .ok (.ireturn, 1) := by decide +kernel
theorem dX1_halvings_0 : decode cX1_halvings 0 = .ok (.iload_n 0, 1) := by decide +kernel
theorem dX1_halvings_1 : decode cX1_halvings 1 = .ok (.bipush 32, 2) := by decide +kernel
theorem dX1_halvings_3 : decode cX1_halvings 3 = .ok (.if_icmp .lt 9, 3) := by decide +kernel
theorem dX1_halvings_6 : decode cX1_halvings 6 = .ok (.iload_n 0, 1) := by decide +kernel
theorem dX1_halvings_7 : decode cX1_halvings 7 = .ok (.bipush 126, 2) := by decide +kernel
theorem dX1_halvings_9 : decode cX1_halvings 9 = .ok (.if_icmp .le 7, 3) := by decide +kernel
theorem dX1_halvings_12 : decode cX1_halvings 12 = .ok (.iconst (-1), 1) := by decide +kernel
theorem dX1_halvings_13 : decode cX1_halvings 13 = .ok (.goto 10, 3) := by decide +kernel
theorem dX1_halvings_16 : decode cX1_halvings 16 = .ok (.ldc 9, 2) := by decide +kernel
theorem dX1_halvings_18 : decode cX1_halvings 18 = .ok (.iload_n 0, 1) := by decide +kernel
theorem dX1_halvings_19 : decode cX1_halvings 19 = .ok (.i2c, 1) := by decide +kernel
theorem dX1_halvings_20 : decode cX1_halvings 20 = .ok (.invokevirtual 11, 3) := by decide +kernel
theorem dX1_halvings_23 : decode cX1_halvings 23 = .ok (.ireturn, 1) := by decide +kernel
theorem dX1_digit_0 : decode cX1_digit 0 = .ok (.iload_n 0, 1) := by decide +kernel
theorem dX1_digit_1 : decode cX1_digit 1 = .ok (.bipush 48, 2) := by decide +kernel
theorem dX1_digit_3 : decode cX1_digit 3 = .ok (.if_icmp .lt 16, 3) := by decide +kernel
theorem dX1_digit_6 : decode cX1_digit 6 = .ok (.iload_n 0, 1) := by decide +kernel
theorem dX1_digit_7 : decode cX1_digit 7 = .ok (.bipush 57, 2) := by decide +kernel
theorem dX1_digit_9 : decode cX1_digit 9 = .ok (.if_icmp .gt 10, 3) := by decide +kernel
theorem dX1_digit_12 : decode cX1_digit 12 = .ok (.iload_n 0, 1) := by decide +kernel
theorem dX1_digit_13 : decode cX1_digit 13 = .ok (.bipush 48, 2) := by decide +kernel
theorem dX1_digit_15 : decode cX1_digit 15 = .ok (.isub, 1) := by decide +kernel
theorem dX1_digit_16 : decode cX1_digit 16 = .ok (.goto 4, 3) := by decide +kernel
theorem dX1_digit_19 : decode cX1_digit 19 = .ok (.iconst (-1), 1) := by decide +kernel
theorem dX1_digit_20 : decode cX1_digit 20 = .ok (.ireturn, 1) := by decide +kernel
theorem dX2_init_0 : decode cX2_init 0 = .ok (.aload_n 0, 1) := by decide +kernel
theorem dX2_init_1 : decode cX2_init 1 = .ok (.invokespecial 3, 3) := by decide +kernel
theorem dX2_init_4 : decode cX2_init 4 = .ok (.aload_n 0, 1) := by decide +kernel
theorem dX2_init_5 : decode cX2_init 5 = .ok (.iconst 4, 1) := by decide +kernel
theorem dX2_init_6 : decode cX2_init 6 = .ok (.newarray .int, 2) := by decide +kernel
theorem dX2_init_8 : decode cX2_init 8 = .ok (.putfield 9, 3) := by decide +kernel
theorem dX2_init_11 : decode cX2_init 11 = .ok (.return_, 1) := by decide +kernel
theorem dX2_now_0 : decode cX2_now 0 = .ok (.aload_n 0, 1) := by decide +kernel
theorem dX2_now_1 : decode cX2_now 1 = .ok (.getfield 15, 3) := by decide +kernel
theorem dX2_now_4 : decode cX2_now 4 = .ok (.lreturn, 1) := by decide +kernel
theorem dX2_set_0 : decode cX2_set 0 = .ok (.aload_n 0, 1) := by decide +kernel
theorem dX2_set_1 : decode cX2_set 1 = .ok (.getfield 19, 3) := by decide +kernel
theorem dX2_set_4 : decode cX2_set 4 = .ok (.ireturn, 1) := by decide +kernel
theorem dX2_start_0 : decode cX2_start 0 = .ok (.iconst 0, 1) := by decide +kernel
theorem dX2_start_1 : decode cX2_start 1 = .ok (.istore_n 1, 1) := by decide +kernel
theorem dX2_start_2 : decode cX2_start 2 = .ok (.iload_n 1, 1) := by decide +kernel
theorem dX2_start_3 : decode cX2_start 3 = .ok (.iconst 4, 1) := by decide +kernel
theorem dX2_start_4 : decode cX2_start 4 = .ok (.if_icmp .ge 16, 3) := by decide +kernel
theorem dX2_start_7 : decode cX2_start 7 = .ok (.aload_n 0, 1) := by decide +kernel
theorem dX2_start_8 : decode cX2_start 8 = .ok (.getfield 9, 3) := by decide +kernel
theorem dX2_start_11 : decode cX2_start 11 = .ok (.iload_n 1, 1) := by decide +kernel
theorem dX2_start_12 : decode cX2_start 12 = .ok (.iconst 0, 1) := by decide +kernel
theorem dX2_start_13 : decode cX2_start 13 = .ok (.iastore, 1) := by decide +kernel
theorem dX2_start_14 : decode cX2_start 14 = .ok (.iinc 1 1, 3) := by decide +kernel
theorem dX2_start_17 : decode cX2_start 17 = .ok (.goto (-15), 3) := by decide +kernel
theorem dX2_start_20 : decode cX2_start 20 = .ok (.aload_n 0, 1) := by decide +kernel
theorem dX2_start_21 : decode cX2_start 21 = .ok (.lconst 0, 1) := by decide +kernel
theorem dX2_start_22 : decode cX2_start 22 = .ok (.putfield 15, 3) := by decide +kernel
theorem dX2_start_25 : decode cX2_start 25 = .ok (.aload_n 0, 1) := by decide +kernel
theorem dX2_start_26 : decode cX2_start 26 = .ok (.iconst 0, 1) := by decide +kernel
theorem dX2_start_27 : decode cX2_start 27 = .ok (.putfield 19, 3) := by decide +kernel
theorem dX2_start_30 : decode cX2_start 30 = .ok (.return_, 1) := by decide +kernel
theorem dX2_advance_0 : decode cX2_advance 0 = .ok (.aload_n 0, 1) := by decide +kernel
theorem dX2_advance_1 : decode cX2_advance 1 = .ok (.iconst 0, 1) := by decide +kernel
theorem dX2_advance_2 : decode cX2_advance 2 = .ok (.putfield 19, 3) := by decide +kernel
theorem dX2_advance_5 : decode cX2_advance 5 = .ok (.iconst 0, 1) := by decide +kernel
theorem dX2_advance_6 : decode cX2_advance 6 = .ok (.istore_n 2, 1) := by decide +kernel
theorem dX2_advance_7 : decode cX2_advance 7 = .ok (.iload_n 2, 1) := by decide +kernel
theorem dX2_advance_8 : decode cX2_advance 8 = .ok (.iconst 4, 1) := by decide +kernel
theorem dX2_advance_9 : decode cX2_advance 9 = .ok (.if_icmp .ge 50, 3) := by decide +kernel
theorem dX2_advance_12 : decode cX2_advance 12 = .ok (.iload_n 2, 1) := by decide +kernel
theorem dX2_advance_13 : decode cX2_advance 13 = .ok (.aload_n 1, 1) := by decide +kernel
theorem dX2_advance_14 : decode cX2_advance 14 = .ok (.arraylength, 1) := by decide +kernel
theorem dX2_advance_15 : decode cX2_advance 15 = .ok (.if_icmp .ge 44, 3) := by decide +kernel
theorem dX2_advance_18 : decode cX2_advance 18 = .ok (.aload_n 1, 1) := by decide +kernel
theorem dX2_advance_19 : decode cX2_advance 19 = .ok (.iload_n 2, 1) := by decide +kernel
theorem dX2_advance_20 : decode cX2_advance 20 = .ok (.aaload, 1) := by decide +kernel
theorem dX2_advance_21 : decode cX2_advance 21 = .ok (.getfield 23, 3) := by decide +kernel
theorem dX2_advance_24 : decode cX2_advance 24 = .ok (.astore_n 3, 1) := by decide +kernel
theorem dX2_advance_25 : decode cX2_advance 25 = .ok (.aload_n 3, 1) := by decide +kernel
theorem dX2_advance_26 : decode cX2_advance 26 = .ok (.aload_n 0, 1) := by decide +kernel
theorem dX2_advance_27 : decode cX2_advance 27 = .ok (.getfield 9, 3) := by decide +kernel
theorem dX2_advance_30 : decode cX2_advance 30 = .ok (.iload_n 2, 1) := by decide +kernel
theorem dX2_advance_31 : decode cX2_advance 31 = .ok (.iaload, 1) := by decide +kernel
theorem dX2_advance_32 : decode cX2_advance 32 = .ok (.invokevirtual 29, 3) := by decide +kernel
theorem dX2_advance_35 : decode cX2_advance 35 = .ok (.ifCond .eq 18, 3) := by decide +kernel
theorem dX2_advance_38 : decode cX2_advance 38 = .ok (.aload_n 0, 1) := by decide +kernel
theorem dX2_advance_39 : decode cX2_advance 39 = .ok (.iload_n 2, 1) := by decide +kernel
theorem dX2_advance_40 : decode cX2_advance 40 = .ok (.aload_n 3, 1) := by decide +kernel
theorem dX2_advance_41 : decode cX2_advance 41 = .ok (.aload_n 0, 1) := by decide +kernel
theorem dX2_advance_42 : decode cX2_advance 42 = .ok (.getfield 9, 3) := by decide +kernel
theorem dX2_advance_45 : decode cX2_advance 45 = .ok (.iload_n 2, 1) := by decide +kernel
theorem dX2_advance_46 : decode cX2_advance 46 = .ok (.iaload, 1) := by decide +kernel
theorem dX2_advance_47 : decode cX2_advance 47 = .ok (.invokevirtual 35, 3) := by decide +kernel
theorem dX2_advance_50 : decode cX2_advance 50 = .ok (.invokevirtual 39, 3) := by decide +kernel
theorem dX2_advance_53 : decode cX2_advance 53 = .ok (.iinc 2 1, 3) := by decide +kernel
theorem dX2_advance_56 : decode cX2_advance 56 = .ok (.goto (-49), 3) := by decide +kernel
theorem dX2_advance_59 : decode cX2_advance 59 = .ok (.iconst 0, 1) := by decide +kernel
theorem dX2_advance_60 : decode cX2_advance 60 = .ok (.istore_n 2, 1) := by decide +kernel
theorem dX2_advance_61 : decode cX2_advance 61 = .ok (.iload_n 2, 1) := by decide +kernel
theorem dX2_advance_62 : decode cX2_advance 62 = .ok (.iconst 4, 1) := by decide +kernel
theorem dX2_advance_63 : decode cX2_advance 63 = .ok (.if_icmp .ge 26, 3) := by decide +kernel
theorem dX2_advance_66 : decode cX2_advance 66 = .ok (.aload_n 0, 1) := by decide +kernel
theorem dX2_advance_67 : decode cX2_advance 67 = .ok (.getfield 9, 3) := by decide +kernel
theorem dX2_advance_70 : decode cX2_advance 70 = .ok (.iload_n 2, 1) := by decide +kernel
theorem dX2_advance_71 : decode cX2_advance 71 = .ok (.dup2, 1) := by decide +kernel
theorem dX2_advance_72 : decode cX2_advance 72 = .ok (.iaload, 1) := by decide +kernel
theorem dX2_advance_73 : decode cX2_advance 73 = .ok (.aload_n 0, 1) := by decide +kernel
theorem dX2_advance_74 : decode cX2_advance 74 = .ok (.getfield 19, 3) := by decide +kernel
theorem dX2_advance_77 : decode cX2_advance 77 = .ok (.iload_n 2, 1) := by decide +kernel
theorem dX2_advance_78 : decode cX2_advance 78 = .ok (.ishr, 1) := by decide +kernel
theorem dX2_advance_79 : decode cX2_advance 79 = .ok (.iconst 1, 1) := by decide +kernel
theorem dX2_advance_80 : decode cX2_advance 80 = .ok (.iand, 1) := by decide +kernel
theorem dX2_advance_81 : decode cX2_advance 81 = .ok (.iadd, 1) := by decide +kernel
theorem dX2_advance_82 : decode cX2_advance 82 = .ok (.iastore, 1) := by decide +kernel
theorem dX2_advance_83 : decode cX2_advance 83 = .ok (.iinc 2 1, 3) := by decide +kernel
theorem dX2_advance_86 : decode cX2_advance 86 = .ok (.goto (-25), 3) := by decide +kernel
theorem dX2_advance_89 : decode cX2_advance 89 = .ok (.aload_n 0, 1) := by decide +kernel
theorem dX2_advance_90 : decode cX2_advance 90 = .ok (.getfield 19, 3) := by decide +kernel
theorem dX2_advance_93 : decode cX2_advance 93 = .ok (.ifCond .eq 7, 3) := by decide +kernel
theorem dX2_advance_96 : decode cX2_advance 96 = .ok (.iconst 1, 1) := by decide +kernel
theorem dX2_advance_97 : decode cX2_advance 97 = .ok (.goto 4, 3) := by decide +kernel
theorem dX2_advance_100 : decode cX2_advance 100 = .ok (.iconst 0, 1) := by decide +kernel
theorem dX2_advance_101 : decode cX2_advance 101 = .ok (.ireturn, 1) := by decide +kernel
theorem dX2_offer_0 : decode cX2_offer 0 = .ok (.aload_n 0, 1) := by decide +kernel
theorem dX2_offer_1 : decode cX2_offer 1 = .ok (.getfield 19, 3) := by decide +kernel
theorem dX2_offer_4 : decode cX2_offer 4 = .ok (.ifCond .eq 12, 3) := by decide +kernel
theorem dX2_offer_7 : decode cX2_offer 7 = .ok (.lload_n 2, 1) := by decide +kernel
theorem dX2_offer_8 : decode cX2_offer 8 = .ok (.aload_n 0, 1) := by decide +kernel
theorem dX2_offer_9 : decode cX2_offer 9 = .ok (.getfield 15, 3) := by decide +kernel
theorem dX2_offer_12 : decode cX2_offer 12 = .ok (.lcmp, 1) := by decide +kernel
theorem dX2_offer_13 : decode cX2_offer 13 = .ok (.ifCond .ge 18, 3) := by decide +kernel
theorem dX2_offer_16 : decode cX2_offer 16 = .ok (.aload_n 0, 1) := by decide +kernel
theorem dX2_offer_17 : decode cX2_offer 17 = .ok (.lload_n 2, 1) := by decide +kernel
theorem dX2_offer_18 : decode cX2_offer 18 = .ok (.putfield 15, 3) := by decide +kernel
theorem dX2_offer_21 : decode cX2_offer 21 = .ok (.aload_n 0, 1) := by decide +kernel
theorem dX2_offer_22 : decode cX2_offer 22 = .ok (.iconst 1, 1) := by decide +kernel
theorem dX2_offer_23 : decode cX2_offer 23 = .ok (.iload_n 1, 1) := by decide +kernel
theorem dX2_offer_24 : decode cX2_offer 24 = .ok (.ishl, 1) := by decide +kernel
theorem dX2_offer_25 : decode cX2_offer 25 = .ok (.putfield 19, 3) := by decide +kernel
theorem dX2_offer_28 : decode cX2_offer 28 = .ok (.goto 24, 3) := by decide +kernel
theorem dX2_offer_31 : decode cX2_offer 31 = .ok (.lload_n 2, 1) := by decide +kernel
theorem dX2_offer_32 : decode cX2_offer 32 = .ok (.aload_n 0, 1) := by decide +kernel
theorem dX2_offer_33 : decode cX2_offer 33 = .ok (.getfield 15, 3) := by decide +kernel
theorem dX2_offer_36 : decode cX2_offer 36 = .ok (.lcmp, 1) := by decide +kernel
theorem dX2_offer_37 : decode cX2_offer 37 = .ok (.ifCond .ne 15, 3) := by decide +kernel
theorem dX2_offer_40 : decode cX2_offer 40 = .ok (.aload_n 0, 1) := by decide +kernel
theorem dX2_offer_41 : decode cX2_offer 41 = .ok (.dup, 1) := by decide +kernel
theorem dX2_offer_42 : decode cX2_offer 42 = .ok (.getfield 19, 3) := by decide +kernel
theorem dX2_offer_45 : decode cX2_offer 45 = .ok (.iconst 1, 1) := by decide +kernel
theorem dX2_offer_46 : decode cX2_offer 46 = .ok (.iload_n 1, 1) := by decide +kernel
theorem dX2_offer_47 : decode cX2_offer 47 = .ok (.ishl, 1) := by decide +kernel
theorem dX2_offer_48 : decode cX2_offer 48 = .ok (.ior, 1) := by decide +kernel
theorem dX2_offer_49 : decode cX2_offer 49 = .ok (.putfield 19, 3) := by decide +kernel
theorem dX2_offer_52 : decode cX2_offer 52 = .ok (.return_, 1) := by decide +kernel
theorem dX3_init_0 : decode cX3_init 0 = .ok (.aload_n 0, 1) := by decide +kernel
theorem dX3_init_1 : decode cX3_init 1 = .ok (.invokespecial 3, 3) := by decide +kernel
theorem dX3_init_4 : decode cX3_init 4 = .ok (.aload_n 0, 1) := by decide +kernel
theorem dX3_init_5 : decode cX3_init 5 = .ok (.new 9, 3) := by decide +kernel
theorem dX3_init_8 : decode cX3_init 8 = .ok (.dup, 1) := by decide +kernel
theorem dX3_init_9 : decode cX3_init 9 = .ok (.bipush 100, 2) := by decide +kernel
theorem dX3_init_11 : decode cX3_init 11 = .ok (.invokespecial 11, 3) := by decide +kernel
theorem dX3_init_14 : decode cX3_init 14 = .ok (.putfield 14, 3) := by decide +kernel
theorem dX3_init_17 : decode cX3_init 17 = .ok (.aload_n 0, 1) := by decide +kernel
theorem dX3_init_18 : decode cX3_init 18 = .ok (.new 9, 3) := by decide +kernel
theorem dX3_init_21 : decode cX3_init 21 = .ok (.dup, 1) := by decide +kernel
theorem dX3_init_22 : decode cX3_init 22 = .ok (.sipush 900, 3) := by decide +kernel
theorem dX3_init_25 : decode cX3_init 25 = .ok (.invokespecial 11, 3) := by decide +kernel
theorem dX3_init_28 : decode cX3_init 28 = .ok (.putfield 20, 3) := by decide +kernel
theorem dX3_init_31 : decode cX3_init 31 = .ok (.aload_n 0, 1) := by decide +kernel
theorem dX3_init_32 : decode cX3_init 32 = .ok (.new 23, 3) := by decide +kernel
theorem dX3_init_35 : decode cX3_init 35 = .ok (.dup, 1) := by decide +kernel
theorem dX3_init_36 : decode cX3_init 36 = .ok (.invokespecial 25, 3) := by decide +kernel
theorem dX3_init_39 : decode cX3_init 39 = .ok (.putfield 26, 3) := by decide +kernel
theorem dX3_init_42 : decode cX3_init 42 = .ok (.return_, 1) := by decide +kernel
theorem dX3_take_0 : decode cX3_take 0 = .ok (.aload_n 0, 1) := by decide +kernel
theorem dX3_take_1 : decode cX3_take 1 = .ok (.getfield 14, 3) := by decide +kernel
theorem dX3_take_4 : decode cX3_take 4 = .ok (.aload_n 1, 1) := by decide +kernel
theorem dX3_take_5 : decode cX3_take 5 = .ok (.invokevirtual 30, 3) := by decide +kernel
theorem dX3_take_8 : decode cX3_take 8 = .ok (.aload_n 0, 1) := by decide +kernel
theorem dX3_take_9 : decode cX3_take 9 = .ok (.getfield 14, 3) := by decide +kernel
theorem dX3_take_12 : decode cX3_take 12 = .ok (.aload_n 0, 1) := by decide +kernel
theorem dX3_take_13 : decode cX3_take 13 = .ok (.getfield 20, 3) := by decide +kernel
theorem dX3_take_16 : decode cX3_take 16 = .ok (.invokestatic 34, 3) := by decide +kernel
theorem dX3_take_19 : decode cX3_take 19 = .ok (.aload_n 0, 1) := by decide +kernel
theorem dX3_take_20 : decode cX3_take 20 = .ok (.getfield 26, 3) := by decide +kernel
theorem dX3_take_23 : decode cX3_take 23 = .ok (.aload_n 0, 1) := by decide +kernel
theorem dX3_take_24 : decode cX3_take 24 = .ok (.getfield 20, 3) := by decide +kernel
theorem dX3_take_27 : decode cX3_take 27 = .ok (.invokevirtual 40, 3) := by decide +kernel
theorem dX3_take_30 : decode cX3_take 30 = .ok (.return_, 1) := by decide +kernel
theorem dX4_init_0 : decode cX4_init 0 = .ok (.aload_n 0, 1) := by decide +kernel
theorem dX4_init_1 : decode cX4_init 1 = .ok (.invokespecial 3, 3) := by decide +kernel
theorem dX4_init_4 : decode cX4_init 4 = .ok (.aload_n 0, 1) := by decide +kernel
theorem dX4_init_5 : decode cX4_init 5 = .ok (.sipush 300, 3) := by decide +kernel
theorem dX4_init_8 : decode cX4_init 8 = .ok (.newarray .long, 2) := by decide +kernel
theorem dX4_init_10 : decode cX4_init 10 = .ok (.putfield 9, 3) := by decide +kernel
theorem dX4_init_13 : decode cX4_init 13 = .ok (.aload_n 0, 1) := by decide +kernel
theorem dX4_init_14 : decode cX4_init 14 = .ok (.sipush 300, 3) := by decide +kernel
theorem dX4_init_17 : decode cX4_init 17 = .ok (.newarray .long, 2) := by decide +kernel
theorem dX4_init_19 : decode cX4_init 19 = .ok (.putfield 15, 3) := by decide +kernel
theorem dX4_init_22 : decode cX4_init 22 = .ok (.aload_n 0, 1) := by decide +kernel
theorem dX4_init_23 : decode cX4_init 23 = .ok (.sipush 300, 3) := by decide +kernel
theorem dX4_init_26 : decode cX4_init 26 = .ok (.newarray .int, 2) := by decide +kernel
theorem dX4_init_28 : decode cX4_init 28 = .ok (.putfield 18, 3) := by decide +kernel
theorem dX4_init_31 : decode cX4_init 31 = .ok (.aload_n 0, 1) := by decide +kernel
theorem dX4_init_32 : decode cX4_init 32 = .ok (.sipush 300, 3) := by decide +kernel
theorem dX4_init_35 : decode cX4_init 35 = .ok (.newarray .int, 2) := by decide +kernel
theorem dX4_init_37 : decode cX4_init 37 = .ok (.putfield 22, 3) := by decide +kernel
theorem dX4_init_40 : decode cX4_init 40 = .ok (.aload_n 0, 1) := by decide +kernel
theorem dX4_init_41 : decode cX4_init 41 = .ok (.sipush 300, 3) := by decide +kernel
theorem dX4_init_44 : decode cX4_init 44 = .ok (.newarray .boolean, 2) := by decide +kernel
theorem dX4_init_46 : decode cX4_init 46 = .ok (.putfield 25, 3) := by decide +kernel
theorem dX4_init_49 : decode cX4_init 49 = .ok (.aload_n 0, 1) := by decide +kernel
theorem dX4_init_50 : decode cX4_init 50 = .ok (.sipush 901, 3) := by decide +kernel
theorem dX4_init_53 : decode cX4_init 53 = .ok (.newarray .long, 2) := by decide +kernel
theorem dX4_init_55 : decode cX4_init 55 = .ok (.putfield 29, 3) := by decide +kernel
theorem dX4_init_58 : decode cX4_init 58 = .ok (.aload_n 0, 1) := by decide +kernel
theorem dX4_init_59 : decode cX4_init 59 = .ok (.new 32, 3) := by decide +kernel
theorem dX4_init_62 : decode cX4_init 62 = .ok (.dup, 1) := by decide +kernel
theorem dX4_init_63 : decode cX4_init 63 = .ok (.invokespecial 34, 3) := by decide +kernel
theorem dX4_init_66 : decode cX4_init 66 = .ok (.putfield 35, 3) := by decide +kernel
theorem dX4_init_69 : decode cX4_init 69 = .ok (.aload_n 0, 1) := by decide +kernel
theorem dX4_init_70 : decode cX4_init 70 = .ok (.invokevirtual 39, 3) := by decide +kernel
theorem dX4_init_73 : decode cX4_init 73 = .ok (.return_, 1) := by decide +kernel
theorem dX4_count_0 : decode cX4_count 0 = .ok (.aload_n 0, 1) := by decide +kernel
theorem dX4_count_1 : decode cX4_count 1 = .ok (.getfield 42, 3) := by decide +kernel
theorem dX4_count_4 : decode cX4_count 4 = .ok (.ireturn, 1) := by decide +kernel
theorem dX4_barCount_0 : decode cX4_barCount 0 = .ok (.aload_n 0, 1) := by decide +kernel
theorem dX4_barCount_1 : decode cX4_barCount 1 = .ok (.getfield 46, 3) := by decide +kernel
theorem dX4_barCount_4 : decode cX4_barCount 4 = .ok (.ireturn, 1) := by decide +kernel
theorem dX4_total_0 : decode cX4_total 0 = .ok (.aload_n 0, 1) := by decide +kernel
theorem dX4_total_1 : decode cX4_total 1 = .ok (.getfield 49, 3) := by decide +kernel
theorem dX4_total_4 : decode cX4_total 4 = .ok (.lreturn, 1) := by decide +kernel
theorem dX4_hasEvent_0 : decode cX4_hasEvent 0 = .ok (.iload_n 1, 1) := by decide +kernel
theorem dX4_hasEvent_1 : decode cX4_hasEvent 1 = .ok (.ifCond .lt 15, 3) := by decide +kernel
theorem dX4_hasEvent_4 : decode cX4_hasEvent 4 = .ok (.iload_n 1, 1) := by decide +kernel
theorem dX4_hasEvent_5 : decode cX4_hasEvent 5 = .ok (.aload_n 0, 1) := by decide +kernel
theorem dX4_hasEvent_6 : decode cX4_hasEvent 6 = .ok (.getfield 42, 3) := by decide +kernel
theorem dX4_hasEvent_9 : decode cX4_hasEvent 9 = .ok (.if_icmp .ge 7, 3) := by decide +kernel
theorem dX4_hasEvent_12 : decode cX4_hasEvent 12 = .ok (.iconst 1, 1) := by decide +kernel
theorem dX4_hasEvent_13 : decode cX4_hasEvent 13 = .ok (.goto 4, 3) := by decide +kernel
theorem dX4_hasEvent_16 : decode cX4_hasEvent 16 = .ok (.iconst 0, 1) := by decide +kernel
theorem dX4_hasEvent_17 : decode cX4_hasEvent 17 = .ok (.ireturn, 1) := by decide +kernel
theorem dX4_hasBar_0 : decode cX4_hasBar 0 = .ok (.iload_n 1, 1) := by decide +kernel
theorem dX4_hasBar_1 : decode cX4_hasBar 1 = .ok (.ifCond .lt 15, 3) := by decide +kernel
theorem dX4_hasBar_4 : decode cX4_hasBar 4 = .ok (.iload_n 1, 1) := by decide +kernel
theorem dX4_hasBar_5 : decode cX4_hasBar 5 = .ok (.aload_n 0, 1) := by decide +kernel
theorem dX4_hasBar_6 : decode cX4_hasBar 6 = .ok (.getfield 46, 3) := by decide +kernel
theorem dX4_hasBar_9 : decode cX4_hasBar 9 = .ok (.if_icmp .ge 7, 3) := by decide +kernel
theorem dX4_hasBar_12 : decode cX4_hasBar 12 = .ok (.iconst 1, 1) := by decide +kernel
theorem dX4_hasBar_13 : decode cX4_hasBar 13 = .ok (.goto 4, 3) := by decide +kernel
theorem dX4_hasBar_16 : decode cX4_hasBar 16 = .ok (.iconst 0, 1) := by decide +kernel
theorem dX4_hasBar_17 : decode cX4_hasBar 17 = .ok (.ireturn, 1) := by decide +kernel
theorem dX4_begin_0 : decode cX4_begin 0 = .ok (.aload_n 0, 1) := by decide +kernel
theorem dX4_begin_1 : decode cX4_begin 1 = .ok (.iload_n 1, 1) := by decide +kernel
theorem dX4_begin_2 : decode cX4_begin 2 = .ok (.invokevirtual 53, 3) := by decide +kernel
theorem dX4_begin_5 : decode cX4_begin 5 = .ok (.ifCond .eq 12, 3) := by decide +kernel
theorem dX4_begin_8 : decode cX4_begin 8 = .ok (.aload_n 0, 1) := by decide +kernel
theorem dX4_begin_9 : decode cX4_begin 9 = .ok (.getfield 9, 3) := by decide +kernel
theorem dX4_begin_12 : decode cX4_begin 12 = .ok (.iload_n 1, 1) := by decide +kernel
theorem dX4_begin_13 : decode cX4_begin 13 = .ok (.laload, 1) := by decide +kernel
theorem dX4_begin_14 : decode cX4_begin 14 = .ok (.goto 4, 3) := by decide +kernel
theorem dX4_begin_17 : decode cX4_begin 17 = .ok (.lconst 0, 1) := by decide +kernel
theorem dX4_begin_18 : decode cX4_begin 18 = .ok (.lreturn, 1) := by decide +kernel
theorem dX4_end_0 : decode cX4_end 0 = .ok (.aload_n 0, 1) := by decide +kernel
theorem dX4_end_1 : decode cX4_end 1 = .ok (.iload_n 1, 1) := by decide +kernel
theorem dX4_end_2 : decode cX4_end 2 = .ok (.invokevirtual 53, 3) := by decide +kernel
theorem dX4_end_5 : decode cX4_end 5 = .ok (.ifCond .eq 12, 3) := by decide +kernel
theorem dX4_end_8 : decode cX4_end 8 = .ok (.aload_n 0, 1) := by decide +kernel
theorem dX4_end_9 : decode cX4_end 9 = .ok (.getfield 15, 3) := by decide +kernel
theorem dX4_end_12 : decode cX4_end 12 = .ok (.iload_n 1, 1) := by decide +kernel
theorem dX4_end_13 : decode cX4_end 13 = .ok (.laload, 1) := by decide +kernel
theorem dX4_end_14 : decode cX4_end 14 = .ok (.goto 4, 3) := by decide +kernel
theorem dX4_end_17 : decode cX4_end 17 = .ok (.lconst 0, 1) := by decide +kernel
theorem dX4_end_18 : decode cX4_end 18 = .ok (.lreturn, 1) := by decide +kernel
theorem dX4_notesOf_0 : decode cX4_notesOf 0 = .ok (.aload_n 0, 1) := by decide +kernel
theorem dX4_notesOf_1 : decode cX4_notesOf 1 = .ok (.iload_n 1, 1) := by decide +kernel
theorem dX4_notesOf_2 : decode cX4_notesOf 2 = .ok (.invokevirtual 53, 3) := by decide +kernel
theorem dX4_notesOf_5 : decode cX4_notesOf 5 = .ok (.ifCond .eq 12, 3) := by decide +kernel
theorem dX4_notesOf_8 : decode cX4_notesOf 8 = .ok (.aload_n 0, 1) := by decide +kernel
theorem dX4_notesOf_9 : decode cX4_notesOf 9 = .ok (.getfield 18, 3) := by decide +kernel
theorem dX4_notesOf_12 : decode cX4_notesOf 12 = .ok (.iload_n 1, 1) := by decide +kernel
theorem dX4_notesOf_13 : decode cX4_notesOf 13 = .ok (.iaload, 1) := by decide +kernel
theorem dX4_notesOf_14 : decode cX4_notesOf 14 = .ok (.goto 4, 3) := by decide +kernel
theorem dX4_notesOf_17 : decode cX4_notesOf 17 = .ok (.iconst 0, 1) := by decide +kernel
theorem dX4_notesOf_18 : decode cX4_notesOf 18 = .ok (.ireturn, 1) := by decide +kernel
theorem dX4_barOf_0 : decode cX4_barOf 0 = .ok (.aload_n 0, 1) := by decide +kernel
theorem dX4_barOf_1 : decode cX4_barOf 1 = .ok (.iload_n 1, 1) := by decide +kernel
theorem dX4_barOf_2 : decode cX4_barOf 2 = .ok (.invokevirtual 53, 3) := by decide +kernel
theorem dX4_barOf_5 : decode cX4_barOf 5 = .ok (.ifCond .eq 12, 3) := by decide +kernel
theorem dX4_barOf_8 : decode cX4_barOf 8 = .ok (.aload_n 0, 1) := by decide +kernel
theorem dX4_barOf_9 : decode cX4_barOf 9 = .ok (.getfield 22, 3) := by decide +kernel
theorem dX4_barOf_12 : decode cX4_barOf 12 = .ok (.iload_n 1, 1) := by decide +kernel
theorem dX4_barOf_13 : decode cX4_barOf 13 = .ok (.iaload, 1) := by decide +kernel
theorem dX4_barOf_14 : decode cX4_barOf 14 = .ok (.goto 4, 3) := by decide +kernel
theorem dX4_barOf_17 : decode cX4_barOf 17 = .ok (.iconst 0, 1) := by decide +kernel
theorem dX4_barOf_18 : decode cX4_barOf 18 = .ok (.ireturn, 1) := by decide +kernel
theorem dX4_isAccented_0 : decode cX4_isAccented 0 = .ok (.aload_n 0, 1) := by decide +kernel
theorem dX4_isAccented_1 : decode cX4_isAccented 1 = .ok (.iload_n 1, 1) := by decide +kernel
theorem dX4_isAccented_2 : decode cX4_isAccented 2 = .ok (.invokevirtual 53, 3) := by decide +kernel
theorem dX4_isAccented_5 : decode cX4_isAccented 5 = .ok (.ifCond .eq 16, 3) := by decide +kernel
theorem dX4_isAccented_8 : decode cX4_isAccented 8 = .ok (.aload_n 0, 1) := by decide +kernel
theorem dX4_isAccented_9 : decode cX4_isAccented 9 = .ok (.getfield 25, 3) := by decide +kernel
theorem dX4_isAccented_12 : decode cX4_isAccented 12 = .ok (.iload_n 1, 1) := by decide +kernel
theorem dX4_isAccented_13 : decode cX4_isAccented 13 = .ok (.baload, 1) := by decide +kernel
theorem dX4_isAccented_14 : decode cX4_isAccented 14 = .ok (.ifCond .eq 7, 3) := by decide +kernel
theorem dX4_isAccented_17 : decode cX4_isAccented 17 = .ok (.iconst 1, 1) := by decide +kernel
theorem dX4_isAccented_18 : decode cX4_isAccented 18 = .ok (.goto 4, 3) := by decide +kernel
theorem dX4_isAccented_21 : decode cX4_isAccented 21 = .ok (.iconst 0, 1) := by decide +kernel
theorem dX4_isAccented_22 : decode cX4_isAccented 22 = .ok (.ireturn, 1) := by decide +kernel
theorem dX4_barLength_0 : decode cX4_barLength 0 = .ok (.aload_n 0, 1) := by decide +kernel
theorem dX4_barLength_1 : decode cX4_barLength 1 = .ok (.iload_n 1, 1) := by decide +kernel
theorem dX4_barLength_2 : decode cX4_barLength 2 = .ok (.invokevirtual 57, 3) := by decide +kernel
theorem dX4_barLength_5 : decode cX4_barLength 5 = .ok (.ifCond .eq 12, 3) := by decide +kernel
theorem dX4_barLength_8 : decode cX4_barLength 8 = .ok (.aload_n 0, 1) := by decide +kernel
theorem dX4_barLength_9 : decode cX4_barLength 9 = .ok (.getfield 29, 3) := by decide +kernel
theorem dX4_barLength_12 : decode cX4_barLength 12 = .ok (.iload_n 1, 1) := by decide +kernel
theorem dX4_barLength_13 : decode cX4_barLength 13 = .ok (.laload, 1) := by decide +kernel
theorem dX4_barLength_14 : decode cX4_barLength 14 = .ok (.goto 4, 3) := by decide +kernel
theorem dX4_barLength_17 : decode cX4_barLength 17 = .ok (.lconst 0, 1) := by decide +kernel
theorem dX4_barLength_18 : decode cX4_barLength 18 = .ok (.lreturn, 1) := by decide +kernel
theorem dX4_build_0 : decode cX4_build 0 = .ok (.aload_n 0, 1) := by decide +kernel
theorem dX4_build_1 : decode cX4_build 1 = .ok (.invokevirtual 39, 3) := by decide +kernel
theorem dX4_build_4 : decode cX4_build 4 = .ok (.iconst 0, 1) := by decide +kernel
theorem dX4_build_5 : decode cX4_build 5 = .ok (.istore_n 2, 1) := by decide +kernel
theorem dX4_build_6 : decode cX4_build 6 = .ok (.iload_n 2, 1) := by decide +kernel
theorem dX4_build_7 : decode cX4_build 7 = .ok (.aload_n 1, 1) := by decide +kernel
theorem dX4_build_8 : decode cX4_build 8 = .ok (.invokevirtual 60, 3) := by decide +kernel
theorem dX4_build_11 : decode cX4_build 11 = .ok (.if_icmp .ge 93, 3) := by decide +kernel
theorem dX4_build_14 : decode cX4_build 14 = .ok (.aload_n 1, 1) := by decide +kernel
theorem dX4_build_15 : decode cX4_build 15 = .ok (.iload_n 2, 1) := by decide +kernel
theorem dX4_build_16 : decode cX4_build 16 = .ok (.invokevirtual 66, 3) := by decide +kernel
theorem dX4_build_19 : decode cX4_build 19 = .ok (.istore_n 3, 1) := by decide +kernel
theorem dX4_build_20 : decode cX4_build 20 = .ok (.iload_n 3, 1) := by decide +kernel
theorem dX4_build_21 : decode cX4_build 21 = .ok (.bipush 124, 2) := by decide +kernel
theorem dX4_build_23 : decode cX4_build 23 = .ok (.if_icmp .ne 10, 3) := by decide +kernel
theorem dX4_build_26 : decode cX4_build 26 = .ok (.aload_n 0, 1) := by decide +kernel
theorem dX4_build_27 : decode cX4_build 27 = .ok (.invokevirtual 70, 3) := by decide +kernel
theorem dX4_build_30 : decode cX4_build 30 = .ok (.goto 68, 3) := by decide +kernel
theorem dX4_build_33 : decode cX4_build 33 = .ok (.iload_n 3, 1) := by decide +kernel
theorem dX4_build_34 : decode cX4_build 34 = .ok (.bipush 123, 2) := by decide +kernel
theorem dX4_build_36 : decode cX4_build 36 = .ok (.if_icmp .ne 33, 3) := by decide +kernel
theorem dX4_build_39 : decode cX4_build 39 = .ok (.aload_n 0, 1) := by decide +kernel
theorem dX4_build_40 : decode cX4_build 40 = .ok (.getfield 35, 3) := by decide +kernel
theorem dX4_build_43 : decode cX4_build 43 = .ok (.aload_n 1, 1) := by decide +kernel
theorem dX4_build_44 : decode cX4_build 44 = .ok (.iload_n 2, 1) := by decide +kernel
theorem dX4_build_45 : decode cX4_build 45 = .ok (.iconst 1, 1) := by decide +kernel
theorem dX4_build_46 : decode cX4_build 46 = .ok (.iadd, 1) := by decide +kernel
theorem dX4_build_47 : decode cX4_build 47 = .ok (.invokevirtual 66, 3) := by decide +kernel
theorem dX4_build_50 : decode cX4_build 50 = .ok (.invokestatic 73, 3) := by decide +kernel
theorem dX4_build_53 : decode cX4_build 53 = .ok (.aload_n 1, 1) := by decide +kernel
theorem dX4_build_54 : decode cX4_build 54 = .ok (.iload_n 2, 1) := by decide +kernel
theorem dX4_build_55 : decode cX4_build 55 = .ok (.iconst 3, 1) := by decide +kernel
theorem dX4_build_56 : decode cX4_build 56 = .ok (.iadd, 1) := by decide +kernel
theorem dX4_build_57 : decode cX4_build 57 = .ok (.invokevirtual 66, 3) := by decide +kernel
theorem dX4_build_60 : decode cX4_build 60 = .ok (.invokestatic 73, 3) := by decide +kernel
theorem dX4_build_63 : decode cX4_build 63 = .ok (.invokevirtual 78, 3) := by decide +kernel
theorem dX4_build_66 : decode cX4_build 66 = .ok (.goto 32, 3) := by decide +kernel
theorem dX4_build_69 : decode cX4_build 69 = .ok (.iload_n 3, 1) := by decide +kernel
theorem dX4_build_70 : decode cX4_build 70 = .ok (.bipush 125, 2) := by decide +kernel
theorem dX4_build_72 : decode cX4_build 72 = .ok (.if_icmp .ne 13, 3) := by decide +kernel
theorem dX4_build_75 : decode cX4_build 75 = .ok (.aload_n 0, 1) := by decide +kernel
theorem dX4_build_76 : decode cX4_build 76 = .ok (.getfield 35, 3) := by decide +kernel
theorem dX4_build_79 : decode cX4_build 79 = .ok (.invokevirtual 82, 3) := by decide +kernel
theorem dX4_build_82 : decode cX4_build 82 = .ok (.goto 16, 3) := by decide +kernel
theorem dX4_build_85 : decode cX4_build 85 = .ok (.iload_n 3, 1) := by decide +kernel
theorem dX4_build_86 : decode cX4_build 86 = .ok (.invokestatic 85, 3) := by decide +kernel
theorem dX4_build_89 : decode cX4_build 89 = .ok (.ifCond .lt 9, 3) := by decide +kernel
theorem dX4_build_92 : decode cX4_build 92 = .ok (.aload_n 0, 1) := by decide +kernel
theorem dX4_build_93 : decode cX4_build 93 = .ok (.aload_n 1, 1) := by decide +kernel
theorem dX4_build_94 : decode cX4_build 94 = .ok (.iload_n 2, 1) := by decide +kernel
theorem dX4_build_95 : decode cX4_build 95 = .ok (.invokevirtual 88, 3) := by decide +kernel
theorem dX4_build_98 : decode cX4_build 98 = .ok (.iinc 2 1, 3) := by decide +kernel
theorem dX4_build_101 : decode cX4_build 101 = .ok (.goto (-95), 3) := by decide +kernel
theorem dX4_build_104 : decode cX4_build 104 = .ok (.return_, 1) := by decide +kernel
theorem dX4_start_0 : decode cX4_start 0 = .ok (.aload_n 0, 1) := by decide +kernel
theorem dX4_start_1 : decode cX4_start 1 = .ok (.iconst 0, 1) := by decide +kernel
theorem dX4_start_2 : decode cX4_start 2 = .ok (.putfield 42, 3) := by decide +kernel
theorem dX4_start_5 : decode cX4_start 5 = .ok (.aload_n 0, 1) := by decide +kernel
theorem dX4_start_6 : decode cX4_start 6 = .ok (.iconst 1, 1) := by decide +kernel
theorem dX4_start_7 : decode cX4_start 7 = .ok (.putfield 46, 3) := by decide +kernel
theorem dX4_start_10 : decode cX4_start 10 = .ok (.aload_n 0, 1) := by decide +kernel
theorem dX4_start_11 : decode cX4_start 11 = .ok (.getfield 29, 3) := by decide +kernel
theorem dX4_start_14 : decode cX4_start 14 = .ok (.iconst 0, 1) := by decide +kernel
theorem dX4_start_15 : decode cX4_start 15 = .ok (.lconst 0, 1) := by decide +kernel
theorem dX4_start_16 : decode cX4_start 16 = .ok (.lastore, 1) := by decide +kernel
theorem dX4_start_17 : decode cX4_start 17 = .ok (.aload_n 0, 1) := by decide +kernel
theorem dX4_start_18 : decode cX4_start 18 = .ok (.lconst 0, 1) := by decide +kernel
theorem dX4_start_19 : decode cX4_start 19 = .ok (.putfield 49, 3) := by decide +kernel
theorem dX4_start_22 : decode cX4_start 22 = .ok (.aload_n 0, 1) := by decide +kernel
theorem dX4_start_23 : decode cX4_start 23 = .ok (.iconst 0, 1) := by decide +kernel
theorem dX4_start_24 : decode cX4_start 24 = .ok (.putfield 92, 3) := by decide +kernel
theorem dX4_start_27 : decode cX4_start 27 = .ok (.aload_n 0, 1) := by decide +kernel
theorem dX4_start_28 : decode cX4_start 28 = .ok (.getfield 35, 3) := by decide +kernel
theorem dX4_start_31 : decode cX4_start 31 = .ok (.invokevirtual 96, 3) := by decide +kernel
theorem dX4_start_34 : decode cX4_start 34 = .ok (.return_, 1) := by decide +kernel
theorem dX4_beginBar_0 : decode cX4_beginBar 0 = .ok (.aload_n 0, 1) := by decide +kernel
theorem dX4_beginBar_1 : decode cX4_beginBar 1 = .ok (.getfield 46, 3) := by decide +kernel
theorem dX4_beginBar_4 : decode cX4_beginBar 4 = .ok (.aload_n 0, 1) := by decide +kernel
theorem dX4_beginBar_5 : decode cX4_beginBar 5 = .ok (.getfield 29, 3) := by decide +kernel
theorem dX4_beginBar_8 : decode cX4_beginBar 8 = .ok (.arraylength, 1) := by decide +kernel
theorem dX4_beginBar_9 : decode cX4_beginBar 9 = .ok (.if_icmp .ge 23, 3) := by decide +kernel
theorem dX4_beginBar_12 : decode cX4_beginBar 12 = .ok (.aload_n 0, 1) := by decide +kernel
theorem dX4_beginBar_13 : decode cX4_beginBar 13 = .ok (.getfield 29, 3) := by decide +kernel
theorem dX4_beginBar_16 : decode cX4_beginBar 16 = .ok (.aload_n 0, 1) := by decide +kernel
theorem dX4_beginBar_17 : decode cX4_beginBar 17 = .ok (.getfield 46, 3) := by decide +kernel
theorem dX4_beginBar_20 : decode cX4_beginBar 20 = .ok (.lconst 0, 1) := by decide +kernel
theorem dX4_beginBar_21 : decode cX4_beginBar 21 = .ok (.lastore, 1) := by decide +kernel
theorem dX4_beginBar_22 : decode cX4_beginBar 22 = .ok (.aload_n 0, 1) := by decide +kernel
theorem dX4_beginBar_23 : decode cX4_beginBar 23 = .ok (.dup, 1) := by decide +kernel
theorem dX4_beginBar_24 : decode cX4_beginBar 24 = .ok (.getfield 46, 3) := by decide +kernel
theorem dX4_beginBar_27 : decode cX4_beginBar 27 = .ok (.iconst 1, 1) := by decide +kernel
theorem dX4_beginBar_28 : decode cX4_beginBar 28 = .ok (.iadd, 1) := by decide +kernel
theorem dX4_beginBar_29 : decode cX4_beginBar 29 = .ok (.putfield 46, 3) := by decide +kernel
theorem dX4_beginBar_32 : decode cX4_beginBar 32 = .ok (.return_, 1) := by decide +kernel
theorem dX4_addSound_0 : decode cX4_addSound 0 = .ok (.iconst 0, 1) := by decide +kernel
theorem dX4_addSound_1 : decode cX4_addSound 1 = .ok (.istore_n 3, 1) := by decide +kernel
theorem dX4_addSound_2 : decode cX4_addSound 2 = .ok (.iload_n 3, 1) := by decide +kernel
theorem dX4_addSound_3 : decode cX4_addSound 3 = .ok (.iconst 2, 1) := by decide +kernel
theorem dX4_addSound_4 : decode cX4_addSound 4 = .ok (.if_icmp .ge 23, 3) := by decide +kernel
theorem dX4_addSound_7 : decode cX4_addSound 7 = .ok (.aload_n 1, 1) := by decide +kernel
theorem dX4_addSound_8 : decode cX4_addSound 8 = .ok (.iload_n 2, 1) := by decide +kernel
theorem dX4_addSound_9 : decode cX4_addSound 9 = .ok (.iconst 1, 1) := by decide +kernel
theorem dX4_addSound_10 : decode cX4_addSound 10 = .ok (.iadd, 1) := by decide +kernel
theorem dX4_addSound_11 : decode cX4_addSound 11 = .ok (.iload_n 3, 1) := by decide +kernel
theorem dX4_addSound_12 : decode cX4_addSound 12 = .ok (.iadd, 1) := by decide +kernel
theorem dX4_addSound_13 : decode cX4_addSound 13 = .ok (.invokevirtual 66, 3) := by decide +kernel
theorem dX4_addSound_16 : decode cX4_addSound 16 = .ok (.bipush 46, 2) := by decide +kernel
theorem dX4_addSound_18 : decode cX4_addSound 18 = .ok (.if_icmp .ne 9, 3) := by decide +kernel
theorem dX4_addSound_21 : decode cX4_addSound 21 = .ok (.iinc 3 1, 3) := by decide +kernel
theorem dX4_addSound_24 : decode cX4_addSound 24 = .ok (.goto (-22), 3) := by decide +kernel
theorem dX4_addSound_27 : decode cX4_addSound 27 = .ok (.aload_n 0, 1) := by decide +kernel
theorem dX4_addSound_28 : decode cX4_addSound 28 = .ok (.getfield 35, 3) := by decide +kernel
theorem dX4_addSound_31 : decode cX4_addSound 31 = .ok (.ldc2_w 97, 3) := by decide +kernel
theorem dX4_addSound_34 : decode cX4_addSound 34 = .ok (.getstatic 99, 3) := by decide +kernel
theorem dX4_addSound_37 : decode cX4_addSound 37 = .ok (.iload_n 3, 1) := by decide +kernel
theorem dX4_addSound_38 : decode cX4_addSound 38 = .ok (.iaload, 1) := by decide +kernel
theorem dX4_addSound_39 : decode cX4_addSound 39 = .ok (.i2l, 1) := by decide +kernel
theorem dX4_addSound_40 : decode cX4_addSound 40 = .ok (.lmul, 1) := by decide +kernel
theorem dX4_addSound_41 : decode cX4_addSound 41 = .ok (.ldc2_w 102, 3) := by decide +kernel
theorem dX4_addSound_44 : decode cX4_addSound 44 = .ok (.aload_n 1, 1) := by decide +kernel
theorem dX4_addSound_45 : decode cX4_addSound 45 = .ok (.iload_n 2, 1) := by decide +kernel
theorem dX4_addSound_46 : decode cX4_addSound 46 = .ok (.invokevirtual 66, 3) := by decide +kernel
theorem dX4_addSound_49 : decode cX4_addSound 49 = .ok (.invokestatic 85, 3) := by decide +kernel
theorem dX4_addSound_52 : decode cX4_addSound 52 = .ok (.lshl, 1) := by decide +kernel
theorem dX4_addSound_53 : decode cX4_addSound 53 = .ok (.invokevirtual 104, 3) := by decide +kernel
theorem dX4_addSound_56 : decode cX4_addSound 56 = .ok (.lstore 4, 2) := by decide +kernel
theorem dX4_addSound_58 : decode cX4_addSound 58 = .ok (.aload_n 1, 1) := by decide +kernel
theorem dX4_addSound_59 : decode cX4_addSound 59 = .ok (.iload_n 2, 1) := by decide +kernel
theorem dX4_addSound_60 : decode cX4_addSound 60 = .ok (.iconst 1, 1) := by decide +kernel
theorem dX4_addSound_61 : decode cX4_addSound 61 = .ok (.isub, 1) := by decide +kernel
theorem dX4_addSound_62 : decode cX4_addSound 62 = .ok (.invokevirtual 66, 3) := by decide +kernel
theorem dX4_addSound_65 : decode cX4_addSound 65 = .ok (.bipush 114, 2) := by decide +kernel
theorem dX4_addSound_67 : decode cX4_addSound 67 = .ok (.if_icmp .ne 11, 3) := by decide +kernel
theorem dX4_addSound_70 : decode cX4_addSound 70 = .ok (.aload_n 0, 1) := by decide +kernel
theorem dX4_addSound_71 : decode cX4_addSound 71 = .ok (.iconst 0, 1) := by decide +kernel
theorem dX4_addSound_72 : decode cX4_addSound 72 = .ok (.putfield 92, 3) := by decide +kernel
theorem dX4_addSound_75 : decode cX4_addSound 75 = .ok (.goto 49, 3) := by decide +kernel
theorem dX4_addSound_78 : decode cX4_addSound 78 = .ok (.aload_n 0, 1) := by decide +kernel
theorem dX4_addSound_79 : decode cX4_addSound 79 = .ok (.lload 4, 2) := by decide +kernel
theorem dX4_addSound_81 : decode cX4_addSound 81 = .ok (.aload_n 1, 1) := by decide +kernel
theorem dX4_addSound_82 : decode cX4_addSound 82 = .ok (.iload_n 2, 1) := by decide +kernel
theorem dX4_addSound_83 : decode cX4_addSound 83 = .ok (.iconst 1, 1) := by decide +kernel
theorem dX4_addSound_84 : decode cX4_addSound 84 = .ok (.isub, 1) := by decide +kernel
theorem dX4_addSound_85 : decode cX4_addSound 85 = .ok (.invokevirtual 66, 3) := by decide +kernel
theorem dX4_addSound_88 : decode cX4_addSound 88 = .ok (.bipush 94, 2) := by decide +kernel
theorem dX4_addSound_90 : decode cX4_addSound 90 = .ok (.if_icmp .ne 7, 3) := by decide +kernel
theorem dX4_addSound_93 : decode cX4_addSound 93 = .ok (.iconst 1, 1) := by decide +kernel
theorem dX4_addSound_94 : decode cX4_addSound 94 = .ok (.goto 4, 3) := by decide +kernel
theorem dX4_addSound_97 : decode cX4_addSound 97 = .ok (.iconst 0, 1) := by decide +kernel
theorem dX4_addSound_98 : decode cX4_addSound 98 = .ok (.invokevirtual 108, 3) := by decide +kernel
theorem dX4_addSound_101 : decode cX4_addSound 101 = .ok (.aload_n 0, 1) := by decide +kernel
theorem dX4_addSound_102 : decode cX4_addSound 102 = .ok (.aload_n 1, 1) := by decide +kernel
theorem dX4_addSound_103 : decode cX4_addSound 103 = .ok (.iload_n 2, 1) := by decide +kernel
theorem dX4_addSound_104 : decode cX4_addSound 104 = .ok (.iconst 1, 1) := by decide +kernel
theorem dX4_addSound_105 : decode cX4_addSound 105 = .ok (.iadd, 1) := by decide +kernel
theorem dX4_addSound_106 : decode cX4_addSound 106 = .ok (.iload_n 3, 1) := by decide +kernel
theorem dX4_addSound_107 : decode cX4_addSound 107 = .ok (.iadd, 1) := by decide +kernel
theorem dX4_addSound_108 : decode cX4_addSound 108 = .ok (.invokevirtual 66, 3) := by decide +kernel
theorem dX4_addSound_111 : decode cX4_addSound 111 = .ok (.bipush 126, 2) := by decide +kernel
theorem dX4_addSound_113 : decode cX4_addSound 113 = .ok (.if_icmp .ne 7, 3) := by decide +kernel
theorem dX4_addSound_116 : decode cX4_addSound 116 = .ok (.iconst 1, 1) := by decide +kernel
theorem dX4_addSound_117 : decode cX4_addSound 117 = .ok (.goto 4, 3) := by decide +kernel
theorem dX4_addSound_120 : decode cX4_addSound 120 = .ok (.iconst 0, 1) := by decide +kernel
theorem dX4_addSound_121 : decode cX4_addSound 121 = .ok (.putfield 92, 3) := by decide +kernel
theorem dX4_addSound_124 : decode cX4_addSound 124 = .ok (.aload_n 0, 1) := by decide +kernel
theorem dX4_addSound_125 : decode cX4_addSound 125 = .ok (.dup, 1) := by decide +kernel
theorem dX4_addSound_126 : decode cX4_addSound 126 = .ok (.getfield 49, 3) := by decide +kernel
theorem dX4_addSound_129 : decode cX4_addSound 129 = .ok (.lload 4, 2) := by decide +kernel
theorem dX4_addSound_131 : decode cX4_addSound 131 = .ok (.ladd, 1) := by decide +kernel
theorem dX4_addSound_132 : decode cX4_addSound 132 = .ok (.putfield 49, 3) := by decide +kernel
theorem dX4_addSound_135 : decode cX4_addSound 135 = .ok (.aload_n 0, 1) := by decide +kernel
theorem dX4_addSound_136 : decode cX4_addSound 136 = .ok (.aload_n 0, 1) := by decide +kernel
theorem dX4_addSound_137 : decode cX4_addSound 137 = .ok (.getfield 46, 3) := by decide +kernel
theorem dX4_addSound_140 : decode cX4_addSound 140 = .ok (.iconst 1, 1) := by decide +kernel
theorem dX4_addSound_141 : decode cX4_addSound 141 = .ok (.isub, 1) := by decide +kernel
theorem dX4_addSound_142 : decode cX4_addSound 142 = .ok (.invokevirtual 57, 3) := by decide +kernel
theorem dX4_addSound_145 : decode cX4_addSound 145 = .ok (.ifCond .eq 19, 3) := by decide +kernel
theorem dX4_addSound_148 : decode cX4_addSound 148 = .ok (.aload_n 0, 1) := by decide +kernel
theorem dX4_addSound_149 : decode cX4_addSound 149 = .ok (.getfield 29, 3) := by decide +kernel
theorem dX4_addSound_152 : decode cX4_addSound 152 = .ok (.aload_n 0, 1) := by decide +kernel
theorem dX4_addSound_153 : decode cX4_addSound 153 = .ok (.getfield 46, 3) := by decide +kernel
theorem dX4_addSound_156 : decode cX4_addSound 156 = .ok (.iconst 1, 1) := by decide +kernel
theorem dX4_addSound_157 : decode cX4_addSound 157 = .ok (.isub, 1) := by decide +kernel
theorem dX4_addSound_158 : decode cX4_addSound 158 = .ok (.dup2, 1) := by decide +kernel
theorem dX4_addSound_159 : decode cX4_addSound 159 = .ok (.laload, 1) := by decide +kernel
theorem dX4_addSound_160 : decode cX4_addSound 160 = .ok (.lload 4, 2) := by decide +kernel
theorem dX4_addSound_162 : decode cX4_addSound 162 = .ok (.ladd, 1) := by decide +kernel
theorem dX4_addSound_163 : decode cX4_addSound 163 = .ok (.lastore, 1) := by decide +kernel
theorem dX4_addSound_164 : decode cX4_addSound 164 = .ok (.return_, 1) := by decide +kernel
theorem dX4_addNote_0 : decode cX4_addNote 0 = .ok (.aload_n 0, 1) := by decide +kernel
theorem dX4_addNote_1 : decode cX4_addNote 1 = .ok (.getfield 92, 3) := by decide +kernel
theorem dX4_addNote_4 : decode cX4_addNote 4 = .ok (.ifCond .eq 49, 3) := by decide +kernel
theorem dX4_addNote_7 : decode cX4_addNote 7 = .ok (.aload_n 0, 1) := by decide +kernel
theorem dX4_addNote_8 : decode cX4_addNote 8 = .ok (.aload_n 0, 1) := by decide +kernel
theorem dX4_addNote_9 : decode cX4_addNote 9 = .ok (.getfield 42, 3) := by decide +kernel
theorem dX4_addNote_12 : decode cX4_addNote 12 = .ok (.iconst 1, 1) := by decide +kernel
theorem dX4_addNote_13 : decode cX4_addNote 13 = .ok (.isub, 1) := by decide +kernel
theorem dX4_addNote_14 : decode cX4_addNote 14 = .ok (.invokevirtual 53, 3) := by decide +kernel
theorem dX4_addNote_17 : decode cX4_addNote 17 = .ok (.ifCond .eq 36, 3) := by decide +kernel
theorem dX4_addNote_20 : decode cX4_addNote 20 = .ok (.aload_n 0, 1) := by decide +kernel
theorem dX4_addNote_21 : decode cX4_addNote 21 = .ok (.getfield 15, 3) := by decide +kernel
theorem dX4_addNote_24 : decode cX4_addNote 24 = .ok (.aload_n 0, 1) := by decide +kernel
theorem dX4_addNote_25 : decode cX4_addNote 25 = .ok (.getfield 42, 3) := by decide +kernel
theorem dX4_addNote_28 : decode cX4_addNote 28 = .ok (.iconst 1, 1) := by decide +kernel
theorem dX4_addNote_29 : decode cX4_addNote 29 = .ok (.isub, 1) := by decide +kernel
theorem dX4_addNote_30 : decode cX4_addNote 30 = .ok (.dup2, 1) := by decide +kernel
theorem dX4_addNote_31 : decode cX4_addNote 31 = .ok (.laload, 1) := by decide +kernel
theorem dX4_addNote_32 : decode cX4_addNote 32 = .ok (.lload_n 1, 1) := by decide +kernel
theorem dX4_addNote_33 : decode cX4_addNote 33 = .ok (.ladd, 1) := by decide +kernel
theorem dX4_addNote_34 : decode cX4_addNote 34 = .ok (.lastore, 1) := by decide +kernel
theorem dX4_addNote_35 : decode cX4_addNote 35 = .ok (.aload_n 0, 1) := by decide +kernel
theorem dX4_addNote_36 : decode cX4_addNote 36 = .ok (.getfield 18, 3) := by decide +kernel
theorem dX4_addNote_39 : decode cX4_addNote 39 = .ok (.aload_n 0, 1) := by decide +kernel
theorem dX4_addNote_40 : decode cX4_addNote 40 = .ok (.getfield 42, 3) := by decide +kernel
theorem dX4_addNote_43 : decode cX4_addNote 43 = .ok (.iconst 1, 1) := by decide +kernel
theorem dX4_addNote_44 : decode cX4_addNote 44 = .ok (.isub, 1) := by decide +kernel
theorem dX4_addNote_45 : decode cX4_addNote 45 = .ok (.dup2, 1) := by decide +kernel
theorem dX4_addNote_46 : decode cX4_addNote 46 = .ok (.iaload, 1) := by decide +kernel
theorem dX4_addNote_47 : decode cX4_addNote 47 = .ok (.iconst 1, 1) := by decide +kernel
theorem dX4_addNote_48 : decode cX4_addNote 48 = .ok (.iadd, 1) := by decide +kernel
theorem dX4_addNote_49 : decode cX4_addNote 49 = .ok (.iastore, 1) := by decide +kernel
theorem dX4_addNote_50 : decode cX4_addNote 50 = .ok (.goto 86, 3) := by decide +kernel
theorem dX4_addNote_53 : decode cX4_addNote 53 = .ok (.aload_n 0, 1) := by decide +kernel
theorem dX4_addNote_54 : decode cX4_addNote 54 = .ok (.getfield 42, 3) := by decide +kernel
theorem dX4_addNote_57 : decode cX4_addNote 57 = .ok (.sipush 300, 3) := by decide +kernel
theorem dX4_addNote_60 : decode cX4_addNote 60 = .ok (.if_icmp .ge 76, 3) := by decide +kernel
theorem dX4_addNote_63 : decode cX4_addNote 63 = .ok (.aload_n 0, 1) := by decide +kernel
theorem dX4_addNote_64 : decode cX4_addNote 64 = .ok (.getfield 9, 3) := by decide +kernel
theorem dX4_addNote_67 : decode cX4_addNote 67 = .ok (.aload_n 0, 1) := by decide +kernel
theorem dX4_addNote_68 : decode cX4_addNote 68 = .ok (.getfield 42, 3) := by decide +kernel
theorem dX4_addNote_71 : decode cX4_addNote 71 = .ok (.aload_n 0, 1) := by decide +kernel
theorem dX4_addNote_72 : decode cX4_addNote 72 = .ok (.getfield 49, 3) := by decide +kernel
theorem dX4_addNote_75 : decode cX4_addNote 75 = .ok (.lastore, 1) := by decide +kernel
theorem dX4_addNote_76 : decode cX4_addNote 76 = .ok (.aload_n 0, 1) := by decide +kernel
theorem dX4_addNote_77 : decode cX4_addNote 77 = .ok (.getfield 15, 3) := by decide +kernel
theorem dX4_addNote_80 : decode cX4_addNote 80 = .ok (.aload_n 0, 1) := by decide +kernel
theorem dX4_addNote_81 : decode cX4_addNote 81 = .ok (.getfield 42, 3) := by decide +kernel
theorem dX4_addNote_84 : decode cX4_addNote 84 = .ok (.aload_n 0, 1) := by decide +kernel
theorem dX4_addNote_85 : decode cX4_addNote 85 = .ok (.getfield 49, 3) := by decide +kernel
theorem dX4_addNote_88 : decode cX4_addNote 88 = .ok (.lload_n 1, 1) := by decide +kernel
theorem dX4_addNote_89 : decode cX4_addNote 89 = .ok (.ladd, 1) := by decide +kernel
theorem dX4_addNote_90 : decode cX4_addNote 90 = .ok (.lastore, 1) := by decide +kernel
theorem dX4_addNote_91 : decode cX4_addNote 91 = .ok (.aload_n 0, 1) := by decide +kernel
theorem dX4_addNote_92 : decode cX4_addNote 92 = .ok (.getfield 18, 3) := by decide +kernel
theorem dX4_addNote_95 : decode cX4_addNote 95 = .ok (.aload_n 0, 1) := by decide +kernel
theorem dX4_addNote_96 : decode cX4_addNote 96 = .ok (.getfield 42, 3) := by decide +kernel
theorem dX4_addNote_99 : decode cX4_addNote 99 = .ok (.iconst 1, 1) := by decide +kernel
theorem dX4_addNote_100 : decode cX4_addNote 100 = .ok (.iastore, 1) := by decide +kernel
theorem dX4_addNote_101 : decode cX4_addNote 101 = .ok (.aload_n 0, 1) := by decide +kernel
theorem dX4_addNote_102 : decode cX4_addNote 102 = .ok (.getfield 22, 3) := by decide +kernel
theorem dX4_addNote_105 : decode cX4_addNote 105 = .ok (.aload_n 0, 1) := by decide +kernel
theorem dX4_addNote_106 : decode cX4_addNote 106 = .ok (.getfield 42, 3) := by decide +kernel
theorem dX4_addNote_109 : decode cX4_addNote 109 = .ok (.aload_n 0, 1) := by decide +kernel
theorem dX4_addNote_110 : decode cX4_addNote 110 = .ok (.getfield 46, 3) := by decide +kernel
theorem dX4_addNote_113 : decode cX4_addNote 113 = .ok (.iconst 1, 1) := by decide +kernel
theorem dX4_addNote_114 : decode cX4_addNote 114 = .ok (.isub, 1) := by decide +kernel
theorem dX4_addNote_115 : decode cX4_addNote 115 = .ok (.iastore, 1) := by decide +kernel
theorem dX4_addNote_116 : decode cX4_addNote 116 = .ok (.aload_n 0, 1) := by decide +kernel
theorem dX4_addNote_117 : decode cX4_addNote 117 = .ok (.getfield 25, 3) := by decide +kernel
theorem dX4_addNote_120 : decode cX4_addNote 120 = .ok (.aload_n 0, 1) := by decide +kernel
theorem dX4_addNote_121 : decode cX4_addNote 121 = .ok (.getfield 42, 3) := by decide +kernel
theorem dX4_addNote_124 : decode cX4_addNote 124 = .ok (.iload_n 3, 1) := by decide +kernel
theorem dX4_addNote_125 : decode cX4_addNote 125 = .ok (.bastore, 1) := by decide +kernel
theorem dX4_addNote_126 : decode cX4_addNote 126 = .ok (.aload_n 0, 1) := by decide +kernel
theorem dX4_addNote_127 : decode cX4_addNote 127 = .ok (.dup, 1) := by decide +kernel
theorem dX4_addNote_128 : decode cX4_addNote 128 = .ok (.getfield 42, 3) := by decide +kernel
theorem dX4_addNote_131 : decode cX4_addNote 131 = .ok (.iconst 1, 1) := by decide +kernel
theorem dX4_addNote_132 : decode cX4_addNote 132 = .ok (.iadd, 1) := by decide +kernel
theorem dX4_addNote_133 : decode cX4_addNote 133 = .ok (.putfield 42, 3) := by decide +kernel
theorem dX4_addNote_136 : decode cX4_addNote 136 = .ok (.return_, 1) := by decide +kernel
theorem dX5_init_0 : decode cX5_init 0 = .ok (.aload_n 0, 1) := by decide +kernel
theorem dX5_init_1 : decode cX5_init 1 = .ok (.invokespecial 3, 3) := by decide +kernel
theorem dX5_init_4 : decode cX5_init 4 = .ok (.aload_n 0, 1) := by decide +kernel
theorem dX5_init_5 : decode cX5_init 5 = .ok (.iconst 4, 1) := by decide +kernel
theorem dX5_init_6 : decode cX5_init 6 = .ok (.anewarray 9, 3) := by decide +kernel
theorem dX5_init_9 : decode cX5_init 9 = .ok (.putfield 11, 3) := by decide +kernel
theorem dX5_init_12 : decode cX5_init 12 = .ok (.iconst 0, 1) := by decide +kernel
theorem dX5_init_13 : decode cX5_init 13 = .ok (.istore_n 1, 1) := by decide +kernel
theorem dX5_init_14 : decode cX5_init 14 = .ok (.iload_n 1, 1) := by decide +kernel
theorem dX5_init_15 : decode cX5_init 15 = .ok (.iconst 4, 1) := by decide +kernel
theorem dX5_init_16 : decode cX5_init 16 = .ok (.if_icmp .ge 24, 3) := by decide +kernel
theorem dX5_init_19 : decode cX5_init 19 = .ok (.aload_n 0, 1) := by decide +kernel
theorem dX5_init_20 : decode cX5_init 20 = .ok (.getfield 11, 3) := by decide +kernel
theorem dX5_init_23 : decode cX5_init 23 = .ok (.iload_n 1, 1) := by decide +kernel
theorem dX5_init_24 : decode cX5_init 24 = .ok (.new 9, 3) := by decide +kernel
theorem dX5_init_27 : decode cX5_init 27 = .ok (.dup, 1) := by decide +kernel
theorem dX5_init_28 : decode cX5_init 28 = .ok (.bipush 100, 2) := by decide +kernel
theorem dX5_init_30 : decode cX5_init 30 = .ok (.invokespecial 17, 3) := by decide +kernel
theorem dX5_init_33 : decode cX5_init 33 = .ok (.aastore, 1) := by decide +kernel
theorem dX5_init_34 : decode cX5_init 34 = .ok (.iinc 1 1, 3) := by decide +kernel
theorem dX5_init_37 : decode cX5_init 37 = .ok (.goto (-23), 3) := by decide +kernel
theorem dX5_init_40 : decode cX5_init 40 = .ok (.return_, 1) := by decide +kernel
theorem dX6_init_0 : decode cX6_init 0 = .ok (.aload_n 0, 1) := by decide +kernel
theorem dX6_init_1 : decode cX6_init 1 = .ok (.invokespecial 3, 3) := by decide +kernel
theorem dX6_init_4 : decode cX6_init 4 = .ok (.aload_n 0, 1) := by decide +kernel
theorem dX6_init_5 : decode cX6_init 5 = .ok (.iload_n 1, 1) := by decide +kernel
theorem dX6_init_6 : decode cX6_init 6 = .ok (.iconst 0, 1) := by decide +kernel
theorem dX6_init_7 : decode cX6_init 7 = .ok (.invokestatic 9, 3) := by decide +kernel
theorem dX6_init_10 : decode cX6_init 10 = .ok (.newarray .char, 2) := by decide +kernel
theorem dX6_init_12 : decode cX6_init 12 = .ok (.putfield 15, 3) := by decide +kernel
theorem dX6_init_15 : decode cX6_init 15 = .ok (.return_, 1) := by decide +kernel
theorem dX6_size_0 : decode cX6_size 0 = .ok (.aload_n 0, 1) := by decide +kernel
theorem dX6_size_1 : decode cX6_size 1 = .ok (.getfield 21, 3) := by decide +kernel
theorem dX6_size_4 : decode cX6_size 4 = .ok (.ireturn, 1) := by decide +kernel
theorem dX6_isFull_0 : decode cX6_isFull 0 = .ok (.aload_n 0, 1) := by decide +kernel
theorem dX6_isFull_1 : decode cX6_isFull 1 = .ok (.getfield 21, 3) := by decide +kernel
theorem dX6_isFull_4 : decode cX6_isFull 4 = .ok (.aload_n 0, 1) := by decide +kernel
theorem dX6_isFull_5 : decode cX6_isFull 5 = .ok (.getfield 15, 3) := by decide +kernel
theorem dX6_isFull_8 : decode cX6_isFull 8 = .ok (.arraylength, 1) := by decide +kernel
theorem dX6_isFull_9 : decode cX6_isFull 9 = .ok (.if_icmp .lt 7, 3) := by decide +kernel
theorem dX6_isFull_12 : decode cX6_isFull 12 = .ok (.iconst 1, 1) := by decide +kernel
theorem dX6_isFull_13 : decode cX6_isFull 13 = .ok (.goto 4, 3) := by decide +kernel
theorem dX6_isFull_16 : decode cX6_isFull 16 = .ok (.iconst 0, 1) := by decide +kernel
theorem dX6_isFull_17 : decode cX6_isFull 17 = .ok (.ireturn, 1) := by decide +kernel
theorem dX6_at_0 : decode cX6_at 0 = .ok (.iload_n 1, 1) := by decide +kernel
theorem dX6_at_1 : decode cX6_at 1 = .ok (.ifCond .lt 20, 3) := by decide +kernel
theorem dX6_at_4 : decode cX6_at 4 = .ok (.iload_n 1, 1) := by decide +kernel
theorem dX6_at_5 : decode cX6_at 5 = .ok (.aload_n 0, 1) := by decide +kernel
theorem dX6_at_6 : decode cX6_at 6 = .ok (.getfield 21, 3) := by decide +kernel
theorem dX6_at_9 : decode cX6_at 9 = .ok (.if_icmp .ge 12, 3) := by decide +kernel
theorem dX6_at_12 : decode cX6_at 12 = .ok (.aload_n 0, 1) := by decide +kernel
theorem dX6_at_13 : decode cX6_at 13 = .ok (.getfield 15, 3) := by decide +kernel
theorem dX6_at_16 : decode cX6_at 16 = .ok (.iload_n 1, 1) := by decide +kernel
theorem dX6_at_17 : decode cX6_at 17 = .ok (.caload, 1) := by decide +kernel
theorem dX6_at_18 : decode cX6_at 18 = .ok (.goto 5, 3) := by decide +kernel
theorem dX6_at_21 : decode cX6_at 21 = .ok (.bipush (-9), 2) := by decide +kernel
theorem dX6_at_23 : decode cX6_at 23 = .ok (.ireturn, 1) := by decide +kernel
theorem dX6_makeEmpty_0 : decode cX6_makeEmpty 0 = .ok (.aload_n 0, 1) := by decide +kernel
theorem dX6_makeEmpty_1 : decode cX6_makeEmpty 1 = .ok (.iconst 0, 1) := by decide +kernel
theorem dX6_makeEmpty_2 : decode cX6_makeEmpty 2 = .ok (.putfield 21, 3) := by decide +kernel
theorem dX6_makeEmpty_5 : decode cX6_makeEmpty 5 = .ok (.return_, 1) := by decide +kernel
theorem dX6_append_0 : decode cX6_append 0 = .ok (.aload_n 0, 1) := by decide +kernel
theorem dX6_append_1 : decode cX6_append 1 = .ok (.getfield 21, 3) := by decide +kernel
theorem dX6_append_4 : decode cX6_append 4 = .ok (.aload_n 0, 1) := by decide +kernel
theorem dX6_append_5 : decode cX6_append 5 = .ok (.getfield 15, 3) := by decide +kernel
theorem dX6_append_8 : decode cX6_append 8 = .ok (.arraylength, 1) := by decide +kernel
theorem dX6_append_9 : decode cX6_append 9 = .ok (.if_icmp .ge 24, 3) := by decide +kernel
theorem dX6_append_12 : decode cX6_append 12 = .ok (.aload_n 0, 1) := by decide +kernel
theorem dX6_append_13 : decode cX6_append 13 = .ok (.getfield 15, 3) := by decide +kernel
theorem dX6_append_16 : decode cX6_append 16 = .ok (.aload_n 0, 1) := by decide +kernel
theorem dX6_append_17 : decode cX6_append 17 = .ok (.getfield 21, 3) := by decide +kernel
theorem dX6_append_20 : decode cX6_append 20 = .ok (.iload_n 1, 1) := by decide +kernel
theorem dX6_append_21 : decode cX6_append 21 = .ok (.i2c, 1) := by decide +kernel
theorem dX6_append_22 : decode cX6_append 22 = .ok (.castore, 1) := by decide +kernel
theorem dX6_append_23 : decode cX6_append 23 = .ok (.aload_n 0, 1) := by decide +kernel
theorem dX6_append_24 : decode cX6_append 24 = .ok (.dup, 1) := by decide +kernel
theorem dX6_append_25 : decode cX6_append 25 = .ok (.getfield 21, 3) := by decide +kernel
theorem dX6_append_28 : decode cX6_append 28 = .ok (.iconst 1, 1) := by decide +kernel
theorem dX6_append_29 : decode cX6_append 29 = .ok (.iadd, 1) := by decide +kernel
theorem dX6_append_30 : decode cX6_append 30 = .ok (.putfield 21, 3) := by decide +kernel
theorem dX6_append_33 : decode cX6_append 33 = .ok (.return_, 1) := by decide +kernel
theorem dX6_appendPiece_0 : decode cX6_appendPiece 0 = .ok (.iload_n 3, 1) := by decide +kernel
theorem dX6_appendPiece_1 : decode cX6_appendPiece 1 = .ok (.aload_n 1, 1) := by decide +kernel
theorem dX6_appendPiece_2 : decode cX6_appendPiece 2 = .ok (.getfield 21, 3) := by decide +kernel
theorem dX6_appendPiece_5 : decode cX6_appendPiece 5 = .ok (.invokestatic 25, 3) := by decide +kernel
theorem dX6_appendPiece_8 : decode cX6_appendPiece 8 = .ok (.istore 4, 2) := by decide +kernel
theorem dX6_appendPiece_10 : decode cX6_appendPiece 10 = .ok (.iload_n 2, 1) := by decide +kernel
theorem dX6_appendPiece_11 : decode cX6_appendPiece 11 = .ok (.iconst 0, 1) := by decide +kernel
theorem dX6_appendPiece_12 : decode cX6_appendPiece 12 = .ok (.invokestatic 9, 3) := by decide +kernel
theorem dX6_appendPiece_15 : decode cX6_appendPiece 15 = .ok (.istore 5, 2) := by decide +kernel
theorem dX6_appendPiece_17 : decode cX6_appendPiece 17 = .ok (.iload 5, 2) := by decide +kernel
theorem dX6_appendPiece_19 : decode cX6_appendPiece 19 = .ok (.iload 4, 2) := by decide +kernel
theorem dX6_appendPiece_21 : decode cX6_appendPiece 21 = .ok (.if_icmp .ge 20, 3) := by decide +kernel
theorem dX6_appendPiece_24 : decode cX6_appendPiece 24 = .ok (.aload_n 0, 1) := by decide +kernel
theorem dX6_appendPiece_25 : decode cX6_appendPiece 25 = .ok (.aload_n 1, 1) := by decide +kernel
theorem dX6_appendPiece_26 : decode cX6_appendPiece 26 = .ok (.getfield 15, 3) := by decide +kernel
theorem dX6_appendPiece_29 : decode cX6_appendPiece 29 = .ok (.iload 5, 2) := by decide +kernel
theorem dX6_appendPiece_31 : decode cX6_appendPiece 31 = .ok (.caload, 1) := by decide +kernel
theorem dX6_appendPiece_32 : decode cX6_appendPiece 32 = .ok (.invokevirtual 28, 3) := by decide +kernel
theorem dX6_appendPiece_35 : decode cX6_appendPiece 35 = .ok (.iinc 5 1, 3) := by decide +kernel
theorem dX6_appendPiece_38 : decode cX6_appendPiece 38 = .ok (.goto (-21), 3) := by decide +kernel
theorem dX6_appendPiece_41 : decode cX6_appendPiece 41 = .ok (.return_, 1) := by decide +kernel
theorem dX6_become_0 : decode cX6_become 0 = .ok (.aload_n 1, 1) := by decide +kernel
theorem dX6_become_1 : decode cX6_become 1 = .ok (.getfield 21, 3) := by decide +kernel
theorem dX6_become_4 : decode cX6_become 4 = .ok (.aload_n 0, 1) := by decide +kernel
theorem dX6_become_5 : decode cX6_become 5 = .ok (.getfield 15, 3) := by decide +kernel
theorem dX6_become_8 : decode cX6_become 8 = .ok (.arraylength, 1) := by decide +kernel
theorem dX6_become_9 : decode cX6_become 9 = .ok (.invokestatic 25, 3) := by decide +kernel
theorem dX6_become_12 : decode cX6_become 12 = .ok (.istore_n 2, 1) := by decide +kernel
theorem dX6_become_13 : decode cX6_become 13 = .ok (.iconst 0, 1) := by decide +kernel
theorem dX6_become_14 : decode cX6_become 14 = .ok (.istore_n 3, 1) := by decide +kernel
theorem dX6_become_15 : decode cX6_become 15 = .ok (.iload_n 3, 1) := by decide +kernel
theorem dX6_become_16 : decode cX6_become 16 = .ok (.iload_n 2, 1) := by decide +kernel
theorem dX6_become_17 : decode cX6_become 17 = .ok (.if_icmp .ge 21, 3) := by decide +kernel
theorem dX6_become_20 : decode cX6_become 20 = .ok (.aload_n 0, 1) := by decide +kernel
theorem dX6_become_21 : decode cX6_become 21 = .ok (.getfield 15, 3) := by decide +kernel
theorem dX6_become_24 : decode cX6_become 24 = .ok (.iload_n 3, 1) := by decide +kernel
theorem dX6_become_25 : decode cX6_become 25 = .ok (.aload_n 1, 1) := by decide +kernel
theorem dX6_become_26 : decode cX6_become 26 = .ok (.getfield 15, 3) := by decide +kernel
theorem dX6_become_29 : decode cX6_become 29 = .ok (.iload_n 3, 1) := by decide +kernel
theorem dX6_become_30 : decode cX6_become 30 = .ok (.caload, 1) := by decide +kernel
theorem dX6_become_31 : decode cX6_become 31 = .ok (.castore, 1) := by decide +kernel
theorem dX6_become_32 : decode cX6_become 32 = .ok (.iinc 3 1, 3) := by decide +kernel
theorem dX6_become_35 : decode cX6_become 35 = .ok (.goto (-20), 3) := by decide +kernel
theorem dX6_become_38 : decode cX6_become 38 = .ok (.aload_n 0, 1) := by decide +kernel
theorem dX6_become_39 : decode cX6_become 39 = .ok (.iload_n 2, 1) := by decide +kernel
theorem dX6_become_40 : decode cX6_become 40 = .ok (.putfield 21, 3) := by decide +kernel
theorem dX6_become_43 : decode cX6_become 43 = .ok (.return_, 1) := by decide +kernel
theorem dX6_seek_0 : decode cX6_seek 0 = .ok (.iload_n 1, 1) := by decide +kernel
theorem dX6_seek_1 : decode cX6_seek 1 = .ok (.ifCond .ge 7, 3) := by decide +kernel
theorem dX6_seek_4 : decode cX6_seek 4 = .ok (.iconst 0, 1) := by decide +kernel
theorem dX6_seek_5 : decode cX6_seek 5 = .ok (.goto 4, 3) := by decide +kernel
theorem dX6_seek_8 : decode cX6_seek 8 = .ok (.iload_n 1, 1) := by decide +kernel
theorem dX6_seek_9 : decode cX6_seek 9 = .ok (.istore 4, 2) := by decide +kernel
theorem dX6_seek_11 : decode cX6_seek 11 = .ok (.iload 4, 2) := by decide +kernel
theorem dX6_seek_13 : decode cX6_seek 13 = .ok (.aload_n 0, 1) := by decide +kernel
theorem dX6_seek_14 : decode cX6_seek 14 = .ok (.getfield 21, 3) := by decide +kernel
theorem dX6_seek_17 : decode cX6_seek 17 = .ok (.if_icmp .ge 34, 3) := by decide +kernel
theorem dX6_seek_20 : decode cX6_seek 20 = .ok (.aload_n 0, 1) := by decide +kernel
theorem dX6_seek_21 : decode cX6_seek 21 = .ok (.getfield 15, 3) := by decide +kernel
theorem dX6_seek_24 : decode cX6_seek 24 = .ok (.iload 4, 2) := by decide +kernel
theorem dX6_seek_26 : decode cX6_seek 26 = .ok (.caload, 1) := by decide +kernel
theorem dX6_seek_27 : decode cX6_seek 27 = .ok (.iload_n 2, 1) := by decide +kernel
theorem dX6_seek_28 : decode cX6_seek 28 = .ok (.if_icmp .eq 14, 3) := by decide +kernel
theorem dX6_seek_31 : decode cX6_seek 31 = .ok (.aload_n 0, 1) := by decide +kernel
theorem dX6_seek_32 : decode cX6_seek 32 = .ok (.getfield 15, 3) := by decide +kernel
theorem dX6_seek_35 : decode cX6_seek 35 = .ok (.iload 4, 2) := by decide +kernel
theorem dX6_seek_37 : decode cX6_seek 37 = .ok (.caload, 1) := by decide +kernel
theorem dX6_seek_38 : decode cX6_seek 38 = .ok (.iload_n 3, 1) := by decide +kernel
theorem dX6_seek_39 : decode cX6_seek 39 = .ok (.if_icmp .ne 6, 3) := by decide +kernel
theorem dX6_seek_42 : decode cX6_seek 42 = .ok (.iload 4, 2) := by decide +kernel
theorem dX6_seek_44 : decode cX6_seek 44 = .ok (.ireturn, 1) := by decide +kernel
theorem dX6_seek_45 : decode cX6_seek 45 = .ok (.iinc 4 1, 3) := by decide +kernel
theorem dX6_seek_48 : decode cX6_seek 48 = .ok (.goto (-37), 3) := by decide +kernel
theorem dX6_seek_51 : decode cX6_seek 51 = .ok (.aload_n 0, 1) := by decide +kernel
theorem dX6_seek_52 : decode cX6_seek 52 = .ok (.getfield 21, 3) := by decide +kernel
theorem dX6_seek_55 : decode cX6_seek 55 = .ok (.ireturn, 1) := by decide +kernel
theorem dX7_init_0 : decode cX7_init 0 = .ok (.aload_n 0, 1) := by decide +kernel
theorem dX7_init_1 : decode cX7_init 1 = .ok (.invokespecial 1, 3) := by decide +kernel
theorem dX7_init_4 : decode cX7_init 4 = .ok (.aload_n 0, 1) := by decide +kernel
theorem dX7_init_5 : decode cX7_init 5 = .ok (.iconst 3, 1) := by decide +kernel
theorem dX7_init_6 : decode cX7_init 6 = .ok (.newarray .long, 2) := by decide +kernel
theorem dX7_init_8 : decode cX7_init 8 = .ok (.putfield 9, 3) := by decide +kernel
theorem dX7_init_11 : decode cX7_init 11 = .ok (.aload_n 0, 1) := by decide +kernel
theorem dX7_init_12 : decode cX7_init 12 = .ok (.iconst 3, 1) := by decide +kernel
theorem dX7_init_13 : decode cX7_init 13 = .ok (.newarray .long, 2) := by decide +kernel
theorem dX7_init_15 : decode cX7_init 15 = .ok (.putfield 15, 3) := by decide +kernel
theorem dX7_init_18 : decode cX7_init 18 = .ok (.aload_n 0, 1) := by decide +kernel
theorem dX7_init_19 : decode cX7_init 19 = .ok (.getfield 9, 3) := by decide +kernel
theorem dX7_init_22 : decode cX7_init 22 = .ok (.iconst 0, 1) := by decide +kernel
theorem dX7_init_23 : decode cX7_init 23 = .ok (.lconst 1, 1) := by decide +kernel
theorem dX7_init_24 : decode cX7_init 24 = .ok (.lastore, 1) := by decide +kernel
theorem dX7_init_25 : decode cX7_init 25 = .ok (.aload_n 0, 1) := by decide +kernel
theorem dX7_init_26 : decode cX7_init 26 = .ok (.getfield 15, 3) := by decide +kernel
theorem dX7_init_29 : decode cX7_init 29 = .ok (.iconst 0, 1) := by decide +kernel
theorem dX7_init_30 : decode cX7_init 30 = .ok (.lconst 1, 1) := by decide +kernel
theorem dX7_init_31 : decode cX7_init 31 = .ok (.lastore, 1) := by decide +kernel
theorem dX7_init_32 : decode cX7_init 32 = .ok (.return_, 1) := by decide +kernel
theorem dX7_start_0 : decode cX7_start 0 = .ok (.aload_n 0, 1) := by decide +kernel
theorem dX7_start_1 : decode cX7_start 1 = .ok (.iconst 0, 1) := by decide +kernel
theorem dX7_start_2 : decode cX7_start 2 = .ok (.putfield 18, 3) := by decide +kernel
theorem dX7_start_5 : decode cX7_start 5 = .ok (.return_, 1) := by decide +kernel
theorem dX7_open_0 : decode cX7_open 0 = .ok (.aload_n 0, 1) := by decide +kernel
theorem dX7_open_1 : decode cX7_open 1 = .ok (.getfield 18, 3) := by decide +kernel
theorem dX7_open_4 : decode cX7_open 4 = .ok (.ifCond .lt 67, 3) := by decide +kernel
theorem dX7_open_7 : decode cX7_open 7 = .ok (.aload_n 0, 1) := by decide +kernel
theorem dX7_open_8 : decode cX7_open 8 = .ok (.getfield 18, 3) := by decide +kernel
theorem dX7_open_11 : decode cX7_open 11 = .ok (.iconst 2, 1) := by decide +kernel
theorem dX7_open_12 : decode cX7_open 12 = .ok (.if_icmp .ge 59, 3) := by decide +kernel
theorem dX7_open_15 : decode cX7_open 15 = .ok (.aload_n 0, 1) := by decide +kernel
theorem dX7_open_16 : decode cX7_open 16 = .ok (.getfield 9, 3) := by decide +kernel
theorem dX7_open_19 : decode cX7_open 19 = .ok (.aload_n 0, 1) := by decide +kernel
theorem dX7_open_20 : decode cX7_open 20 = .ok (.getfield 18, 3) := by decide +kernel
theorem dX7_open_23 : decode cX7_open 23 = .ok (.iconst 1, 1) := by decide +kernel
theorem dX7_open_24 : decode cX7_open 24 = .ok (.iadd, 1) := by decide +kernel
theorem dX7_open_25 : decode cX7_open 25 = .ok (.aload_n 0, 1) := by decide +kernel
theorem dX7_open_26 : decode cX7_open 26 = .ok (.getfield 9, 3) := by decide +kernel
theorem dX7_open_29 : decode cX7_open 29 = .ok (.aload_n 0, 1) := by decide +kernel
theorem dX7_open_30 : decode cX7_open 30 = .ok (.getfield 18, 3) := by decide +kernel
theorem dX7_open_33 : decode cX7_open 33 = .ok (.laload, 1) := by decide +kernel
theorem dX7_open_34 : decode cX7_open 34 = .ok (.iload_n 2, 1) := by decide +kernel
theorem dX7_open_35 : decode cX7_open 35 = .ok (.i2l, 1) := by decide +kernel
theorem dX7_open_36 : decode cX7_open 36 = .ok (.lmul, 1) := by decide +kernel
theorem dX7_open_37 : decode cX7_open 37 = .ok (.lastore, 1) := by decide +kernel
theorem dX7_open_38 : decode cX7_open 38 = .ok (.aload_n 0, 1) := by decide +kernel
theorem dX7_open_39 : decode cX7_open 39 = .ok (.getfield 15, 3) := by decide +kernel
theorem dX7_open_42 : decode cX7_open 42 = .ok (.aload_n 0, 1) := by decide +kernel
theorem dX7_open_43 : decode cX7_open 43 = .ok (.getfield 18, 3) := by decide +kernel
theorem dX7_open_46 : decode cX7_open 46 = .ok (.iconst 1, 1) := by decide +kernel
theorem dX7_open_47 : decode cX7_open 47 = .ok (.iadd, 1) := by decide +kernel
theorem dX7_open_48 : decode cX7_open 48 = .ok (.aload_n 0, 1) := by decide +kernel
theorem dX7_open_49 : decode cX7_open 49 = .ok (.getfield 15, 3) := by decide +kernel
theorem dX7_open_52 : decode cX7_open 52 = .ok (.aload_n 0, 1) := by decide +kernel
theorem dX7_open_53 : decode cX7_open 53 = .ok (.getfield 18, 3) := by decide +kernel
theorem dX7_open_56 : decode cX7_open 56 = .ok (.laload, 1) := by decide +kernel
theorem dX7_open_57 : decode cX7_open 57 = .ok (.iload_n 1, 1) := by decide +kernel
theorem dX7_open_58 : decode cX7_open 58 = .ok (.i2l, 1) := by decide +kernel
theorem dX7_open_59 : decode cX7_open 59 = .ok (.lmul, 1) := by decide +kernel
theorem dX7_open_60 : decode cX7_open 60 = .ok (.lastore, 1) := by decide +kernel
theorem dX7_open_61 : decode cX7_open 61 = .ok (.aload_n 0, 1) := by decide +kernel
theorem dX7_open_62 : decode cX7_open 62 = .ok (.dup, 1) := by decide +kernel
theorem dX7_open_63 : decode cX7_open 63 = .ok (.getfield 18, 3) := by decide +kernel
theorem dX7_open_66 : decode cX7_open 66 = .ok (.iconst 1, 1) := by decide +kernel
theorem dX7_open_67 : decode cX7_open 67 = .ok (.iadd, 1) := by decide +kernel
theorem dX7_open_68 : decode cX7_open 68 = .ok (.putfield 18, 3) := by decide +kernel
theorem dX7_open_71 : decode cX7_open 71 = .ok (.return_, 1) := by decide +kernel
theorem dX7_close_0 : decode cX7_close 0 = .ok (.aload_n 0, 1) := by decide +kernel
theorem dX7_close_1 : decode cX7_close 1 = .ok (.getfield 18, 3) := by decide +kernel
theorem dX7_close_4 : decode cX7_close 4 = .ok (.ifCond .le 13, 3) := by decide +kernel
theorem dX7_close_7 : decode cX7_close 7 = .ok (.aload_n 0, 1) := by decide +kernel
theorem dX7_close_8 : decode cX7_close 8 = .ok (.dup, 1) := by decide +kernel
theorem dX7_close_9 : decode cX7_close 9 = .ok (.getfield 18, 3) := by decide +kernel
theorem dX7_close_12 : decode cX7_close 12 = .ok (.iconst 1, 1) := by decide +kernel
theorem dX7_close_13 : decode cX7_close 13 = .ok (.isub, 1) := by decide +kernel
theorem dX7_close_14 : decode cX7_close 14 = .ok (.putfield 18, 3) := by decide +kernel
theorem dX7_close_17 : decode cX7_close 17 = .ok (.return_, 1) := by decide +kernel
theorem dX7_apply_0 : decode cX7_apply 0 = .ok (.aload_n 0, 1) := by decide +kernel
theorem dX7_apply_1 : decode cX7_apply 1 = .ok (.getfield 18, 3) := by decide +kernel
theorem dX7_apply_4 : decode cX7_apply 4 = .ok (.ifCond .lt 11, 3) := by decide +kernel
theorem dX7_apply_7 : decode cX7_apply 7 = .ok (.aload_n 0, 1) := by decide +kernel
theorem dX7_apply_8 : decode cX7_apply 8 = .ok (.getfield 18, 3) := by decide +kernel
theorem dX7_apply_11 : decode cX7_apply 11 = .ok (.iconst 2, 1) := by decide +kernel
theorem dX7_apply_12 : decode cX7_apply 12 = .ok (.if_icmp .le 5, 3) := by decide +kernel
theorem dX7_apply_15 : decode cX7_apply 15 = .ok (.lconst 0, 1) := by decide +kernel
theorem dX7_apply_16 : decode cX7_apply 16 = .ok (.lreturn, 1) := by decide +kernel
theorem dX7_apply_17 : decode cX7_apply 17 = .ok (.lload_n 3, 1) := by decide +kernel
theorem dX7_apply_18 : decode cX7_apply 18 = .ok (.aload_n 0, 1) := by decide +kernel
theorem dX7_apply_19 : decode cX7_apply 19 = .ok (.getfield 15, 3) := by decide +kernel
theorem dX7_apply_22 : decode cX7_apply 22 = .ok (.aload_n 0, 1) := by decide +kernel
theorem dX7_apply_23 : decode cX7_apply 23 = .ok (.getfield 18, 3) := by decide +kernel
theorem dX7_apply_26 : decode cX7_apply 26 = .ok (.laload, 1) := by decide +kernel
theorem dX7_apply_27 : decode cX7_apply 27 = .ok (.lmul, 1) := by decide +kernel
theorem dX7_apply_28 : decode cX7_apply 28 = .ok (.lstore 5, 2) := by decide +kernel
theorem dX7_apply_30 : decode cX7_apply 30 = .ok (.lload 5, 2) := by decide +kernel
theorem dX7_apply_32 : decode cX7_apply 32 = .ok (.lconst 1, 1) := by decide +kernel
theorem dX7_apply_33 : decode cX7_apply 33 = .ok (.lcmp, 1) := by decide +kernel
theorem dX7_apply_34 : decode cX7_apply 34 = .ok (.ifCond .ge 7, 3) := by decide +kernel
theorem dX7_apply_37 : decode cX7_apply 37 = .ok (.lconst 0, 1) := by decide +kernel
theorem dX7_apply_38 : decode cX7_apply 38 = .ok (.goto 17, 3) := by decide +kernel
theorem dX7_apply_41 : decode cX7_apply 41 = .ok (.lload_n 1, 1) := by decide +kernel
theorem dX7_apply_42 : decode cX7_apply 42 = .ok (.aload_n 0, 1) := by decide +kernel
theorem dX7_apply_43 : decode cX7_apply 43 = .ok (.getfield 9, 3) := by decide +kernel
theorem dX7_apply_46 : decode cX7_apply 46 = .ok (.aload_n 0, 1) := by decide +kernel
theorem dX7_apply_47 : decode cX7_apply 47 = .ok (.getfield 18, 3) := by decide +kernel
theorem dX7_apply_50 : decode cX7_apply 50 = .ok (.laload, 1) := by decide +kernel
theorem dX7_apply_51 : decode cX7_apply 51 = .ok (.lmul, 1) := by decide +kernel
theorem dX7_apply_52 : decode cX7_apply 52 = .ok (.lload 5, 2) := by decide +kernel
theorem dX7_apply_54 : decode cX7_apply 54 = .ok (.ldiv, 1) := by decide +kernel
theorem dX7_apply_55 : decode cX7_apply 55 = .ok (.lreturn, 1) := by decide +kernel
theorem dX8_unfold_0 : decode cX8_unfold 0 = .ok (.aload_n 1, 1) := by decide +kernel
theorem dX8_unfold_1 : decode cX8_unfold 1 = .ok (.invokevirtual 7, 3) := by decide +kernel
theorem dX8_unfold_4 : decode cX8_unfold 4 = .ok (.aload_n 0, 1) := by decide +kernel
theorem dX8_unfold_5 : decode cX8_unfold 5 = .ok (.invokevirtual 12, 3) := by decide +kernel
theorem dX8_unfold_8 : decode cX8_unfold 8 = .ok (.istore_n 2, 1) := by decide +kernel
theorem dX8_unfold_9 : decode cX8_unfold 9 = .ok (.iconst 0, 1) := by decide +kernel
theorem dX8_unfold_10 : decode cX8_unfold 10 = .ok (.istore_n 3, 1) := by decide +kernel
theorem dX8_unfold_11 : decode cX8_unfold 11 = .ok (.iload_n 3, 1) := by decide +kernel
theorem dX8_unfold_12 : decode cX8_unfold 12 = .ok (.iload_n 2, 1) := by decide +kernel
theorem dX8_unfold_13 : decode cX8_unfold 13 = .ok (.if_icmp .ge 59, 3) := by decide +kernel
theorem dX8_unfold_16 : decode cX8_unfold 16 = .ok (.aload_n 0, 1) := by decide +kernel
theorem dX8_unfold_17 : decode cX8_unfold 17 = .ok (.iload_n 3, 1) := by decide +kernel
theorem dX8_unfold_18 : decode cX8_unfold 18 = .ok (.invokevirtual 16, 3) := by decide +kernel
theorem dX8_unfold_21 : decode cX8_unfold 21 = .ok (.bipush 91, 2) := by decide +kernel
theorem dX8_unfold_23 : decode cX8_unfold 23 = .ok (.if_icmp .ne 34, 3) := by decide +kernel
theorem dX8_unfold_26 : decode cX8_unfold 26 = .ok (.aload_n 0, 1) := by decide +kernel
theorem dX8_unfold_27 : decode cX8_unfold 27 = .ok (.iload_n 3, 1) := by decide +kernel
theorem dX8_unfold_28 : decode cX8_unfold 28 = .ok (.bipush 93, 2) := by decide +kernel
theorem dX8_unfold_30 : decode cX8_unfold 30 = .ok (.bipush 93, 2) := by decide +kernel
theorem dX8_unfold_32 : decode cX8_unfold 32 = .ok (.invokevirtual 20, 3) := by decide +kernel
theorem dX8_unfold_35 : decode cX8_unfold 35 = .ok (.istore 4, 2) := by decide +kernel
theorem dX8_unfold_37 : decode cX8_unfold 37 = .ok (.aload_n 0, 1) := by decide +kernel
theorem dX8_unfold_38 : decode cX8_unfold 38 = .ok (.iload_n 3, 1) := by decide +kernel
theorem dX8_unfold_39 : decode cX8_unfold 39 = .ok (.iload 4, 2) := by decide +kernel
theorem dX8_unfold_41 : decode cX8_unfold 41 = .ok (.aload_n 1, 1) := by decide +kernel
theorem dX8_unfold_42 : decode cX8_unfold 42 = .ok (.invokestatic 24, 3) := by decide +kernel
theorem dX8_unfold_45 : decode cX8_unfold 45 = .ok (.iload_n 3, 1) := by decide +kernel
theorem dX8_unfold_46 : decode cX8_unfold 46 = .ok (.iload 4, 2) := by decide +kernel
theorem dX8_unfold_48 : decode cX8_unfold 48 = .ok (.iconst 1, 1) := by decide +kernel
theorem dX8_unfold_49 : decode cX8_unfold 49 = .ok (.iadd, 1) := by decide +kernel
theorem dX8_unfold_50 : decode cX8_unfold 50 = .ok (.invokestatic 30, 3) := by decide +kernel
theorem dX8_unfold_53 : decode cX8_unfold 53 = .ok (.istore_n 3, 1) := by decide +kernel
theorem dX8_unfold_54 : decode cX8_unfold 54 = .ok (.goto 12, 3) := by decide +kernel
theorem dX8_unfold_57 : decode cX8_unfold 57 = .ok (.aload_n 1, 1) := by decide +kernel
theorem dX8_unfold_58 : decode cX8_unfold 58 = .ok (.aload_n 0, 1) := by decide +kernel
theorem dX8_unfold_59 : decode cX8_unfold 59 = .ok (.iload_n 3, 1) := by decide +kernel
theorem dX8_unfold_60 : decode cX8_unfold 60 = .ok (.invokevirtual 16, 3) := by decide +kernel
theorem dX8_unfold_63 : decode cX8_unfold 63 = .ok (.invokevirtual 36, 3) := by decide +kernel
theorem dX8_unfold_66 : decode cX8_unfold 66 = .ok (.iinc 3 1, 3) := by decide +kernel
theorem dX8_unfold_69 : decode cX8_unfold 69 = .ok (.goto (-58), 3) := by decide +kernel
theorem dX8_unfold_72 : decode cX8_unfold 72 = .ok (.return_, 1) := by decide +kernel
theorem dX8_appendPasses_0 : decode cX8_appendPasses 0 = .ok (.aload_n 0, 1) := by decide +kernel
theorem dX8_appendPasses_1 : decode cX8_appendPasses 1 = .ok (.iload_n 2, 1) := by decide +kernel
theorem dX8_appendPasses_2 : decode cX8_appendPasses 2 = .ok (.iconst 1, 1) := by decide +kernel
theorem dX8_appendPasses_3 : decode cX8_appendPasses 3 = .ok (.iadd, 1) := by decide +kernel
theorem dX8_appendPasses_4 : decode cX8_appendPasses 4 = .ok (.invokevirtual 16, 3) := by decide +kernel
theorem dX8_appendPasses_7 : decode cX8_appendPasses 7 = .ok (.invokestatic 40, 3) := by decide +kernel
theorem dX8_appendPasses_10 : decode cX8_appendPasses 10 = .ok (.istore 4, 2) := by decide +kernel
theorem dX8_appendPasses_12 : decode cX8_appendPasses 12 = .ok (.aload_n 0, 1) := by decide +kernel
theorem dX8_appendPasses_13 : decode cX8_appendPasses 13 = .ok (.iload_n 1, 1) := by decide +kernel
theorem dX8_appendPasses_14 : decode cX8_appendPasses 14 = .ok (.bipush 47, 2) := by decide +kernel
theorem dX8_appendPasses_16 : decode cX8_appendPasses 16 = .ok (.bipush 93, 2) := by decide +kernel
theorem dX8_appendPasses_18 : decode cX8_appendPasses 18 = .ok (.invokevirtual 20, 3) := by decide +kernel
theorem dX8_appendPasses_21 : decode cX8_appendPasses 21 = .ok (.istore 5, 2) := by decide +kernel
theorem dX8_appendPasses_23 : decode cX8_appendPasses 23 = .ok (.iconst 1, 1) := by decide +kernel
theorem dX8_appendPasses_24 : decode cX8_appendPasses 24 = .ok (.istore 6, 2) := by decide +kernel
theorem dX8_appendPasses_26 : decode cX8_appendPasses 26 = .ok (.iload 6, 2) := by decide +kernel
theorem dX8_appendPasses_28 : decode cX8_appendPasses 28 = .ok (.iload 4, 2) := by decide +kernel
theorem dX8_appendPasses_30 : decode cX8_appendPasses 30 = .ok (.if_icmp .gt 29, 3) := by decide +kernel
theorem dX8_appendPasses_33 : decode cX8_appendPasses 33 = .ok (.aload_n 3, 1) := by decide +kernel
theorem dX8_appendPasses_34 : decode cX8_appendPasses 34 = .ok (.aload_n 0, 1) := by decide +kernel
theorem dX8_appendPasses_35 : decode cX8_appendPasses 35 = .ok (.iload_n 1, 1) := by decide +kernel
theorem dX8_appendPasses_36 : decode cX8_appendPasses 36 = .ok (.iconst 1, 1) := by decide +kernel
theorem dX8_appendPasses_37 : decode cX8_appendPasses 37 = .ok (.iadd, 1) := by decide +kernel
theorem dX8_appendPasses_38 : decode cX8_appendPasses 38 = .ok (.iload 5, 2) := by decide +kernel
theorem dX8_appendPasses_40 : decode cX8_appendPasses 40 = .ok (.invokevirtual 45, 3) := by decide +kernel
theorem dX8_appendPasses_43 : decode cX8_appendPasses 43 = .ok (.aload_n 0, 1) := by decide +kernel
theorem dX8_appendPasses_44 : decode cX8_appendPasses 44 = .ok (.iload 5, 2) := by decide +kernel
theorem dX8_appendPasses_46 : decode cX8_appendPasses 46 = .ok (.iload_n 2, 1) := by decide +kernel
theorem dX8_appendPasses_47 : decode cX8_appendPasses 47 = .ok (.iload 6, 2) := by decide +kernel
theorem dX8_appendPasses_49 : decode cX8_appendPasses 49 = .ok (.aload_n 3, 1) := by decide +kernel
theorem dX8_appendPasses_50 : decode cX8_appendPasses 50 = .ok (.invokestatic 49, 3) := by decide +kernel
theorem dX8_appendPasses_53 : decode cX8_appendPasses 53 = .ok (.iinc 6 1, 3) := by decide +kernel
theorem dX8_appendPasses_56 : decode cX8_appendPasses 56 = .ok (.goto (-30), 3) := by decide +kernel
theorem dX8_appendPasses_59 : decode cX8_appendPasses 59 = .ok (.return_, 1) := by decide +kernel
theorem dX8_appendEnding_0 : decode cX8_appendEnding 0 = .ok (.iload_n 1, 1) := by decide +kernel
theorem dX8_appendEnding_1 : decode cX8_appendEnding 1 = .ok (.istore 5, 2) := by decide +kernel
theorem dX8_appendEnding_3 : decode cX8_appendEnding 3 = .ok (.iload 5, 2) := by decide +kernel
theorem dX8_appendEnding_5 : decode cX8_appendEnding 5 = .ok (.iload_n 2, 1) := by decide +kernel
theorem dX8_appendEnding_6 : decode cX8_appendEnding 6 = .ok (.if_icmp .ge 63, 3) := by decide +kernel
theorem dX8_appendEnding_9 : decode cX8_appendEnding 9 = .ok (.aload_n 0, 1) := by decide +kernel
theorem dX8_appendEnding_10 : decode cX8_appendEnding 10 = .ok (.iload 5, 2) := by decide +kernel
theorem dX8_appendEnding_12 : decode cX8_appendEnding 12 = .ok (.invokevirtual 16, 3) := by decide +kernel
theorem dX8_appendEnding_15 : decode cX8_appendEnding 15 = .ok (.bipush 47, 2) := by decide +kernel
theorem dX8_appendEnding_17 : decode cX8_appendEnding 17 = .ok (.if_icmp .ne 46, 3) := by decide +kernel
theorem dX8_appendEnding_20 : decode cX8_appendEnding 20 = .ok (.aload_n 0, 1) := by decide +kernel
theorem dX8_appendEnding_21 : decode cX8_appendEnding 21 = .ok (.iload 5, 2) := by decide +kernel
theorem dX8_appendEnding_23 : decode cX8_appendEnding 23 = .ok (.iload_n 3, 1) := by decide +kernel
theorem dX8_appendEnding_24 : decode cX8_appendEnding 24 = .ok (.invokestatic 53, 3) := by decide +kernel
theorem dX8_appendEnding_27 : decode cX8_appendEnding 27 = .ok (.ifCond .eq 36, 3) := by decide +kernel
theorem dX8_appendEnding_30 : decode cX8_appendEnding 30 = .ok (.aload_n 0, 1) := by decide +kernel
theorem dX8_appendEnding_31 : decode cX8_appendEnding 31 = .ok (.iload 5, 2) := by decide +kernel
theorem dX8_appendEnding_33 : decode cX8_appendEnding 33 = .ok (.bipush 58, 2) := by decide +kernel
theorem dX8_appendEnding_35 : decode cX8_appendEnding 35 = .ok (.bipush 58, 2) := by decide +kernel
theorem dX8_appendEnding_37 : decode cX8_appendEnding 37 = .ok (.invokevirtual 20, 3) := by decide +kernel
theorem dX8_appendEnding_40 : decode cX8_appendEnding 40 = .ok (.istore 6, 2) := by decide +kernel
theorem dX8_appendEnding_42 : decode cX8_appendEnding 42 = .ok (.aload 4, 2) := by decide +kernel
theorem dX8_appendEnding_44 : decode cX8_appendEnding 44 = .ok (.aload_n 0, 1) := by decide +kernel
theorem dX8_appendEnding_45 : decode cX8_appendEnding 45 = .ok (.iload 6, 2) := by decide +kernel
theorem dX8_appendEnding_47 : decode cX8_appendEnding 47 = .ok (.iconst 1, 1) := by decide +kernel
theorem dX8_appendEnding_48 : decode cX8_appendEnding 48 = .ok (.iadd, 1) := by decide +kernel
theorem dX8_appendEnding_49 : decode cX8_appendEnding 49 = .ok (.aload_n 0, 1) := by decide +kernel
theorem dX8_appendEnding_50 : decode cX8_appendEnding 50 = .ok (.iload 6, 2) := by decide +kernel
theorem dX8_appendEnding_52 : decode cX8_appendEnding 52 = .ok (.bipush 47, 2) := by decide +kernel
theorem dX8_appendEnding_54 : decode cX8_appendEnding 54 = .ok (.bipush 93, 2) := by decide +kernel
theorem dX8_appendEnding_56 : decode cX8_appendEnding 56 = .ok (.invokevirtual 20, 3) := by decide +kernel
theorem dX8_appendEnding_59 : decode cX8_appendEnding 59 = .ok (.invokevirtual 45, 3) := by decide +kernel
theorem dX8_appendEnding_62 : decode cX8_appendEnding 62 = .ok (.return_, 1) := by decide +kernel
theorem dX8_appendEnding_63 : decode cX8_appendEnding 63 = .ok (.iinc 5 1, 3) := by decide +kernel
theorem dX8_appendEnding_66 : decode cX8_appendEnding 66 = .ok (.goto (-63), 3) := by decide +kernel
theorem dX8_appendEnding_69 : decode cX8_appendEnding 69 = .ok (.return_, 1) := by decide +kernel
theorem dX8_isEndingOf_0 : decode cX8_isEndingOf 0 = .ok (.aload_n 0, 1) := by decide +kernel
theorem dX8_isEndingOf_1 : decode cX8_isEndingOf 1 = .ok (.iload_n 1, 1) := by decide +kernel
theorem dX8_isEndingOf_2 : decode cX8_isEndingOf 2 = .ok (.bipush 58, 2) := by decide +kernel
theorem dX8_isEndingOf_4 : decode cX8_isEndingOf 4 = .ok (.bipush 58, 2) := by decide +kernel
theorem dX8_isEndingOf_6 : decode cX8_isEndingOf 6 = .ok (.invokevirtual 20, 3) := by decide +kernel
theorem dX8_isEndingOf_9 : decode cX8_isEndingOf 9 = .ok (.istore_n 3, 1) := by decide +kernel
theorem dX8_isEndingOf_10 : decode cX8_isEndingOf 10 = .ok (.iload_n 1, 1) := by decide +kernel
theorem dX8_isEndingOf_11 : decode cX8_isEndingOf 11 = .ok (.iconst 1, 1) := by decide +kernel
theorem dX8_isEndingOf_12 : decode cX8_isEndingOf 12 = .ok (.iadd, 1) := by decide +kernel
theorem dX8_isEndingOf_13 : decode cX8_isEndingOf 13 = .ok (.istore 4, 2) := by decide +kernel
theorem dX8_isEndingOf_15 : decode cX8_isEndingOf 15 = .ok (.iload 4, 2) := by decide +kernel
theorem dX8_isEndingOf_17 : decode cX8_isEndingOf 17 = .ok (.iload_n 3, 1) := by decide +kernel
theorem dX8_isEndingOf_18 : decode cX8_isEndingOf 18 = .ok (.if_icmp .ge 24, 3) := by decide +kernel
theorem dX8_isEndingOf_21 : decode cX8_isEndingOf 21 = .ok (.aload_n 0, 1) := by decide +kernel
theorem dX8_isEndingOf_22 : decode cX8_isEndingOf 22 = .ok (.iload 4, 2) := by decide +kernel
theorem dX8_isEndingOf_24 : decode cX8_isEndingOf 24 = .ok (.invokevirtual 16, 3) := by decide +kernel
theorem dX8_isEndingOf_27 : decode cX8_isEndingOf 27 = .ok (.invokestatic 40, 3) := by decide +kernel
theorem dX8_isEndingOf_30 : decode cX8_isEndingOf 30 = .ok (.iload_n 2, 1) := by decide +kernel
theorem dX8_isEndingOf_31 : decode cX8_isEndingOf 31 = .ok (.if_icmp .ne 5, 3) := by decide +kernel
theorem dX8_isEndingOf_34 : decode cX8_isEndingOf 34 = .ok (.iconst 1, 1) := by decide +kernel
theorem dX8_isEndingOf_35 : decode cX8_isEndingOf 35 = .ok (.ireturn, 1) := by decide +kernel
theorem dX8_isEndingOf_36 : decode cX8_isEndingOf 36 = .ok (.iinc 4 1, 3) := by decide +kernel
theorem dX8_isEndingOf_39 : decode cX8_isEndingOf 39 = .ok (.goto (-24), 3) := by decide +kernel
theorem dX8_isEndingOf_42 : decode cX8_isEndingOf 42 = .ok (.iconst 0, 1) := by decide +kernel
theorem dX8_isEndingOf_43 : decode cX8_isEndingOf 43 = .ok (.ireturn, 1) := by decide +kernel
theorem dX8_sounds_0 : decode cX8_sounds 0 = .ok (.iconst 0, 1) := by decide +kernel
theorem dX8_sounds_1 : decode cX8_sounds 1 = .ok (.istore_n 1, 1) := by decide +kernel
theorem dX8_sounds_2 : decode cX8_sounds 2 = .ok (.iconst 0, 1) := by decide +kernel
theorem dX8_sounds_3 : decode cX8_sounds 3 = .ok (.istore_n 2, 1) := by decide +kernel
theorem dX8_sounds_4 : decode cX8_sounds 4 = .ok (.iload_n 2, 1) := by decide +kernel
theorem dX8_sounds_5 : decode cX8_sounds 5 = .ok (.aload_n 0, 1) := by decide +kernel
theorem dX8_sounds_6 : decode cX8_sounds 6 = .ok (.invokevirtual 12, 3) := by decide +kernel
theorem dX8_sounds_9 : decode cX8_sounds 9 = .ok (.if_icmp .ge 23, 3) := by decide +kernel
theorem dX8_sounds_12 : decode cX8_sounds 12 = .ok (.aload_n 0, 1) := by decide +kernel
theorem dX8_sounds_13 : decode cX8_sounds 13 = .ok (.iload_n 2, 1) := by decide +kernel
theorem dX8_sounds_14 : decode cX8_sounds 14 = .ok (.invokevirtual 16, 3) := by decide +kernel
theorem dX8_sounds_17 : decode cX8_sounds 17 = .ok (.invokestatic 57, 3) := by decide +kernel
theorem dX8_sounds_20 : decode cX8_sounds 20 = .ok (.ifCond .lt 6, 3) := by decide +kernel
theorem dX8_sounds_23 : decode cX8_sounds 23 = .ok (.iinc 1 1, 3) := by decide +kernel
theorem dX8_sounds_26 : decode cX8_sounds 26 = .ok (.iinc 2 1, 3) := by decide +kernel
theorem dX8_sounds_29 : decode cX8_sounds 29 = .ok (.goto (-25), 3) := by decide +kernel
theorem dX8_sounds_32 : decode cX8_sounds 32 = .ok (.iload_n 1, 1) := by decide +kernel
theorem dX8_sounds_33 : decode cX8_sounds 33 = .ok (.ireturn, 1) := by decide +kernel
theorem dX9_init_0 : decode cX9_init 0 = .ok (.aload_n 0, 1) := by decide +kernel
theorem dX9_init_1 : decode cX9_init 1 = .ok (.invokespecial 3, 3) := by decide +kernel
theorem dX9_init_4 : decode cX9_init 4 = .ok (.aload_n 0, 1) := by decide +kernel
theorem dX9_init_5 : decode cX9_init 5 = .ok (.new 9, 3) := by decide +kernel
theorem dX9_init_8 : decode cX9_init 8 = .ok (.dup, 1) := by decide +kernel
theorem dX9_init_9 : decode cX9_init 9 = .ok (.bipush 100, 2) := by decide +kernel
theorem dX9_init_11 : decode cX9_init 11 = .ok (.invokespecial 11, 3) := by decide +kernel
theorem dX9_init_14 : decode cX9_init 14 = .ok (.putfield 14, 3) := by decide +kernel
theorem dX9_init_17 : decode cX9_init 17 = .ok (.aload_n 0, 1) := by decide +kernel
theorem dX9_init_18 : decode cX9_init 18 = .ok (.new 9, 3) := by decide +kernel
theorem dX9_init_21 : decode cX9_init 21 = .ok (.dup, 1) := by decide +kernel
theorem dX9_init_22 : decode cX9_init 22 = .ok (.sipush 900, 3) := by decide +kernel
theorem dX9_init_25 : decode cX9_init 25 = .ok (.invokespecial 11, 3) := by decide +kernel
theorem dX9_init_28 : decode cX9_init 28 = .ok (.putfield 18, 3) := by decide +kernel
theorem dX9_init_31 : decode cX9_init 31 = .ok (.aload_n 0, 1) := by decide +kernel
theorem dX9_init_32 : decode cX9_init 32 = .ok (.new 21, 3) := by decide +kernel
theorem dX9_init_35 : decode cX9_init 35 = .ok (.dup, 1) := by decide +kernel
theorem dX9_init_36 : decode cX9_init 36 = .ok (.invokespecial 23, 3) := by decide +kernel
theorem dX9_init_39 : decode cX9_init 39 = .ok (.putfield 24, 3) := by decide +kernel
theorem dX9_init_42 : decode cX9_init 42 = .ok (.aload_n 0, 1) := by decide +kernel
theorem dX9_init_43 : decode cX9_init 43 = .ok (.iconst 4, 1) := by decide +kernel
theorem dX9_init_44 : decode cX9_init 44 = .ok (.anewarray 28, 3) := by decide +kernel
theorem dX9_init_47 : decode cX9_init 47 = .ok (.putfield 30, 3) := by decide +kernel
theorem dX9_init_50 : decode cX9_init 50 = .ok (.iconst 0, 1) := by decide +kernel
theorem dX9_init_51 : decode cX9_init 51 = .ok (.istore_n 1, 1) := by decide +kernel
theorem dX9_init_52 : decode cX9_init 52 = .ok (.iload_n 1, 1) := by decide +kernel
theorem dX9_init_53 : decode cX9_init 53 = .ok (.iconst 4, 1) := by decide +kernel
theorem dX9_init_54 : decode cX9_init 54 = .ok (.if_icmp .ge 22, 3) := by decide +kernel
theorem dX9_init_57 : decode cX9_init 57 = .ok (.aload_n 0, 1) := by decide +kernel
theorem dX9_init_58 : decode cX9_init 58 = .ok (.getfield 30, 3) := by decide +kernel
theorem dX9_init_61 : decode cX9_init 61 = .ok (.iload_n 1, 1) := by decide +kernel
theorem dX9_init_62 : decode cX9_init 62 = .ok (.new 28, 3) := by decide +kernel
theorem dX9_init_65 : decode cX9_init 65 = .ok (.dup, 1) := by decide +kernel
theorem dX9_init_66 : decode cX9_init 66 = .ok (.invokespecial 34, 3) := by decide +kernel
theorem dX9_init_69 : decode cX9_init 69 = .ok (.aastore, 1) := by decide +kernel
theorem dX9_init_70 : decode cX9_init 70 = .ok (.iinc 1 1, 3) := by decide +kernel
theorem dX9_init_73 : decode cX9_init 73 = .ok (.goto (-21), 3) := by decide +kernel
theorem dX9_init_76 : decode cX9_init 76 = .ok (.aload_n 0, 1) := by decide +kernel
theorem dX9_init_77 : decode cX9_init 77 = .ok (.iconst 5, 1) := by decide +kernel
theorem dX9_init_78 : decode cX9_init 78 = .ok (.anewarray 35, 3) := by decide +kernel
theorem dX9_init_81 : decode cX9_init 81 = .ok (.putfield 37, 3) := by decide +kernel
theorem dX9_init_84 : decode cX9_init 84 = .ok (.iconst 0, 1) := by decide +kernel
theorem dX9_init_85 : decode cX9_init 85 = .ok (.istore_n 1, 1) := by decide +kernel
theorem dX9_init_86 : decode cX9_init 86 = .ok (.iload_n 1, 1) := by decide +kernel
theorem dX9_init_87 : decode cX9_init 87 = .ok (.iconst 5, 1) := by decide +kernel
theorem dX9_init_88 : decode cX9_init 88 = .ok (.if_icmp .ge 22, 3) := by decide +kernel
theorem dX9_init_91 : decode cX9_init 91 = .ok (.aload_n 0, 1) := by decide +kernel
theorem dX9_init_92 : decode cX9_init 92 = .ok (.getfield 37, 3) := by decide +kernel
theorem dX9_init_95 : decode cX9_init 95 = .ok (.iload_n 1, 1) := by decide +kernel
theorem dX9_init_96 : decode cX9_init 96 = .ok (.new 35, 3) := by decide +kernel
theorem dX9_init_99 : decode cX9_init 99 = .ok (.dup, 1) := by decide +kernel
theorem dX9_init_100 : decode cX9_init 100 = .ok (.invokespecial 41, 3) := by decide +kernel
theorem dX9_init_103 : decode cX9_init 103 = .ok (.aastore, 1) := by decide +kernel
theorem dX9_init_104 : decode cX9_init 104 = .ok (.iinc 1 1, 3) := by decide +kernel
theorem dX9_init_107 : decode cX9_init 107 = .ok (.goto (-21), 3) := by decide +kernel
theorem dX9_init_110 : decode cX9_init 110 = .ok (.aload_n 0, 1) := by decide +kernel
theorem dX9_init_111 : decode cX9_init 111 = .ok (.new 42, 3) := by decide +kernel
theorem dX9_init_114 : decode cX9_init 114 = .ok (.dup, 1) := by decide +kernel
theorem dX9_init_115 : decode cX9_init 115 = .ok (.invokespecial 44, 3) := by decide +kernel
theorem dX9_init_118 : decode cX9_init 118 = .ok (.putfield 45, 3) := by decide +kernel
theorem dX9_init_121 : decode cX9_init 121 = .ok (.aload_n 0, 1) := by decide +kernel
theorem dX9_init_122 : decode cX9_init 122 = .ok (.iconst 4, 1) := by decide +kernel
theorem dX9_init_123 : decode cX9_init 123 = .ok (.putfield 49, 3) := by decide +kernel
theorem dX9_init_126 : decode cX9_init 126 = .ok (.aload_n 0, 1) := by decide +kernel
theorem dX9_init_127 : decode cX9_init 127 = .ok (.iconst 4, 1) := by decide +kernel
theorem dX9_init_128 : decode cX9_init 128 = .ok (.putfield 53, 3) := by decide +kernel
theorem dX9_init_131 : decode cX9_init 131 = .ok (.aload_n 0, 1) := by decide +kernel
theorem dX9_init_132 : decode cX9_init 132 = .ok (.iconst 1, 1) := by decide +kernel
theorem dX9_init_133 : decode cX9_init 133 = .ok (.putfield 56, 3) := by decide +kernel
theorem dX9_init_136 : decode cX9_init 136 = .ok (.aload_n 0, 1) := by decide +kernel
theorem dX9_init_137 : decode cX9_init 137 = .ok (.iconst 1, 1) := by decide +kernel
theorem dX9_init_138 : decode cX9_init 138 = .ok (.putfield 59, 3) := by decide +kernel
theorem dX9_init_141 : decode cX9_init 141 = .ok (.return_, 1) := by decide +kernel
theorem dX9_type_0 : decode cX9_type 0 = .ok (.iload_n 1, 1) := by decide +kernel
theorem dX9_type_1 : decode cX9_type 1 = .ok (.bipush 32, 2) := by decide +kernel
theorem dX9_type_3 : decode cX9_type 3 = .ok (.if_icmp .lt 9, 3) := by decide +kernel
theorem dX9_type_6 : decode cX9_type 6 = .ok (.iload_n 1, 1) := by decide +kernel
theorem dX9_type_7 : decode cX9_type 7 = .ok (.bipush 126, 2) := by decide +kernel
theorem dX9_type_9 : decode cX9_type 9 = .ok (.if_icmp .le 5, 3) := by decide +kernel
theorem dX9_type_12 : decode cX9_type 12 = .ok (.iconst (-1), 1) := by decide +kernel
theorem dX9_type_13 : decode cX9_type 13 = .ok (.ireturn, 1) := by decide +kernel
theorem dX9_type_14 : decode cX9_type 14 = .ok (.aload_n 0, 1) := by decide +kernel
theorem dX9_type_15 : decode cX9_type 15 = .ok (.getfield 14, 3) := by decide +kernel
theorem dX9_type_18 : decode cX9_type 18 = .ok (.invokevirtual 62, 3) := by decide +kernel
theorem dX9_type_21 : decode cX9_type 21 = .ok (.ifCond .eq 6, 3) := by decide +kernel
theorem dX9_type_24 : decode cX9_type 24 = .ok (.bipush (-3), 2) := by decide +kernel
theorem dX9_type_26 : decode cX9_type 26 = .ok (.ireturn, 1) := by decide +kernel
theorem dX9_type_27 : decode cX9_type 27 = .ok (.aload_n 0, 1) := by decide +kernel
theorem dX9_type_28 : decode cX9_type 28 = .ok (.getfield 14, 3) := by decide +kernel
theorem dX9_type_31 : decode cX9_type 31 = .ok (.iload_n 1, 1) := by decide +kernel
theorem dX9_type_32 : decode cX9_type 32 = .ok (.invokevirtual 66, 3) := by decide +kernel
theorem dX9_type_35 : decode cX9_type 35 = .ok (.aload_n 0, 1) := by decide +kernel
theorem dX9_type_36 : decode cX9_type 36 = .ok (.getfield 14, 3) := by decide +kernel
theorem dX9_type_39 : decode cX9_type 39 = .ok (.invokevirtual 69, 3) := by decide +kernel
theorem dX9_type_42 : decode cX9_type 42 = .ok (.ireturn, 1) := by decide +kernel
theorem dX9_clear_0 : decode cX9_clear 0 = .ok (.aload_n 0, 1) := by decide +kernel
theorem dX9_clear_1 : decode cX9_clear 1 = .ok (.getfield 14, 3) := by decide +kernel
theorem dX9_clear_4 : decode cX9_clear 4 = .ok (.invokevirtual 69, 3) := by decide +kernel
theorem dX9_clear_7 : decode cX9_clear 7 = .ok (.istore_n 1, 1) := by decide +kernel
theorem dX9_clear_8 : decode cX9_clear 8 = .ok (.aload_n 0, 1) := by decide +kernel
theorem dX9_clear_9 : decode cX9_clear 9 = .ok (.getfield 14, 3) := by decide +kernel
theorem dX9_clear_12 : decode cX9_clear 12 = .ok (.invokevirtual 73, 3) := by decide +kernel
theorem dX9_clear_15 : decode cX9_clear 15 = .ok (.iload_n 1, 1) := by decide +kernel
theorem dX9_clear_16 : decode cX9_clear 16 = .ok (.ireturn, 1) := by decide +kernel
theorem dX9_read_0 : decode cX9_read 0 = .ok (.aload_n 0, 1) := by decide +kernel
theorem dX9_read_1 : decode cX9_read 1 = .ok (.iload_n 1, 1) := by decide +kernel
theorem dX9_read_2 : decode cX9_read 2 = .ok (.invokevirtual 76, 3) := by decide +kernel
theorem dX9_read_5 : decode cX9_read 5 = .ok (.astore_n 2, 1) := by decide +kernel
theorem dX9_read_6 : decode cX9_read 6 = .ok (.aload_n 2, 1) := by decide +kernel
theorem dX9_read_7 : decode cX9_read 7 = .ok (.ifnonnull 5, 3) := by decide +kernel
theorem dX9_read_10 : decode cX9_read 10 = .ok (.iconst (-1), 1) := by decide +kernel
theorem dX9_read_11 : decode cX9_read 11 = .ok (.ireturn, 1) := by decide +kernel
theorem dX9_read_12 : decode cX9_read 12 = .ok (.aload_n 0, 1) := by decide +kernel
theorem dX9_read_13 : decode cX9_read 13 = .ok (.getfield 24, 3) := by decide +kernel
theorem dX9_read_16 : decode cX9_read 16 = .ok (.aload_n 0, 1) := by decide +kernel
theorem dX9_read_17 : decode cX9_read 17 = .ok (.getfield 14, 3) := by decide +kernel
theorem dX9_read_20 : decode cX9_read 20 = .ok (.invokevirtual 80, 3) := by decide +kernel
theorem dX9_read_23 : decode cX9_read 23 = .ok (.istore_n 3, 1) := by decide +kernel
theorem dX9_read_24 : decode cX9_read 24 = .ok (.iload_n 3, 1) := by decide +kernel
theorem dX9_read_25 : decode cX9_read 25 = .ok (.bipush (-9), 2) := by decide +kernel
theorem dX9_read_27 : decode cX9_read 27 = .ok (.if_icmp .eq 8, 3) := by decide +kernel
theorem dX9_read_30 : decode cX9_read 30 = .ok (.bipush (-100), 2) := by decide +kernel
theorem dX9_read_32 : decode cX9_read 32 = .ok (.iload_n 3, 1) := by decide +kernel
theorem dX9_read_33 : decode cX9_read 33 = .ok (.isub, 1) := by decide +kernel
theorem dX9_read_34 : decode cX9_read 34 = .ok (.ireturn, 1) := by decide +kernel
theorem dX9_read_35 : decode cX9_read 35 = .ok (.aload_n 0, 1) := by decide +kernel
theorem dX9_read_36 : decode cX9_read 36 = .ok (.getfield 14, 3) := by decide +kernel
theorem dX9_read_39 : decode cX9_read 39 = .ok (.aload_n 0, 1) := by decide +kernel
theorem dX9_read_40 : decode cX9_read 40 = .ok (.getfield 18, 3) := by decide +kernel
theorem dX9_read_43 : decode cX9_read 43 = .ok (.invokestatic 84, 3) := by decide +kernel
theorem dX9_read_46 : decode cX9_read 46 = .ok (.aload_n 0, 1) := by decide +kernel
theorem dX9_read_47 : decode cX9_read 47 = .ok (.getfield 18, 3) := by decide +kernel
theorem dX9_read_50 : decode cX9_read 50 = .ok (.invokestatic 90, 3) := by decide +kernel
theorem dX9_read_53 : decode cX9_read 53 = .ok (.sipush 300, 3) := by decide +kernel
theorem dX9_read_56 : decode cX9_read 56 = .ok (.if_icmp .le 6, 3) := by decide +kernel
theorem dX9_read_59 : decode cX9_read 59 = .ok (.bipush (-3), 2) := by decide +kernel
theorem dX9_read_61 : decode cX9_read 61 = .ok (.ireturn, 1) := by decide +kernel
theorem dX9_read_62 : decode cX9_read 62 = .ok (.aload_n 0, 1) := by decide +kernel
theorem dX9_read_63 : decode cX9_read 63 = .ok (.invokevirtual 93, 3) := by decide +kernel
theorem dX9_read_66 : decode cX9_read 66 = .ok (.aload_n 2, 1) := by decide +kernel
theorem dX9_read_67 : decode cX9_read 67 = .ok (.aload_n 0, 1) := by decide +kernel
theorem dX9_read_68 : decode cX9_read 68 = .ok (.getfield 14, 3) := by decide +kernel
theorem dX9_read_71 : decode cX9_read 71 = .ok (.invokevirtual 96, 3) := by decide +kernel
theorem dX9_read_74 : decode cX9_read 74 = .ok (.aload_n 0, 1) := by decide +kernel
theorem dX9_read_75 : decode cX9_read 75 = .ok (.getfield 14, 3) := by decide +kernel
theorem dX9_read_78 : decode cX9_read 78 = .ok (.invokevirtual 73, 3) := by decide +kernel
theorem dX9_read_81 : decode cX9_read 81 = .ok (.aload_n 2, 1) := by decide +kernel
theorem dX9_read_82 : decode cX9_read 82 = .ok (.getfield 100, 3) := by decide +kernel
theorem dX9_read_85 : decode cX9_read 85 = .ok (.invokevirtual 104, 3) := by decide +kernel
theorem dX9_read_88 : decode cX9_read 88 = .ok (.ireturn, 1) := by decide +kernel
theorem dX9_copy_0 : decode cX9_copy 0 = .ok (.aload_n 0, 1) := by decide +kernel
theorem dX9_copy_1 : decode cX9_copy 1 = .ok (.iload_n 1, 1) := by decide +kernel
theorem dX9_copy_2 : decode cX9_copy 2 = .ok (.invokevirtual 76, 3) := by decide +kernel
theorem dX9_copy_5 : decode cX9_copy 5 = .ok (.astore_n 3, 1) := by decide +kernel
theorem dX9_copy_6 : decode cX9_copy 6 = .ok (.aload_n 0, 1) := by decide +kernel
theorem dX9_copy_7 : decode cX9_copy 7 = .ok (.iload_n 2, 1) := by decide +kernel
theorem dX9_copy_8 : decode cX9_copy 8 = .ok (.invokevirtual 76, 3) := by decide +kernel
theorem dX9_copy_11 : decode cX9_copy 11 = .ok (.astore 4, 2) := by decide +kernel
theorem dX9_copy_13 : decode cX9_copy 13 = .ok (.aload_n 3, 1) := by decide +kernel
theorem dX9_copy_14 : decode cX9_copy 14 = .ok (.ifnull 8, 3) := by decide +kernel
theorem dX9_copy_17 : decode cX9_copy 17 = .ok (.aload 4, 2) := by decide +kernel
theorem dX9_copy_19 : decode cX9_copy 19 = .ok (.ifnonnull 5, 3) := by decide +kernel
theorem dX9_copy_22 : decode cX9_copy 22 = .ok (.iconst (-1), 1) := by decide +kernel
theorem dX9_copy_23 : decode cX9_copy 23 = .ok (.ireturn, 1) := by decide +kernel
theorem dX9_copy_24 : decode cX9_copy 24 = .ok (.aload_n 0, 1) := by decide +kernel
theorem dX9_copy_25 : decode cX9_copy 25 = .ok (.invokevirtual 93, 3) := by decide +kernel
theorem dX9_copy_28 : decode cX9_copy 28 = .ok (.aload 4, 2) := by decide +kernel
theorem dX9_copy_30 : decode cX9_copy 30 = .ok (.aload_n 3, 1) := by decide +kernel
theorem dX9_copy_31 : decode cX9_copy 31 = .ok (.getfield 109, 3) := by decide +kernel
theorem dX9_copy_34 : decode cX9_copy 34 = .ok (.invokevirtual 96, 3) := by decide +kernel
theorem dX9_copy_37 : decode cX9_copy 37 = .ok (.aload 4, 2) := by decide +kernel
theorem dX9_copy_39 : decode cX9_copy 39 = .ok (.getfield 100, 3) := by decide +kernel
theorem dX9_copy_42 : decode cX9_copy 42 = .ok (.invokevirtual 104, 3) := by decide +kernel
theorem dX9_copy_45 : decode cX9_copy 45 = .ok (.ireturn, 1) := by decide +kernel
theorem dX9_spread_0 : decode cX9_spread 0 = .ok (.aload_n 0, 1) := by decide +kernel
theorem dX9_spread_1 : decode cX9_spread 1 = .ok (.iload_n 1, 1) := by decide +kernel
theorem dX9_spread_2 : decode cX9_spread 2 = .ok (.invokevirtual 76, 3) := by decide +kernel
theorem dX9_spread_5 : decode cX9_spread 5 = .ok (.astore 5, 2) := by decide +kernel
theorem dX9_spread_7 : decode cX9_spread 7 = .ok (.aload 5, 2) := by decide +kernel
theorem dX9_spread_9 : decode cX9_spread 9 = .ok (.ifnull 23, 3) := by decide +kernel
theorem dX9_spread_12 : decode cX9_spread 12 = .ok (.iload_n 3, 1) := by decide +kernel
theorem dX9_spread_13 : decode cX9_spread 13 = .ok (.iconst 1, 1) := by decide +kernel
theorem dX9_spread_14 : decode cX9_spread 14 = .ok (.if_icmp .lt 18, 3) := by decide +kernel
theorem dX9_spread_17 : decode cX9_spread 17 = .ok (.iload_n 3, 1) := by decide +kernel
theorem dX9_spread_18 : decode cX9_spread 18 = .ok (.bipush 32, 2) := by decide +kernel
theorem dX9_spread_20 : decode cX9_spread 20 = .ok (.if_icmp .gt 12, 3) := by decide +kernel
theorem dX9_spread_23 : decode cX9_spread 23 = .ok (.iload_n 2, 1) := by decide +kernel
theorem dX9_spread_24 : decode cX9_spread 24 = .ok (.ifCond .lt 8, 3) := by decide +kernel
theorem dX9_spread_27 : decode cX9_spread 27 = .ok (.iload_n 2, 1) := by decide +kernel
theorem dX9_spread_28 : decode cX9_spread 28 = .ok (.iload_n 3, 1) := by decide +kernel
theorem dX9_spread_29 : decode cX9_spread 29 = .ok (.if_icmp .le 5, 3) := by decide +kernel
theorem dX9_spread_32 : decode cX9_spread 32 = .ok (.iconst (-1), 1) := by decide +kernel
theorem dX9_spread_33 : decode cX9_spread 33 = .ok (.ireturn, 1) := by decide +kernel
theorem dX9_spread_34 : decode cX9_spread 34 = .ok (.iload 4, 2) := by decide +kernel
theorem dX9_spread_36 : decode cX9_spread 36 = .ok (.invokestatic 112, 3) := by decide +kernel
theorem dX9_spread_39 : decode cX9_spread 39 = .ok (.ifCond .ge 5, 3) := by decide +kernel
theorem dX9_spread_42 : decode cX9_spread 42 = .ok (.iconst (-1), 1) := by decide +kernel
theorem dX9_spread_43 : decode cX9_spread 43 = .ok (.ireturn, 1) := by decide +kernel
theorem dX9_spread_44 : decode cX9_spread 44 = .ok (.aload_n 0, 1) := by decide +kernel
theorem dX9_spread_45 : decode cX9_spread 45 = .ok (.invokevirtual 93, 3) := by decide +kernel
theorem dX9_spread_48 : decode cX9_spread 48 = .ok (.aload_n 0, 1) := by decide +kernel
theorem dX9_spread_49 : decode cX9_spread 49 = .ok (.getfield 18, 3) := by decide +kernel
theorem dX9_spread_52 : decode cX9_spread 52 = .ok (.invokevirtual 73, 3) := by decide +kernel
theorem dX9_spread_55 : decode cX9_spread 55 = .ok (.iconst 0, 1) := by decide +kernel
theorem dX9_spread_56 : decode cX9_spread 56 = .ok (.istore 6, 2) := by decide +kernel
theorem dX9_spread_58 : decode cX9_spread 58 = .ok (.iload 6, 2) := by decide +kernel
theorem dX9_spread_60 : decode cX9_spread 60 = .ok (.iload_n 3, 1) := by decide +kernel
theorem dX9_spread_61 : decode cX9_spread 61 = .ok (.if_icmp .ge 37, 3) := by decide +kernel
theorem dX9_spread_64 : decode cX9_spread 64 = .ok (.iload 6, 2) := by decide +kernel
theorem dX9_spread_66 : decode cX9_spread 66 = .ok (.iload_n 2, 1) := by decide +kernel
theorem dX9_spread_67 : decode cX9_spread 67 = .ok (.imul, 1) := by decide +kernel
theorem dX9_spread_68 : decode cX9_spread 68 = .ok (.iload_n 3, 1) := by decide +kernel
theorem dX9_spread_69 : decode cX9_spread 69 = .ok (.irem, 1) := by decide +kernel
theorem dX9_spread_70 : decode cX9_spread 70 = .ok (.iload_n 2, 1) := by decide +kernel
theorem dX9_spread_71 : decode cX9_spread 71 = .ok (.if_icmp .lt 12, 3) := by decide +kernel
theorem dX9_spread_74 : decode cX9_spread 74 = .ok (.aload_n 0, 1) := by decide +kernel
theorem dX9_spread_75 : decode cX9_spread 75 = .ok (.getfield 18, 3) := by decide +kernel
theorem dX9_spread_78 : decode cX9_spread 78 = .ok (.bipush 114, 2) := by decide +kernel
theorem dX9_spread_80 : decode cX9_spread 80 = .ok (.invokevirtual 66, 3) := by decide +kernel
theorem dX9_spread_83 : decode cX9_spread 83 = .ok (.aload_n 0, 1) := by decide +kernel
theorem dX9_spread_84 : decode cX9_spread 84 = .ok (.getfield 18, 3) := by decide +kernel
theorem dX9_spread_87 : decode cX9_spread 87 = .ok (.iload 4, 2) := by decide +kernel
theorem dX9_spread_89 : decode cX9_spread 89 = .ok (.invokevirtual 66, 3) := by decide +kernel
theorem dX9_spread_92 : decode cX9_spread 92 = .ok (.iinc 6 1, 3) := by decide +kernel
theorem dX9_spread_95 : decode cX9_spread 95 = .ok (.goto (-37), 3) := by decide +kernel
theorem dX9_spread_98 : decode cX9_spread 98 = .ok (.aload 5, 2) := by decide +kernel
theorem dX9_spread_100 : decode cX9_spread 100 = .ok (.aload_n 0, 1) := by decide +kernel
theorem dX9_spread_101 : decode cX9_spread 101 = .ok (.getfield 18, 3) := by decide +kernel
theorem dX9_spread_104 : decode cX9_spread 104 = .ok (.invokevirtual 96, 3) := by decide +kernel
theorem dX9_spread_107 : decode cX9_spread 107 = .ok (.aload 5, 2) := by decide +kernel
theorem dX9_spread_109 : decode cX9_spread 109 = .ok (.getfield 100, 3) := by decide +kernel
theorem dX9_spread_112 : decode cX9_spread 112 = .ok (.invokevirtual 104, 3) := by decide +kernel
theorem dX9_spread_115 : decode cX9_spread 115 = .ok (.ireturn, 1) := by decide +kernel
theorem dX9_textOf_0 : decode cX9_textOf 0 = .ok (.aload_n 0, 1) := by decide +kernel
theorem dX9_textOf_1 : decode cX9_textOf 1 = .ok (.iload_n 1, 1) := by decide +kernel
theorem dX9_textOf_2 : decode cX9_textOf 2 = .ok (.invokevirtual 76, 3) := by decide +kernel
theorem dX9_textOf_5 : decode cX9_textOf 5 = .ok (.astore_n 3, 1) := by decide +kernel
theorem dX9_textOf_6 : decode cX9_textOf 6 = .ok (.aload_n 3, 1) := by decide +kernel
theorem dX9_textOf_7 : decode cX9_textOf 7 = .ok (.ifnull 7, 3) := by decide +kernel
theorem dX9_textOf_10 : decode cX9_textOf 10 = .ok (.iload_n 2, 1) := by decide +kernel
theorem dX9_textOf_11 : decode cX9_textOf 11 = .ok (.ifCond .ge 5, 3) := by decide +kernel
theorem dX9_textOf_14 : decode cX9_textOf 14 = .ok (.iconst (-1), 1) := by decide +kernel
theorem dX9_textOf_15 : decode cX9_textOf 15 = .ok (.ireturn, 1) := by decide +kernel
theorem dX9_textOf_16 : decode cX9_textOf 16 = .ok (.aload_n 3, 1) := by decide +kernel
theorem dX9_textOf_17 : decode cX9_textOf 17 = .ok (.getfield 109, 3) := by decide +kernel
theorem dX9_textOf_20 : decode cX9_textOf 20 = .ok (.iload_n 2, 1) := by decide +kernel
theorem dX9_textOf_21 : decode cX9_textOf 21 = .ok (.invokevirtual 118, 3) := by decide +kernel
theorem dX9_textOf_24 : decode cX9_textOf 24 = .ok (.ireturn, 1) := by decide +kernel
theorem dX9_unfolded_0 : decode cX9_unfolded 0 = .ok (.aload_n 0, 1) := by decide +kernel
theorem dX9_unfolded_1 : decode cX9_unfolded 1 = .ok (.iload_n 1, 1) := by decide +kernel
theorem dX9_unfolded_2 : decode cX9_unfolded 2 = .ok (.invokevirtual 76, 3) := by decide +kernel
theorem dX9_unfolded_5 : decode cX9_unfolded 5 = .ok (.astore_n 3, 1) := by decide +kernel
theorem dX9_unfolded_6 : decode cX9_unfolded 6 = .ok (.aload_n 3, 1) := by decide +kernel
theorem dX9_unfolded_7 : decode cX9_unfolded 7 = .ok (.ifnull 7, 3) := by decide +kernel
theorem dX9_unfolded_10 : decode cX9_unfolded 10 = .ok (.iload_n 2, 1) := by decide +kernel
theorem dX9_unfolded_11 : decode cX9_unfolded 11 = .ok (.ifCond .ge 5, 3) := by decide +kernel
theorem dX9_unfolded_14 : decode cX9_unfolded 14 = .ok (.iconst (-1), 1) := by decide +kernel
theorem dX9_unfolded_15 : decode cX9_unfolded 15 = .ok (.ireturn, 1) := by decide +kernel
theorem dX9_unfolded_16 : decode cX9_unfolded 16 = .ok (.aload_n 3, 1) := by decide +kernel
theorem dX9_unfolded_17 : decode cX9_unfolded 17 = .ok (.getfield 121, 3) := by decide +kernel
theorem dX9_unfolded_20 : decode cX9_unfolded 20 = .ok (.iload_n 2, 1) := by decide +kernel
theorem dX9_unfolded_21 : decode cX9_unfolded 21 = .ok (.invokevirtual 118, 3) := by decide +kernel
theorem dX9_unfolded_24 : decode cX9_unfolded 24 = .ok (.ireturn, 1) := by decide +kernel
theorem dX9_setMeter_0 : decode cX9_setMeter 0 = .ok (.iload_n 1, 1) := by decide +kernel
theorem dX9_setMeter_1 : decode cX9_setMeter 1 = .ok (.iconst 1, 1) := by decide +kernel
theorem dX9_setMeter_2 : decode cX9_setMeter 2 = .ok (.if_icmp .lt 16, 3) := by decide +kernel
theorem dX9_setMeter_5 : decode cX9_setMeter 5 = .ok (.iload_n 1, 1) := by decide +kernel
theorem dX9_setMeter_6 : decode cX9_setMeter 6 = .ok (.bipush 16, 2) := by decide +kernel
theorem dX9_setMeter_8 : decode cX9_setMeter 8 = .ok (.if_icmp .gt 10, 3) := by decide +kernel
theorem dX9_setMeter_11 : decode cX9_setMeter 11 = .ok (.iload_n 2, 1) := by decide +kernel
theorem dX9_setMeter_12 : decode cX9_setMeter 12 = .ok (.invokestatic 124, 3) := by decide +kernel
theorem dX9_setMeter_15 : decode cX9_setMeter 15 = .ok (.ifCond .ne 5, 3) := by decide +kernel
theorem dX9_setMeter_18 : decode cX9_setMeter 18 = .ok (.iconst (-1), 1) := by decide +kernel
theorem dX9_setMeter_19 : decode cX9_setMeter 19 = .ok (.ireturn, 1) := by decide +kernel
theorem dX9_setMeter_20 : decode cX9_setMeter 20 = .ok (.aload_n 0, 1) := by decide +kernel
theorem dX9_setMeter_21 : decode cX9_setMeter 21 = .ok (.invokevirtual 93, 3) := by decide +kernel
theorem dX9_setMeter_24 : decode cX9_setMeter 24 = .ok (.bipush 100, 2) := by decide +kernel
theorem dX9_setMeter_26 : decode cX9_setMeter 26 = .ok (.aload_n 0, 1) := by decide +kernel
theorem dX9_setMeter_27 : decode cX9_setMeter 27 = .ok (.getfield 49, 3) := by decide +kernel
theorem dX9_setMeter_30 : decode cX9_setMeter 30 = .ok (.imul, 1) := by decide +kernel
theorem dX9_setMeter_31 : decode cX9_setMeter 31 = .ok (.aload_n 0, 1) := by decide +kernel
theorem dX9_setMeter_32 : decode cX9_setMeter 32 = .ok (.getfield 53, 3) := by decide +kernel
theorem dX9_setMeter_35 : decode cX9_setMeter 35 = .ok (.iadd, 1) := by decide +kernel
theorem dX9_setMeter_36 : decode cX9_setMeter 36 = .ok (.istore_n 3, 1) := by decide +kernel
theorem dX9_setMeter_37 : decode cX9_setMeter 37 = .ok (.aload_n 0, 1) := by decide +kernel
theorem dX9_setMeter_38 : decode cX9_setMeter 38 = .ok (.iload_n 1, 1) := by decide +kernel
theorem dX9_setMeter_39 : decode cX9_setMeter 39 = .ok (.putfield 49, 3) := by decide +kernel
theorem dX9_setMeter_42 : decode cX9_setMeter 42 = .ok (.aload_n 0, 1) := by decide +kernel
theorem dX9_setMeter_43 : decode cX9_setMeter 43 = .ok (.iload_n 2, 1) := by decide +kernel
theorem dX9_setMeter_44 : decode cX9_setMeter 44 = .ok (.putfield 53, 3) := by decide +kernel
theorem dX9_setMeter_47 : decode cX9_setMeter 47 = .ok (.iload_n 3, 1) := by decide +kernel
theorem dX9_setMeter_48 : decode cX9_setMeter 48 = .ok (.ireturn, 1) := by decide +kernel
theorem dX9_setSwing_0 : decode cX9_setSwing 0 = .ok (.iload_n 1, 1) := by decide +kernel
theorem dX9_setSwing_1 : decode cX9_setSwing 1 = .ok (.iconst 1, 1) := by decide +kernel
theorem dX9_setSwing_2 : decode cX9_setSwing 2 = .ok (.if_icmp .lt 20, 3) := by decide +kernel
theorem dX9_setSwing_5 : decode cX9_setSwing 5 = .ok (.iload_n 1, 1) := by decide +kernel
theorem dX9_setSwing_6 : decode cX9_setSwing 6 = .ok (.bipush 9, 2) := by decide +kernel
theorem dX9_setSwing_8 : decode cX9_setSwing 8 = .ok (.if_icmp .gt 14, 3) := by decide +kernel
theorem dX9_setSwing_11 : decode cX9_setSwing 11 = .ok (.iload_n 2, 1) := by decide +kernel
theorem dX9_setSwing_12 : decode cX9_setSwing 12 = .ok (.iconst 1, 1) := by decide +kernel
theorem dX9_setSwing_13 : decode cX9_setSwing 13 = .ok (.if_icmp .lt 9, 3) := by decide +kernel
theorem dX9_setSwing_16 : decode cX9_setSwing 16 = .ok (.iload_n 2, 1) := by decide +kernel
theorem dX9_setSwing_17 : decode cX9_setSwing 17 = .ok (.bipush 9, 2) := by decide +kernel
theorem dX9_setSwing_19 : decode cX9_setSwing 19 = .ok (.if_icmp .le 5, 3) := by decide +kernel
theorem dX9_setSwing_22 : decode cX9_setSwing 22 = .ok (.iconst (-1), 1) := by decide +kernel
theorem dX9_setSwing_23 : decode cX9_setSwing 23 = .ok (.ireturn, 1) := by decide +kernel
theorem dX9_setSwing_24 : decode cX9_setSwing 24 = .ok (.aload_n 0, 1) := by decide +kernel
theorem dX9_setSwing_25 : decode cX9_setSwing 25 = .ok (.invokevirtual 93, 3) := by decide +kernel
theorem dX9_setSwing_28 : decode cX9_setSwing 28 = .ok (.bipush 10, 2) := by decide +kernel
theorem dX9_setSwing_30 : decode cX9_setSwing 30 = .ok (.aload_n 0, 1) := by decide +kernel
theorem dX9_setSwing_31 : decode cX9_setSwing 31 = .ok (.getfield 56, 3) := by decide +kernel
theorem dX9_setSwing_34 : decode cX9_setSwing 34 = .ok (.imul, 1) := by decide +kernel
theorem dX9_setSwing_35 : decode cX9_setSwing 35 = .ok (.aload_n 0, 1) := by decide +kernel
theorem dX9_setSwing_36 : decode cX9_setSwing 36 = .ok (.getfield 59, 3) := by decide +kernel
theorem dX9_setSwing_39 : decode cX9_setSwing 39 = .ok (.iadd, 1) := by decide +kernel
theorem dX9_setSwing_40 : decode cX9_setSwing 40 = .ok (.istore_n 3, 1) := by decide +kernel
theorem dX9_setSwing_41 : decode cX9_setSwing 41 = .ok (.aload_n 0, 1) := by decide +kernel
theorem dX9_setSwing_42 : decode cX9_setSwing 42 = .ok (.iload_n 1, 1) := by decide +kernel
theorem dX9_setSwing_43 : decode cX9_setSwing 43 = .ok (.putfield 56, 3) := by decide +kernel
theorem dX9_setSwing_46 : decode cX9_setSwing 46 = .ok (.aload_n 0, 1) := by decide +kernel
theorem dX9_setSwing_47 : decode cX9_setSwing 47 = .ok (.iload_n 2, 1) := by decide +kernel
theorem dX9_setSwing_48 : decode cX9_setSwing 48 = .ok (.putfield 59, 3) := by decide +kernel
theorem dX9_setSwing_51 : decode cX9_setSwing 51 = .ok (.iload_n 3, 1) := by decide +kernel
theorem dX9_setSwing_52 : decode cX9_setSwing 52 = .ok (.ireturn, 1) := by decide +kernel
theorem dX9_events_0 : decode cX9_events 0 = .ok (.aload_n 0, 1) := by decide +kernel
theorem dX9_events_1 : decode cX9_events 1 = .ok (.iload_n 1, 1) := by decide +kernel
theorem dX9_events_2 : decode cX9_events 2 = .ok (.invokevirtual 76, 3) := by decide +kernel
theorem dX9_events_5 : decode cX9_events 5 = .ok (.astore_n 2, 1) := by decide +kernel
theorem dX9_events_6 : decode cX9_events 6 = .ok (.aload_n 2, 1) := by decide +kernel
theorem dX9_events_7 : decode cX9_events 7 = .ok (.ifnonnull 7, 3) := by decide +kernel
theorem dX9_events_10 : decode cX9_events 10 = .ok (.iconst (-1), 1) := by decide +kernel
theorem dX9_events_11 : decode cX9_events 11 = .ok (.goto 10, 3) := by decide +kernel
theorem dX9_events_14 : decode cX9_events 14 = .ok (.aload_n 2, 1) := by decide +kernel
theorem dX9_events_15 : decode cX9_events 15 = .ok (.getfield 100, 3) := by decide +kernel
theorem dX9_events_18 : decode cX9_events 18 = .ok (.invokevirtual 104, 3) := by decide +kernel
theorem dX9_events_21 : decode cX9_events 21 = .ok (.ireturn, 1) := by decide +kernel
theorem dX9_length_0 : decode cX9_length 0 = .ok (.aload_n 0, 1) := by decide +kernel
theorem dX9_length_1 : decode cX9_length 1 = .ok (.iload_n 1, 1) := by decide +kernel
theorem dX9_length_2 : decode cX9_length 2 = .ok (.invokevirtual 76, 3) := by decide +kernel
theorem dX9_length_5 : decode cX9_length 5 = .ok (.astore_n 3, 1) := by decide +kernel
theorem dX9_length_6 : decode cX9_length 6 = .ok (.aload_n 3, 1) := by decide +kernel
theorem dX9_length_7 : decode cX9_length 7 = .ok (.ifnull 10, 3) := by decide +kernel
theorem dX9_length_10 : decode cX9_length 10 = .ok (.iload_n 2, 1) := by decide +kernel
theorem dX9_length_11 : decode cX9_length 11 = .ok (.invokestatic 128, 3) := by decide +kernel
theorem dX9_length_14 : decode cX9_length 14 = .ok (.ifCond .ne 7, 3) := by decide +kernel
theorem dX9_length_17 : decode cX9_length 17 = .ok (.ldc2_w 131, 3) := by decide +kernel
theorem dX9_length_20 : decode cX9_length 20 = .ok (.lreturn, 1) := by decide +kernel
theorem dX9_length_21 : decode cX9_length 21 = .ok (.aload_n 3, 1) := by decide +kernel
theorem dX9_length_22 : decode cX9_length 22 = .ok (.getfield 100, 3) := by decide +kernel
theorem dX9_length_25 : decode cX9_length 25 = .ok (.invokevirtual 133, 3) := by decide +kernel
theorem dX9_length_28 : decode cX9_length 28 = .ok (.ldc2_w 137, 3) := by decide +kernel
theorem dX9_length_31 : decode cX9_length 31 = .ok (.iload_n 2, 1) := by decide +kernel
theorem dX9_length_32 : decode cX9_length 32 = .ok (.invokestatic 139, 3) := by decide +kernel
theorem dX9_length_35 : decode cX9_length 35 = .ok (.lreturn, 1) := by decide +kernel
theorem dX9_onset_0 : decode cX9_onset 0 = .ok (.aload_n 0, 1) := by decide +kernel
theorem dX9_onset_1 : decode cX9_onset 1 = .ok (.iload_n 1, 1) := by decide +kernel
theorem dX9_onset_2 : decode cX9_onset 2 = .ok (.invokevirtual 76, 3) := by decide +kernel
theorem dX9_onset_5 : decode cX9_onset 5 = .ok (.astore 4, 2) := by decide +kernel
theorem dX9_onset_7 : decode cX9_onset 7 = .ok (.aload 4, 2) := by decide +kernel
theorem dX9_onset_9 : decode cX9_onset 9 = .ok (.ifnull 22, 3) := by decide +kernel
theorem dX9_onset_12 : decode cX9_onset 12 = .ok (.aload 4, 2) := by decide +kernel
theorem dX9_onset_14 : decode cX9_onset 14 = .ok (.getfield 100, 3) := by decide +kernel
theorem dX9_onset_17 : decode cX9_onset 17 = .ok (.iload_n 2, 1) := by decide +kernel
theorem dX9_onset_18 : decode cX9_onset 18 = .ok (.invokevirtual 143, 3) := by decide +kernel
theorem dX9_onset_21 : decode cX9_onset 21 = .ok (.ifCond .eq 10, 3) := by decide +kernel
theorem dX9_onset_24 : decode cX9_onset 24 = .ok (.iload_n 3, 1) := by decide +kernel
theorem dX9_onset_25 : decode cX9_onset 25 = .ok (.invokestatic 128, 3) := by decide +kernel
theorem dX9_onset_28 : decode cX9_onset 28 = .ok (.ifCond .ne 7, 3) := by decide +kernel
theorem dX9_onset_31 : decode cX9_onset 31 = .ok (.ldc2_w 131, 3) := by decide +kernel
theorem dX9_onset_34 : decode cX9_onset 34 = .ok (.lreturn, 1) := by decide +kernel
theorem dX9_onset_35 : decode cX9_onset 35 = .ok (.aload 4, 2) := by decide +kernel
theorem dX9_onset_37 : decode cX9_onset 37 = .ok (.getfield 100, 3) := by decide +kernel
theorem dX9_onset_40 : decode cX9_onset 40 = .ok (.iload_n 2, 1) := by decide +kernel
theorem dX9_onset_41 : decode cX9_onset 41 = .ok (.invokevirtual 146, 3) := by decide +kernel
theorem dX9_onset_44 : decode cX9_onset 44 = .ok (.ldc2_w 137, 3) := by decide +kernel
theorem dX9_onset_47 : decode cX9_onset 47 = .ok (.iload_n 3, 1) := by decide +kernel
theorem dX9_onset_48 : decode cX9_onset 48 = .ok (.invokestatic 139, 3) := by decide +kernel
theorem dX9_onset_51 : decode cX9_onset 51 = .ok (.lreturn, 1) := by decide +kernel
theorem dX9_lasts_0 : decode cX9_lasts 0 = .ok (.aload_n 0, 1) := by decide +kernel
theorem dX9_lasts_1 : decode cX9_lasts 1 = .ok (.iload_n 1, 1) := by decide +kernel
theorem dX9_lasts_2 : decode cX9_lasts 2 = .ok (.invokevirtual 76, 3) := by decide +kernel
theorem dX9_lasts_5 : decode cX9_lasts 5 = .ok (.astore 4, 2) := by decide +kernel
theorem dX9_lasts_7 : decode cX9_lasts 7 = .ok (.aload 4, 2) := by decide +kernel
theorem dX9_lasts_9 : decode cX9_lasts 9 = .ok (.ifnull 22, 3) := by decide +kernel
theorem dX9_lasts_12 : decode cX9_lasts 12 = .ok (.aload 4, 2) := by decide +kernel
theorem dX9_lasts_14 : decode cX9_lasts 14 = .ok (.getfield 100, 3) := by decide +kernel
theorem dX9_lasts_17 : decode cX9_lasts 17 = .ok (.iload_n 2, 1) := by decide +kernel
theorem dX9_lasts_18 : decode cX9_lasts 18 = .ok (.invokevirtual 143, 3) := by decide +kernel
theorem dX9_lasts_21 : decode cX9_lasts 21 = .ok (.ifCond .eq 10, 3) := by decide +kernel
theorem dX9_lasts_24 : decode cX9_lasts 24 = .ok (.iload_n 3, 1) := by decide +kernel
theorem dX9_lasts_25 : decode cX9_lasts 25 = .ok (.invokestatic 128, 3) := by decide +kernel
theorem dX9_lasts_28 : decode cX9_lasts 28 = .ok (.ifCond .ne 7, 3) := by decide +kernel
theorem dX9_lasts_31 : decode cX9_lasts 31 = .ok (.ldc2_w 131, 3) := by decide +kernel
theorem dX9_lasts_34 : decode cX9_lasts 34 = .ok (.lreturn, 1) := by decide +kernel
theorem dX9_lasts_35 : decode cX9_lasts 35 = .ok (.aload 4, 2) := by decide +kernel
theorem dX9_lasts_37 : decode cX9_lasts 37 = .ok (.getfield 100, 3) := by decide +kernel
theorem dX9_lasts_40 : decode cX9_lasts 40 = .ok (.iload_n 2, 1) := by decide +kernel
theorem dX9_lasts_41 : decode cX9_lasts 41 = .ok (.invokevirtual 150, 3) := by decide +kernel
theorem dX9_lasts_44 : decode cX9_lasts 44 = .ok (.aload 4, 2) := by decide +kernel
theorem dX9_lasts_46 : decode cX9_lasts 46 = .ok (.getfield 100, 3) := by decide +kernel
theorem dX9_lasts_49 : decode cX9_lasts 49 = .ok (.iload_n 2, 1) := by decide +kernel
theorem dX9_lasts_50 : decode cX9_lasts 50 = .ok (.invokevirtual 146, 3) := by decide +kernel
theorem dX9_lasts_53 : decode cX9_lasts 53 = .ok (.lsub, 1) := by decide +kernel
theorem dX9_lasts_54 : decode cX9_lasts 54 = .ok (.ldc2_w 137, 3) := by decide +kernel
theorem dX9_lasts_57 : decode cX9_lasts 57 = .ok (.iload_n 3, 1) := by decide +kernel
theorem dX9_lasts_58 : decode cX9_lasts 58 = .ok (.invokestatic 139, 3) := by decide +kernel
theorem dX9_lasts_61 : decode cX9_lasts 61 = .ok (.lreturn, 1) := by decide +kernel
theorem dX9_swung_0 : decode cX9_swung 0 = .ok (.aload_n 0, 1) := by decide +kernel
theorem dX9_swung_1 : decode cX9_swung 1 = .ok (.iload_n 1, 1) := by decide +kernel
theorem dX9_swung_2 : decode cX9_swung 2 = .ok (.invokevirtual 76, 3) := by decide +kernel
theorem dX9_swung_5 : decode cX9_swung 5 = .ok (.astore 4, 2) := by decide +kernel
theorem dX9_swung_7 : decode cX9_swung 7 = .ok (.aload 4, 2) := by decide +kernel
theorem dX9_swung_9 : decode cX9_swung 9 = .ok (.ifnull 22, 3) := by decide +kernel
theorem dX9_swung_12 : decode cX9_swung 12 = .ok (.aload 4, 2) := by decide +kernel
theorem dX9_swung_14 : decode cX9_swung 14 = .ok (.getfield 100, 3) := by decide +kernel
theorem dX9_swung_17 : decode cX9_swung 17 = .ok (.iload_n 2, 1) := by decide +kernel
theorem dX9_swung_18 : decode cX9_swung 18 = .ok (.invokevirtual 143, 3) := by decide +kernel
theorem dX9_swung_21 : decode cX9_swung 21 = .ok (.ifCond .eq 10, 3) := by decide +kernel
theorem dX9_swung_24 : decode cX9_swung 24 = .ok (.iload_n 3, 1) := by decide +kernel
theorem dX9_swung_25 : decode cX9_swung 25 = .ok (.invokestatic 128, 3) := by decide +kernel
theorem dX9_swung_28 : decode cX9_swung 28 = .ok (.ifCond .ne 7, 3) := by decide +kernel
theorem dX9_swung_31 : decode cX9_swung 31 = .ok (.ldc2_w 131, 3) := by decide +kernel
theorem dX9_swung_34 : decode cX9_swung 34 = .ok (.lreturn, 1) := by decide +kernel
theorem dX9_swung_35 : decode cX9_swung 35 = .ok (.aload_n 0, 1) := by decide +kernel
theorem dX9_swung_36 : decode cX9_swung 36 = .ok (.aload 4, 2) := by decide +kernel
theorem dX9_swung_38 : decode cX9_swung 38 = .ok (.getfield 100, 3) := by decide +kernel
theorem dX9_swung_41 : decode cX9_swung 41 = .ok (.iload_n 2, 1) := by decide +kernel
theorem dX9_swung_42 : decode cX9_swung 42 = .ok (.invokevirtual 146, 3) := by decide +kernel
theorem dX9_swung_45 : decode cX9_swung 45 = .ok (.invokevirtual 153, 3) := by decide +kernel
theorem dX9_swung_48 : decode cX9_swung 48 = .ok (.ldc2_w 137, 3) := by decide +kernel
theorem dX9_swung_51 : decode cX9_swung 51 = .ok (.aload_n 0, 1) := by decide +kernel
theorem dX9_swung_52 : decode cX9_swung 52 = .ok (.getfield 56, 3) := by decide +kernel
theorem dX9_swung_55 : decode cX9_swung 55 = .ok (.aload_n 0, 1) := by decide +kernel
theorem dX9_swung_56 : decode cX9_swung 56 = .ok (.getfield 59, 3) := by decide +kernel
theorem dX9_swung_59 : decode cX9_swung 59 = .ok (.iadd, 1) := by decide +kernel
theorem dX9_swung_60 : decode cX9_swung 60 = .ok (.i2l, 1) := by decide +kernel
theorem dX9_swung_61 : decode cX9_swung 61 = .ok (.lmul, 1) := by decide +kernel
theorem dX9_swung_62 : decode cX9_swung 62 = .ok (.iload_n 3, 1) := by decide +kernel
theorem dX9_swung_63 : decode cX9_swung 63 = .ok (.invokestatic 139, 3) := by decide +kernel
theorem dX9_swung_66 : decode cX9_swung 66 = .ok (.lreturn, 1) := by decide +kernel
theorem dX9_event_0 : decode cX9_event 0 = .ok (.aload_n 0, 1) := by decide +kernel
theorem dX9_event_1 : decode cX9_event 1 = .ok (.iload_n 1, 1) := by decide +kernel
theorem dX9_event_2 : decode cX9_event 2 = .ok (.invokevirtual 76, 3) := by decide +kernel
theorem dX9_event_5 : decode cX9_event 5 = .ok (.astore 4, 2) := by decide +kernel
theorem dX9_event_7 : decode cX9_event 7 = .ok (.aload 4, 2) := by decide +kernel
theorem dX9_event_9 : decode cX9_event 9 = .ok (.ifnull 15, 3) := by decide +kernel
theorem dX9_event_12 : decode cX9_event 12 = .ok (.aload 4, 2) := by decide +kernel
theorem dX9_event_14 : decode cX9_event 14 = .ok (.getfield 100, 3) := by decide +kernel
theorem dX9_event_17 : decode cX9_event 17 = .ok (.iload_n 2, 1) := by decide +kernel
theorem dX9_event_18 : decode cX9_event 18 = .ok (.invokevirtual 143, 3) := by decide +kernel
theorem dX9_event_21 : decode cX9_event 21 = .ok (.ifCond .ne 5, 3) := by decide +kernel
theorem dX9_event_24 : decode cX9_event 24 = .ok (.iconst (-1), 1) := by decide +kernel
theorem dX9_event_25 : decode cX9_event 25 = .ok (.ireturn, 1) := by decide +kernel
theorem dX9_event_26 : decode cX9_event 26 = .ok (.iload_n 3, 1) := by decide +kernel
theorem dX9_event_27 : decode cX9_event 27 = .ok (.tableswitch 96 0 4 #[33, 51, 61, 71, 85], 33) := by decide +kernel
theorem dX9_event_60 : decode cX9_event 60 = .ok (.aload 4, 2) := by decide +kernel
theorem dX9_event_62 : decode cX9_event 62 = .ok (.getfield 100, 3) := by decide +kernel
theorem dX9_event_65 : decode cX9_event 65 = .ok (.iload_n 2, 1) := by decide +kernel
theorem dX9_event_66 : decode cX9_event 66 = .ok (.invokevirtual 157, 3) := by decide +kernel
theorem dX9_event_69 : decode cX9_event 69 = .ok (.ifCond .eq 7, 3) := by decide +kernel
theorem dX9_event_72 : decode cX9_event 72 = .ok (.iconst 1, 1) := by decide +kernel
theorem dX9_event_73 : decode cX9_event 73 = .ok (.goto 4, 3) := by decide +kernel
theorem dX9_event_76 : decode cX9_event 76 = .ok (.iconst 0, 1) := by decide +kernel
theorem dX9_event_77 : decode cX9_event 77 = .ok (.ireturn, 1) := by decide +kernel
theorem dX9_event_78 : decode cX9_event 78 = .ok (.aload 4, 2) := by decide +kernel
theorem dX9_event_80 : decode cX9_event 80 = .ok (.getfield 100, 3) := by decide +kernel
theorem dX9_event_83 : decode cX9_event 83 = .ok (.iload_n 2, 1) := by decide +kernel
theorem dX9_event_84 : decode cX9_event 84 = .ok (.invokevirtual 160, 3) := by decide +kernel
theorem dX9_event_87 : decode cX9_event 87 = .ok (.ireturn, 1) := by decide +kernel
theorem dX9_event_88 : decode cX9_event 88 = .ok (.aload 4, 2) := by decide +kernel
theorem dX9_event_90 : decode cX9_event 90 = .ok (.getfield 100, 3) := by decide +kernel
theorem dX9_event_93 : decode cX9_event 93 = .ok (.iload_n 2, 1) := by decide +kernel
theorem dX9_event_94 : decode cX9_event 94 = .ok (.invokevirtual 163, 3) := by decide +kernel
theorem dX9_event_97 : decode cX9_event 97 = .ok (.ireturn, 1) := by decide +kernel
theorem dX9_event_98 : decode cX9_event 98 = .ok (.aload_n 0, 1) := by decide +kernel
theorem dX9_event_99 : decode cX9_event 99 = .ok (.aload 4, 2) := by decide +kernel
theorem dX9_event_101 : decode cX9_event 101 = .ok (.getfield 100, 3) := by decide +kernel
theorem dX9_event_104 : decode cX9_event 104 = .ok (.iload_n 2, 1) := by decide +kernel
theorem dX9_event_105 : decode cX9_event 105 = .ok (.invokevirtual 146, 3) := by decide +kernel
theorem dX9_event_108 : decode cX9_event 108 = .ok (.invokevirtual 166, 3) := by decide +kernel
theorem dX9_event_111 : decode cX9_event 111 = .ok (.ireturn, 1) := by decide +kernel
theorem dX9_event_112 : decode cX9_event 112 = .ok (.aload_n 0, 1) := by decide +kernel
theorem dX9_event_113 : decode cX9_event 113 = .ok (.aload 4, 2) := by decide +kernel
theorem dX9_event_115 : decode cX9_event 115 = .ok (.getfield 100, 3) := by decide +kernel
theorem dX9_event_118 : decode cX9_event 118 = .ok (.iload_n 2, 1) := by decide +kernel
theorem dX9_event_119 : decode cX9_event 119 = .ok (.invokevirtual 170, 3) := by decide +kernel
theorem dX9_event_122 : decode cX9_event 122 = .ok (.ireturn, 1) := by decide +kernel
theorem dX9_event_123 : decode cX9_event 123 = .ok (.iconst (-1), 1) := by decide +kernel
theorem dX9_event_124 : decode cX9_event 124 = .ok (.ireturn, 1) := by decide +kernel
theorem dX9_bars_0 : decode cX9_bars 0 = .ok (.aload_n 0, 1) := by decide +kernel
theorem dX9_bars_1 : decode cX9_bars 1 = .ok (.iload_n 1, 1) := by decide +kernel
theorem dX9_bars_2 : decode cX9_bars 2 = .ok (.invokevirtual 76, 3) := by decide +kernel
theorem dX9_bars_5 : decode cX9_bars 5 = .ok (.astore_n 2, 1) := by decide +kernel
theorem dX9_bars_6 : decode cX9_bars 6 = .ok (.aload_n 2, 1) := by decide +kernel
theorem dX9_bars_7 : decode cX9_bars 7 = .ok (.ifnonnull 7, 3) := by decide +kernel
theorem dX9_bars_10 : decode cX9_bars 10 = .ok (.iconst (-1), 1) := by decide +kernel
theorem dX9_bars_11 : decode cX9_bars 11 = .ok (.goto 10, 3) := by decide +kernel
theorem dX9_bars_14 : decode cX9_bars 14 = .ok (.aload_n 2, 1) := by decide +kernel
theorem dX9_bars_15 : decode cX9_bars 15 = .ok (.getfield 100, 3) := by decide +kernel
theorem dX9_bars_18 : decode cX9_bars 18 = .ok (.invokevirtual 174, 3) := by decide +kernel
theorem dX9_bars_21 : decode cX9_bars 21 = .ok (.ireturn, 1) := by decide +kernel
theorem dX9_bar_0 : decode cX9_bar 0 = .ok (.aload_n 0, 1) := by decide +kernel
theorem dX9_bar_1 : decode cX9_bar 1 = .ok (.iload_n 1, 1) := by decide +kernel
theorem dX9_bar_2 : decode cX9_bar 2 = .ok (.invokevirtual 76, 3) := by decide +kernel
theorem dX9_bar_5 : decode cX9_bar 5 = .ok (.astore 4, 2) := by decide +kernel
theorem dX9_bar_7 : decode cX9_bar 7 = .ok (.aload 4, 2) := by decide +kernel
theorem dX9_bar_9 : decode cX9_bar 9 = .ok (.ifnull 22, 3) := by decide +kernel
theorem dX9_bar_12 : decode cX9_bar 12 = .ok (.aload 4, 2) := by decide +kernel
theorem dX9_bar_14 : decode cX9_bar 14 = .ok (.getfield 100, 3) := by decide +kernel
theorem dX9_bar_17 : decode cX9_bar 17 = .ok (.iload_n 2, 1) := by decide +kernel
theorem dX9_bar_18 : decode cX9_bar 18 = .ok (.invokevirtual 177, 3) := by decide +kernel
theorem dX9_bar_21 : decode cX9_bar 21 = .ok (.ifCond .eq 10, 3) := by decide +kernel
theorem dX9_bar_24 : decode cX9_bar 24 = .ok (.iload_n 3, 1) := by decide +kernel
theorem dX9_bar_25 : decode cX9_bar 25 = .ok (.invokestatic 128, 3) := by decide +kernel
theorem dX9_bar_28 : decode cX9_bar 28 = .ok (.ifCond .ne 7, 3) := by decide +kernel
theorem dX9_bar_31 : decode cX9_bar 31 = .ok (.ldc2_w 131, 3) := by decide +kernel
theorem dX9_bar_34 : decode cX9_bar 34 = .ok (.lreturn, 1) := by decide +kernel
theorem dX9_bar_35 : decode cX9_bar 35 = .ok (.aload 4, 2) := by decide +kernel
theorem dX9_bar_37 : decode cX9_bar 37 = .ok (.getfield 100, 3) := by decide +kernel
theorem dX9_bar_40 : decode cX9_bar 40 = .ok (.iload_n 2, 1) := by decide +kernel
theorem dX9_bar_41 : decode cX9_bar 41 = .ok (.invokevirtual 180, 3) := by decide +kernel
theorem dX9_bar_44 : decode cX9_bar 44 = .ok (.ldc2_w 137, 3) := by decide +kernel
theorem dX9_bar_47 : decode cX9_bar 47 = .ok (.iload_n 3, 1) := by decide +kernel
theorem dX9_bar_48 : decode cX9_bar 48 = .ok (.invokestatic 139, 3) := by decide +kernel
theorem dX9_bar_51 : decode cX9_bar 51 = .ok (.lreturn, 1) := by decide +kernel
theorem dX9_wrongBar_0 : decode cX9_wrongBar 0 = .ok (.aload_n 0, 1) := by decide +kernel
theorem dX9_wrongBar_1 : decode cX9_wrongBar 1 = .ok (.iload_n 1, 1) := by decide +kernel
theorem dX9_wrongBar_2 : decode cX9_wrongBar 2 = .ok (.invokevirtual 76, 3) := by decide +kernel
theorem dX9_wrongBar_5 : decode cX9_wrongBar 5 = .ok (.astore_n 2, 1) := by decide +kernel
theorem dX9_wrongBar_6 : decode cX9_wrongBar 6 = .ok (.aload_n 2, 1) := by decide +kernel
theorem dX9_wrongBar_7 : decode cX9_wrongBar 7 = .ok (.ifnonnull 5, 3) := by decide +kernel
theorem dX9_wrongBar_10 : decode cX9_wrongBar 10 = .ok (.iconst (-1), 1) := by decide +kernel
theorem dX9_wrongBar_11 : decode cX9_wrongBar 11 = .ok (.ireturn, 1) := by decide +kernel
theorem dX9_wrongBar_12 : decode cX9_wrongBar 12 = .ok (.aload_n 0, 1) := by decide +kernel
theorem dX9_wrongBar_13 : decode cX9_wrongBar 13 = .ok (.invokevirtual 183, 3) := by decide +kernel
theorem dX9_wrongBar_16 : decode cX9_wrongBar 16 = .ok (.lstore_n 3, 1) := by decide +kernel
theorem dX9_wrongBar_17 : decode cX9_wrongBar 17 = .ok (.aload_n 2, 1) := by decide +kernel
theorem dX9_wrongBar_18 : decode cX9_wrongBar 18 = .ok (.getfield 100, 3) := by decide +kernel
theorem dX9_wrongBar_21 : decode cX9_wrongBar 21 = .ok (.invokevirtual 174, 3) := by decide +kernel
theorem dX9_wrongBar_24 : decode cX9_wrongBar 24 = .ok (.istore 5, 2) := by decide +kernel
theorem dX9_wrongBar_26 : decode cX9_wrongBar 26 = .ok (.iconst 0, 1) := by decide +kernel
theorem dX9_wrongBar_27 : decode cX9_wrongBar 27 = .ok (.istore 6, 2) := by decide +kernel
theorem dX9_wrongBar_29 : decode cX9_wrongBar 29 = .ok (.iload 6, 2) := by decide +kernel
theorem dX9_wrongBar_31 : decode cX9_wrongBar 31 = .ok (.iload 5, 2) := by decide +kernel
theorem dX9_wrongBar_33 : decode cX9_wrongBar 33 = .ok (.if_icmp .ge 58, 3) := by decide +kernel
theorem dX9_wrongBar_36 : decode cX9_wrongBar 36 = .ok (.aload_n 2, 1) := by decide +kernel
theorem dX9_wrongBar_37 : decode cX9_wrongBar 37 = .ok (.getfield 100, 3) := by decide +kernel
theorem dX9_wrongBar_40 : decode cX9_wrongBar 40 = .ok (.iload 6, 2) := by decide +kernel
theorem dX9_wrongBar_42 : decode cX9_wrongBar 42 = .ok (.invokevirtual 180, 3) := by decide +kernel
theorem dX9_wrongBar_45 : decode cX9_wrongBar 45 = .ok (.lstore 7, 2) := by decide +kernel
theorem dX9_wrongBar_47 : decode cX9_wrongBar 47 = .ok (.iload 6, 2) := by decide +kernel
theorem dX9_wrongBar_49 : decode cX9_wrongBar 49 = .ok (.iload 5, 2) := by decide +kernel
theorem dX9_wrongBar_51 : decode cX9_wrongBar 51 = .ok (.iconst 1, 1) := by decide +kernel
theorem dX9_wrongBar_52 : decode cX9_wrongBar 52 = .ok (.isub, 1) := by decide +kernel
theorem dX9_wrongBar_53 : decode cX9_wrongBar 53 = .ok (.if_icmp .ne 14, 3) := by decide +kernel
theorem dX9_wrongBar_56 : decode cX9_wrongBar 56 = .ok (.lload 7, 2) := by decide +kernel
theorem dX9_wrongBar_58 : decode cX9_wrongBar 58 = .ok (.lconst 0, 1) := by decide +kernel
theorem dX9_wrongBar_59 : decode cX9_wrongBar 59 = .ok (.lcmp, 1) := by decide +kernel
theorem dX9_wrongBar_60 : decode cX9_wrongBar 60 = .ok (.ifCond .ne 7, 3) := by decide +kernel
theorem dX9_wrongBar_63 : decode cX9_wrongBar 63 = .ok (.iconst 1, 1) := by decide +kernel
theorem dX9_wrongBar_64 : decode cX9_wrongBar 64 = .ok (.goto 4, 3) := by decide +kernel
theorem dX9_wrongBar_67 : decode cX9_wrongBar 67 = .ok (.iconst 0, 1) := by decide +kernel
theorem dX9_wrongBar_68 : decode cX9_wrongBar 68 = .ok (.istore 9, 2) := by decide +kernel
theorem dX9_wrongBar_70 : decode cX9_wrongBar 70 = .ok (.lload 7, 2) := by decide +kernel
theorem dX9_wrongBar_72 : decode cX9_wrongBar 72 = .ok (.lload_n 3, 1) := by decide +kernel
theorem dX9_wrongBar_73 : decode cX9_wrongBar 73 = .ok (.lcmp, 1) := by decide +kernel
theorem dX9_wrongBar_74 : decode cX9_wrongBar 74 = .ok (.ifCond .eq 11, 3) := by decide +kernel
theorem dX9_wrongBar_77 : decode cX9_wrongBar 77 = .ok (.iload 9, 2) := by decide +kernel
theorem dX9_wrongBar_79 : decode cX9_wrongBar 79 = .ok (.ifCond .ne 6, 3) := by decide +kernel
theorem dX9_wrongBar_82 : decode cX9_wrongBar 82 = .ok (.iload 6, 2) := by decide +kernel
theorem dX9_wrongBar_84 : decode cX9_wrongBar 84 = .ok (.ireturn, 1) := by decide +kernel
theorem dX9_wrongBar_85 : decode cX9_wrongBar 85 = .ok (.iinc 6 1, 3) := by decide +kernel
theorem dX9_wrongBar_88 : decode cX9_wrongBar 88 = .ok (.goto (-59), 3) := by decide +kernel
theorem dX9_wrongBar_91 : decode cX9_wrongBar 91 = .ok (.bipush (-9), 2) := by decide +kernel
theorem dX9_wrongBar_93 : decode cX9_wrongBar 93 = .ok (.ireturn, 1) := by decide +kernel
theorem dX9_syncopation_0 : decode cX9_syncopation 0 = .ok (.aload_n 0, 1) := by decide +kernel
theorem dX9_syncopation_1 : decode cX9_syncopation 1 = .ok (.iload_n 1, 1) := by decide +kernel
theorem dX9_syncopation_2 : decode cX9_syncopation 2 = .ok (.invokevirtual 76, 3) := by decide +kernel
theorem dX9_syncopation_5 : decode cX9_syncopation 5 = .ok (.astore_n 2, 1) := by decide +kernel
theorem dX9_syncopation_6 : decode cX9_syncopation 6 = .ok (.aload_n 2, 1) := by decide +kernel
theorem dX9_syncopation_7 : decode cX9_syncopation 7 = .ok (.ifnonnull 5, 3) := by decide +kernel
theorem dX9_syncopation_10 : decode cX9_syncopation 10 = .ok (.iconst (-1), 1) := by decide +kernel
theorem dX9_syncopation_11 : decode cX9_syncopation 11 = .ok (.ireturn, 1) := by decide +kernel
theorem dX9_syncopation_12 : decode cX9_syncopation 12 = .ok (.iconst 0, 1) := by decide +kernel
theorem dX9_syncopation_13 : decode cX9_syncopation 13 = .ok (.istore_n 3, 1) := by decide +kernel
theorem dX9_syncopation_14 : decode cX9_syncopation 14 = .ok (.aload_n 2, 1) := by decide +kernel
theorem dX9_syncopation_15 : decode cX9_syncopation 15 = .ok (.getfield 100, 3) := by decide +kernel
theorem dX9_syncopation_18 : decode cX9_syncopation 18 = .ok (.invokevirtual 104, 3) := by decide +kernel
theorem dX9_syncopation_21 : decode cX9_syncopation 21 = .ok (.istore 4, 2) := by decide +kernel
theorem dX9_syncopation_23 : decode cX9_syncopation 23 = .ok (.iconst 0, 1) := by decide +kernel
theorem dX9_syncopation_24 : decode cX9_syncopation 24 = .ok (.istore 5, 2) := by decide +kernel
theorem dX9_syncopation_26 : decode cX9_syncopation 26 = .ok (.iload 5, 2) := by decide +kernel
theorem dX9_syncopation_28 : decode cX9_syncopation 28 = .ok (.iload 4, 2) := by decide +kernel
theorem dX9_syncopation_30 : decode cX9_syncopation 30 = .ok (.if_icmp .ge 22, 3) := by decide +kernel
theorem dX9_syncopation_33 : decode cX9_syncopation 33 = .ok (.iload_n 3, 1) := by decide +kernel
theorem dX9_syncopation_34 : decode cX9_syncopation 34 = .ok (.aload_n 0, 1) := by decide +kernel
theorem dX9_syncopation_35 : decode cX9_syncopation 35 = .ok (.aload_n 2, 1) := by decide +kernel
theorem dX9_syncopation_36 : decode cX9_syncopation 36 = .ok (.getfield 100, 3) := by decide +kernel
theorem dX9_syncopation_39 : decode cX9_syncopation 39 = .ok (.iload 5, 2) := by decide +kernel
theorem dX9_syncopation_41 : decode cX9_syncopation 41 = .ok (.invokevirtual 170, 3) := by decide +kernel
theorem dX9_syncopation_44 : decode cX9_syncopation 44 = .ok (.iadd, 1) := by decide +kernel
theorem dX9_syncopation_45 : decode cX9_syncopation 45 = .ok (.istore_n 3, 1) := by decide +kernel
theorem dX9_syncopation_46 : decode cX9_syncopation 46 = .ok (.iinc 5 1, 3) := by decide +kernel
theorem dX9_syncopation_49 : decode cX9_syncopation 49 = .ok (.goto (-23), 3) := by decide +kernel
theorem dX9_syncopation_52 : decode cX9_syncopation 52 = .ok (.iload_n 3, 1) := by decide +kernel
theorem dX9_syncopation_53 : decode cX9_syncopation 53 = .ok (.ireturn, 1) := by decide +kernel
theorem dX9_offGrid_0 : decode cX9_offGrid 0 = .ok (.aload_n 0, 1) := by decide +kernel
theorem dX9_offGrid_1 : decode cX9_offGrid 1 = .ok (.iload_n 1, 1) := by decide +kernel
theorem dX9_offGrid_2 : decode cX9_offGrid 2 = .ok (.invokevirtual 76, 3) := by decide +kernel
theorem dX9_offGrid_5 : decode cX9_offGrid 5 = .ok (.astore_n 3, 1) := by decide +kernel
theorem dX9_offGrid_6 : decode cX9_offGrid 6 = .ok (.aload_n 3, 1) := by decide +kernel
theorem dX9_offGrid_7 : decode cX9_offGrid 7 = .ok (.ifnull 15, 3) := by decide +kernel
theorem dX9_offGrid_10 : decode cX9_offGrid 10 = .ok (.iload_n 2, 1) := by decide +kernel
theorem dX9_offGrid_11 : decode cX9_offGrid 11 = .ok (.iconst 1, 1) := by decide +kernel
theorem dX9_offGrid_12 : decode cX9_offGrid 12 = .ok (.if_icmp .lt 10, 3) := by decide +kernel
theorem dX9_offGrid_15 : decode cX9_offGrid 15 = .ok (.iload_n 2, 1) := by decide +kernel
theorem dX9_offGrid_16 : decode cX9_offGrid 16 = .ok (.sipush 1000, 3) := by decide +kernel
theorem dX9_offGrid_19 : decode cX9_offGrid 19 = .ok (.if_icmp .le 5, 3) := by decide +kernel
theorem dX9_offGrid_22 : decode cX9_offGrid 22 = .ok (.iconst (-1), 1) := by decide +kernel
theorem dX9_offGrid_23 : decode cX9_offGrid 23 = .ok (.ireturn, 1) := by decide +kernel
theorem dX9_offGrid_24 : decode cX9_offGrid 24 = .ok (.iconst 0, 1) := by decide +kernel
theorem dX9_offGrid_25 : decode cX9_offGrid 25 = .ok (.istore 4, 2) := by decide +kernel
theorem dX9_offGrid_27 : decode cX9_offGrid 27 = .ok (.aload_n 3, 1) := by decide +kernel
theorem dX9_offGrid_28 : decode cX9_offGrid 28 = .ok (.getfield 100, 3) := by decide +kernel
theorem dX9_offGrid_31 : decode cX9_offGrid 31 = .ok (.invokevirtual 104, 3) := by decide +kernel
theorem dX9_offGrid_34 : decode cX9_offGrid 34 = .ok (.istore 5, 2) := by decide +kernel
theorem dX9_offGrid_36 : decode cX9_offGrid 36 = .ok (.iconst 0, 1) := by decide +kernel
theorem dX9_offGrid_37 : decode cX9_offGrid 37 = .ok (.istore 6, 2) := by decide +kernel
theorem dX9_offGrid_39 : decode cX9_offGrid 39 = .ok (.iload 6, 2) := by decide +kernel
theorem dX9_offGrid_41 : decode cX9_offGrid 41 = .ok (.iload 5, 2) := by decide +kernel
theorem dX9_offGrid_43 : decode cX9_offGrid 43 = .ok (.if_icmp .ge 33, 3) := by decide +kernel
theorem dX9_offGrid_46 : decode cX9_offGrid 46 = .ok (.aload_n 3, 1) := by decide +kernel
theorem dX9_offGrid_47 : decode cX9_offGrid 47 = .ok (.getfield 100, 3) := by decide +kernel
theorem dX9_offGrid_50 : decode cX9_offGrid 50 = .ok (.iload 6, 2) := by decide +kernel
theorem dX9_offGrid_52 : decode cX9_offGrid 52 = .ok (.invokevirtual 146, 3) := by decide +kernel
theorem dX9_offGrid_55 : decode cX9_offGrid 55 = .ok (.iload_n 2, 1) := by decide +kernel
theorem dX9_offGrid_56 : decode cX9_offGrid 56 = .ok (.i2l, 1) := by decide +kernel
theorem dX9_offGrid_57 : decode cX9_offGrid 57 = .ok (.lmul, 1) := by decide +kernel
theorem dX9_offGrid_58 : decode cX9_offGrid 58 = .ok (.ldc2_w 137, 3) := by decide +kernel
theorem dX9_offGrid_61 : decode cX9_offGrid 61 = .ok (.lrem, 1) := by decide +kernel
theorem dX9_offGrid_62 : decode cX9_offGrid 62 = .ok (.lconst 0, 1) := by decide +kernel
theorem dX9_offGrid_63 : decode cX9_offGrid 63 = .ok (.lcmp, 1) := by decide +kernel
theorem dX9_offGrid_64 : decode cX9_offGrid 64 = .ok (.ifCond .eq 6, 3) := by decide +kernel
theorem dX9_offGrid_67 : decode cX9_offGrid 67 = .ok (.iinc 4 1, 3) := by decide +kernel
theorem dX9_offGrid_70 : decode cX9_offGrid 70 = .ok (.iinc 6 1, 3) := by decide +kernel
theorem dX9_offGrid_73 : decode cX9_offGrid 73 = .ok (.goto (-34), 3) := by decide +kernel
theorem dX9_offGrid_76 : decode cX9_offGrid 76 = .ok (.iload 4, 2) := by decide +kernel
theorem dX9_offGrid_78 : decode cX9_offGrid 78 = .ok (.ireturn, 1) := by decide +kernel
theorem dX9_leastGrid_0 : decode cX9_leastGrid 0 = .ok (.aload_n 0, 1) := by decide +kernel
theorem dX9_leastGrid_1 : decode cX9_leastGrid 1 = .ok (.iload_n 1, 1) := by decide +kernel
theorem dX9_leastGrid_2 : decode cX9_leastGrid 2 = .ok (.invokevirtual 76, 3) := by decide +kernel
theorem dX9_leastGrid_5 : decode cX9_leastGrid 5 = .ok (.astore_n 2, 1) := by decide +kernel
theorem dX9_leastGrid_6 : decode cX9_leastGrid 6 = .ok (.aload_n 2, 1) := by decide +kernel
theorem dX9_leastGrid_7 : decode cX9_leastGrid 7 = .ok (.ifnonnull 5, 3) := by decide +kernel
theorem dX9_leastGrid_10 : decode cX9_leastGrid 10 = .ok (.iconst (-1), 1) := by decide +kernel
theorem dX9_leastGrid_11 : decode cX9_leastGrid 11 = .ok (.ireturn, 1) := by decide +kernel
theorem dX9_leastGrid_12 : decode cX9_leastGrid 12 = .ok (.ldc2_w 137, 3) := by decide +kernel
theorem dX9_leastGrid_15 : decode cX9_leastGrid 15 = .ok (.lstore_n 3, 1) := by decide +kernel
theorem dX9_leastGrid_16 : decode cX9_leastGrid 16 = .ok (.aload_n 2, 1) := by decide +kernel
theorem dX9_leastGrid_17 : decode cX9_leastGrid 17 = .ok (.getfield 100, 3) := by decide +kernel
theorem dX9_leastGrid_20 : decode cX9_leastGrid 20 = .ok (.invokevirtual 104, 3) := by decide +kernel
theorem dX9_leastGrid_23 : decode cX9_leastGrid 23 = .ok (.istore 5, 2) := by decide +kernel
theorem dX9_leastGrid_25 : decode cX9_leastGrid 25 = .ok (.iconst 0, 1) := by decide +kernel
theorem dX9_leastGrid_26 : decode cX9_leastGrid 26 = .ok (.istore 6, 2) := by decide +kernel
theorem dX9_leastGrid_28 : decode cX9_leastGrid 28 = .ok (.iload 6, 2) := by decide +kernel
theorem dX9_leastGrid_30 : decode cX9_leastGrid 30 = .ok (.iload 5, 2) := by decide +kernel
theorem dX9_leastGrid_32 : decode cX9_leastGrid 32 = .ok (.if_icmp .ge 23, 3) := by decide +kernel
theorem dX9_leastGrid_35 : decode cX9_leastGrid 35 = .ok (.lload_n 3, 1) := by decide +kernel
theorem dX9_leastGrid_36 : decode cX9_leastGrid 36 = .ok (.aload_n 2, 1) := by decide +kernel
theorem dX9_leastGrid_37 : decode cX9_leastGrid 37 = .ok (.getfield 100, 3) := by decide +kernel
theorem dX9_leastGrid_40 : decode cX9_leastGrid 40 = .ok (.iload 6, 2) := by decide +kernel
theorem dX9_leastGrid_42 : decode cX9_leastGrid 42 = .ok (.invokevirtual 146, 3) := by decide +kernel
theorem dX9_leastGrid_45 : decode cX9_leastGrid 45 = .ok (.invokestatic 186, 3) := by decide +kernel
theorem dX9_leastGrid_48 : decode cX9_leastGrid 48 = .ok (.lstore_n 3, 1) := by decide +kernel
theorem dX9_leastGrid_49 : decode cX9_leastGrid 49 = .ok (.iinc 6 1, 3) := by decide +kernel
theorem dX9_leastGrid_52 : decode cX9_leastGrid 52 = .ok (.goto (-24), 3) := by decide +kernel
theorem dX9_leastGrid_55 : decode cX9_leastGrid 55 = .ok (.lload_n 3, 1) := by decide +kernel
theorem dX9_leastGrid_56 : decode cX9_leastGrid 56 = .ok (.lconst 0, 1) := by decide +kernel
theorem dX9_leastGrid_57 : decode cX9_leastGrid 57 = .ok (.lcmp, 1) := by decide +kernel
theorem dX9_leastGrid_58 : decode cX9_leastGrid 58 = .ok (.ifCond .gt 6, 3) := by decide +kernel
theorem dX9_leastGrid_61 : decode cX9_leastGrid 61 = .ok (.bipush (-9), 2) := by decide +kernel
theorem dX9_leastGrid_63 : decode cX9_leastGrid 63 = .ok (.ireturn, 1) := by decide +kernel
theorem dX9_leastGrid_64 : decode cX9_leastGrid 64 = .ok (.ldc2_w 137, 3) := by decide +kernel
theorem dX9_leastGrid_67 : decode cX9_leastGrid 67 = .ok (.lload_n 3, 1) := by decide +kernel
theorem dX9_leastGrid_68 : decode cX9_leastGrid 68 = .ok (.ldiv, 1) := by decide +kernel
theorem dX9_leastGrid_69 : decode cX9_leastGrid 69 = .ok (.lstore 6, 2) := by decide +kernel
theorem dX9_leastGrid_71 : decode cX9_leastGrid 71 = .ok (.lload 6, 2) := by decide +kernel
theorem dX9_leastGrid_73 : decode cX9_leastGrid 73 = .ok (.ldc2_w 190, 3) := by decide +kernel
theorem dX9_leastGrid_76 : decode cX9_leastGrid 76 = .ok (.lcmp, 1) := by decide +kernel
theorem dX9_leastGrid_77 : decode cX9_leastGrid 77 = .ok (.ifCond .gt 9, 3) := by decide +kernel
theorem dX9_leastGrid_80 : decode cX9_leastGrid 80 = .ok (.lload 6, 2) := by decide +kernel
theorem dX9_leastGrid_82 : decode cX9_leastGrid 82 = .ok (.l2i, 1) := by decide +kernel
theorem dX9_leastGrid_83 : decode cX9_leastGrid 83 = .ok (.goto 5, 3) := by decide +kernel
theorem dX9_leastGrid_86 : decode cX9_leastGrid 86 = .ok (.bipush (-9), 2) := by decide +kernel
theorem dX9_leastGrid_88 : decode cX9_leastGrid 88 = .ok (.ireturn, 1) := by decide +kernel
theorem dX9_times_0 : decode cX9_times 0 = .ok (.aload_n 0, 1) := by decide +kernel
theorem dX9_times_1 : decode cX9_times 1 = .ok (.getfield 45, 3) := by decide +kernel
theorem dX9_times_4 : decode cX9_times 4 = .ok (.invokevirtual 192, 3) := by decide +kernel
theorem dX9_times_7 : decode cX9_times 7 = .ok (.iconst 0, 1) := by decide +kernel
theorem dX9_times_8 : decode cX9_times 8 = .ok (.istore_n 1, 1) := by decide +kernel
theorem dX9_times_9 : decode cX9_times 9 = .ok (.iload_n 1, 1) := by decide +kernel
theorem dX9_times_10 : decode cX9_times 10 = .ok (.sipush 1200, 3) := by decide +kernel
theorem dX9_times_13 : decode cX9_times 13 = .ok (.if_icmp .ge 23, 3) := by decide +kernel
theorem dX9_times_16 : decode cX9_times 16 = .ok (.aload_n 0, 1) := by decide +kernel
theorem dX9_times_17 : decode cX9_times 17 = .ok (.getfield 45, 3) := by decide +kernel
theorem dX9_times_20 : decode cX9_times 20 = .ok (.aload_n 0, 1) := by decide +kernel
theorem dX9_times_21 : decode cX9_times 21 = .ok (.getfield 30, 3) := by decide +kernel
theorem dX9_times_24 : decode cX9_times 24 = .ok (.invokevirtual 195, 3) := by decide +kernel
theorem dX9_times_27 : decode cX9_times 27 = .ok (.ifCond .eq 9, 3) := by decide +kernel
theorem dX9_times_30 : decode cX9_times 30 = .ok (.iinc 1 1, 3) := by decide +kernel
theorem dX9_times_33 : decode cX9_times 33 = .ok (.goto (-24), 3) := by decide +kernel
theorem dX9_times_36 : decode cX9_times 36 = .ok (.iload_n 1, 1) := by decide +kernel
theorem dX9_times_37 : decode cX9_times 37 = .ok (.ireturn, 1) := by decide +kernel
theorem dX9_time_0 : decode cX9_time 0 = .ok (.iload_n 1, 1) := by decide +kernel
theorem dX9_time_1 : decode cX9_time 1 = .ok (.ifCond .lt 19, 3) := by decide +kernel
theorem dX9_time_4 : decode cX9_time 4 = .ok (.iload_n 1, 1) := by decide +kernel
theorem dX9_time_5 : decode cX9_time 5 = .ok (.sipush 1200, 3) := by decide +kernel
theorem dX9_time_8 : decode cX9_time 8 = .ok (.if_icmp .ge 12, 3) := by decide +kernel
theorem dX9_time_11 : decode cX9_time 11 = .ok (.iload_n 2, 1) := by decide +kernel
theorem dX9_time_12 : decode cX9_time 12 = .ok (.ifCond .lt 8, 3) := by decide +kernel
theorem dX9_time_15 : decode cX9_time 15 = .ok (.iload_n 2, 1) := by decide +kernel
theorem dX9_time_16 : decode cX9_time 16 = .ok (.iconst 2, 1) := by decide +kernel
theorem dX9_time_17 : decode cX9_time 17 = .ok (.if_icmp .le 7, 3) := by decide +kernel
theorem dX9_time_20 : decode cX9_time 20 = .ok (.ldc2_w 131, 3) := by decide +kernel
theorem dX9_time_23 : decode cX9_time 23 = .ok (.lreturn, 1) := by decide +kernel
theorem dX9_time_24 : decode cX9_time 24 = .ok (.aload_n 0, 1) := by decide +kernel
theorem dX9_time_25 : decode cX9_time 25 = .ok (.getfield 45, 3) := by decide +kernel
theorem dX9_time_28 : decode cX9_time 28 = .ok (.invokevirtual 192, 3) := by decide +kernel
theorem dX9_time_31 : decode cX9_time 31 = .ok (.iconst 0, 1) := by decide +kernel
theorem dX9_time_32 : decode cX9_time 32 = .ok (.istore_n 3, 1) := by decide +kernel
theorem dX9_time_33 : decode cX9_time 33 = .ok (.iload_n 3, 1) := by decide +kernel
theorem dX9_time_34 : decode cX9_time 34 = .ok (.iload_n 1, 1) := by decide +kernel
theorem dX9_time_35 : decode cX9_time 35 = .ok (.if_icmp .gt 27, 3) := by decide +kernel
theorem dX9_time_38 : decode cX9_time 38 = .ok (.aload_n 0, 1) := by decide +kernel
theorem dX9_time_39 : decode cX9_time 39 = .ok (.getfield 45, 3) := by decide +kernel
theorem dX9_time_42 : decode cX9_time 42 = .ok (.aload_n 0, 1) := by decide +kernel
theorem dX9_time_43 : decode cX9_time 43 = .ok (.getfield 30, 3) := by decide +kernel
theorem dX9_time_46 : decode cX9_time 46 = .ok (.invokevirtual 195, 3) := by decide +kernel
theorem dX9_time_49 : decode cX9_time 49 = .ok (.ifCond .ne 7, 3) := by decide +kernel
theorem dX9_time_52 : decode cX9_time 52 = .ok (.ldc2_w 131, 3) := by decide +kernel
theorem dX9_time_55 : decode cX9_time 55 = .ok (.lreturn, 1) := by decide +kernel
theorem dX9_time_56 : decode cX9_time 56 = .ok (.iinc 3 1, 3) := by decide +kernel
theorem dX9_time_59 : decode cX9_time 59 = .ok (.goto (-26), 3) := by decide +kernel
theorem dX9_time_62 : decode cX9_time 62 = .ok (.iload_n 2, 1) := by decide +kernel
theorem dX9_time_63 : decode cX9_time 63 = .ok (.iconst 2, 1) := by decide +kernel
theorem dX9_time_64 : decode cX9_time 64 = .ok (.if_icmp .ne 14, 3) := by decide +kernel
theorem dX9_time_67 : decode cX9_time 67 = .ok (.aload_n 0, 1) := by decide +kernel
theorem dX9_time_68 : decode cX9_time 68 = .ok (.getfield 45, 3) := by decide +kernel
theorem dX9_time_71 : decode cX9_time 71 = .ok (.invokevirtual 199, 3) := by decide +kernel
theorem dX9_time_74 : decode cX9_time 74 = .ok (.i2l, 1) := by decide +kernel
theorem dX9_time_75 : decode cX9_time 75 = .ok (.goto 17, 3) := by decide +kernel
theorem dX9_time_78 : decode cX9_time 78 = .ok (.aload_n 0, 1) := by decide +kernel
theorem dX9_time_79 : decode cX9_time 79 = .ok (.getfield 45, 3) := by decide +kernel
theorem dX9_time_82 : decode cX9_time 82 = .ok (.invokevirtual 202, 3) := by decide +kernel
theorem dX9_time_85 : decode cX9_time 85 = .ok (.ldc2_w 137, 3) := by decide +kernel
theorem dX9_time_88 : decode cX9_time 88 = .ok (.iload_n 2, 1) := by decide +kernel
theorem dX9_time_89 : decode cX9_time 89 = .ok (.invokestatic 139, 3) := by decide +kernel
theorem dX9_time_92 : decode cX9_time 92 = .ok (.lreturn, 1) := by decide +kernel
theorem dX9_cycle_0 : decode cX9_cycle 0 = .ok (.aload_n 0, 1) := by decide +kernel
theorem dX9_cycle_1 : decode cX9_cycle 1 = .ok (.iload_n 1, 1) := by decide +kernel
theorem dX9_cycle_2 : decode cX9_cycle 2 = .ok (.invokevirtual 76, 3) := by decide +kernel
theorem dX9_cycle_5 : decode cX9_cycle 5 = .ok (.astore 4, 2) := by decide +kernel
theorem dX9_cycle_7 : decode cX9_cycle 7 = .ok (.aload_n 0, 1) := by decide +kernel
theorem dX9_cycle_8 : decode cX9_cycle 8 = .ok (.iload_n 2, 1) := by decide +kernel
theorem dX9_cycle_9 : decode cX9_cycle 9 = .ok (.invokevirtual 76, 3) := by decide +kernel
theorem dX9_cycle_12 : decode cX9_cycle 12 = .ok (.astore 5, 2) := by decide +kernel
theorem dX9_cycle_14 : decode cX9_cycle 14 = .ok (.aload 4, 2) := by decide +kernel
theorem dX9_cycle_16 : decode cX9_cycle 16 = .ok (.ifnull 15, 3) := by decide +kernel
theorem dX9_cycle_19 : decode cX9_cycle 19 = .ok (.aload 5, 2) := by decide +kernel
theorem dX9_cycle_21 : decode cX9_cycle 21 = .ok (.ifnull 10, 3) := by decide +kernel
theorem dX9_cycle_24 : decode cX9_cycle 24 = .ok (.iload_n 3, 1) := by decide +kernel
theorem dX9_cycle_25 : decode cX9_cycle 25 = .ok (.invokestatic 128, 3) := by decide +kernel
theorem dX9_cycle_28 : decode cX9_cycle 28 = .ok (.ifCond .ne 7, 3) := by decide +kernel
theorem dX9_cycle_31 : decode cX9_cycle 31 = .ok (.ldc2_w 131, 3) := by decide +kernel
theorem dX9_cycle_34 : decode cX9_cycle 34 = .ok (.lreturn, 1) := by decide +kernel
theorem dX9_cycle_35 : decode cX9_cycle 35 = .ok (.aload 4, 2) := by decide +kernel
theorem dX9_cycle_37 : decode cX9_cycle 37 = .ok (.getfield 100, 3) := by decide +kernel
theorem dX9_cycle_40 : decode cX9_cycle 40 = .ok (.invokevirtual 133, 3) := by decide +kernel
theorem dX9_cycle_43 : decode cX9_cycle 43 = .ok (.aload 5, 2) := by decide +kernel
theorem dX9_cycle_45 : decode cX9_cycle 45 = .ok (.getfield 100, 3) := by decide +kernel
theorem dX9_cycle_48 : decode cX9_cycle 48 = .ok (.invokevirtual 133, 3) := by decide +kernel
theorem dX9_cycle_51 : decode cX9_cycle 51 = .ok (.invokestatic 205, 3) := by decide +kernel
theorem dX9_cycle_54 : decode cX9_cycle 54 = .ok (.lstore 6, 2) := by decide +kernel
theorem dX9_cycle_56 : decode cX9_cycle 56 = .ok (.lload 6, 2) := by decide +kernel
theorem dX9_cycle_58 : decode cX9_cycle 58 = .ok (.lconst 0, 1) := by decide +kernel
theorem dX9_cycle_59 : decode cX9_cycle 59 = .ok (.lcmp, 1) := by decide +kernel
theorem dX9_cycle_60 : decode cX9_cycle 60 = .ok (.ifCond .ge 8, 3) := by decide +kernel
theorem dX9_cycle_63 : decode cX9_cycle 63 = .ok (.lload 6, 2) := by decide +kernel
theorem dX9_cycle_65 : decode cX9_cycle 65 = .ok (.goto 12, 3) := by decide +kernel
theorem dX9_cycle_68 : decode cX9_cycle 68 = .ok (.lload 6, 2) := by decide +kernel
theorem dX9_cycle_70 : decode cX9_cycle 70 = .ok (.ldc2_w 137, 3) := by decide +kernel
theorem dX9_cycle_73 : decode cX9_cycle 73 = .ok (.iload_n 3, 1) := by decide +kernel
theorem dX9_cycle_74 : decode cX9_cycle 74 = .ok (.invokestatic 139, 3) := by decide +kernel
theorem dX9_cycle_77 : decode cX9_cycle 77 = .ok (.lreturn, 1) := by decide +kernel
theorem dX9_meets_0 : decode cX9_meets 0 = .ok (.aload_n 0, 1) := by decide +kernel
theorem dX9_meets_1 : decode cX9_meets 1 = .ok (.iload_n 1, 1) := by decide +kernel
theorem dX9_meets_2 : decode cX9_meets 2 = .ok (.invokevirtual 76, 3) := by decide +kernel
theorem dX9_meets_5 : decode cX9_meets 5 = .ok (.astore_n 3, 1) := by decide +kernel
theorem dX9_meets_6 : decode cX9_meets 6 = .ok (.aload_n 0, 1) := by decide +kernel
theorem dX9_meets_7 : decode cX9_meets 7 = .ok (.iload_n 2, 1) := by decide +kernel
theorem dX9_meets_8 : decode cX9_meets 8 = .ok (.invokevirtual 76, 3) := by decide +kernel
theorem dX9_meets_11 : decode cX9_meets 11 = .ok (.astore 4, 2) := by decide +kernel
theorem dX9_meets_13 : decode cX9_meets 13 = .ok (.aload_n 3, 1) := by decide +kernel
theorem dX9_meets_14 : decode cX9_meets 14 = .ok (.ifnull 8, 3) := by decide +kernel
theorem dX9_meets_17 : decode cX9_meets 17 = .ok (.aload 4, 2) := by decide +kernel
theorem dX9_meets_19 : decode cX9_meets 19 = .ok (.ifnonnull 5, 3) := by decide +kernel
theorem dX9_meets_22 : decode cX9_meets 22 = .ok (.iconst (-1), 1) := by decide +kernel
theorem dX9_meets_23 : decode cX9_meets 23 = .ok (.ireturn, 1) := by decide +kernel
theorem dX9_meets_24 : decode cX9_meets 24 = .ok (.aload_n 3, 1) := by decide +kernel
theorem dX9_meets_25 : decode cX9_meets 25 = .ok (.getfield 100, 3) := by decide +kernel
theorem dX9_meets_28 : decode cX9_meets 28 = .ok (.invokevirtual 133, 3) := by decide +kernel
theorem dX9_meets_31 : decode cX9_meets 31 = .ok (.aload 4, 2) := by decide +kernel
theorem dX9_meets_33 : decode cX9_meets 33 = .ok (.getfield 100, 3) := by decide +kernel
theorem dX9_meets_36 : decode cX9_meets 36 = .ok (.invokevirtual 133, 3) := by decide +kernel
theorem dX9_meets_39 : decode cX9_meets 39 = .ok (.invokestatic 205, 3) := by decide +kernel
theorem dX9_meets_42 : decode cX9_meets 42 = .ok (.lstore 5, 2) := by decide +kernel
theorem dX9_meets_44 : decode cX9_meets 44 = .ok (.lload 5, 2) := by decide +kernel
theorem dX9_meets_46 : decode cX9_meets 46 = .ok (.lconst 0, 1) := by decide +kernel
theorem dX9_meets_47 : decode cX9_meets 47 = .ok (.lcmp, 1) := by decide +kernel
theorem dX9_meets_48 : decode cX9_meets 48 = .ok (.ifCond .ge 7, 3) := by decide +kernel
theorem dX9_meets_51 : decode cX9_meets 51 = .ok (.lload 5, 2) := by decide +kernel
theorem dX9_meets_53 : decode cX9_meets 53 = .ok (.l2i, 1) := by decide +kernel
theorem dX9_meets_54 : decode cX9_meets 54 = .ok (.ireturn, 1) := by decide +kernel
theorem dX9_meets_55 : decode cX9_meets 55 = .ok (.aload_n 3, 1) := by decide +kernel
theorem dX9_meets_56 : decode cX9_meets 56 = .ok (.getfield 100, 3) := by decide +kernel
theorem dX9_meets_59 : decode cX9_meets 59 = .ok (.aload 4, 2) := by decide +kernel
theorem dX9_meets_61 : decode cX9_meets 61 = .ok (.getfield 100, 3) := by decide +kernel
theorem dX9_meets_64 : decode cX9_meets 64 = .ok (.invokestatic 208, 3) := by decide +kernel
theorem dX9_meets_67 : decode cX9_meets 67 = .ok (.ireturn, 1) := by decide +kernel
theorem dX9_undo_0 : decode cX9_undo 0 = .ok (.aload_n 0, 1) := by decide +kernel
theorem dX9_undo_1 : decode cX9_undo 1 = .ok (.getfield 212, 3) := by decide +kernel
theorem dX9_undo_4 : decode cX9_undo 4 = .ok (.iconst 1, 1) := by decide +kernel
theorem dX9_undo_5 : decode cX9_undo 5 = .ok (.if_icmp .lt 11, 3) := by decide +kernel
theorem dX9_undo_8 : decode cX9_undo 8 = .ok (.aload_n 0, 1) := by decide +kernel
theorem dX9_undo_9 : decode cX9_undo 9 = .ok (.getfield 212, 3) := by decide +kernel
theorem dX9_undo_12 : decode cX9_undo 12 = .ok (.iconst 5, 1) := by decide +kernel
theorem dX9_undo_13 : decode cX9_undo 13 = .ok (.if_icmp .le 6, 3) := by decide +kernel
theorem dX9_undo_16 : decode cX9_undo 16 = .ok (.bipush (-9), 2) := by decide +kernel
theorem dX9_undo_18 : decode cX9_undo 18 = .ok (.ireturn, 1) := by decide +kernel
theorem dX9_undo_19 : decode cX9_undo 19 = .ok (.aload_n 0, 1) := by decide +kernel
theorem dX9_undo_20 : decode cX9_undo 20 = .ok (.dup, 1) := by decide +kernel
theorem dX9_undo_21 : decode cX9_undo 21 = .ok (.getfield 212, 3) := by decide +kernel
theorem dX9_undo_24 : decode cX9_undo 24 = .ok (.iconst 1, 1) := by decide +kernel
theorem dX9_undo_25 : decode cX9_undo 25 = .ok (.isub, 1) := by decide +kernel
theorem dX9_undo_26 : decode cX9_undo 26 = .ok (.putfield 212, 3) := by decide +kernel
theorem dX9_undo_29 : decode cX9_undo 29 = .ok (.aload_n 0, 1) := by decide +kernel
theorem dX9_undo_30 : decode cX9_undo 30 = .ok (.getfield 37, 3) := by decide +kernel
theorem dX9_undo_33 : decode cX9_undo 33 = .ok (.aload_n 0, 1) := by decide +kernel
theorem dX9_undo_34 : decode cX9_undo 34 = .ok (.getfield 212, 3) := by decide +kernel
theorem dX9_undo_37 : decode cX9_undo 37 = .ok (.aaload, 1) := by decide +kernel
theorem dX9_undo_38 : decode cX9_undo 38 = .ok (.astore_n 1, 1) := by decide +kernel
theorem dX9_undo_39 : decode cX9_undo 39 = .ok (.iconst 0, 1) := by decide +kernel
theorem dX9_undo_40 : decode cX9_undo 40 = .ok (.istore_n 2, 1) := by decide +kernel
theorem dX9_undo_41 : decode cX9_undo 41 = .ok (.iload_n 2, 1) := by decide +kernel
theorem dX9_undo_42 : decode cX9_undo 42 = .ok (.iconst 4, 1) := by decide +kernel
theorem dX9_undo_43 : decode cX9_undo 43 = .ok (.if_icmp .ge 24, 3) := by decide +kernel
theorem dX9_undo_46 : decode cX9_undo 46 = .ok (.aload_n 0, 1) := by decide +kernel
theorem dX9_undo_47 : decode cX9_undo 47 = .ok (.getfield 30, 3) := by decide +kernel
theorem dX9_undo_50 : decode cX9_undo 50 = .ok (.iload_n 2, 1) := by decide +kernel
theorem dX9_undo_51 : decode cX9_undo 51 = .ok (.aaload, 1) := by decide +kernel
theorem dX9_undo_52 : decode cX9_undo 52 = .ok (.aload_n 1, 1) := by decide +kernel
theorem dX9_undo_53 : decode cX9_undo 53 = .ok (.getfield 215, 3) := by decide +kernel
theorem dX9_undo_56 : decode cX9_undo 56 = .ok (.iload_n 2, 1) := by decide +kernel
theorem dX9_undo_57 : decode cX9_undo 57 = .ok (.aaload, 1) := by decide +kernel
theorem dX9_undo_58 : decode cX9_undo 58 = .ok (.invokevirtual 96, 3) := by decide +kernel
theorem dX9_undo_61 : decode cX9_undo 61 = .ok (.iinc 2 1, 3) := by decide +kernel
theorem dX9_undo_64 : decode cX9_undo 64 = .ok (.goto (-23), 3) := by decide +kernel
theorem dX9_undo_67 : decode cX9_undo 67 = .ok (.aload_n 0, 1) := by decide +kernel
theorem dX9_undo_68 : decode cX9_undo 68 = .ok (.aload_n 1, 1) := by decide +kernel
theorem dX9_undo_69 : decode cX9_undo 69 = .ok (.getfield 219, 3) := by decide +kernel
theorem dX9_undo_72 : decode cX9_undo 72 = .ok (.putfield 49, 3) := by decide +kernel
theorem dX9_undo_75 : decode cX9_undo 75 = .ok (.aload_n 0, 1) := by decide +kernel
theorem dX9_undo_76 : decode cX9_undo 76 = .ok (.aload_n 1, 1) := by decide +kernel
theorem dX9_undo_77 : decode cX9_undo 77 = .ok (.getfield 220, 3) := by decide +kernel
theorem dX9_undo_80 : decode cX9_undo 80 = .ok (.putfield 53, 3) := by decide +kernel
theorem dX9_undo_83 : decode cX9_undo 83 = .ok (.aload_n 0, 1) := by decide +kernel
theorem dX9_undo_84 : decode cX9_undo 84 = .ok (.aload_n 1, 1) := by decide +kernel
theorem dX9_undo_85 : decode cX9_undo 85 = .ok (.getfield 221, 3) := by decide +kernel
theorem dX9_undo_88 : decode cX9_undo 88 = .ok (.putfield 56, 3) := by decide +kernel
theorem dX9_undo_91 : decode cX9_undo 91 = .ok (.aload_n 0, 1) := by decide +kernel
theorem dX9_undo_92 : decode cX9_undo 92 = .ok (.aload_n 1, 1) := by decide +kernel
theorem dX9_undo_93 : decode cX9_undo 93 = .ok (.getfield 222, 3) := by decide +kernel
theorem dX9_undo_96 : decode cX9_undo 96 = .ok (.putfield 59, 3) := by decide +kernel
theorem dX9_undo_99 : decode cX9_undo 99 = .ok (.aload_n 0, 1) := by decide +kernel
theorem dX9_undo_100 : decode cX9_undo 100 = .ok (.getfield 212, 3) := by decide +kernel
theorem dX9_undo_103 : decode cX9_undo 103 = .ok (.ireturn, 1) := by decide +kernel
theorem dX9_fingerprint_0 : decode cX9_fingerprint 0 = .ok (.ldc2_w 223, 3) := by decide +kernel
theorem dX9_fingerprint_3 : decode cX9_fingerprint 3 = .ok (.lstore_n 1, 1) := by decide +kernel
theorem dX9_fingerprint_4 : decode cX9_fingerprint 4 = .ok (.iconst 0, 1) := by decide +kernel
theorem dX9_fingerprint_5 : decode cX9_fingerprint 5 = .ok (.istore_n 3, 1) := by decide +kernel
theorem dX9_fingerprint_6 : decode cX9_fingerprint 6 = .ok (.iload_n 3, 1) := by decide +kernel
theorem dX9_fingerprint_7 : decode cX9_fingerprint 7 = .ok (.iconst 4, 1) := by decide +kernel
theorem dX9_fingerprint_8 : decode cX9_fingerprint 8 = .ok (.if_icmp .ge 67, 3) := by decide +kernel
theorem dX9_fingerprint_11 : decode cX9_fingerprint 11 = .ok (.aload_n 0, 1) := by decide +kernel
theorem dX9_fingerprint_12 : decode cX9_fingerprint 12 = .ok (.getfield 30, 3) := by decide +kernel
theorem dX9_fingerprint_15 : decode cX9_fingerprint 15 = .ok (.iload_n 3, 1) := by decide +kernel
theorem dX9_fingerprint_16 : decode cX9_fingerprint 16 = .ok (.aaload, 1) := by decide +kernel
theorem dX9_fingerprint_17 : decode cX9_fingerprint 17 = .ok (.getfield 109, 3) := by decide +kernel
theorem dX9_fingerprint_20 : decode cX9_fingerprint 20 = .ok (.astore 4, 2) := by decide +kernel
theorem dX9_fingerprint_22 : decode cX9_fingerprint 22 = .ok (.ldc2_w 225, 3) := by decide +kernel
theorem dX9_fingerprint_25 : decode cX9_fingerprint 25 = .ok (.lload_n 1, 1) := by decide +kernel
theorem dX9_fingerprint_26 : decode cX9_fingerprint 26 = .ok (.lmul, 1) := by decide +kernel
theorem dX9_fingerprint_27 : decode cX9_fingerprint 27 = .ok (.aload 4, 2) := by decide +kernel
theorem dX9_fingerprint_29 : decode cX9_fingerprint 29 = .ok (.invokevirtual 69, 3) := by decide +kernel
theorem dX9_fingerprint_32 : decode cX9_fingerprint 32 = .ok (.i2l, 1) := by decide +kernel
theorem dX9_fingerprint_33 : decode cX9_fingerprint 33 = .ok (.ladd, 1) := by decide +kernel
theorem dX9_fingerprint_34 : decode cX9_fingerprint 34 = .ok (.lstore_n 1, 1) := by decide +kernel
theorem dX9_fingerprint_35 : decode cX9_fingerprint 35 = .ok (.iconst 0, 1) := by decide +kernel
theorem dX9_fingerprint_36 : decode cX9_fingerprint 36 = .ok (.istore 5, 2) := by decide +kernel
theorem dX9_fingerprint_38 : decode cX9_fingerprint 38 = .ok (.iload 5, 2) := by decide +kernel
theorem dX9_fingerprint_40 : decode cX9_fingerprint 40 = .ok (.aload 4, 2) := by decide +kernel
theorem dX9_fingerprint_42 : decode cX9_fingerprint 42 = .ok (.invokevirtual 69, 3) := by decide +kernel
theorem dX9_fingerprint_45 : decode cX9_fingerprint 45 = .ok (.if_icmp .ge 24, 3) := by decide +kernel
theorem dX9_fingerprint_48 : decode cX9_fingerprint 48 = .ok (.ldc2_w 225, 3) := by decide +kernel
theorem dX9_fingerprint_51 : decode cX9_fingerprint 51 = .ok (.lload_n 1, 1) := by decide +kernel
theorem dX9_fingerprint_52 : decode cX9_fingerprint 52 = .ok (.lmul, 1) := by decide +kernel
theorem dX9_fingerprint_53 : decode cX9_fingerprint 53 = .ok (.aload 4, 2) := by decide +kernel
theorem dX9_fingerprint_55 : decode cX9_fingerprint 55 = .ok (.iload 5, 2) := by decide +kernel
theorem dX9_fingerprint_57 : decode cX9_fingerprint 57 = .ok (.invokevirtual 118, 3) := by decide +kernel
theorem dX9_fingerprint_60 : decode cX9_fingerprint 60 = .ok (.i2l, 1) := by decide +kernel
theorem dX9_fingerprint_61 : decode cX9_fingerprint 61 = .ok (.ladd, 1) := by decide +kernel
theorem dX9_fingerprint_62 : decode cX9_fingerprint 62 = .ok (.lstore_n 1, 1) := by decide +kernel
theorem dX9_fingerprint_63 : decode cX9_fingerprint 63 = .ok (.iinc 5 1, 3) := by decide +kernel
theorem dX9_fingerprint_66 : decode cX9_fingerprint 66 = .ok (.goto (-28), 3) := by decide +kernel
theorem dX9_fingerprint_69 : decode cX9_fingerprint 69 = .ok (.iinc 3 1, 3) := by decide +kernel
theorem dX9_fingerprint_72 : decode cX9_fingerprint 72 = .ok (.goto (-66), 3) := by decide +kernel
theorem dX9_fingerprint_75 : decode cX9_fingerprint 75 = .ok (.ldc2_w 225, 3) := by decide +kernel
theorem dX9_fingerprint_78 : decode cX9_fingerprint 78 = .ok (.lload_n 1, 1) := by decide +kernel
theorem dX9_fingerprint_79 : decode cX9_fingerprint 79 = .ok (.lmul, 1) := by decide +kernel
theorem dX9_fingerprint_80 : decode cX9_fingerprint 80 = .ok (.aload_n 0, 1) := by decide +kernel
theorem dX9_fingerprint_81 : decode cX9_fingerprint 81 = .ok (.getfield 49, 3) := by decide +kernel
theorem dX9_fingerprint_84 : decode cX9_fingerprint 84 = .ok (.i2l, 1) := by decide +kernel
theorem dX9_fingerprint_85 : decode cX9_fingerprint 85 = .ok (.ladd, 1) := by decide +kernel
theorem dX9_fingerprint_86 : decode cX9_fingerprint 86 = .ok (.lstore_n 1, 1) := by decide +kernel
theorem dX9_fingerprint_87 : decode cX9_fingerprint 87 = .ok (.ldc2_w 225, 3) := by decide +kernel
theorem dX9_fingerprint_90 : decode cX9_fingerprint 90 = .ok (.lload_n 1, 1) := by decide +kernel
theorem dX9_fingerprint_91 : decode cX9_fingerprint 91 = .ok (.lmul, 1) := by decide +kernel
theorem dX9_fingerprint_92 : decode cX9_fingerprint 92 = .ok (.aload_n 0, 1) := by decide +kernel
theorem dX9_fingerprint_93 : decode cX9_fingerprint 93 = .ok (.getfield 53, 3) := by decide +kernel
theorem dX9_fingerprint_96 : decode cX9_fingerprint 96 = .ok (.i2l, 1) := by decide +kernel
theorem dX9_fingerprint_97 : decode cX9_fingerprint 97 = .ok (.ladd, 1) := by decide +kernel
theorem dX9_fingerprint_98 : decode cX9_fingerprint 98 = .ok (.lstore_n 1, 1) := by decide +kernel
theorem dX9_fingerprint_99 : decode cX9_fingerprint 99 = .ok (.ldc2_w 225, 3) := by decide +kernel
theorem dX9_fingerprint_102 : decode cX9_fingerprint 102 = .ok (.lload_n 1, 1) := by decide +kernel
theorem dX9_fingerprint_103 : decode cX9_fingerprint 103 = .ok (.lmul, 1) := by decide +kernel
theorem dX9_fingerprint_104 : decode cX9_fingerprint 104 = .ok (.aload_n 0, 1) := by decide +kernel
theorem dX9_fingerprint_105 : decode cX9_fingerprint 105 = .ok (.getfield 56, 3) := by decide +kernel
theorem dX9_fingerprint_108 : decode cX9_fingerprint 108 = .ok (.i2l, 1) := by decide +kernel
theorem dX9_fingerprint_109 : decode cX9_fingerprint 109 = .ok (.ladd, 1) := by decide +kernel
theorem dX9_fingerprint_110 : decode cX9_fingerprint 110 = .ok (.lstore_n 1, 1) := by decide +kernel
theorem dX9_fingerprint_111 : decode cX9_fingerprint 111 = .ok (.ldc2_w 225, 3) := by decide +kernel
theorem dX9_fingerprint_114 : decode cX9_fingerprint 114 = .ok (.lload_n 1, 1) := by decide +kernel
theorem dX9_fingerprint_115 : decode cX9_fingerprint 115 = .ok (.lmul, 1) := by decide +kernel
theorem dX9_fingerprint_116 : decode cX9_fingerprint 116 = .ok (.aload_n 0, 1) := by decide +kernel
theorem dX9_fingerprint_117 : decode cX9_fingerprint 117 = .ok (.getfield 59, 3) := by decide +kernel
theorem dX9_fingerprint_120 : decode cX9_fingerprint 120 = .ok (.i2l, 1) := by decide +kernel
theorem dX9_fingerprint_121 : decode cX9_fingerprint 121 = .ok (.ladd, 1) := by decide +kernel
theorem dX9_fingerprint_122 : decode cX9_fingerprint 122 = .ok (.lreturn, 1) := by decide +kernel
theorem dX9_partAt_0 : decode cX9_partAt 0 = .ok (.iload_n 1, 1) := by decide +kernel
theorem dX9_partAt_1 : decode cX9_partAt 1 = .ok (.ifCond .lt 17, 3) := by decide +kernel
theorem dX9_partAt_4 : decode cX9_partAt 4 = .ok (.iload_n 1, 1) := by decide +kernel
theorem dX9_partAt_5 : decode cX9_partAt 5 = .ok (.iconst 4, 1) := by decide +kernel
theorem dX9_partAt_6 : decode cX9_partAt 6 = .ok (.if_icmp .ge 12, 3) := by decide +kernel
theorem dX9_partAt_9 : decode cX9_partAt 9 = .ok (.aload_n 0, 1) := by decide +kernel
theorem dX9_partAt_10 : decode cX9_partAt 10 = .ok (.getfield 30, 3) := by decide +kernel
theorem dX9_partAt_13 : decode cX9_partAt 13 = .ok (.iload_n 1, 1) := by decide +kernel
theorem dX9_partAt_14 : decode cX9_partAt 14 = .ok (.aaload, 1) := by decide +kernel
theorem dX9_partAt_15 : decode cX9_partAt 15 = .ok (.goto 4, 3) := by decide +kernel
theorem dX9_partAt_18 : decode cX9_partAt 18 = .ok (.aconst_null, 1) := by decide +kernel
theorem dX9_partAt_19 : decode cX9_partAt 19 = .ok (.areturn, 1) := by decide +kernel
theorem dX9_remember_0 : decode cX9_remember 0 = .ok (.aload_n 0, 1) := by decide +kernel
theorem dX9_remember_1 : decode cX9_remember 1 = .ok (.getfield 212, 3) := by decide +kernel
theorem dX9_remember_4 : decode cX9_remember 4 = .ok (.iconst 5, 1) := by decide +kernel
theorem dX9_remember_5 : decode cX9_remember 5 = .ok (.if_icmp .lt 7, 3) := by decide +kernel
theorem dX9_remember_8 : decode cX9_remember 8 = .ok (.aload_n 0, 1) := by decide +kernel
theorem dX9_remember_9 : decode cX9_remember 9 = .ok (.invokevirtual 227, 3) := by decide +kernel
theorem dX9_remember_12 : decode cX9_remember 12 = .ok (.aload_n 0, 1) := by decide +kernel
theorem dX9_remember_13 : decode cX9_remember 13 = .ok (.getfield 37, 3) := by decide +kernel
theorem dX9_remember_16 : decode cX9_remember 16 = .ok (.aload_n 0, 1) := by decide +kernel
theorem dX9_remember_17 : decode cX9_remember 17 = .ok (.getfield 212, 3) := by decide +kernel
theorem dX9_remember_20 : decode cX9_remember 20 = .ok (.aaload, 1) := by decide +kernel
theorem dX9_remember_21 : decode cX9_remember 21 = .ok (.astore_n 1, 1) := by decide +kernel
theorem dX9_remember_22 : decode cX9_remember 22 = .ok (.iconst 0, 1) := by decide +kernel
theorem dX9_remember_23 : decode cX9_remember 23 = .ok (.istore_n 2, 1) := by decide +kernel
theorem dX9_remember_24 : decode cX9_remember 24 = .ok (.iload_n 2, 1) := by decide +kernel
theorem dX9_remember_25 : decode cX9_remember 25 = .ok (.iconst 4, 1) := by decide +kernel
theorem dX9_remember_26 : decode cX9_remember 26 = .ok (.if_icmp .ge 27, 3) := by decide +kernel
theorem dX9_remember_29 : decode cX9_remember 29 = .ok (.aload_n 1, 1) := by decide +kernel
theorem dX9_remember_30 : decode cX9_remember 30 = .ok (.getfield 215, 3) := by decide +kernel
theorem dX9_remember_33 : decode cX9_remember 33 = .ok (.iload_n 2, 1) := by decide +kernel
theorem dX9_remember_34 : decode cX9_remember 34 = .ok (.aaload, 1) := by decide +kernel
theorem dX9_remember_35 : decode cX9_remember 35 = .ok (.aload_n 0, 1) := by decide +kernel
theorem dX9_remember_36 : decode cX9_remember 36 = .ok (.getfield 30, 3) := by decide +kernel
theorem dX9_remember_39 : decode cX9_remember 39 = .ok (.iload_n 2, 1) := by decide +kernel
theorem dX9_remember_40 : decode cX9_remember 40 = .ok (.aaload, 1) := by decide +kernel
theorem dX9_remember_41 : decode cX9_remember 41 = .ok (.getfield 109, 3) := by decide +kernel
theorem dX9_remember_44 : decode cX9_remember 44 = .ok (.invokevirtual 230, 3) := by decide +kernel
theorem dX9_remember_47 : decode cX9_remember 47 = .ok (.iinc 2 1, 3) := by decide +kernel
theorem dX9_remember_50 : decode cX9_remember 50 = .ok (.goto (-26), 3) := by decide +kernel
theorem dX9_remember_53 : decode cX9_remember 53 = .ok (.aload_n 1, 1) := by decide +kernel
theorem dX9_remember_54 : decode cX9_remember 54 = .ok (.aload_n 0, 1) := by decide +kernel
theorem dX9_remember_55 : decode cX9_remember 55 = .ok (.getfield 49, 3) := by decide +kernel
theorem dX9_remember_58 : decode cX9_remember 58 = .ok (.putfield 219, 3) := by decide +kernel
theorem dX9_remember_61 : decode cX9_remember 61 = .ok (.aload_n 1, 1) := by decide +kernel
theorem dX9_remember_62 : decode cX9_remember 62 = .ok (.aload_n 0, 1) := by decide +kernel
theorem dX9_remember_63 : decode cX9_remember 63 = .ok (.getfield 53, 3) := by decide +kernel
theorem dX9_remember_66 : decode cX9_remember 66 = .ok (.putfield 220, 3) := by decide +kernel
theorem dX9_remember_69 : decode cX9_remember 69 = .ok (.aload_n 1, 1) := by decide +kernel
theorem dX9_remember_70 : decode cX9_remember 70 = .ok (.aload_n 0, 1) := by decide +kernel
theorem dX9_remember_71 : decode cX9_remember 71 = .ok (.getfield 56, 3) := by decide +kernel
theorem dX9_remember_74 : decode cX9_remember 74 = .ok (.putfield 221, 3) := by decide +kernel
theorem dX9_remember_77 : decode cX9_remember 77 = .ok (.aload_n 1, 1) := by decide +kernel
theorem dX9_remember_78 : decode cX9_remember 78 = .ok (.aload_n 0, 1) := by decide +kernel
theorem dX9_remember_79 : decode cX9_remember 79 = .ok (.getfield 59, 3) := by decide +kernel
theorem dX9_remember_82 : decode cX9_remember 82 = .ok (.putfield 222, 3) := by decide +kernel
theorem dX9_remember_85 : decode cX9_remember 85 = .ok (.aload_n 0, 1) := by decide +kernel
theorem dX9_remember_86 : decode cX9_remember 86 = .ok (.dup, 1) := by decide +kernel
theorem dX9_remember_87 : decode cX9_remember 87 = .ok (.getfield 212, 3) := by decide +kernel
theorem dX9_remember_90 : decode cX9_remember 90 = .ok (.iconst 1, 1) := by decide +kernel
theorem dX9_remember_91 : decode cX9_remember 91 = .ok (.iadd, 1) := by decide +kernel
theorem dX9_remember_92 : decode cX9_remember 92 = .ok (.putfield 212, 3) := by decide +kernel
theorem dX9_remember_95 : decode cX9_remember 95 = .ok (.return_, 1) := by decide +kernel
theorem dX9_dropOldest_0 : decode cX9_dropOldest 0 = .ok (.aload_n 0, 1) := by decide +kernel
theorem dX9_dropOldest_1 : decode cX9_dropOldest 1 = .ok (.getfield 37, 3) := by decide +kernel
theorem dX9_dropOldest_4 : decode cX9_dropOldest 4 = .ok (.iconst 0, 1) := by decide +kernel
theorem dX9_dropOldest_5 : decode cX9_dropOldest 5 = .ok (.aaload, 1) := by decide +kernel
theorem dX9_dropOldest_6 : decode cX9_dropOldest 6 = .ok (.astore_n 1, 1) := by decide +kernel
theorem dX9_dropOldest_7 : decode cX9_dropOldest 7 = .ok (.iconst 1, 1) := by decide +kernel
theorem dX9_dropOldest_8 : decode cX9_dropOldest 8 = .ok (.istore_n 2, 1) := by decide +kernel
theorem dX9_dropOldest_9 : decode cX9_dropOldest 9 = .ok (.iload_n 2, 1) := by decide +kernel
theorem dX9_dropOldest_10 : decode cX9_dropOldest 10 = .ok (.iconst 5, 1) := by decide +kernel
theorem dX9_dropOldest_11 : decode cX9_dropOldest 11 = .ok (.if_icmp .ge 23, 3) := by decide +kernel
theorem dX9_dropOldest_14 : decode cX9_dropOldest 14 = .ok (.aload_n 0, 1) := by decide +kernel
theorem dX9_dropOldest_15 : decode cX9_dropOldest 15 = .ok (.getfield 37, 3) := by decide +kernel
theorem dX9_dropOldest_18 : decode cX9_dropOldest 18 = .ok (.iload_n 2, 1) := by decide +kernel
theorem dX9_dropOldest_19 : decode cX9_dropOldest 19 = .ok (.iconst 1, 1) := by decide +kernel
theorem dX9_dropOldest_20 : decode cX9_dropOldest 20 = .ok (.isub, 1) := by decide +kernel
theorem dX9_dropOldest_21 : decode cX9_dropOldest 21 = .ok (.aload_n 0, 1) := by decide +kernel
theorem dX9_dropOldest_22 : decode cX9_dropOldest 22 = .ok (.getfield 37, 3) := by decide +kernel
theorem dX9_dropOldest_25 : decode cX9_dropOldest 25 = .ok (.iload_n 2, 1) := by decide +kernel
theorem dX9_dropOldest_26 : decode cX9_dropOldest 26 = .ok (.aaload, 1) := by decide +kernel
theorem dX9_dropOldest_27 : decode cX9_dropOldest 27 = .ok (.aastore, 1) := by decide +kernel
theorem dX9_dropOldest_28 : decode cX9_dropOldest 28 = .ok (.iinc 2 1, 3) := by decide +kernel
theorem dX9_dropOldest_31 : decode cX9_dropOldest 31 = .ok (.goto (-22), 3) := by decide +kernel
theorem dX9_dropOldest_34 : decode cX9_dropOldest 34 = .ok (.aload_n 0, 1) := by decide +kernel
theorem dX9_dropOldest_35 : decode cX9_dropOldest 35 = .ok (.getfield 37, 3) := by decide +kernel
theorem dX9_dropOldest_38 : decode cX9_dropOldest 38 = .ok (.iconst 4, 1) := by decide +kernel
theorem dX9_dropOldest_39 : decode cX9_dropOldest 39 = .ok (.aload_n 1, 1) := by decide +kernel
theorem dX9_dropOldest_40 : decode cX9_dropOldest 40 = .ok (.aastore, 1) := by decide +kernel
theorem dX9_dropOldest_41 : decode cX9_dropOldest 41 = .ok (.aload_n 0, 1) := by decide +kernel
theorem dX9_dropOldest_42 : decode cX9_dropOldest 42 = .ok (.iconst 4, 1) := by decide +kernel
theorem dX9_dropOldest_43 : decode cX9_dropOldest 43 = .ok (.putfield 212, 3) := by decide +kernel
theorem dX9_dropOldest_46 : decode cX9_dropOldest 46 = .ok (.return_, 1) := by decide +kernel
theorem dX9_isMeterValue_0 : decode cX9_isMeterValue 0 = .ok (.iload_n 0, 1) := by decide +kernel
theorem dX9_isMeterValue_1 : decode cX9_isMeterValue 1 = .ok (.iconst 1, 1) := by decide +kernel
theorem dX9_isMeterValue_2 : decode cX9_isMeterValue 2 = .ok (.if_icmp .eq 25, 3) := by decide +kernel
theorem dX9_isMeterValue_5 : decode cX9_isMeterValue 5 = .ok (.iload_n 0, 1) := by decide +kernel
theorem dX9_isMeterValue_6 : decode cX9_isMeterValue 6 = .ok (.iconst 2, 1) := by decide +kernel
theorem dX9_isMeterValue_7 : decode cX9_isMeterValue 7 = .ok (.if_icmp .eq 20, 3) := by decide +kernel
theorem dX9_isMeterValue_10 : decode cX9_isMeterValue 10 = .ok (.iload_n 0, 1) := by decide +kernel
theorem dX9_isMeterValue_11 : decode cX9_isMeterValue 11 = .ok (.iconst 4, 1) := by decide +kernel
theorem dX9_isMeterValue_12 : decode cX9_isMeterValue 12 = .ok (.if_icmp .eq 15, 3) := by decide +kernel
theorem dX9_isMeterValue_15 : decode cX9_isMeterValue 15 = .ok (.iload_n 0, 1) := by decide +kernel
theorem dX9_isMeterValue_16 : decode cX9_isMeterValue 16 = .ok (.bipush 8, 2) := by decide +kernel
theorem dX9_isMeterValue_18 : decode cX9_isMeterValue 18 = .ok (.if_icmp .eq 9, 3) := by decide +kernel
theorem dX9_isMeterValue_21 : decode cX9_isMeterValue 21 = .ok (.iload_n 0, 1) := by decide +kernel
theorem dX9_isMeterValue_22 : decode cX9_isMeterValue 22 = .ok (.bipush 16, 2) := by decide +kernel
theorem dX9_isMeterValue_24 : decode cX9_isMeterValue 24 = .ok (.if_icmp .ne 7, 3) := by decide +kernel
theorem dX9_isMeterValue_27 : decode cX9_isMeterValue 27 = .ok (.iconst 1, 1) := by decide +kernel
theorem dX9_isMeterValue_28 : decode cX9_isMeterValue 28 = .ok (.goto 4, 3) := by decide +kernel
theorem dX9_isMeterValue_31 : decode cX9_isMeterValue 31 = .ok (.iconst 0, 1) := by decide +kernel
theorem dX9_isMeterValue_32 : decode cX9_isMeterValue 32 = .ok (.ireturn, 1) := by decide +kernel
theorem dX9_meterLength_0 : decode cX9_meterLength 0 = .ok (.aload_n 0, 1) := by decide +kernel
theorem dX9_meterLength_1 : decode cX9_meterLength 1 = .ok (.getfield 53, 3) := by decide +kernel
theorem dX9_meterLength_4 : decode cX9_meterLength 4 = .ok (.iconst 1, 1) := by decide +kernel
theorem dX9_meterLength_5 : decode cX9_meterLength 5 = .ok (.if_icmp .ge 9, 3) := by decide +kernel
theorem dX9_meterLength_8 : decode cX9_meterLength 8 = .ok (.ldc2_w 137, 3) := by decide +kernel
theorem dX9_meterLength_11 : decode cX9_meterLength 11 = .ok (.goto 18, 3) := by decide +kernel
theorem dX9_meterLength_14 : decode cX9_meterLength 14 = .ok (.aload_n 0, 1) := by decide +kernel
theorem dX9_meterLength_15 : decode cX9_meterLength 15 = .ok (.getfield 49, 3) := by decide +kernel
theorem dX9_meterLength_18 : decode cX9_meterLength 18 = .ok (.i2l, 1) := by decide +kernel
theorem dX9_meterLength_19 : decode cX9_meterLength 19 = .ok (.ldc2_w 137, 3) := by decide +kernel
theorem dX9_meterLength_22 : decode cX9_meterLength 22 = .ok (.lmul, 1) := by decide +kernel
theorem dX9_meterLength_23 : decode cX9_meterLength 23 = .ok (.aload_n 0, 1) := by decide +kernel
theorem dX9_meterLength_24 : decode cX9_meterLength 24 = .ok (.getfield 53, 3) := by decide +kernel
theorem dX9_meterLength_27 : decode cX9_meterLength 27 = .ok (.i2l, 1) := by decide +kernel
theorem dX9_meterLength_28 : decode cX9_meterLength 28 = .ok (.ldiv, 1) := by decide +kernel
theorem dX9_meterLength_29 : decode cX9_meterLength 29 = .ok (.lreturn, 1) := by decide +kernel
theorem dX9_level_0 : decode cX9_level 0 = .ok (.aload_n 0, 1) := by decide +kernel
theorem dX9_level_1 : decode cX9_level 1 = .ok (.invokevirtual 183, 3) := by decide +kernel
theorem dX9_level_4 : decode cX9_level 4 = .ok (.lstore_n 3, 1) := by decide +kernel
theorem dX9_level_5 : decode cX9_level 5 = .ok (.lload_n 3, 1) := by decide +kernel
theorem dX9_level_6 : decode cX9_level 6 = .ok (.lconst 1, 1) := by decide +kernel
theorem dX9_level_7 : decode cX9_level 7 = .ok (.lcmp, 1) := by decide +kernel
theorem dX9_level_8 : decode cX9_level 8 = .ok (.ifCond .ge 6, 3) := by decide +kernel
theorem dX9_level_11 : decode cX9_level 11 = .ok (.bipush 7, 2) := by decide +kernel
theorem dX9_level_13 : decode cX9_level 13 = .ok (.ireturn, 1) := by decide +kernel
theorem dX9_level_14 : decode cX9_level 14 = .ok (.iconst 0, 1) := by decide +kernel
theorem dX9_level_15 : decode cX9_level 15 = .ok (.istore 5, 2) := by decide +kernel
theorem dX9_level_17 : decode cX9_level 17 = .ok (.iload 5, 2) := by decide +kernel
theorem dX9_level_19 : decode cX9_level 19 = .ok (.bipush 6, 2) := by decide +kernel
theorem dX9_level_21 : decode cX9_level 21 = .ok (.if_icmp .gt 23, 3) := by decide +kernel
theorem dX9_level_24 : decode cX9_level 24 = .ok (.lload_n 1, 1) := by decide +kernel
theorem dX9_level_25 : decode cX9_level 25 = .ok (.iload 5, 2) := by decide +kernel
theorem dX9_level_27 : decode cX9_level 27 = .ok (.lshl, 1) := by decide +kernel
theorem dX9_level_28 : decode cX9_level 28 = .ok (.lload_n 3, 1) := by decide +kernel
theorem dX9_level_29 : decode cX9_level 29 = .ok (.lrem, 1) := by decide +kernel
theorem dX9_level_30 : decode cX9_level 30 = .ok (.lconst 0, 1) := by decide +kernel
theorem dX9_level_31 : decode cX9_level 31 = .ok (.lcmp, 1) := by decide +kernel
theorem dX9_level_32 : decode cX9_level 32 = .ok (.ifCond .ne 6, 3) := by decide +kernel
theorem dX9_level_35 : decode cX9_level 35 = .ok (.iload 5, 2) := by decide +kernel
theorem dX9_level_37 : decode cX9_level 37 = .ok (.ireturn, 1) := by decide +kernel
theorem dX9_level_38 : decode cX9_level 38 = .ok (.iinc 5 1, 3) := by decide +kernel
theorem dX9_level_41 : decode cX9_level 41 = .ok (.goto (-24), 3) := by decide +kernel
theorem dX9_level_44 : decode cX9_level 44 = .ok (.bipush 7, 2) := by decide +kernel
theorem dX9_level_46 : decode cX9_level 46 = .ok (.ireturn, 1) := by decide +kernel
theorem dX9_leastLevelBetween_0 : decode cX9_leastLevelBetween 0 = .ok (.aload_n 0, 1) := by decide +kernel
theorem dX9_leastLevelBetween_1 : decode cX9_leastLevelBetween 1 = .ok (.invokevirtual 183, 3) := by decide +kernel
theorem dX9_leastLevelBetween_4 : decode cX9_leastLevelBetween 4 = .ok (.lstore 5, 2) := by decide +kernel
theorem dX9_leastLevelBetween_6 : decode cX9_leastLevelBetween 6 = .ok (.lload 5, 2) := by decide +kernel
theorem dX9_leastLevelBetween_8 : decode cX9_leastLevelBetween 8 = .ok (.lconst 1, 1) := by decide +kernel
theorem dX9_leastLevelBetween_9 : decode cX9_leastLevelBetween 9 = .ok (.lcmp, 1) := by decide +kernel
theorem dX9_leastLevelBetween_10 : decode cX9_leastLevelBetween 10 = .ok (.ifCond .ge 6, 3) := by decide +kernel
theorem dX9_leastLevelBetween_13 : decode cX9_leastLevelBetween 13 = .ok (.bipush 7, 2) := by decide +kernel
theorem dX9_leastLevelBetween_15 : decode cX9_leastLevelBetween 15 = .ok (.ireturn, 1) := by decide +kernel
theorem dX9_leastLevelBetween_16 : decode cX9_leastLevelBetween 16 = .ok (.iconst 0, 1) := by decide +kernel
theorem dX9_leastLevelBetween_17 : decode cX9_leastLevelBetween 17 = .ok (.istore 7, 2) := by decide +kernel
theorem dX9_leastLevelBetween_19 : decode cX9_leastLevelBetween 19 = .ok (.iload 7, 2) := by decide +kernel
theorem dX9_leastLevelBetween_21 : decode cX9_leastLevelBetween 21 = .ok (.bipush 6, 2) := by decide +kernel
theorem dX9_leastLevelBetween_23 : decode cX9_leastLevelBetween 23 = .ok (.if_icmp .gt 36, 3) := by decide +kernel
theorem dX9_leastLevelBetween_26 : decode cX9_leastLevelBetween 26 = .ok (.lload_n 1, 1) := by decide +kernel
theorem dX9_leastLevelBetween_27 : decode cX9_leastLevelBetween 27 = .ok (.iload 7, 2) := by decide +kernel
theorem dX9_leastLevelBetween_29 : decode cX9_leastLevelBetween 29 = .ok (.lshl, 1) := by decide +kernel
theorem dX9_leastLevelBetween_30 : decode cX9_leastLevelBetween 30 = .ok (.lload 5, 2) := by decide +kernel
theorem dX9_leastLevelBetween_32 : decode cX9_leastLevelBetween 32 = .ok (.ldiv, 1) := by decide +kernel
theorem dX9_leastLevelBetween_33 : decode cX9_leastLevelBetween 33 = .ok (.lconst 1, 1) := by decide +kernel
theorem dX9_leastLevelBetween_34 : decode cX9_leastLevelBetween 34 = .ok (.ladd, 1) := by decide +kernel
theorem dX9_leastLevelBetween_35 : decode cX9_leastLevelBetween 35 = .ok (.lload 5, 2) := by decide +kernel
theorem dX9_leastLevelBetween_37 : decode cX9_leastLevelBetween 37 = .ok (.lmul, 1) := by decide +kernel
theorem dX9_leastLevelBetween_38 : decode cX9_leastLevelBetween 38 = .ok (.lstore 8, 2) := by decide +kernel
theorem dX9_leastLevelBetween_40 : decode cX9_leastLevelBetween 40 = .ok (.lload 8, 2) := by decide +kernel
theorem dX9_leastLevelBetween_42 : decode cX9_leastLevelBetween 42 = .ok (.lload_n 3, 1) := by decide +kernel
theorem dX9_leastLevelBetween_43 : decode cX9_leastLevelBetween 43 = .ok (.iload 7, 2) := by decide +kernel
theorem dX9_leastLevelBetween_45 : decode cX9_leastLevelBetween 45 = .ok (.lshl, 1) := by decide +kernel
theorem dX9_leastLevelBetween_46 : decode cX9_leastLevelBetween 46 = .ok (.lcmp, 1) := by decide +kernel
theorem dX9_leastLevelBetween_47 : decode cX9_leastLevelBetween 47 = .ok (.ifCond .ge 6, 3) := by decide +kernel
theorem dX9_leastLevelBetween_50 : decode cX9_leastLevelBetween 50 = .ok (.iload 7, 2) := by decide +kernel
theorem dX9_leastLevelBetween_52 : decode cX9_leastLevelBetween 52 = .ok (.ireturn, 1) := by decide +kernel
theorem dX9_leastLevelBetween_53 : decode cX9_leastLevelBetween 53 = .ok (.iinc 7 1, 3) := by decide +kernel
theorem dX9_leastLevelBetween_56 : decode cX9_leastLevelBetween 56 = .ok (.goto (-37), 3) := by decide +kernel
theorem dX9_leastLevelBetween_59 : decode cX9_leastLevelBetween 59 = .ok (.bipush 7, 2) := by decide +kernel
theorem dX9_leastLevelBetween_61 : decode cX9_leastLevelBetween 61 = .ok (.ireturn, 1) := by decide +kernel
theorem dX9_syncopationOf_0 : decode cX9_syncopationOf 0 = .ok (.aload_n 1, 1) := by decide +kernel
theorem dX9_syncopationOf_1 : decode cX9_syncopationOf 1 = .ok (.iload_n 2, 1) := by decide +kernel
theorem dX9_syncopationOf_2 : decode cX9_syncopationOf 2 = .ok (.invokevirtual 146, 3) := by decide +kernel
theorem dX9_syncopationOf_5 : decode cX9_syncopationOf 5 = .ok (.lstore_n 3, 1) := by decide +kernel
theorem dX9_syncopationOf_6 : decode cX9_syncopationOf 6 = .ok (.iconst 0, 1) := by decide +kernel
theorem dX9_syncopationOf_7 : decode cX9_syncopationOf 7 = .ok (.aload_n 0, 1) := by decide +kernel
theorem dX9_syncopationOf_8 : decode cX9_syncopationOf 8 = .ok (.lload_n 3, 1) := by decide +kernel
theorem dX9_syncopationOf_9 : decode cX9_syncopationOf 9 = .ok (.invokevirtual 166, 3) := by decide +kernel
theorem dX9_syncopationOf_12 : decode cX9_syncopationOf 12 = .ok (.aload_n 0, 1) := by decide +kernel
theorem dX9_syncopationOf_13 : decode cX9_syncopationOf 13 = .ok (.lload_n 3, 1) := by decide +kernel
theorem dX9_syncopationOf_14 : decode cX9_syncopationOf 14 = .ok (.aload_n 1, 1) := by decide +kernel
theorem dX9_syncopationOf_15 : decode cX9_syncopationOf 15 = .ok (.iload_n 2, 1) := by decide +kernel
theorem dX9_syncopationOf_16 : decode cX9_syncopationOf 16 = .ok (.invokevirtual 150, 3) := by decide +kernel
theorem dX9_syncopationOf_19 : decode cX9_syncopationOf 19 = .ok (.invokevirtual 233, 3) := by decide +kernel
theorem dX9_syncopationOf_22 : decode cX9_syncopationOf 22 = .ok (.isub, 1) := by decide +kernel
theorem dX9_syncopationOf_23 : decode cX9_syncopationOf 23 = .ok (.invokestatic 237, 3) := by decide +kernel
theorem dX9_syncopationOf_26 : decode cX9_syncopationOf 26 = .ok (.ireturn, 1) := by decide +kernel
theorem dX9_swing_0 : decode cX9_swing 0 = .ok (.ldc2_w 243, 3) := by decide +kernel
theorem dX9_swing_3 : decode cX9_swing 3 = .ok (.lstore_n 3, 1) := by decide +kernel
theorem dX9_swing_4 : decode cX9_swing 4 = .ok (.ldc2_w 245, 3) := by decide +kernel
theorem dX9_swing_7 : decode cX9_swing 7 = .ok (.lstore 5, 2) := by decide +kernel
theorem dX9_swing_9 : decode cX9_swing 9 = .ok (.lload_n 1, 1) := by decide +kernel
theorem dX9_swing_10 : decode cX9_swing 10 = .ok (.lload_n 3, 1) := by decide +kernel
theorem dX9_swing_11 : decode cX9_swing 11 = .ok (.lrem, 1) := by decide +kernel
theorem dX9_swing_12 : decode cX9_swing 12 = .ok (.lstore 7, 2) := by decide +kernel
theorem dX9_swing_14 : decode cX9_swing 14 = .ok (.lload_n 1, 1) := by decide +kernel
theorem dX9_swing_15 : decode cX9_swing 15 = .ok (.lload 7, 2) := by decide +kernel
theorem dX9_swing_17 : decode cX9_swing 17 = .ok (.lsub, 1) := by decide +kernel
theorem dX9_swing_18 : decode cX9_swing 18 = .ok (.aload_n 0, 1) := by decide +kernel
theorem dX9_swing_19 : decode cX9_swing 19 = .ok (.getfield 56, 3) := by decide +kernel
theorem dX9_swing_22 : decode cX9_swing 22 = .ok (.aload_n 0, 1) := by decide +kernel
theorem dX9_swing_23 : decode cX9_swing 23 = .ok (.getfield 59, 3) := by decide +kernel
theorem dX9_swing_26 : decode cX9_swing 26 = .ok (.iadd, 1) := by decide +kernel
theorem dX9_swing_27 : decode cX9_swing 27 = .ok (.i2l, 1) := by decide +kernel
theorem dX9_swing_28 : decode cX9_swing 28 = .ok (.lmul, 1) := by decide +kernel
theorem dX9_swing_29 : decode cX9_swing 29 = .ok (.lstore 9, 2) := by decide +kernel
theorem dX9_swing_31 : decode cX9_swing 31 = .ok (.lload 7, 2) := by decide +kernel
theorem dX9_swing_33 : decode cX9_swing 33 = .ok (.lload 5, 2) := by decide +kernel
theorem dX9_swing_35 : decode cX9_swing 35 = .ok (.lcmp, 1) := by decide +kernel
theorem dX9_swing_36 : decode cX9_swing 36 = .ok (.ifCond .ge 19, 3) := by decide +kernel
theorem dX9_swing_39 : decode cX9_swing 39 = .ok (.lload 9, 2) := by decide +kernel
theorem dX9_swing_41 : decode cX9_swing 41 = .ok (.lload 7, 2) := by decide +kernel
theorem dX9_swing_43 : decode cX9_swing 43 = .ok (.ldc2_w 247, 3) := by decide +kernel
theorem dX9_swing_46 : decode cX9_swing 46 = .ok (.lmul, 1) := by decide +kernel
theorem dX9_swing_47 : decode cX9_swing 47 = .ok (.aload_n 0, 1) := by decide +kernel
theorem dX9_swing_48 : decode cX9_swing 48 = .ok (.getfield 56, 3) := by decide +kernel
theorem dX9_swing_51 : decode cX9_swing 51 = .ok (.i2l, 1) := by decide +kernel
theorem dX9_swing_52 : decode cX9_swing 52 = .ok (.lmul, 1) := by decide +kernel
theorem dX9_swing_53 : decode cX9_swing 53 = .ok (.ladd, 1) := by decide +kernel
theorem dX9_swing_54 : decode cX9_swing 54 = .ok (.lreturn, 1) := by decide +kernel
theorem dX9_swing_55 : decode cX9_swing 55 = .ok (.lload 9, 2) := by decide +kernel
theorem dX9_swing_57 : decode cX9_swing 57 = .ok (.lload_n 3, 1) := by decide +kernel
theorem dX9_swing_58 : decode cX9_swing 58 = .ok (.aload_n 0, 1) := by decide +kernel
theorem dX9_swing_59 : decode cX9_swing 59 = .ok (.getfield 56, 3) := by decide +kernel
theorem dX9_swing_62 : decode cX9_swing 62 = .ok (.i2l, 1) := by decide +kernel
theorem dX9_swing_63 : decode cX9_swing 63 = .ok (.lmul, 1) := by decide +kernel
theorem dX9_swing_64 : decode cX9_swing 64 = .ok (.ladd, 1) := by decide +kernel
theorem dX9_swing_65 : decode cX9_swing 65 = .ok (.lload 7, 2) := by decide +kernel
theorem dX9_swing_67 : decode cX9_swing 67 = .ok (.lload 5, 2) := by decide +kernel
theorem dX9_swing_69 : decode cX9_swing 69 = .ok (.lsub, 1) := by decide +kernel
theorem dX9_swing_70 : decode cX9_swing 70 = .ok (.ldc2_w 247, 3) := by decide +kernel
theorem dX9_swing_73 : decode cX9_swing 73 = .ok (.lmul, 1) := by decide +kernel
theorem dX9_swing_74 : decode cX9_swing 74 = .ok (.aload_n 0, 1) := by decide +kernel
theorem dX9_swing_75 : decode cX9_swing 75 = .ok (.getfield 59, 3) := by decide +kernel
theorem dX9_swing_78 : decode cX9_swing 78 = .ok (.i2l, 1) := by decide +kernel
theorem dX9_swing_79 : decode cX9_swing 79 = .ok (.lmul, 1) := by decide +kernel
theorem dX9_swing_80 : decode cX9_swing 80 = .ok (.ladd, 1) := by decide +kernel
theorem dX9_swing_81 : decode cX9_swing 81 = .ok (.lreturn, 1) := by decide +kernel
theorem dX9_isSide_0 : decode cX9_isSide 0 = .ok (.iload_n 0, 1) := by decide +kernel
theorem dX9_isSide_1 : decode cX9_isSide 1 = .ok (.ifCond .eq 8, 3) := by decide +kernel
theorem dX9_isSide_4 : decode cX9_isSide 4 = .ok (.iload_n 0, 1) := by decide +kernel
theorem dX9_isSide_5 : decode cX9_isSide 5 = .ok (.iconst 1, 1) := by decide +kernel
theorem dX9_isSide_6 : decode cX9_isSide 6 = .ok (.if_icmp .ne 7, 3) := by decide +kernel
theorem dX9_isSide_9 : decode cX9_isSide 9 = .ok (.iconst 1, 1) := by decide +kernel
theorem dX9_isSide_10 : decode cX9_isSide 10 = .ok (.goto 4, 3) := by decide +kernel
theorem dX9_isSide_13 : decode cX9_isSide 13 = .ok (.iconst 0, 1) := by decide +kernel
theorem dX9_isSide_14 : decode cX9_isSide 14 = .ok (.ireturn, 1) := by decide +kernel
theorem dX9_side_0 : decode cX9_side 0 = .ok (.lload_n 0, 1) := by decide +kernel
theorem dX9_side_1 : decode cX9_side 1 = .ok (.lload_n 2, 1) := by decide +kernel
theorem dX9_side_2 : decode cX9_side 2 = .ok (.invokestatic 186, 3) := by decide +kernel
theorem dX9_side_5 : decode cX9_side 5 = .ok (.lstore 5, 2) := by decide +kernel
theorem dX9_side_7 : decode cX9_side 7 = .ok (.lload 5, 2) := by decide +kernel
theorem dX9_side_9 : decode cX9_side 9 = .ok (.lconst 1, 1) := by decide +kernel
theorem dX9_side_10 : decode cX9_side 10 = .ok (.lcmp, 1) := by decide +kernel
theorem dX9_side_11 : decode cX9_side 11 = .ok (.ifCond .ge 5, 3) := by decide +kernel
theorem dX9_side_14 : decode cX9_side 14 = .ok (.lconst 0, 1) := by decide +kernel
theorem dX9_side_15 : decode cX9_side 15 = .ok (.lreturn, 1) := by decide +kernel
theorem dX9_side_16 : decode cX9_side 16 = .ok (.iload 4, 2) := by decide +kernel
theorem dX9_side_18 : decode cX9_side 18 = .ok (.ifCond .ne 7, 3) := by decide +kernel
theorem dX9_side_21 : decode cX9_side 21 = .ok (.lload_n 0, 1) := by decide +kernel
theorem dX9_side_22 : decode cX9_side 22 = .ok (.goto 4, 3) := by decide +kernel
theorem dX9_side_25 : decode cX9_side 25 = .ok (.lload_n 2, 1) := by decide +kernel
theorem dX9_side_26 : decode cX9_side 26 = .ok (.lload 5, 2) := by decide +kernel
theorem dX9_side_28 : decode cX9_side 28 = .ok (.ldiv, 1) := by decide +kernel
theorem dX9_side_29 : decode cX9_side 29 = .ok (.lreturn, 1) := by decide +kernel
theorem dX9_commonDivisor_0 : decode cX9_commonDivisor 0 = .ok (.lload_n 0, 1) := by decide +kernel
theorem dX9_commonDivisor_1 : decode cX9_commonDivisor 1 = .ok (.lstore 4, 2) := by decide +kernel
theorem dX9_commonDivisor_3 : decode cX9_commonDivisor 3 = .ok (.lload_n 2, 1) := by decide +kernel
theorem dX9_commonDivisor_4 : decode cX9_commonDivisor 4 = .ok (.lstore 6, 2) := by decide +kernel
theorem dX9_commonDivisor_6 : decode cX9_commonDivisor 6 = .ok (.iconst 0, 1) := by decide +kernel
theorem dX9_commonDivisor_7 : decode cX9_commonDivisor 7 = .ok (.istore 8, 2) := by decide +kernel
theorem dX9_commonDivisor_9 : decode cX9_commonDivisor 9 = .ok (.iload 8, 2) := by decide +kernel
theorem dX9_commonDivisor_11 : decode cX9_commonDivisor 11 = .ok (.bipush 100, 2) := by decide +kernel
theorem dX9_commonDivisor_13 : decode cX9_commonDivisor 13 = .ok (.if_icmp .ge 31, 3) := by decide +kernel
theorem dX9_commonDivisor_16 : decode cX9_commonDivisor 16 = .ok (.lload 6, 2) := by decide +kernel
theorem dX9_commonDivisor_18 : decode cX9_commonDivisor 18 = .ok (.lconst 0, 1) := by decide +kernel
theorem dX9_commonDivisor_19 : decode cX9_commonDivisor 19 = .ok (.lcmp, 1) := by decide +kernel
theorem dX9_commonDivisor_20 : decode cX9_commonDivisor 20 = .ok (.ifCond .eq 24, 3) := by decide +kernel
theorem dX9_commonDivisor_23 : decode cX9_commonDivisor 23 = .ok (.lload 4, 2) := by decide +kernel
theorem dX9_commonDivisor_25 : decode cX9_commonDivisor 25 = .ok (.lload 6, 2) := by decide +kernel
theorem dX9_commonDivisor_27 : decode cX9_commonDivisor 27 = .ok (.lrem, 1) := by decide +kernel
theorem dX9_commonDivisor_28 : decode cX9_commonDivisor 28 = .ok (.lstore 9, 2) := by decide +kernel
theorem dX9_commonDivisor_30 : decode cX9_commonDivisor 30 = .ok (.lload 6, 2) := by decide +kernel
theorem dX9_commonDivisor_32 : decode cX9_commonDivisor 32 = .ok (.lstore 4, 2) := by decide +kernel
theorem dX9_commonDivisor_34 : decode cX9_commonDivisor 34 = .ok (.lload 9, 2) := by decide +kernel
theorem dX9_commonDivisor_36 : decode cX9_commonDivisor 36 = .ok (.lstore 6, 2) := by decide +kernel
theorem dX9_commonDivisor_38 : decode cX9_commonDivisor 38 = .ok (.iinc 8 1, 3) := by decide +kernel
theorem dX9_commonDivisor_41 : decode cX9_commonDivisor 41 = .ok (.goto (-32), 3) := by decide +kernel
theorem dX9_commonDivisor_44 : decode cX9_commonDivisor 44 = .ok (.lload 4, 2) := by decide +kernel
theorem dX9_commonDivisor_46 : decode cX9_commonDivisor 46 = .ok (.lreturn, 1) := by decide +kernel
theorem dX9_commonCycle_0 : decode cX9_commonCycle 0 = .ok (.lload_n 0, 1) := by decide +kernel
theorem dX9_commonCycle_1 : decode cX9_commonCycle 1 = .ok (.lconst 1, 1) := by decide +kernel
theorem dX9_commonCycle_2 : decode cX9_commonCycle 2 = .ok (.lcmp, 1) := by decide +kernel
theorem dX9_commonCycle_3 : decode cX9_commonCycle 3 = .ok (.ifCond .lt 9, 3) := by decide +kernel
theorem dX9_commonCycle_6 : decode cX9_commonCycle 6 = .ok (.lload_n 2, 1) := by decide +kernel
theorem dX9_commonCycle_7 : decode cX9_commonCycle 7 = .ok (.lconst 1, 1) := by decide +kernel
theorem dX9_commonCycle_8 : decode cX9_commonCycle 8 = .ok (.lcmp, 1) := by decide +kernel
theorem dX9_commonCycle_9 : decode cX9_commonCycle 9 = .ok (.ifCond .ge 7, 3) := by decide +kernel
theorem dX9_commonCycle_12 : decode cX9_commonCycle 12 = .ok (.ldc2_w 249, 3) := by decide +kernel
theorem dX9_commonCycle_15 : decode cX9_commonCycle 15 = .ok (.lreturn, 1) := by decide +kernel
theorem dX9_commonCycle_16 : decode cX9_commonCycle 16 = .ok (.lload_n 0, 1) := by decide +kernel
theorem dX9_commonCycle_17 : decode cX9_commonCycle 17 = .ok (.lload_n 2, 1) := by decide +kernel
theorem dX9_commonCycle_18 : decode cX9_commonCycle 18 = .ok (.invokestatic 186, 3) := by decide +kernel
theorem dX9_commonCycle_21 : decode cX9_commonCycle 21 = .ok (.lstore 4, 2) := by decide +kernel
theorem dX9_commonCycle_23 : decode cX9_commonCycle 23 = .ok (.lload 4, 2) := by decide +kernel
theorem dX9_commonCycle_25 : decode cX9_commonCycle 25 = .ok (.lconst 1, 1) := by decide +kernel
theorem dX9_commonCycle_26 : decode cX9_commonCycle 26 = .ok (.lcmp, 1) := by decide +kernel
theorem dX9_commonCycle_27 : decode cX9_commonCycle 27 = .ok (.ifCond .ge 7, 3) := by decide +kernel
theorem dX9_commonCycle_30 : decode cX9_commonCycle 30 = .ok (.ldc2_w 249, 3) := by decide +kernel
theorem dX9_commonCycle_33 : decode cX9_commonCycle 33 = .ok (.lreturn, 1) := by decide +kernel
theorem dX9_commonCycle_34 : decode cX9_commonCycle 34 = .ok (.lload_n 0, 1) := by decide +kernel
theorem dX9_commonCycle_35 : decode cX9_commonCycle 35 = .ok (.lload 4, 2) := by decide +kernel
theorem dX9_commonCycle_37 : decode cX9_commonCycle 37 = .ok (.ldiv, 1) := by decide +kernel
theorem dX9_commonCycle_38 : decode cX9_commonCycle 38 = .ok (.lstore 6, 2) := by decide +kernel
theorem dX9_commonCycle_40 : decode cX9_commonCycle 40 = .ok (.lload 6, 2) := by decide +kernel
theorem dX9_commonCycle_42 : decode cX9_commonCycle 42 = .ok (.ldc2_w 251, 3) := by decide +kernel
theorem dX9_commonCycle_45 : decode cX9_commonCycle 45 = .ok (.lload_n 2, 1) := by decide +kernel
theorem dX9_commonCycle_46 : decode cX9_commonCycle 46 = .ok (.ldiv, 1) := by decide +kernel
theorem dX9_commonCycle_47 : decode cX9_commonCycle 47 = .ok (.lcmp, 1) := by decide +kernel
theorem dX9_commonCycle_48 : decode cX9_commonCycle 48 = .ok (.ifCond .le 9, 3) := by decide +kernel
theorem dX9_commonCycle_51 : decode cX9_commonCycle 51 = .ok (.ldc2_w 253, 3) := by decide +kernel
theorem dX9_commonCycle_54 : decode cX9_commonCycle 54 = .ok (.goto 7, 3) := by decide +kernel
theorem dX9_commonCycle_57 : decode cX9_commonCycle 57 = .ok (.lload 6, 2) := by decide +kernel
theorem dX9_commonCycle_59 : decode cX9_commonCycle 59 = .ok (.lload_n 2, 1) := by decide +kernel
theorem dX9_commonCycle_60 : decode cX9_commonCycle 60 = .ok (.lmul, 1) := by decide +kernel
theorem dX9_commonCycle_61 : decode cX9_commonCycle 61 = .ok (.lreturn, 1) := by decide +kernel
theorem dX9_meetings_0 : decode cX9_meetings 0 = .ok (.aload_n 0, 1) := by decide +kernel
theorem dX9_meetings_1 : decode cX9_meetings 1 = .ok (.invokevirtual 133, 3) := by decide +kernel
theorem dX9_meetings_4 : decode cX9_meetings 4 = .ok (.aload_n 1, 1) := by decide +kernel
theorem dX9_meetings_5 : decode cX9_meetings 5 = .ok (.invokevirtual 133, 3) := by decide +kernel
theorem dX9_meetings_8 : decode cX9_meetings 8 = .ok (.invokestatic 186, 3) := by decide +kernel
theorem dX9_meetings_11 : decode cX9_meetings 11 = .ok (.lstore_n 2, 1) := by decide +kernel
theorem dX9_meetings_12 : decode cX9_meetings 12 = .ok (.lload_n 2, 1) := by decide +kernel
theorem dX9_meetings_13 : decode cX9_meetings 13 = .ok (.lconst 1, 1) := by decide +kernel
theorem dX9_meetings_14 : decode cX9_meetings 14 = .ok (.lcmp, 1) := by decide +kernel
theorem dX9_meetings_15 : decode cX9_meetings 15 = .ok (.ifCond .ge 5, 3) := by decide +kernel
theorem dX9_meetings_18 : decode cX9_meetings 18 = .ok (.iconst 0, 1) := by decide +kernel
theorem dX9_meetings_19 : decode cX9_meetings 19 = .ok (.ireturn, 1) := by decide +kernel
theorem dX9_meetings_20 : decode cX9_meetings 20 = .ok (.iconst 0, 1) := by decide +kernel
theorem dX9_meetings_21 : decode cX9_meetings 21 = .ok (.istore 4, 2) := by decide +kernel
theorem dX9_meetings_23 : decode cX9_meetings 23 = .ok (.aload_n 0, 1) := by decide +kernel
theorem dX9_meetings_24 : decode cX9_meetings 24 = .ok (.invokevirtual 104, 3) := by decide +kernel
theorem dX9_meetings_27 : decode cX9_meetings 27 = .ok (.istore 5, 2) := by decide +kernel
theorem dX9_meetings_29 : decode cX9_meetings 29 = .ok (.aload_n 1, 1) := by decide +kernel
theorem dX9_meetings_30 : decode cX9_meetings 30 = .ok (.invokevirtual 104, 3) := by decide +kernel
theorem dX9_meetings_33 : decode cX9_meetings 33 = .ok (.istore 6, 2) := by decide +kernel
theorem dX9_meetings_35 : decode cX9_meetings 35 = .ok (.iconst 0, 1) := by decide +kernel
theorem dX9_meetings_36 : decode cX9_meetings 36 = .ok (.istore 7, 2) := by decide +kernel
theorem dX9_meetings_38 : decode cX9_meetings 38 = .ok (.iload 7, 2) := by decide +kernel
theorem dX9_meetings_40 : decode cX9_meetings 40 = .ok (.iload 5, 2) := by decide +kernel
theorem dX9_meetings_42 : decode cX9_meetings 42 = .ok (.if_icmp .ge 52, 3) := by decide +kernel
theorem dX9_meetings_45 : decode cX9_meetings 45 = .ok (.aload_n 0, 1) := by decide +kernel
theorem dX9_meetings_46 : decode cX9_meetings 46 = .ok (.iload 7, 2) := by decide +kernel
theorem dX9_meetings_48 : decode cX9_meetings 48 = .ok (.invokevirtual 146, 3) := by decide +kernel
theorem dX9_meetings_51 : decode cX9_meetings 51 = .ok (.lstore 8, 2) := by decide +kernel
theorem dX9_meetings_53 : decode cX9_meetings 53 = .ok (.iconst 0, 1) := by decide +kernel
theorem dX9_meetings_54 : decode cX9_meetings 54 = .ok (.istore 10, 2) := by decide +kernel
theorem dX9_meetings_56 : decode cX9_meetings 56 = .ok (.iload 10, 2) := by decide +kernel
theorem dX9_meetings_58 : decode cX9_meetings 58 = .ok (.iload 6, 2) := by decide +kernel
theorem dX9_meetings_60 : decode cX9_meetings 60 = .ok (.if_icmp .ge 28, 3) := by decide +kernel
theorem dX9_meetings_63 : decode cX9_meetings 63 = .ok (.lload 8, 2) := by decide +kernel
theorem dX9_meetings_65 : decode cX9_meetings 65 = .ok (.aload_n 1, 1) := by decide +kernel
theorem dX9_meetings_66 : decode cX9_meetings 66 = .ok (.iload 10, 2) := by decide +kernel
theorem dX9_meetings_68 : decode cX9_meetings 68 = .ok (.invokevirtual 146, 3) := by decide +kernel
theorem dX9_meetings_71 : decode cX9_meetings 71 = .ok (.lsub, 1) := by decide +kernel
theorem dX9_meetings_72 : decode cX9_meetings 72 = .ok (.lload_n 2, 1) := by decide +kernel
theorem dX9_meetings_73 : decode cX9_meetings 73 = .ok (.lrem, 1) := by decide +kernel
theorem dX9_meetings_74 : decode cX9_meetings 74 = .ok (.lconst 0, 1) := by decide +kernel
theorem dX9_meetings_75 : decode cX9_meetings 75 = .ok (.lcmp, 1) := by decide +kernel
theorem dX9_meetings_76 : decode cX9_meetings 76 = .ok (.ifCond .ne 6, 3) := by decide +kernel
theorem dX9_meetings_79 : decode cX9_meetings 79 = .ok (.iinc 4 1, 3) := by decide +kernel
theorem dX9_meetings_82 : decode cX9_meetings 82 = .ok (.iinc 10 1, 3) := by decide +kernel
theorem dX9_meetings_85 : decode cX9_meetings 85 = .ok (.goto (-29), 3) := by decide +kernel
theorem dX9_meetings_88 : decode cX9_meetings 88 = .ok (.iinc 7 1, 3) := by decide +kernel
theorem dX9_meetings_91 : decode cX9_meetings 91 = .ok (.goto (-53), 3) := by decide +kernel
theorem dX9_meetings_94 : decode cX9_meetings 94 = .ok (.iload 4, 2) := by decide +kernel
theorem dX9_meetings_96 : decode cX9_meetings 96 = .ok (.ireturn, 1) := by decide +kernel
theorem dJ11_isValidCodePoint_9a6ad_0 : decode cJ11_isValidCodePoint_9a6ad 0 = .ok (.iload_n 0, 1) := by decide +kernel
theorem dJ11_isValidCodePoint_9a6ad_1 : decode cJ11_isValidCodePoint_9a6ad 1 = .ok (.bipush 16, 2) := by decide +kernel
theorem dJ11_isValidCodePoint_9a6ad_3 : decode cJ11_isValidCodePoint_9a6ad 3 = .ok (.iushr, 1) := by decide +kernel
theorem dJ11_isValidCodePoint_9a6ad_4 : decode cJ11_isValidCodePoint_9a6ad 4 = .ok (.istore_n 1, 1) := by decide +kernel
theorem dJ11_isValidCodePoint_9a6ad_5 : decode cJ11_isValidCodePoint_9a6ad 5 = .ok (.iload_n 1, 1) := by decide +kernel
theorem dJ11_isValidCodePoint_9a6ad_6 : decode cJ11_isValidCodePoint_9a6ad 6 = .ok (.bipush 17, 2) := by decide +kernel
theorem dJ11_isValidCodePoint_9a6ad_8 : decode cJ11_isValidCodePoint_9a6ad 8 = .ok (.if_icmp .ge 7, 3) := by decide +kernel
theorem dJ11_isValidCodePoint_9a6ad_11 : decode cJ11_isValidCodePoint_9a6ad 11 = .ok (.iconst 1, 1) := by decide +kernel
theorem dJ11_isValidCodePoint_9a6ad_12 : decode cJ11_isValidCodePoint_9a6ad 12 = .ok (.goto 4, 3) := by decide +kernel
theorem dJ11_isValidCodePoint_9a6ad_15 : decode cJ11_isValidCodePoint_9a6ad 15 = .ok (.iconst 0, 1) := by decide +kernel
theorem dJ11_isValidCodePoint_9a6ad_16 : decode cJ11_isValidCodePoint_9a6ad 16 = .ok (.ireturn, 1) := by decide +kernel
theorem dJ11_highSurrogate_5068e_0 : decode cJ11_highSurrogate_5068e 0 = .ok (.iload_n 0, 1) := by decide +kernel
theorem dJ11_highSurrogate_5068e_1 : decode cJ11_highSurrogate_5068e 1 = .ok (.bipush 10, 2) := by decide +kernel
theorem dJ11_highSurrogate_5068e_3 : decode cJ11_highSurrogate_5068e 3 = .ok (.iushr, 1) := by decide +kernel
theorem dJ11_highSurrogate_5068e_4 : decode cJ11_highSurrogate_5068e 4 = .ok (.ldc 110, 2) := by decide +kernel
theorem dJ11_highSurrogate_5068e_6 : decode cJ11_highSurrogate_5068e 6 = .ok (.iadd, 1) := by decide +kernel
theorem dJ11_highSurrogate_5068e_7 : decode cJ11_highSurrogate_5068e 7 = .ok (.i2c, 1) := by decide +kernel
theorem dJ11_highSurrogate_5068e_8 : decode cJ11_highSurrogate_5068e 8 = .ok (.ireturn, 1) := by decide +kernel
theorem dJ11_lowSurrogate_5068e_0 : decode cJ11_lowSurrogate_5068e 0 = .ok (.iload_n 0, 1) := by decide +kernel
theorem dJ11_lowSurrogate_5068e_1 : decode cJ11_lowSurrogate_5068e 1 = .ok (.sipush 1023, 3) := by decide +kernel
theorem dJ11_lowSurrogate_5068e_4 : decode cJ11_lowSurrogate_5068e 4 = .ok (.iand, 1) := by decide +kernel
theorem dJ11_lowSurrogate_5068e_5 : decode cJ11_lowSurrogate_5068e 5 = .ok (.ldc 76, 2) := by decide +kernel
theorem dJ11_lowSurrogate_5068e_7 : decode cJ11_lowSurrogate_5068e 7 = .ok (.iadd, 1) := by decide +kernel
theorem dJ11_lowSurrogate_5068e_8 : decode cJ11_lowSurrogate_5068e 8 = .ok (.i2c, 1) := by decide +kernel
theorem dJ11_lowSurrogate_5068e_9 : decode cJ11_lowSurrogate_5068e 9 = .ok (.ireturn, 1) := by decide +kernel
theorem dJ9_max_7cf53_0 : decode cJ9_max_7cf53 0 = .ok (.iload_n 0, 1) := by decide +kernel
theorem dJ9_max_7cf53_1 : decode cJ9_max_7cf53 1 = .ok (.iload_n 1, 1) := by decide +kernel
theorem dJ9_max_7cf53_2 : decode cJ9_max_7cf53 2 = .ok (.if_icmp .lt 7, 3) := by decide +kernel
theorem dJ9_max_7cf53_5 : decode cJ9_max_7cf53 5 = .ok (.iload_n 0, 1) := by decide +kernel
theorem dJ9_max_7cf53_6 : decode cJ9_max_7cf53 6 = .ok (.goto 4, 3) := by decide +kernel
theorem dJ9_max_7cf53_9 : decode cJ9_max_7cf53 9 = .ok (.iload_n 1, 1) := by decide +kernel
theorem dJ9_max_7cf53_10 : decode cJ9_max_7cf53 10 = .ok (.ireturn, 1) := by decide +kernel
theorem dJ9_min_7cf53_0 : decode cJ9_min_7cf53 0 = .ok (.iload_n 0, 1) := by decide +kernel
theorem dJ9_min_7cf53_1 : decode cJ9_min_7cf53 1 = .ok (.iload_n 1, 1) := by decide +kernel
theorem dJ9_min_7cf53_2 : decode cJ9_min_7cf53 2 = .ok (.if_icmp .gt 7, 3) := by decide +kernel
theorem dJ9_min_7cf53_5 : decode cJ9_min_7cf53 5 = .ok (.iload_n 0, 1) := by decide +kernel
theorem dJ9_min_7cf53_6 : decode cJ9_min_7cf53 6 = .ok (.goto 4, 3) := by decide +kernel
theorem dJ9_min_7cf53_9 : decode cJ9_min_7cf53 9 = .ok (.iload_n 1, 1) := by decide +kernel
theorem dJ9_min_7cf53_10 : decode cJ9_min_7cf53 10 = .ok (.ireturn, 1) := by decide +kernel
theorem dJ0_length_8abf5_0 : decode cJ0_length_8abf5 0 = .ok (.aload_n 0, 1) := by decide +kernel
theorem dJ0_length_8abf5_1 : decode cJ0_length_8abf5 1 = .ok (.getfield 9, 3) := by decide +kernel
theorem dJ0_length_8abf5_4 : decode cJ0_length_8abf5 4 = .ok (.arraylength, 1) := by decide +kernel
theorem dJ0_length_8abf5_5 : decode cJ0_length_8abf5 5 = .ok (.aload_n 0, 1) := by decide +kernel
theorem dJ0_length_8abf5_6 : decode cJ0_length_8abf5 6 = .ok (.invokevirtual 335, 3) := by decide +kernel
theorem dJ0_length_8abf5_9 : decode cJ0_length_8abf5 9 = .ok (.ishr, 1) := by decide +kernel
theorem dJ0_length_8abf5_10 : decode cJ0_length_8abf5 10 = .ok (.ireturn, 1) := by decide +kernel
theorem dJ0_indexOf_0f7a4_0 : decode cJ0_indexOf_0f7a4 0 = .ok (.aload_n 0, 1) := by decide +kernel
theorem dJ0_indexOf_0f7a4_1 : decode cJ0_indexOf_0f7a4 1 = .ok (.iload_n 1, 1) := by decide +kernel
theorem dJ0_indexOf_0f7a4_2 : decode cJ0_indexOf_0f7a4 2 = .ok (.iconst 0, 1) := by decide +kernel
theorem dJ0_indexOf_0f7a4_3 : decode cJ0_indexOf_0f7a4 3 = .ok (.invokevirtual 633, 3) := by decide +kernel
theorem dJ0_indexOf_0f7a4_6 : decode cJ0_indexOf_0f7a4 6 = .ok (.ireturn, 1) := by decide +kernel
theorem dJ0_indexOf_7cf53_0 : decode cJ0_indexOf_7cf53 0 = .ok (.aload_n 0, 1) := by decide +kernel
theorem dJ0_indexOf_7cf53_1 : decode cJ0_indexOf_7cf53 1 = .ok (.invokevirtual 492, 3) := by decide +kernel
theorem dJ0_indexOf_7cf53_4 : decode cJ0_indexOf_7cf53 4 = .ok (.ifCond .eq 19, 3) := by decide +kernel
theorem dJ0_indexOf_7cf53_7 : decode cJ0_indexOf_7cf53 7 = .ok (.aload_n 0, 1) := by decide +kernel
theorem dJ0_indexOf_7cf53_8 : decode cJ0_indexOf_7cf53 8 = .ok (.getfield 9, 3) := by decide +kernel
theorem dJ0_indexOf_7cf53_11 : decode cJ0_indexOf_7cf53 11 = .ok (.iload_n 1, 1) := by decide +kernel
theorem dJ0_indexOf_7cf53_12 : decode cJ0_indexOf_7cf53 12 = .ok (.iload_n 2, 1) := by decide +kernel
theorem dJ0_indexOf_7cf53_13 : decode cJ0_indexOf_7cf53 13 = .ok (.aload_n 0, 1) := by decide +kernel
theorem dJ0_indexOf_7cf53_14 : decode cJ0_indexOf_7cf53 14 = .ok (.invokevirtual 505, 3) := by decide +kernel
theorem dJ0_indexOf_7cf53_17 : decode cJ0_indexOf_7cf53 17 = .ok (.invokestatic 637, 3) := by decide +kernel
theorem dJ0_indexOf_7cf53_20 : decode cJ0_indexOf_7cf53 20 = .ok (.goto 16, 3) := by decide +kernel
theorem dJ0_indexOf_7cf53_23 : decode cJ0_indexOf_7cf53 23 = .ok (.aload_n 0, 1) := by decide +kernel
theorem dJ0_indexOf_7cf53_24 : decode cJ0_indexOf_7cf53 24 = .ok (.getfield 9, 3) := by decide +kernel
theorem dJ0_indexOf_7cf53_27 : decode cJ0_indexOf_7cf53 27 = .ok (.iload_n 1, 1) := by decide +kernel
theorem dJ0_indexOf_7cf53_28 : decode cJ0_indexOf_7cf53 28 = .ok (.iload_n 2, 1) := by decide +kernel
theorem dJ0_indexOf_7cf53_29 : decode cJ0_indexOf_7cf53 29 = .ok (.aload_n 0, 1) := by decide +kernel
theorem dJ0_indexOf_7cf53_30 : decode cJ0_indexOf_7cf53 30 = .ok (.invokevirtual 505, 3) := by decide +kernel
theorem dJ0_indexOf_7cf53_33 : decode cJ0_indexOf_7cf53 33 = .ok (.invokestatic 640, 3) := by decide +kernel
theorem dJ0_indexOf_7cf53_36 : decode cJ0_indexOf_7cf53 36 = .ok (.ireturn, 1) := by decide +kernel
theorem dJ0_coder_7d493_0 : decode cJ0_coder_7d493 0 = .ok (.getstatic 38, 3) := by decide +kernel
theorem dJ0_coder_7d493_3 : decode cJ0_coder_7d493 3 = .ok (.ifCond .eq 10, 3) := by decide +kernel
theorem dJ0_coder_7d493_6 : decode cJ0_coder_7d493 6 = .ok (.aload_n 0, 1) := by decide +kernel
theorem dJ0_coder_7d493_7 : decode cJ0_coder_7d493 7 = .ok (.getfield 15, 3) := by decide +kernel
theorem dJ0_coder_7d493_10 : decode cJ0_coder_7d493 10 = .ok (.goto 4, 3) := by decide +kernel
theorem dJ0_coder_7d493_13 : decode cJ0_coder_7d493 13 = .ok (.iconst 1, 1) := by decide +kernel
theorem dJ0_coder_7d493_14 : decode cJ0_coder_7d493 14 = .ok (.ireturn, 1) := by decide +kernel
theorem dJ0_isLatin1_aae02_0 : decode cJ0_isLatin1_aae02 0 = .ok (.getstatic 38, 3) := by decide +kernel
theorem dJ0_isLatin1_aae02_3 : decode cJ0_isLatin1_aae02 3 = .ok (.ifCond .eq 14, 3) := by decide +kernel
theorem dJ0_isLatin1_aae02_6 : decode cJ0_isLatin1_aae02 6 = .ok (.aload_n 0, 1) := by decide +kernel
theorem dJ0_isLatin1_aae02_7 : decode cJ0_isLatin1_aae02 7 = .ok (.getfield 15, 3) := by decide +kernel
theorem dJ0_isLatin1_aae02_10 : decode cJ0_isLatin1_aae02 10 = .ok (.ifCond .ne 7, 3) := by decide +kernel
theorem dJ0_isLatin1_aae02_13 : decode cJ0_isLatin1_aae02 13 = .ok (.iconst 1, 1) := by decide +kernel
theorem dJ0_isLatin1_aae02_14 : decode cJ0_isLatin1_aae02 14 = .ok (.goto 4, 3) := by decide +kernel
theorem dJ0_isLatin1_aae02_17 : decode cJ0_isLatin1_aae02 17 = .ok (.iconst 0, 1) := by decide +kernel
theorem dJ0_isLatin1_aae02_18 : decode cJ0_isLatin1_aae02 18 = .ok (.ireturn, 1) := by decide +kernel
theorem dJ0_checkBoundsBeginEnd_23922_0 : decode cJ0_checkBoundsBeginEnd_23922 0 = .ok (.iload_n 0, 1) := by decide +kernel
theorem dJ0_checkBoundsBeginEnd_23922_1 : decode cJ0_checkBoundsBeginEnd_23922 1 = .ok (.iload_n 1, 1) := by decide +kernel
theorem dJ0_checkBoundsBeginEnd_23922_2 : decode cJ0_checkBoundsBeginEnd_23922 2 = .ok (.iload_n 2, 1) := by decide +kernel
theorem dJ0_checkBoundsBeginEnd_23922_3 : decode cJ0_checkBoundsBeginEnd_23922 3 = .ok (.getstatic 1053, 3) := by decide +kernel
theorem dJ0_checkBoundsBeginEnd_23922_6 : decode cJ0_checkBoundsBeginEnd_23922 6 = .ok (.invokestatic 1062, 3) := by decide +kernel
theorem dJ0_checkBoundsBeginEnd_23922_9 : decode cJ0_checkBoundsBeginEnd_23922 9 = .ok (.pop, 1) := by decide +kernel
theorem dJ0_checkBoundsBeginEnd_23922_10 : decode cJ0_checkBoundsBeginEnd_23922 10 = .ok (.return_, 1) := by decide +kernel
theorem dJ1_canEncode_9a6ad_0 : decode cJ1_canEncode_9a6ad 0 = .ok (.iload_n 0, 1) := by decide +kernel
theorem dJ1_canEncode_9a6ad_1 : decode cJ1_canEncode_9a6ad 1 = .ok (.ifCond .lt 14, 3) := by decide +kernel
theorem dJ1_canEncode_9a6ad_4 : decode cJ1_canEncode_9a6ad 4 = .ok (.iload_n 0, 1) := by decide +kernel
theorem dJ1_canEncode_9a6ad_5 : decode cJ1_canEncode_9a6ad 5 = .ok (.sipush 255, 3) := by decide +kernel
theorem dJ1_canEncode_9a6ad_8 : decode cJ1_canEncode_9a6ad 8 = .ok (.if_icmp .gt 7, 3) := by decide +kernel
theorem dJ1_canEncode_9a6ad_11 : decode cJ1_canEncode_9a6ad 11 = .ok (.iconst 1, 1) := by decide +kernel
theorem dJ1_canEncode_9a6ad_12 : decode cJ1_canEncode_9a6ad 12 = .ok (.goto 4, 3) := by decide +kernel
theorem dJ1_canEncode_9a6ad_15 : decode cJ1_canEncode_9a6ad 15 = .ok (.iconst 0, 1) := by decide +kernel
theorem dJ1_canEncode_9a6ad_16 : decode cJ1_canEncode_9a6ad 16 = .ok (.ireturn, 1) := by decide +kernel
theorem dJ1_indexOf_4cfef_0 : decode cJ1_indexOf_4cfef 0 = .ok (.iload_n 1, 1) := by decide +kernel
theorem dJ1_indexOf_4cfef_1 : decode cJ1_indexOf_4cfef 1 = .ok (.invokestatic 88, 3) := by decide +kernel
theorem dJ1_indexOf_4cfef_4 : decode cJ1_indexOf_4cfef 4 = .ok (.ifCond .ne 5, 3) := by decide +kernel
theorem dJ1_indexOf_4cfef_7 : decode cJ1_indexOf_4cfef 7 = .ok (.iconst (-1), 1) := by decide +kernel
theorem dJ1_indexOf_4cfef_8 : decode cJ1_indexOf_4cfef 8 = .ok (.ireturn, 1) := by decide +kernel
theorem dJ1_indexOf_4cfef_9 : decode cJ1_indexOf_4cfef 9 = .ok (.iload_n 2, 1) := by decide +kernel
theorem dJ1_indexOf_4cfef_10 : decode cJ1_indexOf_4cfef 10 = .ok (.iconst 0, 1) := by decide +kernel
theorem dJ1_indexOf_4cfef_11 : decode cJ1_indexOf_4cfef 11 = .ok (.invokestatic 92, 3) := by decide +kernel
theorem dJ1_indexOf_4cfef_14 : decode cJ1_indexOf_4cfef 14 = .ok (.istore_n 2, 1) := by decide +kernel
theorem dJ1_indexOf_4cfef_15 : decode cJ1_indexOf_4cfef 15 = .ok (.iload_n 3, 1) := by decide +kernel
theorem dJ1_indexOf_4cfef_16 : decode cJ1_indexOf_4cfef 16 = .ok (.aload_n 0, 1) := by decide +kernel
theorem dJ1_indexOf_4cfef_17 : decode cJ1_indexOf_4cfef 17 = .ok (.arraylength, 1) := by decide +kernel
theorem dJ1_indexOf_4cfef_18 : decode cJ1_indexOf_4cfef 18 = .ok (.invokestatic 38, 3) := by decide +kernel
theorem dJ1_indexOf_4cfef_21 : decode cJ1_indexOf_4cfef 21 = .ok (.istore_n 3, 1) := by decide +kernel
theorem dJ1_indexOf_4cfef_22 : decode cJ1_indexOf_4cfef 22 = .ok (.iload_n 2, 1) := by decide +kernel
theorem dJ1_indexOf_4cfef_23 : decode cJ1_indexOf_4cfef 23 = .ok (.iload_n 3, 1) := by decide +kernel
theorem dJ1_indexOf_4cfef_24 : decode cJ1_indexOf_4cfef 24 = .ok (.if_icmp .lt 5, 3) := by decide +kernel
theorem dJ1_indexOf_4cfef_27 : decode cJ1_indexOf_4cfef 27 = .ok (.iconst (-1), 1) := by decide +kernel
theorem dJ1_indexOf_4cfef_28 : decode cJ1_indexOf_4cfef 28 = .ok (.ireturn, 1) := by decide +kernel
theorem dJ1_indexOf_4cfef_29 : decode cJ1_indexOf_4cfef 29 = .ok (.aload_n 0, 1) := by decide +kernel
theorem dJ1_indexOf_4cfef_30 : decode cJ1_indexOf_4cfef 30 = .ok (.iload_n 1, 1) := by decide +kernel
theorem dJ1_indexOf_4cfef_31 : decode cJ1_indexOf_4cfef 31 = .ok (.iload_n 2, 1) := by decide +kernel
theorem dJ1_indexOf_4cfef_32 : decode cJ1_indexOf_4cfef 32 = .ok (.iload_n 3, 1) := by decide +kernel
theorem dJ1_indexOf_4cfef_33 : decode cJ1_indexOf_4cfef 33 = .ok (.invokestatic 95, 3) := by decide +kernel
theorem dJ1_indexOf_4cfef_36 : decode cJ1_indexOf_4cfef 36 = .ok (.ireturn, 1) := by decide +kernel
theorem dJ1_indexOfChar_4cfef_0 : decode cJ1_indexOfChar_4cfef 0 = .ok (.iload_n 1, 1) := by decide +kernel
theorem dJ1_indexOfChar_4cfef_1 : decode cJ1_indexOfChar_4cfef 1 = .ok (.i2b, 1) := by decide +kernel
theorem dJ1_indexOfChar_4cfef_2 : decode cJ1_indexOfChar_4cfef 2 = .ok (.istore 4, 2) := by decide +kernel
theorem dJ1_indexOfChar_4cfef_4 : decode cJ1_indexOfChar_4cfef 4 = .ok (.iload_n 2, 1) := by decide +kernel
theorem dJ1_indexOfChar_4cfef_5 : decode cJ1_indexOfChar_4cfef 5 = .ok (.istore 5, 2) := by decide +kernel
theorem dJ1_indexOfChar_4cfef_7 : decode cJ1_indexOfChar_4cfef 7 = .ok (.iload 5, 2) := by decide +kernel
theorem dJ1_indexOfChar_4cfef_9 : decode cJ1_indexOfChar_4cfef 9 = .ok (.iload_n 3, 1) := by decide +kernel
theorem dJ1_indexOfChar_4cfef_10 : decode cJ1_indexOfChar_4cfef 10 = .ok (.if_icmp .ge 21, 3) := by decide +kernel
theorem dJ1_indexOfChar_4cfef_13 : decode cJ1_indexOfChar_4cfef 13 = .ok (.aload_n 0, 1) := by decide +kernel
theorem dJ1_indexOfChar_4cfef_14 : decode cJ1_indexOfChar_4cfef 14 = .ok (.iload 5, 2) := by decide +kernel
theorem dJ1_indexOfChar_4cfef_16 : decode cJ1_indexOfChar_4cfef 16 = .ok (.baload, 1) := by decide +kernel
theorem dJ1_indexOfChar_4cfef_17 : decode cJ1_indexOfChar_4cfef 17 = .ok (.iload 4, 2) := by decide +kernel
theorem dJ1_indexOfChar_4cfef_19 : decode cJ1_indexOfChar_4cfef 19 = .ok (.if_icmp .ne 6, 3) := by decide +kernel
theorem dJ1_indexOfChar_4cfef_22 : decode cJ1_indexOfChar_4cfef 22 = .ok (.iload 5, 2) := by decide +kernel
theorem dJ1_indexOfChar_4cfef_24 : decode cJ1_indexOfChar_4cfef 24 = .ok (.ireturn, 1) := by decide +kernel
theorem dJ1_indexOfChar_4cfef_25 : decode cJ1_indexOfChar_4cfef 25 = .ok (.iinc 5 1, 3) := by decide +kernel
theorem dJ1_indexOfChar_4cfef_28 : decode cJ1_indexOfChar_4cfef 28 = .ok (.goto (-21), 3) := by decide +kernel
theorem dJ1_indexOfChar_4cfef_31 : decode cJ1_indexOfChar_4cfef 31 = .ok (.iconst (-1), 1) := by decide +kernel
theorem dJ1_indexOfChar_4cfef_32 : decode cJ1_indexOfChar_4cfef 32 = .ok (.ireturn, 1) := by decide +kernel
theorem dJ2_getChar_3b067_0 : decode cJ2_getChar_3b067 0 = .ok (.getstatic 44, 3) := by decide +kernel
theorem dJ2_getChar_3b067_3 : decode cJ2_getChar_3b067 3 = .ok (.ifCond .ne 25, 3) := by decide +kernel
theorem dJ2_getChar_3b067_6 : decode cJ2_getChar_3b067 6 = .ok (.iload_n 1, 1) := by decide +kernel
theorem dJ2_getChar_3b067_7 : decode cJ2_getChar_3b067 7 = .ok (.ifCond .lt 11, 3) := by decide +kernel
theorem dJ2_getChar_3b067_10 : decode cJ2_getChar_3b067 10 = .ok (.iload_n 1, 1) := by decide +kernel
theorem dJ2_getChar_3b067_11 : decode cJ2_getChar_3b067 11 = .ok (.aload_n 0, 1) := by decide +kernel
theorem dJ2_getChar_3b067_12 : decode cJ2_getChar_3b067 12 = .ok (.invokestatic 48, 3) := by decide +kernel
theorem dJ2_getChar_3b067_15 : decode cJ2_getChar_3b067 15 = .ok (.if_icmp .lt 13, 3) := by decide +kernel
theorem dJ2_getChar_3b067_18 : decode cJ2_getChar_3b067 18 = .ok (.new 52, 3) := by decide +kernel
theorem dJ2_getChar_3b067_21 : decode cJ2_getChar_3b067 21 = .ok (.dup, 1) := by decide +kernel
theorem dJ2_getChar_3b067_22 : decode cJ2_getChar_3b067 22 = .ok (.ldc 54, 2) := by decide +kernel
theorem dJ2_getChar_3b067_24 : decode cJ2_getChar_3b067 24 = .ok (.invokespecial 56, 3) := by decide +kernel
theorem dJ2_getChar_3b067_27 : decode cJ2_getChar_3b067 27 = .ok (.athrow, 1) := by decide +kernel
theorem dJ2_getChar_3b067_28 : decode cJ2_getChar_3b067 28 = .ok (.iload_n 1, 1) := by decide +kernel
theorem dJ2_getChar_3b067_29 : decode cJ2_getChar_3b067 29 = .ok (.iconst 1, 1) := by decide +kernel
theorem dJ2_getChar_3b067_30 : decode cJ2_getChar_3b067 30 = .ok (.ishl, 1) := by decide +kernel
theorem dJ2_getChar_3b067_31 : decode cJ2_getChar_3b067 31 = .ok (.istore_n 1, 1) := by decide +kernel
theorem dJ2_getChar_3b067_32 : decode cJ2_getChar_3b067 32 = .ok (.aload_n 0, 1) := by decide +kernel
theorem dJ2_getChar_3b067_33 : decode cJ2_getChar_3b067 33 = .ok (.iload_n 1, 1) := by decide +kernel
theorem dJ2_getChar_3b067_34 : decode cJ2_getChar_3b067 34 = .ok (.iinc 1 1, 3) := by decide +kernel
theorem dJ2_getChar_3b067_37 : decode cJ2_getChar_3b067 37 = .ok (.baload, 1) := by decide +kernel
theorem dJ2_getChar_3b067_38 : decode cJ2_getChar_3b067 38 = .ok (.sipush 255, 3) := by decide +kernel
theorem dJ2_getChar_3b067_41 : decode cJ2_getChar_3b067 41 = .ok (.iand, 1) := by decide +kernel
theorem dJ2_getChar_3b067_42 : decode cJ2_getChar_3b067 42 = .ok (.getstatic 59, 3) := by decide +kernel
theorem dJ2_getChar_3b067_45 : decode cJ2_getChar_3b067 45 = .ok (.ishl, 1) := by decide +kernel
theorem dJ2_getChar_3b067_46 : decode cJ2_getChar_3b067 46 = .ok (.aload_n 0, 1) := by decide +kernel
theorem dJ2_getChar_3b067_47 : decode cJ2_getChar_3b067 47 = .ok (.iload_n 1, 1) := by decide +kernel
theorem dJ2_getChar_3b067_48 : decode cJ2_getChar_3b067 48 = .ok (.baload, 1) := by decide +kernel
theorem dJ2_getChar_3b067_49 : decode cJ2_getChar_3b067 49 = .ok (.sipush 255, 3) := by decide +kernel
theorem dJ2_getChar_3b067_52 : decode cJ2_getChar_3b067 52 = .ok (.iand, 1) := by decide +kernel
theorem dJ2_getChar_3b067_53 : decode cJ2_getChar_3b067 53 = .ok (.getstatic 63, 3) := by decide +kernel
theorem dJ2_getChar_3b067_56 : decode cJ2_getChar_3b067 56 = .ok (.ishl, 1) := by decide +kernel
theorem dJ2_getChar_3b067_57 : decode cJ2_getChar_3b067 57 = .ok (.ior, 1) := by decide +kernel
theorem dJ2_getChar_3b067_58 : decode cJ2_getChar_3b067 58 = .ok (.i2c, 1) := by decide +kernel
theorem dJ2_getChar_3b067_59 : decode cJ2_getChar_3b067 59 = .ok (.ireturn, 1) := by decide +kernel
theorem dJ2_length_9d52b_0 : decode cJ2_length_9d52b 0 = .ok (.aload_n 0, 1) := by decide +kernel
theorem dJ2_length_9d52b_1 : decode cJ2_length_9d52b 1 = .ok (.arraylength, 1) := by decide +kernel
theorem dJ2_length_9d52b_2 : decode cJ2_length_9d52b 2 = .ok (.iconst 1, 1) := by decide +kernel
theorem dJ2_length_9d52b_3 : decode cJ2_length_9d52b 3 = .ok (.ishr, 1) := by decide +kernel
theorem dJ2_length_9d52b_4 : decode cJ2_length_9d52b 4 = .ok (.ireturn, 1) := by decide +kernel
theorem dJ2_indexOf_4cfef_0 : decode cJ2_indexOf_4cfef 0 = .ok (.iload_n 2, 1) := by decide +kernel
theorem dJ2_indexOf_4cfef_1 : decode cJ2_indexOf_4cfef 1 = .ok (.iconst 0, 1) := by decide +kernel
theorem dJ2_indexOf_4cfef_2 : decode cJ2_indexOf_4cfef 2 = .ok (.invokestatic 224, 3) := by decide +kernel
theorem dJ2_indexOf_4cfef_5 : decode cJ2_indexOf_4cfef 5 = .ok (.istore_n 2, 1) := by decide +kernel
theorem dJ2_indexOf_4cfef_6 : decode cJ2_indexOf_4cfef 6 = .ok (.iload_n 3, 1) := by decide +kernel
theorem dJ2_indexOf_4cfef_7 : decode cJ2_indexOf_4cfef 7 = .ok (.aload_n 0, 1) := by decide +kernel
theorem dJ2_indexOf_4cfef_8 : decode cJ2_indexOf_4cfef 8 = .ok (.arraylength, 1) := by decide +kernel
theorem dJ2_indexOf_4cfef_9 : decode cJ2_indexOf_4cfef 9 = .ok (.iconst 1, 1) := by decide +kernel
theorem dJ2_indexOf_4cfef_10 : decode cJ2_indexOf_4cfef 10 = .ok (.ishr, 1) := by decide +kernel
theorem dJ2_indexOf_4cfef_11 : decode cJ2_indexOf_4cfef 11 = .ok (.invokestatic 183, 3) := by decide +kernel
theorem dJ2_indexOf_4cfef_14 : decode cJ2_indexOf_4cfef 14 = .ok (.istore_n 3, 1) := by decide +kernel
theorem dJ2_indexOf_4cfef_15 : decode cJ2_indexOf_4cfef 15 = .ok (.iload_n 2, 1) := by decide +kernel
theorem dJ2_indexOf_4cfef_16 : decode cJ2_indexOf_4cfef 16 = .ok (.iload_n 3, 1) := by decide +kernel
theorem dJ2_indexOf_4cfef_17 : decode cJ2_indexOf_4cfef 17 = .ok (.if_icmp .lt 5, 3) := by decide +kernel
theorem dJ2_indexOf_4cfef_20 : decode cJ2_indexOf_4cfef 20 = .ok (.iconst (-1), 1) := by decide +kernel
theorem dJ2_indexOf_4cfef_21 : decode cJ2_indexOf_4cfef 21 = .ok (.ireturn, 1) := by decide +kernel
theorem dJ2_indexOf_4cfef_22 : decode cJ2_indexOf_4cfef 22 = .ok (.iload_n 1, 1) := by decide +kernel
theorem dJ2_indexOf_4cfef_23 : decode cJ2_indexOf_4cfef 23 = .ok (.ldc 227, 2) := by decide +kernel
theorem dJ2_indexOf_4cfef_25 : decode cJ2_indexOf_4cfef 25 = .ok (.if_icmp .ge 11, 3) := by decide +kernel
theorem dJ2_indexOf_4cfef_28 : decode cJ2_indexOf_4cfef 28 = .ok (.aload_n 0, 1) := by decide +kernel
theorem dJ2_indexOf_4cfef_29 : decode cJ2_indexOf_4cfef 29 = .ok (.iload_n 1, 1) := by decide +kernel
theorem dJ2_indexOf_4cfef_30 : decode cJ2_indexOf_4cfef 30 = .ok (.iload_n 2, 1) := by decide +kernel
theorem dJ2_indexOf_4cfef_31 : decode cJ2_indexOf_4cfef 31 = .ok (.iload_n 3, 1) := by decide +kernel
theorem dJ2_indexOf_4cfef_32 : decode cJ2_indexOf_4cfef 32 = .ok (.invokestatic 228, 3) := by decide +kernel
theorem dJ2_indexOf_4cfef_35 : decode cJ2_indexOf_4cfef 35 = .ok (.ireturn, 1) := by decide +kernel
theorem dJ2_indexOf_4cfef_36 : decode cJ2_indexOf_4cfef 36 = .ok (.aload_n 0, 1) := by decide +kernel
theorem dJ2_indexOf_4cfef_37 : decode cJ2_indexOf_4cfef 37 = .ok (.iload_n 1, 1) := by decide +kernel
theorem dJ2_indexOf_4cfef_38 : decode cJ2_indexOf_4cfef 38 = .ok (.iload_n 2, 1) := by decide +kernel
theorem dJ2_indexOf_4cfef_39 : decode cJ2_indexOf_4cfef 39 = .ok (.iload_n 3, 1) := by decide +kernel
theorem dJ2_indexOf_4cfef_40 : decode cJ2_indexOf_4cfef 40 = .ok (.invokestatic 232, 3) := by decide +kernel
theorem dJ2_indexOf_4cfef_43 : decode cJ2_indexOf_4cfef 43 = .ok (.ireturn, 1) := by decide +kernel
theorem dJ2_indexOfChar_4cfef_0 : decode cJ2_indexOfChar_4cfef 0 = .ok (.iload_n 2, 1) := by decide +kernel
theorem dJ2_indexOfChar_4cfef_1 : decode cJ2_indexOfChar_4cfef 1 = .ok (.iload_n 3, 1) := by decide +kernel
theorem dJ2_indexOfChar_4cfef_2 : decode cJ2_indexOfChar_4cfef 2 = .ok (.aload_n 0, 1) := by decide +kernel
theorem dJ2_indexOfChar_4cfef_3 : decode cJ2_indexOfChar_4cfef 3 = .ok (.invokestatic 96, 3) := by decide +kernel
theorem dJ2_indexOfChar_4cfef_6 : decode cJ2_indexOfChar_4cfef 6 = .ok (.aload_n 0, 1) := by decide +kernel
theorem dJ2_indexOfChar_4cfef_7 : decode cJ2_indexOfChar_4cfef 7 = .ok (.iload_n 1, 1) := by decide +kernel
theorem dJ2_indexOfChar_4cfef_8 : decode cJ2_indexOfChar_4cfef 8 = .ok (.iload_n 2, 1) := by decide +kernel
theorem dJ2_indexOfChar_4cfef_9 : decode cJ2_indexOfChar_4cfef 9 = .ok (.iload_n 3, 1) := by decide +kernel
theorem dJ2_indexOfChar_4cfef_10 : decode cJ2_indexOfChar_4cfef 10 = .ok (.invokestatic 244, 3) := by decide +kernel
theorem dJ2_indexOfChar_4cfef_13 : decode cJ2_indexOfChar_4cfef 13 = .ok (.ireturn, 1) := by decide +kernel
theorem dJ2_indexOfCharUnsafe_4cfef_0 : decode cJ2_indexOfCharUnsafe_4cfef 0 = .ok (.iload_n 2, 1) := by decide +kernel
theorem dJ2_indexOfCharUnsafe_4cfef_1 : decode cJ2_indexOfCharUnsafe_4cfef 1 = .ok (.istore 4, 2) := by decide +kernel
theorem dJ2_indexOfCharUnsafe_4cfef_3 : decode cJ2_indexOfCharUnsafe_4cfef 3 = .ok (.iload 4, 2) := by decide +kernel
theorem dJ2_indexOfCharUnsafe_4cfef_5 : decode cJ2_indexOfCharUnsafe_4cfef 5 = .ok (.iload_n 3, 1) := by decide +kernel
theorem dJ2_indexOfCharUnsafe_4cfef_6 : decode cJ2_indexOfCharUnsafe_4cfef 6 = .ok (.if_icmp .ge 22, 3) := by decide +kernel
theorem dJ2_indexOfCharUnsafe_4cfef_9 : decode cJ2_indexOfCharUnsafe_4cfef 9 = .ok (.aload_n 0, 1) := by decide +kernel
theorem dJ2_indexOfCharUnsafe_4cfef_10 : decode cJ2_indexOfCharUnsafe_4cfef 10 = .ok (.iload 4, 2) := by decide +kernel
theorem dJ2_indexOfCharUnsafe_4cfef_12 : decode cJ2_indexOfCharUnsafe_4cfef 12 = .ok (.invokestatic 71, 3) := by decide +kernel
theorem dJ2_indexOfCharUnsafe_4cfef_15 : decode cJ2_indexOfCharUnsafe_4cfef 15 = .ok (.iload_n 1, 1) := by decide +kernel
theorem dJ2_indexOfCharUnsafe_4cfef_16 : decode cJ2_indexOfCharUnsafe_4cfef 16 = .ok (.if_icmp .ne 6, 3) := by decide +kernel
theorem dJ2_indexOfCharUnsafe_4cfef_19 : decode cJ2_indexOfCharUnsafe_4cfef 19 = .ok (.iload 4, 2) := by decide +kernel
theorem dJ2_indexOfCharUnsafe_4cfef_21 : decode cJ2_indexOfCharUnsafe_4cfef 21 = .ok (.ireturn, 1) := by decide +kernel
theorem dJ2_indexOfCharUnsafe_4cfef_22 : decode cJ2_indexOfCharUnsafe_4cfef 22 = .ok (.iinc 4 1, 3) := by decide +kernel
theorem dJ2_indexOfCharUnsafe_4cfef_25 : decode cJ2_indexOfCharUnsafe_4cfef 25 = .ok (.goto (-22), 3) := by decide +kernel
theorem dJ2_indexOfCharUnsafe_4cfef_28 : decode cJ2_indexOfCharUnsafe_4cfef 28 = .ok (.iconst (-1), 1) := by decide +kernel
theorem dJ2_indexOfCharUnsafe_4cfef_29 : decode cJ2_indexOfCharUnsafe_4cfef 29 = .ok (.ireturn, 1) := by decide +kernel
theorem dJ2_indexOfSupplementary_4cfef_0 : decode cJ2_indexOfSupplementary_4cfef 0 = .ok (.iload_n 1, 1) := by decide +kernel
theorem dJ2_indexOfSupplementary_4cfef_1 : decode cJ2_indexOfSupplementary_4cfef 1 = .ok (.invokestatic 164, 3) := by decide +kernel
theorem dJ2_indexOfSupplementary_4cfef_4 : decode cJ2_indexOfSupplementary_4cfef 4 = .ok (.ifCond .eq 65, 3) := by decide +kernel
theorem dJ2_indexOfSupplementary_4cfef_7 : decode cJ2_indexOfSupplementary_4cfef 7 = .ok (.iload_n 1, 1) := by decide +kernel
theorem dJ2_indexOfSupplementary_4cfef_8 : decode cJ2_indexOfSupplementary_4cfef 8 = .ok (.invokestatic 157, 3) := by decide +kernel
theorem dJ2_indexOfSupplementary_4cfef_11 : decode cJ2_indexOfSupplementary_4cfef 11 = .ok (.istore 4, 2) := by decide +kernel
theorem dJ2_indexOfSupplementary_4cfef_13 : decode cJ2_indexOfSupplementary_4cfef 13 = .ok (.iload_n 1, 1) := by decide +kernel
theorem dJ2_indexOfSupplementary_4cfef_14 : decode cJ2_indexOfSupplementary_4cfef 14 = .ok (.invokestatic 161, 3) := by decide +kernel
theorem dJ2_indexOfSupplementary_4cfef_17 : decode cJ2_indexOfSupplementary_4cfef 17 = .ok (.istore 5, 2) := by decide +kernel
theorem dJ2_indexOfSupplementary_4cfef_19 : decode cJ2_indexOfSupplementary_4cfef 19 = .ok (.iload_n 2, 1) := by decide +kernel
theorem dJ2_indexOfSupplementary_4cfef_20 : decode cJ2_indexOfSupplementary_4cfef 20 = .ok (.iload_n 3, 1) := by decide +kernel
theorem dJ2_indexOfSupplementary_4cfef_21 : decode cJ2_indexOfSupplementary_4cfef 21 = .ok (.aload_n 0, 1) := by decide +kernel
theorem dJ2_indexOfSupplementary_4cfef_22 : decode cJ2_indexOfSupplementary_4cfef 22 = .ok (.invokestatic 96, 3) := by decide +kernel
theorem dJ2_indexOfSupplementary_4cfef_25 : decode cJ2_indexOfSupplementary_4cfef 25 = .ok (.iload_n 2, 1) := by decide +kernel
theorem dJ2_indexOfSupplementary_4cfef_26 : decode cJ2_indexOfSupplementary_4cfef 26 = .ok (.istore 6, 2) := by decide +kernel
theorem dJ2_indexOfSupplementary_4cfef_28 : decode cJ2_indexOfSupplementary_4cfef 28 = .ok (.iload 6, 2) := by decide +kernel
theorem dJ2_indexOfSupplementary_4cfef_30 : decode cJ2_indexOfSupplementary_4cfef 30 = .ok (.iload_n 3, 1) := by decide +kernel
theorem dJ2_indexOfSupplementary_4cfef_31 : decode cJ2_indexOfSupplementary_4cfef 31 = .ok (.iconst 1, 1) := by decide +kernel
theorem dJ2_indexOfSupplementary_4cfef_32 : decode cJ2_indexOfSupplementary_4cfef 32 = .ok (.isub, 1) := by decide +kernel
theorem dJ2_indexOfSupplementary_4cfef_33 : decode cJ2_indexOfSupplementary_4cfef 33 = .ok (.if_icmp .ge 36, 3) := by decide +kernel
theorem dJ2_indexOfSupplementary_4cfef_36 : decode cJ2_indexOfSupplementary_4cfef 36 = .ok (.aload_n 0, 1) := by decide +kernel
theorem dJ2_indexOfSupplementary_4cfef_37 : decode cJ2_indexOfSupplementary_4cfef 37 = .ok (.iload 6, 2) := by decide +kernel
theorem dJ2_indexOfSupplementary_4cfef_39 : decode cJ2_indexOfSupplementary_4cfef 39 = .ok (.invokestatic 71, 3) := by decide +kernel
theorem dJ2_indexOfSupplementary_4cfef_42 : decode cJ2_indexOfSupplementary_4cfef 42 = .ok (.iload 4, 2) := by decide +kernel
theorem dJ2_indexOfSupplementary_4cfef_44 : decode cJ2_indexOfSupplementary_4cfef 44 = .ok (.if_icmp .ne 19, 3) := by decide +kernel
theorem dJ2_indexOfSupplementary_4cfef_47 : decode cJ2_indexOfSupplementary_4cfef 47 = .ok (.aload_n 0, 1) := by decide +kernel
theorem dJ2_indexOfSupplementary_4cfef_48 : decode cJ2_indexOfSupplementary_4cfef 48 = .ok (.iload 6, 2) := by decide +kernel
theorem dJ2_indexOfSupplementary_4cfef_50 : decode cJ2_indexOfSupplementary_4cfef 50 = .ok (.iconst 1, 1) := by decide +kernel
theorem dJ2_indexOfSupplementary_4cfef_51 : decode cJ2_indexOfSupplementary_4cfef 51 = .ok (.iadd, 1) := by decide +kernel
theorem dJ2_indexOfSupplementary_4cfef_52 : decode cJ2_indexOfSupplementary_4cfef 52 = .ok (.invokestatic 71, 3) := by decide +kernel
theorem dJ2_indexOfSupplementary_4cfef_55 : decode cJ2_indexOfSupplementary_4cfef 55 = .ok (.iload 5, 2) := by decide +kernel
theorem dJ2_indexOfSupplementary_4cfef_57 : decode cJ2_indexOfSupplementary_4cfef 57 = .ok (.if_icmp .ne 6, 3) := by decide +kernel
theorem dJ2_indexOfSupplementary_4cfef_60 : decode cJ2_indexOfSupplementary_4cfef 60 = .ok (.iload 6, 2) := by decide +kernel
theorem dJ2_indexOfSupplementary_4cfef_62 : decode cJ2_indexOfSupplementary_4cfef 62 = .ok (.ireturn, 1) := by decide +kernel
theorem dJ2_indexOfSupplementary_4cfef_63 : decode cJ2_indexOfSupplementary_4cfef 63 = .ok (.iinc 6 1, 3) := by decide +kernel
theorem dJ2_indexOfSupplementary_4cfef_66 : decode cJ2_indexOfSupplementary_4cfef 66 = .ok (.goto (-38), 3) := by decide +kernel
theorem dJ2_indexOfSupplementary_4cfef_69 : decode cJ2_indexOfSupplementary_4cfef 69 = .ok (.iconst (-1), 1) := by decide +kernel
theorem dJ2_indexOfSupplementary_4cfef_70 : decode cJ2_indexOfSupplementary_4cfef 70 = .ok (.ireturn, 1) := by decide +kernel
theorem dJ2_checkBoundsBeginEnd_d044e_0 : decode cJ2_checkBoundsBeginEnd_d044e 0 = .ok (.iload_n 0, 1) := by decide +kernel
theorem dJ2_checkBoundsBeginEnd_d044e_1 : decode cJ2_checkBoundsBeginEnd_d044e 1 = .ok (.iload_n 1, 1) := by decide +kernel
theorem dJ2_checkBoundsBeginEnd_d044e_2 : decode cJ2_checkBoundsBeginEnd_d044e 2 = .ok (.aload_n 2, 1) := by decide +kernel
theorem dJ2_checkBoundsBeginEnd_d044e_3 : decode cJ2_checkBoundsBeginEnd_d044e 3 = .ok (.invokestatic 48, 3) := by decide +kernel
theorem dJ2_checkBoundsBeginEnd_d044e_6 : decode cJ2_checkBoundsBeginEnd_d044e 6 = .ok (.invokestatic 241, 3) := by decide +kernel
theorem dJ2_checkBoundsBeginEnd_d044e_9 : decode cJ2_checkBoundsBeginEnd_d044e 9 = .ok (.return_, 1) := by decide +kernel
theorem dJ3_checkFromToIndex_8c36e_0 : decode cJ3_checkFromToIndex_8c36e 0 = .ok (.iload_n 0, 1) := by decide +kernel
theorem dJ3_checkFromToIndex_8c36e_1 : decode cJ3_checkFromToIndex_8c36e 1 = .ok (.ifCond .lt 13, 3) := by decide +kernel
theorem dJ3_checkFromToIndex_8c36e_4 : decode cJ3_checkFromToIndex_8c36e 4 = .ok (.iload_n 0, 1) := by decide +kernel
theorem dJ3_checkFromToIndex_8c36e_5 : decode cJ3_checkFromToIndex_8c36e 5 = .ok (.iload_n 1, 1) := by decide +kernel
theorem dJ3_checkFromToIndex_8c36e_6 : decode cJ3_checkFromToIndex_8c36e 6 = .ok (.if_icmp .gt 8, 3) := by decide +kernel
theorem dJ3_checkFromToIndex_8c36e_9 : decode cJ3_checkFromToIndex_8c36e 9 = .ok (.iload_n 1, 1) := by decide +kernel
theorem dJ3_checkFromToIndex_8c36e_10 : decode cJ3_checkFromToIndex_8c36e 10 = .ok (.iload_n 2, 1) := by decide +kernel
theorem dJ3_checkFromToIndex_8c36e_11 : decode cJ3_checkFromToIndex_8c36e 11 = .ok (.if_icmp .le 11, 3) := by decide +kernel
theorem dJ3_checkFromToIndex_8c36e_14 : decode cJ3_checkFromToIndex_8c36e 14 = .ok (.aload_n 3, 1) := by decide +kernel
theorem dJ3_checkFromToIndex_8c36e_15 : decode cJ3_checkFromToIndex_8c36e 15 = .ok (.iload_n 0, 1) := by decide +kernel
theorem dJ3_checkFromToIndex_8c36e_16 : decode cJ3_checkFromToIndex_8c36e 16 = .ok (.iload_n 1, 1) := by decide +kernel
theorem dJ3_checkFromToIndex_8c36e_17 : decode cJ3_checkFromToIndex_8c36e 17 = .ok (.iload_n 2, 1) := by decide +kernel
theorem dJ3_checkFromToIndex_8c36e_18 : decode cJ3_checkFromToIndex_8c36e 18 = .ok (.invokestatic 99, 3) := by decide +kernel
theorem dJ3_checkFromToIndex_8c36e_21 : decode cJ3_checkFromToIndex_8c36e 21 = .ok (.athrow, 1) := by decide +kernel
theorem dJ3_checkFromToIndex_8c36e_22 : decode cJ3_checkFromToIndex_8c36e 22 = .ok (.iload_n 0, 1) := by decide +kernel
theorem dJ3_checkFromToIndex_8c36e_23 : decode cJ3_checkFromToIndex_8c36e 23 = .ok (.ireturn, 1) := by decide +kernel
end
section
theorem dX10_init_0 : decode cX10_init 0 = .ok (.aload_n 0, 1) := by decide +kernel
theorem dX10_init_1 : decode cX10_init 1 = .ok (.invokespecial 1, 3) := by decide +kernel
theorem dX10_init_4 : decode cX10_init 4 = .ok (.aload_n 0, 1) := by decide +kernel
theorem dX10_init_5 : decode cX10_init 5 = .ok (.sipush 420, 3) := by decide +kernel
theorem dX10_init_8 : decode cX10_init 8 = .ok (.newarray .int, 2) := by decide +kernel
theorem dX10_init_10 : decode cX10_init 10 = .ok (.putfield 7, 3) := by decide +kernel
theorem dX10_init_13 : decode cX10_init 13 = .ok (.aload_n 0, 1) := by decide +kernel
theorem dX10_init_14 : decode cX10_init 14 = .ok (.sipush 2100, 3) := by decide +kernel
theorem dX10_init_17 : decode cX10_init 17 = .ok (.newarray .int, 2) := by decide +kernel
theorem dX10_init_19 : decode cX10_init 19 = .ok (.putfield 13, 3) := by decide +kernel
theorem dX10_init_22 : decode cX10_init 22 = .ok (.aload_n 0, 1) := by decide +kernel
theorem dX10_init_23 : decode cX10_init 23 = .ok (.bipush 100, 2) := by decide +kernel
theorem dX10_init_25 : decode cX10_init 25 = .ok (.newarray .int, 2) := by decide +kernel
theorem dX10_init_27 : decode cX10_init 27 = .ok (.putfield 16, 3) := by decide +kernel
theorem dX10_init_30 : decode cX10_init 30 = .ok (.aload_n 0, 1) := by decide +kernel
theorem dX10_init_31 : decode cX10_init 31 = .ok (.iconst 4, 1) := by decide +kernel
theorem dX10_init_32 : decode cX10_init 32 = .ok (.newarray .int, 2) := by decide +kernel
theorem dX10_init_34 : decode cX10_init 34 = .ok (.putfield 19, 3) := by decide +kernel
theorem dX10_init_37 : decode cX10_init 37 = .ok (.aload_n 0, 1) := by decide +kernel
theorem dX10_init_38 : decode cX10_init 38 = .ok (.sipush 1200, 3) := by decide +kernel
theorem dX10_init_41 : decode cX10_init 41 = .ok (.newarray .int, 2) := by decide +kernel
theorem dX10_init_43 : decode cX10_init 43 = .ok (.putfield 22, 3) := by decide +kernel
theorem dX10_init_46 : decode cX10_init 46 = .ok (.aload_n 0, 1) := by decide +kernel
theorem dX10_init_47 : decode cX10_init 47 = .ok (.sipush 1200, 3) := by decide +kernel
theorem dX10_init_50 : decode cX10_init 50 = .ok (.newarray .long, 2) := by decide +kernel
theorem dX10_init_52 : decode cX10_init 52 = .ok (.putfield 25, 3) := by decide +kernel
theorem dX10_init_55 : decode cX10_init 55 = .ok (.aload_n 0, 1) := by decide +kernel
theorem dX10_init_56 : decode cX10_init 56 = .ok (.sipush 1200, 3) := by decide +kernel
theorem dX10_init_59 : decode cX10_init 59 = .ok (.newarray .long, 2) := by decide +kernel
theorem dX10_init_61 : decode cX10_init 61 = .ok (.putfield 29, 3) := by decide +kernel
theorem dX10_init_64 : decode cX10_init 64 = .ok (.aload_n 0, 1) := by decide +kernel
theorem dX10_init_65 : decode cX10_init 65 = .ok (.sipush 1200, 3) := by decide +kernel
theorem dX10_init_68 : decode cX10_init 68 = .ok (.newarray .int, 2) := by decide +kernel
theorem dX10_init_70 : decode cX10_init 70 = .ok (.putfield 32, 3) := by decide +kernel
theorem dX10_init_73 : decode cX10_init 73 = .ok (.aload_n 0, 1) := by decide +kernel
theorem dX10_init_74 : decode cX10_init 74 = .ok (.sipush 1200, 3) := by decide +kernel
theorem dX10_init_77 : decode cX10_init 77 = .ok (.newarray .int, 2) := by decide +kernel
theorem dX10_init_79 : decode cX10_init 79 = .ok (.putfield 35, 3) := by decide +kernel
theorem dX10_init_82 : decode cX10_init 82 = .ok (.aload_n 0, 1) := by decide +kernel
theorem dX10_init_83 : decode cX10_init 83 = .ok (.sipush 1200, 3) := by decide +kernel
theorem dX10_init_86 : decode cX10_init 86 = .ok (.newarray .int, 2) := by decide +kernel
theorem dX10_init_88 : decode cX10_init 88 = .ok (.putfield 38, 3) := by decide +kernel
theorem dX10_init_91 : decode cX10_init 91 = .ok (.aload_n 0, 1) := by decide +kernel
theorem dX10_init_92 : decode cX10_init 92 = .ok (.iconst 4, 1) := by decide +kernel
theorem dX10_init_93 : decode cX10_init 93 = .ok (.newarray .int, 2) := by decide +kernel
theorem dX10_init_95 : decode cX10_init 95 = .ok (.putfield 41, 3) := by decide +kernel
theorem dX10_init_98 : decode cX10_init 98 = .ok (.aload_n 0, 1) := by decide +kernel
theorem dX10_init_99 : decode cX10_init 99 = .ok (.iconst 4, 1) := by decide +kernel
theorem dX10_init_100 : decode cX10_init 100 = .ok (.newarray .long, 2) := by decide +kernel
theorem dX10_init_102 : decode cX10_init 102 = .ok (.putfield 44, 3) := by decide +kernel
theorem dX10_init_105 : decode cX10_init 105 = .ok (.aload_n 0, 1) := by decide +kernel
theorem dX10_init_106 : decode cX10_init 106 = .ok (.iconst 4, 1) := by decide +kernel
theorem dX10_init_107 : decode cX10_init 107 = .ok (.newarray .int, 2) := by decide +kernel
theorem dX10_init_109 : decode cX10_init 109 = .ok (.putfield 47, 3) := by decide +kernel
theorem dX10_init_112 : decode cX10_init 112 = .ok (.aload_n 0, 1) := by decide +kernel
theorem dX10_init_113 : decode cX10_init 113 = .ok (.sipush 1200, 3) := by decide +kernel
theorem dX10_init_116 : decode cX10_init 116 = .ok (.newarray .long, 2) := by decide +kernel
theorem dX10_init_118 : decode cX10_init 118 = .ok (.putfield 50, 3) := by decide +kernel
theorem dX10_init_121 : decode cX10_init 121 = .ok (.aload_n 0, 1) := by decide +kernel
theorem dX10_init_122 : decode cX10_init 122 = .ok (.sipush 1200, 3) := by decide +kernel
theorem dX10_init_125 : decode cX10_init 125 = .ok (.newarray .boolean, 2) := by decide +kernel
theorem dX10_init_127 : decode cX10_init 127 = .ok (.putfield 53, 3) := by decide +kernel
theorem dX10_init_130 : decode cX10_init 130 = .ok (.aload_n 0, 1) := by decide +kernel
theorem dX10_init_131 : decode cX10_init 131 = .ok (.iconst 3, 1) := by decide +kernel
theorem dX10_init_132 : decode cX10_init 132 = .ok (.newarray .int, 2) := by decide +kernel
theorem dX10_init_134 : decode cX10_init 134 = .ok (.putfield 57, 3) := by decide +kernel
theorem dX10_init_137 : decode cX10_init 137 = .ok (.aload_n 0, 1) := by decide +kernel
theorem dX10_init_138 : decode cX10_init 138 = .ok (.iconst 3, 1) := by decide +kernel
theorem dX10_init_139 : decode cX10_init 139 = .ok (.newarray .int, 2) := by decide +kernel
theorem dX10_init_141 : decode cX10_init 141 = .ok (.putfield 60, 3) := by decide +kernel
theorem dX10_init_144 : decode cX10_init 144 = .ok (.aload_n 0, 1) := by decide +kernel
theorem dX10_init_145 : decode cX10_init 145 = .ok (.bipush 101, 2) := by decide +kernel
theorem dX10_init_147 : decode cX10_init 147 = .ok (.newarray .int, 2) := by decide +kernel
theorem dX10_init_149 : decode cX10_init 149 = .ok (.putfield 63, 3) := by decide +kernel
theorem dX10_init_152 : decode cX10_init 152 = .ok (.aload_n 0, 1) := by decide +kernel
theorem dX10_init_153 : decode cX10_init 153 = .ok (.bipush 100, 2) := by decide +kernel
theorem dX10_init_155 : decode cX10_init 155 = .ok (.newarray .int, 2) := by decide +kernel
theorem dX10_init_157 : decode cX10_init 157 = .ok (.putfield 66, 3) := by decide +kernel
theorem dX10_init_160 : decode cX10_init 160 = .ok (.aload_n 0, 1) := by decide +kernel
theorem dX10_init_161 : decode cX10_init 161 = .ok (.iconst 4, 1) := by decide +kernel
theorem dX10_init_162 : decode cX10_init 162 = .ok (.newarray .int, 2) := by decide +kernel
theorem dX10_init_164 : decode cX10_init 164 = .ok (.putfield 69, 3) := by decide +kernel
theorem dX10_init_167 : decode cX10_init 167 = .ok (.aload_n 0, 1) := by decide +kernel
theorem dX10_init_168 : decode cX10_init 168 = .ok (.getfield 7, 3) := by decide +kernel
theorem dX10_init_171 : decode cX10_init 171 = .ok (.sipush 404, 3) := by decide +kernel
theorem dX10_init_174 : decode cX10_init 174 = .ok (.iconst 4, 1) := by decide +kernel
theorem dX10_init_175 : decode cX10_init 175 = .ok (.iastore, 1) := by decide +kernel
theorem dX10_init_176 : decode cX10_init 176 = .ok (.aload_n 0, 1) := by decide +kernel
theorem dX10_init_177 : decode cX10_init 177 = .ok (.getfield 7, 3) := by decide +kernel
theorem dX10_init_180 : decode cX10_init 180 = .ok (.sipush 405, 3) := by decide +kernel
theorem dX10_init_183 : decode cX10_init 183 = .ok (.iconst 4, 1) := by decide +kernel
theorem dX10_init_184 : decode cX10_init 184 = .ok (.iastore, 1) := by decide +kernel
theorem dX10_init_185 : decode cX10_init 185 = .ok (.aload_n 0, 1) := by decide +kernel
theorem dX10_init_186 : decode cX10_init 186 = .ok (.getfield 7, 3) := by decide +kernel
theorem dX10_init_189 : decode cX10_init 189 = .ok (.sipush 406, 3) := by decide +kernel
theorem dX10_init_192 : decode cX10_init 192 = .ok (.iconst 1, 1) := by decide +kernel
theorem dX10_init_193 : decode cX10_init 193 = .ok (.iastore, 1) := by decide +kernel
theorem dX10_init_194 : decode cX10_init 194 = .ok (.aload_n 0, 1) := by decide +kernel
theorem dX10_init_195 : decode cX10_init 195 = .ok (.getfield 7, 3) := by decide +kernel
theorem dX10_init_198 : decode cX10_init 198 = .ok (.sipush 407, 3) := by decide +kernel
theorem dX10_init_201 : decode cX10_init 201 = .ok (.iconst 1, 1) := by decide +kernel
theorem dX10_init_202 : decode cX10_init 202 = .ok (.iastore, 1) := by decide +kernel
theorem dX10_init_203 : decode cX10_init 203 = .ok (.return_, 1) := by decide +kernel
theorem dX10_in_0 : decode cX10_in 0 = .ok (.iload_n 0, 1) := by decide +kernel
theorem dX10_in_1 : decode cX10_in 1 = .ok (.iload_n 1, 1) := by decide +kernel
theorem dX10_in_2 : decode cX10_in 2 = .ok (.if_icmp .lt 12, 3) := by decide +kernel
theorem dX10_in_5 : decode cX10_in 5 = .ok (.iload_n 0, 1) := by decide +kernel
theorem dX10_in_6 : decode cX10_in 6 = .ok (.iload_n 2, 1) := by decide +kernel
theorem dX10_in_7 : decode cX10_in 7 = .ok (.if_icmp .gt 7, 3) := by decide +kernel
theorem dX10_in_10 : decode cX10_in 10 = .ok (.iconst 1, 1) := by decide +kernel
theorem dX10_in_11 : decode cX10_in 11 = .ok (.goto 4, 3) := by decide +kernel
theorem dX10_in_14 : decode cX10_in 14 = .ok (.iconst 0, 1) := by decide +kernel
theorem dX10_in_15 : decode cX10_in 15 = .ok (.ireturn, 1) := by decide +kernel
theorem dX10_act_0 : decode cX10_act 0 = .ok (.aload_n 0, 1) := by decide +kernel
theorem dX10_act_1 : decode cX10_act 1 = .ok (.getfield 72, 3) := by decide +kernel
theorem dX10_act_4 : decode cX10_act 4 = .ok (.iconst 5, 1) := by decide +kernel
theorem dX10_act_5 : decode cX10_act 5 = .ok (.if_icmp .ne 44, 3) := by decide +kernel
theorem dX10_act_8 : decode cX10_act 8 = .ok (.iconst 0, 1) := by decide +kernel
theorem dX10_act_9 : decode cX10_act 9 = .ok (.istore_n 1, 1) := by decide +kernel
theorem dX10_act_10 : decode cX10_act 10 = .ok (.iload_n 1, 1) := by decide +kernel
theorem dX10_act_11 : decode cX10_act 11 = .ok (.sipush 1680, 3) := by decide +kernel
theorem dX10_act_14 : decode cX10_act 14 = .ok (.if_icmp .ge 25, 3) := by decide +kernel
theorem dX10_act_17 : decode cX10_act 17 = .ok (.aload_n 0, 1) := by decide +kernel
theorem dX10_act_18 : decode cX10_act 18 = .ok (.getfield 13, 3) := by decide +kernel
theorem dX10_act_21 : decode cX10_act 21 = .ok (.iload_n 1, 1) := by decide +kernel
theorem dX10_act_22 : decode cX10_act 22 = .ok (.aload_n 0, 1) := by decide +kernel
theorem dX10_act_23 : decode cX10_act 23 = .ok (.getfield 13, 3) := by decide +kernel
theorem dX10_act_26 : decode cX10_act 26 = .ok (.iload_n 1, 1) := by decide +kernel
theorem dX10_act_27 : decode cX10_act 27 = .ok (.sipush 420, 3) := by decide +kernel
theorem dX10_act_30 : decode cX10_act 30 = .ok (.iadd, 1) := by decide +kernel
theorem dX10_act_31 : decode cX10_act 31 = .ok (.iaload, 1) := by decide +kernel
theorem dX10_act_32 : decode cX10_act 32 = .ok (.iastore, 1) := by decide +kernel
theorem dX10_act_33 : decode cX10_act 33 = .ok (.iinc 1 1, 3) := by decide +kernel
theorem dX10_act_36 : decode cX10_act 36 = .ok (.goto (-26), 3) := by decide +kernel
theorem dX10_act_39 : decode cX10_act 39 = .ok (.aload_n 0, 1) := by decide +kernel
theorem dX10_act_40 : decode cX10_act 40 = .ok (.dup, 1) := by decide +kernel
theorem dX10_act_41 : decode cX10_act 41 = .ok (.getfield 72, 3) := by decide +kernel
theorem dX10_act_44 : decode cX10_act 44 = .ok (.iconst 1, 1) := by decide +kernel
theorem dX10_act_45 : decode cX10_act 45 = .ok (.isub, 1) := by decide +kernel
theorem dX10_act_46 : decode cX10_act 46 = .ok (.putfield 72, 3) := by decide +kernel
theorem dX10_act_49 : decode cX10_act 49 = .ok (.iconst 0, 1) := by decide +kernel
theorem dX10_act_50 : decode cX10_act 50 = .ok (.istore_n 1, 1) := by decide +kernel
theorem dX10_act_51 : decode cX10_act 51 = .ok (.iload_n 1, 1) := by decide +kernel
theorem dX10_act_52 : decode cX10_act 52 = .ok (.sipush 420, 3) := by decide +kernel
theorem dX10_act_55 : decode cX10_act 55 = .ok (.if_icmp .ge 30, 3) := by decide +kernel
theorem dX10_act_58 : decode cX10_act 58 = .ok (.aload_n 0, 1) := by decide +kernel
theorem dX10_act_59 : decode cX10_act 59 = .ok (.getfield 13, 3) := by decide +kernel
theorem dX10_act_62 : decode cX10_act 62 = .ok (.sipush 420, 3) := by decide +kernel
theorem dX10_act_65 : decode cX10_act 65 = .ok (.aload_n 0, 1) := by decide +kernel
theorem dX10_act_66 : decode cX10_act 66 = .ok (.getfield 72, 3) := by decide +kernel
theorem dX10_act_69 : decode cX10_act 69 = .ok (.imul, 1) := by decide +kernel
theorem dX10_act_70 : decode cX10_act 70 = .ok (.iload_n 1, 1) := by decide +kernel
theorem dX10_act_71 : decode cX10_act 71 = .ok (.iadd, 1) := by decide +kernel
theorem dX10_act_72 : decode cX10_act 72 = .ok (.aload_n 0, 1) := by decide +kernel
theorem dX10_act_73 : decode cX10_act 73 = .ok (.getfield 7, 3) := by decide +kernel
theorem dX10_act_76 : decode cX10_act 76 = .ok (.iload_n 1, 1) := by decide +kernel
theorem dX10_act_77 : decode cX10_act 77 = .ok (.iaload, 1) := by decide +kernel
theorem dX10_act_78 : decode cX10_act 78 = .ok (.iastore, 1) := by decide +kernel
theorem dX10_act_79 : decode cX10_act 79 = .ok (.iinc 1 1, 3) := by decide +kernel
theorem dX10_act_82 : decode cX10_act 82 = .ok (.goto (-31), 3) := by decide +kernel
theorem dX10_act_85 : decode cX10_act 85 = .ok (.aload_n 0, 1) := by decide +kernel
theorem dX10_act_86 : decode cX10_act 86 = .ok (.dup, 1) := by decide +kernel
theorem dX10_act_87 : decode cX10_act 87 = .ok (.getfield 72, 3) := by decide +kernel
theorem dX10_act_90 : decode cX10_act 90 = .ok (.iconst 1, 1) := by decide +kernel
theorem dX10_act_91 : decode cX10_act 91 = .ok (.iadd, 1) := by decide +kernel
theorem dX10_act_92 : decode cX10_act 92 = .ok (.putfield 72, 3) := by decide +kernel
theorem dX10_act_95 : decode cX10_act 95 = .ok (.return_, 1) := by decide +kernel
theorem dX10_isPart_0 : decode cX10_isPart 0 = .ok (.iload_n 0, 1) := by decide +kernel
theorem dX10_isPart_1 : decode cX10_isPart 1 = .ok (.iconst 0, 1) := by decide +kernel
theorem dX10_isPart_2 : decode cX10_isPart 2 = .ok (.iconst 3, 1) := by decide +kernel
theorem dX10_isPart_3 : decode cX10_isPart 3 = .ok (.invokestatic 76, 3) := by decide +kernel
theorem dX10_isPart_6 : decode cX10_isPart 6 = .ok (.ireturn, 1) := by decide +kernel
theorem dX10_halvings_0 : decode cX10_halvings 0 = .ok (.iload_n 0, 1) := by decide +kernel
theorem dX10_halvings_1 : decode cX10_halvings 1 = .ok (.bipush 119, 2) := by decide +kernel
theorem dX10_halvings_3 : decode cX10_halvings 3 = .ok (.if_icmp .ne 7, 3) := by decide +kernel
theorem dX10_halvings_6 : decode cX10_halvings 6 = .ok (.iconst 0, 1) := by decide +kernel
theorem dX10_halvings_7 : decode cX10_halvings 7 = .ok (.goto 54, 3) := by decide +kernel
theorem dX10_halvings_10 : decode cX10_halvings 10 = .ok (.iload_n 0, 1) := by decide +kernel
theorem dX10_halvings_11 : decode cX10_halvings 11 = .ok (.bipush 104, 2) := by decide +kernel
theorem dX10_halvings_13 : decode cX10_halvings 13 = .ok (.if_icmp .ne 7, 3) := by decide +kernel
theorem dX10_halvings_16 : decode cX10_halvings 16 = .ok (.iconst 1, 1) := by decide +kernel
theorem dX10_halvings_17 : decode cX10_halvings 17 = .ok (.goto 44, 3) := by decide +kernel
theorem dX10_halvings_20 : decode cX10_halvings 20 = .ok (.iload_n 0, 1) := by decide +kernel
theorem dX10_halvings_21 : decode cX10_halvings 21 = .ok (.bipush 113, 2) := by decide +kernel
theorem dX10_halvings_23 : decode cX10_halvings 23 = .ok (.if_icmp .ne 7, 3) := by decide +kernel
theorem dX10_halvings_26 : decode cX10_halvings 26 = .ok (.iconst 2, 1) := by decide +kernel
theorem dX10_halvings_27 : decode cX10_halvings 27 = .ok (.goto 34, 3) := by decide +kernel
theorem dX10_halvings_30 : decode cX10_halvings 30 = .ok (.iload_n 0, 1) := by decide +kernel
theorem dX10_halvings_31 : decode cX10_halvings 31 = .ok (.bipush 101, 2) := by decide +kernel
theorem dX10_halvings_33 : decode cX10_halvings 33 = .ok (.if_icmp .ne 7, 3) := by decide +kernel
theorem dX10_halvings_36 : decode cX10_halvings 36 = .ok (.iconst 3, 1) := by decide +kernel
theorem dX10_halvings_37 : decode cX10_halvings 37 = .ok (.goto 24, 3) := by decide +kernel
theorem dX10_halvings_40 : decode cX10_halvings 40 = .ok (.iload_n 0, 1) := by decide +kernel
theorem dX10_halvings_41 : decode cX10_halvings 41 = .ok (.bipush 115, 2) := by decide +kernel
theorem dX10_halvings_43 : decode cX10_halvings 43 = .ok (.if_icmp .ne 7, 3) := by decide +kernel
theorem dX10_halvings_46 : decode cX10_halvings 46 = .ok (.iconst 4, 1) := by decide +kernel
theorem dX10_halvings_47 : decode cX10_halvings 47 = .ok (.goto 14, 3) := by decide +kernel
theorem dX10_halvings_50 : decode cX10_halvings 50 = .ok (.iload_n 0, 1) := by decide +kernel
theorem dX10_halvings_51 : decode cX10_halvings 51 = .ok (.bipush 116, 2) := by decide +kernel
theorem dX10_halvings_53 : decode cX10_halvings 53 = .ok (.if_icmp .ne 7, 3) := by decide +kernel
theorem dX10_halvings_56 : decode cX10_halvings 56 = .ok (.iconst 5, 1) := by decide +kernel
theorem dX10_halvings_57 : decode cX10_halvings 57 = .ok (.goto 4, 3) := by decide +kernel
theorem dX10_halvings_60 : decode cX10_halvings 60 = .ok (.iconst (-1), 1) := by decide +kernel
theorem dX10_halvings_61 : decode cX10_halvings 61 = .ok (.ireturn, 1) := by decide +kernel
theorem dX10_isDigit_0 : decode cX10_isDigit 0 = .ok (.iload_n 0, 1) := by decide +kernel
theorem dX10_isDigit_1 : decode cX10_isDigit 1 = .ok (.bipush 48, 2) := by decide +kernel
theorem dX10_isDigit_3 : decode cX10_isDigit 3 = .ok (.iload_n 1, 1) := by decide +kernel
theorem dX10_isDigit_4 : decode cX10_isDigit 4 = .ok (.iadd, 1) := by decide +kernel
theorem dX10_isDigit_5 : decode cX10_isDigit 5 = .ok (.bipush 57, 2) := by decide +kernel
theorem dX10_isDigit_7 : decode cX10_isDigit 7 = .ok (.invokestatic 76, 3) := by decide +kernel
theorem dX10_isDigit_10 : decode cX10_isDigit 10 = .ok (.ireturn, 1) := by decide +kernel
theorem dX10_begins_0 : decode cX10_begins 0 = .ok (.aload_n 0, 1) := by decide +kernel
theorem dX10_begins_1 : decode cX10_begins 1 = .ok (.iconst 0, 1) := by decide +kernel
theorem dX10_begins_2 : decode cX10_begins 2 = .ok (.putfield 80, 3) := by decide +kernel
theorem dX10_begins_5 : decode cX10_begins 5 = .ok (.iload_n 1, 1) := by decide +kernel
theorem dX10_begins_6 : decode cX10_begins 6 = .ok (.bipush 94, 2) := by decide +kernel
theorem dX10_begins_8 : decode cX10_begins 8 = .ok (.if_icmp .ne 10, 3) := by decide +kernel
theorem dX10_begins_11 : decode cX10_begins 11 = .ok (.aload_n 0, 1) := by decide +kernel
theorem dX10_begins_12 : decode cX10_begins 12 = .ok (.iconst 1, 1) := by decide +kernel
theorem dX10_begins_13 : decode cX10_begins 13 = .ok (.putfield 80, 3) := by decide +kernel
theorem dX10_begins_16 : decode cX10_begins 16 = .ok (.iconst 1, 1) := by decide +kernel
theorem dX10_begins_17 : decode cX10_begins 17 = .ok (.ireturn, 1) := by decide +kernel
theorem dX10_begins_18 : decode cX10_begins 18 = .ok (.iload_n 1, 1) := by decide +kernel
theorem dX10_begins_19 : decode cX10_begins 19 = .ok (.invokestatic 83, 3) := by decide +kernel
theorem dX10_begins_22 : decode cX10_begins 22 = .ok (.ifCond .lt 28, 3) := by decide +kernel
theorem dX10_begins_25 : decode cX10_begins 25 = .ok (.aload_n 0, 1) := by decide +kernel
theorem dX10_begins_26 : decode cX10_begins 26 = .ok (.iconst 3, 1) := by decide +kernel
theorem dX10_begins_27 : decode cX10_begins 27 = .ok (.putfield 80, 3) := by decide +kernel
theorem dX10_begins_30 : decode cX10_begins 30 = .ok (.aload_n 0, 1) := by decide +kernel
theorem dX10_begins_31 : decode cX10_begins 31 = .ok (.iconst 0, 1) := by decide +kernel
theorem dX10_begins_32 : decode cX10_begins 32 = .ok (.putfield 87, 3) := by decide +kernel
theorem dX10_begins_35 : decode cX10_begins 35 = .ok (.aload_n 0, 1) := by decide +kernel
theorem dX10_begins_36 : decode cX10_begins 36 = .ok (.getfield 19, 3) := by decide +kernel
theorem dX10_begins_39 : decode cX10_begins 39 = .ok (.aload_n 0, 1) := by decide +kernel
theorem dX10_begins_40 : decode cX10_begins 40 = .ok (.getfield 90, 3) := by decide +kernel
theorem dX10_begins_43 : decode cX10_begins 43 = .ok (.dup2, 1) := by decide +kernel
theorem dX10_begins_44 : decode cX10_begins 44 = .ok (.iaload, 1) := by decide +kernel
theorem dX10_begins_45 : decode cX10_begins 45 = .ok (.iconst 1, 1) := by decide +kernel
theorem dX10_begins_46 : decode cX10_begins 46 = .ok (.iadd, 1) := by decide +kernel
theorem dX10_begins_47 : decode cX10_begins 47 = .ok (.iastore, 1) := by decide +kernel
theorem dX10_begins_48 : decode cX10_begins 48 = .ok (.iconst 1, 1) := by decide +kernel
theorem dX10_begins_49 : decode cX10_begins 49 = .ok (.ireturn, 1) := by decide +kernel
theorem dX10_begins_50 : decode cX10_begins 50 = .ok (.iload_n 1, 1) := by decide +kernel
theorem dX10_begins_51 : decode cX10_begins 51 = .ok (.bipush 114, 2) := by decide +kernel
theorem dX10_begins_53 : decode cX10_begins 53 = .ok (.if_icmp .ne 10, 3) := by decide +kernel
theorem dX10_begins_56 : decode cX10_begins 56 = .ok (.aload_n 0, 1) := by decide +kernel
theorem dX10_begins_57 : decode cX10_begins 57 = .ok (.iconst 2, 1) := by decide +kernel
theorem dX10_begins_58 : decode cX10_begins 58 = .ok (.putfield 80, 3) := by decide +kernel
theorem dX10_begins_61 : decode cX10_begins 61 = .ok (.iconst 1, 1) := by decide +kernel
theorem dX10_begins_62 : decode cX10_begins 62 = .ok (.ireturn, 1) := by decide +kernel
theorem dX10_begins_63 : decode cX10_begins 63 = .ok (.iload_n 1, 1) := by decide +kernel
theorem dX10_begins_64 : decode cX10_begins 64 = .ok (.bipush 123, 2) := by decide +kernel
theorem dX10_begins_66 : decode cX10_begins 66 = .ok (.if_icmp .ne 38, 3) := by decide +kernel
theorem dX10_begins_69 : decode cX10_begins 69 = .ok (.aload_n 0, 1) := by decide +kernel
theorem dX10_begins_70 : decode cX10_begins 70 = .ok (.getfield 90, 3) := by decide +kernel
theorem dX10_begins_73 : decode cX10_begins 73 = .ok (.iconst 2, 1) := by decide +kernel
theorem dX10_begins_74 : decode cX10_begins 74 = .ok (.if_icmp .ge 30, 3) := by decide +kernel
theorem dX10_begins_77 : decode cX10_begins 77 = .ok (.aload_n 0, 1) := by decide +kernel
theorem dX10_begins_78 : decode cX10_begins 78 = .ok (.dup, 1) := by decide +kernel
theorem dX10_begins_79 : decode cX10_begins 79 = .ok (.getfield 90, 3) := by decide +kernel
theorem dX10_begins_82 : decode cX10_begins 82 = .ok (.iconst 1, 1) := by decide +kernel
theorem dX10_begins_83 : decode cX10_begins 83 = .ok (.iadd, 1) := by decide +kernel
theorem dX10_begins_84 : decode cX10_begins 84 = .ok (.putfield 90, 3) := by decide +kernel
theorem dX10_begins_87 : decode cX10_begins 87 = .ok (.aload_n 0, 1) := by decide +kernel
theorem dX10_begins_88 : decode cX10_begins 88 = .ok (.getfield 19, 3) := by decide +kernel
theorem dX10_begins_91 : decode cX10_begins 91 = .ok (.aload_n 0, 1) := by decide +kernel
theorem dX10_begins_92 : decode cX10_begins 92 = .ok (.getfield 90, 3) := by decide +kernel
theorem dX10_begins_95 : decode cX10_begins 95 = .ok (.iconst 0, 1) := by decide +kernel
theorem dX10_begins_96 : decode cX10_begins 96 = .ok (.iastore, 1) := by decide +kernel
theorem dX10_begins_97 : decode cX10_begins 97 = .ok (.aload_n 0, 1) := by decide +kernel
theorem dX10_begins_98 : decode cX10_begins 98 = .ok (.iconst 5, 1) := by decide +kernel
theorem dX10_begins_99 : decode cX10_begins 99 = .ok (.putfield 80, 3) := by decide +kernel
theorem dX10_begins_102 : decode cX10_begins 102 = .ok (.iconst 1, 1) := by decide +kernel
theorem dX10_begins_103 : decode cX10_begins 103 = .ok (.ireturn, 1) := by decide +kernel
theorem dX10_begins_104 : decode cX10_begins 104 = .ok (.iload_n 1, 1) := by decide +kernel
theorem dX10_begins_105 : decode cX10_begins 105 = .ok (.bipush 125, 2) := by decide +kernel
theorem dX10_begins_107 : decode cX10_begins 107 = .ok (.if_icmp .ne 47, 3) := by decide +kernel
theorem dX10_begins_110 : decode cX10_begins 110 = .ok (.aload_n 0, 1) := by decide +kernel
theorem dX10_begins_111 : decode cX10_begins 111 = .ok (.getfield 90, 3) := by decide +kernel
theorem dX10_begins_114 : decode cX10_begins 114 = .ok (.ifCond .le 40, 3) := by decide +kernel
theorem dX10_begins_117 : decode cX10_begins 117 = .ok (.aload_n 0, 1) := by decide +kernel
theorem dX10_begins_118 : decode cX10_begins 118 = .ok (.getfield 19, 3) := by decide +kernel
theorem dX10_begins_121 : decode cX10_begins 121 = .ok (.aload_n 0, 1) := by decide +kernel
theorem dX10_begins_122 : decode cX10_begins 122 = .ok (.getfield 90, 3) := by decide +kernel
theorem dX10_begins_125 : decode cX10_begins 125 = .ok (.iaload, 1) := by decide +kernel
theorem dX10_begins_126 : decode cX10_begins 126 = .ok (.ifCond .le 28, 3) := by decide +kernel
theorem dX10_begins_129 : decode cX10_begins 129 = .ok (.aload_n 0, 1) := by decide +kernel
theorem dX10_begins_130 : decode cX10_begins 130 = .ok (.dup, 1) := by decide +kernel
theorem dX10_begins_131 : decode cX10_begins 131 = .ok (.getfield 90, 3) := by decide +kernel
theorem dX10_begins_134 : decode cX10_begins 134 = .ok (.iconst 1, 1) := by decide +kernel
theorem dX10_begins_135 : decode cX10_begins 135 = .ok (.isub, 1) := by decide +kernel
theorem dX10_begins_136 : decode cX10_begins 136 = .ok (.putfield 90, 3) := by decide +kernel
theorem dX10_begins_139 : decode cX10_begins 139 = .ok (.aload_n 0, 1) := by decide +kernel
theorem dX10_begins_140 : decode cX10_begins 140 = .ok (.getfield 19, 3) := by decide +kernel
theorem dX10_begins_143 : decode cX10_begins 143 = .ok (.aload_n 0, 1) := by decide +kernel
theorem dX10_begins_144 : decode cX10_begins 144 = .ok (.getfield 90, 3) := by decide +kernel
theorem dX10_begins_147 : decode cX10_begins 147 = .ok (.dup2, 1) := by decide +kernel
theorem dX10_begins_148 : decode cX10_begins 148 = .ok (.iaload, 1) := by decide +kernel
theorem dX10_begins_149 : decode cX10_begins 149 = .ok (.iconst 1, 1) := by decide +kernel
theorem dX10_begins_150 : decode cX10_begins 150 = .ok (.iadd, 1) := by decide +kernel
theorem dX10_begins_151 : decode cX10_begins 151 = .ok (.iastore, 1) := by decide +kernel
theorem dX10_begins_152 : decode cX10_begins 152 = .ok (.iconst 1, 1) := by decide +kernel
theorem dX10_begins_153 : decode cX10_begins 153 = .ok (.ireturn, 1) := by decide +kernel
theorem dX10_begins_154 : decode cX10_begins 154 = .ok (.aload_n 0, 1) := by decide +kernel
theorem dX10_begins_155 : decode cX10_begins 155 = .ok (.getfield 90, 3) := by decide +kernel
theorem dX10_begins_158 : decode cX10_begins 158 = .ok (.ifCond .ne 15, 3) := by decide +kernel
theorem dX10_begins_161 : decode cX10_begins 161 = .ok (.aload_n 0, 1) := by decide +kernel
theorem dX10_begins_162 : decode cX10_begins 162 = .ok (.iload_n 1, 1) := by decide +kernel
theorem dX10_begins_163 : decode cX10_begins 163 = .ok (.invokevirtual 93, 3) := by decide +kernel
theorem dX10_begins_166 : decode cX10_begins 166 = .ok (.ifCond .eq 7, 3) := by decide +kernel
theorem dX10_begins_169 : decode cX10_begins 169 = .ok (.iconst 1, 1) := by decide +kernel
theorem dX10_begins_170 : decode cX10_begins 170 = .ok (.goto 4, 3) := by decide +kernel
theorem dX10_begins_173 : decode cX10_begins 173 = .ok (.iconst 0, 1) := by decide +kernel
theorem dX10_begins_174 : decode cX10_begins 174 = .ok (.ireturn, 1) := by decide +kernel
theorem dX10_outside_0 : decode cX10_outside 0 = .ok (.iload_n 1, 1) := by decide +kernel
theorem dX10_outside_1 : decode cX10_outside 1 = .ok (.bipush 124, 2) := by decide +kernel
theorem dX10_outside_3 : decode cX10_outside 3 = .ok (.if_icmp .ne 5, 3) := by decide +kernel
theorem dX10_outside_6 : decode cX10_outside 6 = .ok (.iconst 1, 1) := by decide +kernel
theorem dX10_outside_7 : decode cX10_outside 7 = .ok (.ireturn, 1) := by decide +kernel
theorem dX10_outside_8 : decode cX10_outside 8 = .ok (.iload_n 1, 1) := by decide +kernel
theorem dX10_outside_9 : decode cX10_outside 9 = .ok (.bipush 91, 2) := by decide +kernel
theorem dX10_outside_11 : decode cX10_outside 11 = .ok (.if_icmp .ne 17, 3) := by decide +kernel
theorem dX10_outside_14 : decode cX10_outside 14 = .ok (.aload_n 0, 1) := by decide +kernel
theorem dX10_outside_15 : decode cX10_outside 15 = .ok (.getfield 97, 3) := by decide +kernel
theorem dX10_outside_18 : decode cX10_outside 18 = .ok (.ifCond .ne 10, 3) := by decide +kernel
theorem dX10_outside_21 : decode cX10_outside 21 = .ok (.aload_n 0, 1) := by decide +kernel
theorem dX10_outside_22 : decode cX10_outside 22 = .ok (.iconst 1, 1) := by decide +kernel
theorem dX10_outside_23 : decode cX10_outside 23 = .ok (.putfield 97, 3) := by decide +kernel
theorem dX10_outside_26 : decode cX10_outside 26 = .ok (.iconst 1, 1) := by decide +kernel
theorem dX10_outside_27 : decode cX10_outside 27 = .ok (.ireturn, 1) := by decide +kernel
theorem dX10_outside_28 : decode cX10_outside 28 = .ok (.iload_n 1, 1) := by decide +kernel
theorem dX10_outside_29 : decode cX10_outside 29 = .ok (.bipush 47, 2) := by decide +kernel
theorem dX10_outside_31 : decode cX10_outside 31 = .ok (.if_icmp .ne 18, 3) := by decide +kernel
theorem dX10_outside_34 : decode cX10_outside 34 = .ok (.aload_n 0, 1) := by decide +kernel
theorem dX10_outside_35 : decode cX10_outside 35 = .ok (.getfield 97, 3) := by decide +kernel
theorem dX10_outside_38 : decode cX10_outside 38 = .ok (.ifCond .eq 11, 3) := by decide +kernel
theorem dX10_outside_41 : decode cX10_outside 41 = .ok (.aload_n 0, 1) := by decide +kernel
theorem dX10_outside_42 : decode cX10_outside 42 = .ok (.bipush 9, 2) := by decide +kernel
theorem dX10_outside_44 : decode cX10_outside 44 = .ok (.putfield 80, 3) := by decide +kernel
theorem dX10_outside_47 : decode cX10_outside 47 = .ok (.iconst 1, 1) := by decide +kernel
theorem dX10_outside_48 : decode cX10_outside 48 = .ok (.ireturn, 1) := by decide +kernel
theorem dX10_outside_49 : decode cX10_outside 49 = .ok (.iload_n 1, 1) := by decide +kernel
theorem dX10_outside_50 : decode cX10_outside 50 = .ok (.bipush 93, 2) := by decide +kernel
theorem dX10_outside_52 : decode cX10_outside 52 = .ok (.if_icmp .ne 23, 3) := by decide +kernel
theorem dX10_outside_55 : decode cX10_outside 55 = .ok (.aload_n 0, 1) := by decide +kernel
theorem dX10_outside_56 : decode cX10_outside 56 = .ok (.getfield 97, 3) := by decide +kernel
theorem dX10_outside_59 : decode cX10_outside 59 = .ok (.ifCond .eq 16, 3) := by decide +kernel
theorem dX10_outside_62 : decode cX10_outside 62 = .ok (.aload_n 0, 1) := by decide +kernel
theorem dX10_outside_63 : decode cX10_outside 63 = .ok (.iconst 0, 1) := by decide +kernel
theorem dX10_outside_64 : decode cX10_outside 64 = .ok (.putfield 97, 3) := by decide +kernel
theorem dX10_outside_67 : decode cX10_outside 67 = .ok (.aload_n 0, 1) := by decide +kernel
theorem dX10_outside_68 : decode cX10_outside 68 = .ok (.bipush 8, 2) := by decide +kernel
theorem dX10_outside_70 : decode cX10_outside 70 = .ok (.putfield 80, 3) := by decide +kernel
theorem dX10_outside_73 : decode cX10_outside 73 = .ok (.iconst 1, 1) := by decide +kernel
theorem dX10_outside_74 : decode cX10_outside 74 = .ok (.ireturn, 1) := by decide +kernel
theorem dX10_outside_75 : decode cX10_outside 75 = .ok (.iconst 0, 1) := by decide +kernel
theorem dX10_outside_76 : decode cX10_outside 76 = .ok (.ireturn, 1) := by decide +kernel
theorem dX10_dotted_0 : decode cX10_dotted 0 = .ok (.iload_n 1, 1) := by decide +kernel
theorem dX10_dotted_1 : decode cX10_dotted 1 = .ok (.bipush 46, 2) := by decide +kernel
theorem dX10_dotted_3 : decode cX10_dotted 3 = .ok (.if_icmp .ne 23, 3) := by decide +kernel
theorem dX10_dotted_6 : decode cX10_dotted 6 = .ok (.aload_n 0, 1) := by decide +kernel
theorem dX10_dotted_7 : decode cX10_dotted 7 = .ok (.getfield 87, 3) := by decide +kernel
theorem dX10_dotted_10 : decode cX10_dotted 10 = .ok (.iconst 2, 1) := by decide +kernel
theorem dX10_dotted_11 : decode cX10_dotted 11 = .ok (.if_icmp .ge 15, 3) := by decide +kernel
theorem dX10_dotted_14 : decode cX10_dotted 14 = .ok (.aload_n 0, 1) := by decide +kernel
theorem dX10_dotted_15 : decode cX10_dotted 15 = .ok (.dup, 1) := by decide +kernel
theorem dX10_dotted_16 : decode cX10_dotted 16 = .ok (.getfield 87, 3) := by decide +kernel
theorem dX10_dotted_19 : decode cX10_dotted 19 = .ok (.iconst 1, 1) := by decide +kernel
theorem dX10_dotted_20 : decode cX10_dotted 20 = .ok (.iadd, 1) := by decide +kernel
theorem dX10_dotted_21 : decode cX10_dotted 21 = .ok (.putfield 87, 3) := by decide +kernel
theorem dX10_dotted_24 : decode cX10_dotted 24 = .ok (.iconst 1, 1) := by decide +kernel
theorem dX10_dotted_25 : decode cX10_dotted 25 = .ok (.ireturn, 1) := by decide +kernel
theorem dX10_dotted_26 : decode cX10_dotted 26 = .ok (.iload_n 1, 1) := by decide +kernel
theorem dX10_dotted_27 : decode cX10_dotted 27 = .ok (.bipush 126, 2) := by decide +kernel
theorem dX10_dotted_29 : decode cX10_dotted 29 = .ok (.if_icmp .ne 18, 3) := by decide +kernel
theorem dX10_dotted_32 : decode cX10_dotted 32 = .ok (.aload_n 0, 1) := by decide +kernel
theorem dX10_dotted_33 : decode cX10_dotted 33 = .ok (.getfield 80, 3) := by decide +kernel
theorem dX10_dotted_36 : decode cX10_dotted 36 = .ok (.iconst 3, 1) := by decide +kernel
theorem dX10_dotted_37 : decode cX10_dotted 37 = .ok (.if_icmp .ne 10, 3) := by decide +kernel
theorem dX10_dotted_40 : decode cX10_dotted 40 = .ok (.aload_n 0, 1) := by decide +kernel
theorem dX10_dotted_41 : decode cX10_dotted 41 = .ok (.iconst 0, 1) := by decide +kernel
theorem dX10_dotted_42 : decode cX10_dotted 42 = .ok (.putfield 80, 3) := by decide +kernel
theorem dX10_dotted_45 : decode cX10_dotted 45 = .ok (.iconst 1, 1) := by decide +kernel
theorem dX10_dotted_46 : decode cX10_dotted 46 = .ok (.ireturn, 1) := by decide +kernel
theorem dX10_dotted_47 : decode cX10_dotted 47 = .ok (.aload_n 0, 1) := by decide +kernel
theorem dX10_dotted_48 : decode cX10_dotted 48 = .ok (.iload_n 1, 1) := by decide +kernel
theorem dX10_dotted_49 : decode cX10_dotted 49 = .ok (.invokevirtual 101, 3) := by decide +kernel
theorem dX10_dotted_52 : decode cX10_dotted 52 = .ok (.ireturn, 1) := by decide +kernel
theorem dX10_numbered_0 : decode cX10_numbered 0 = .ok (.aload_n 0, 1) := by decide +kernel
theorem dX10_numbered_1 : decode cX10_numbered 1 = .ok (.getfield 80, 3) := by decide +kernel
theorem dX10_numbered_4 : decode cX10_numbered 4 = .ok (.iconst 5, 1) := by decide +kernel
theorem dX10_numbered_5 : decode cX10_numbered 5 = .ok (.if_icmp .eq 12, 3) := by decide +kernel
theorem dX10_numbered_8 : decode cX10_numbered 8 = .ok (.aload_n 0, 1) := by decide +kernel
theorem dX10_numbered_9 : decode cX10_numbered 9 = .ok (.getfield 80, 3) := by decide +kernel
theorem dX10_numbered_12 : decode cX10_numbered 12 = .ok (.bipush 7, 2) := by decide +kernel
theorem dX10_numbered_14 : decode cX10_numbered 14 = .ok (.if_icmp .ne 27, 3) := by decide +kernel
theorem dX10_numbered_17 : decode cX10_numbered 17 = .ok (.aload_n 0, 1) := by decide +kernel
theorem dX10_numbered_18 : decode cX10_numbered 18 = .ok (.aload_n 0, 1) := by decide +kernel
theorem dX10_numbered_19 : decode cX10_numbered 19 = .ok (.getfield 80, 3) := by decide +kernel
theorem dX10_numbered_22 : decode cX10_numbered 22 = .ok (.iconst 5, 1) := by decide +kernel
theorem dX10_numbered_23 : decode cX10_numbered 23 = .ok (.if_icmp .ne 8, 3) := by decide +kernel
theorem dX10_numbered_26 : decode cX10_numbered 26 = .ok (.bipush 6, 2) := by decide +kernel
theorem dX10_numbered_28 : decode cX10_numbered 28 = .ok (.goto 4, 3) := by decide +kernel
theorem dX10_numbered_31 : decode cX10_numbered 31 = .ok (.iconst 0, 1) := by decide +kernel
theorem dX10_numbered_32 : decode cX10_numbered 32 = .ok (.putfield 80, 3) := by decide +kernel
theorem dX10_numbered_35 : decode cX10_numbered 35 = .ok (.iload_n 1, 1) := by decide +kernel
theorem dX10_numbered_36 : decode cX10_numbered 36 = .ok (.iconst 2, 1) := by decide +kernel
theorem dX10_numbered_37 : decode cX10_numbered 37 = .ok (.invokestatic 104, 3) := by decide +kernel
theorem dX10_numbered_40 : decode cX10_numbered 40 = .ok (.ireturn, 1) := by decide +kernel
theorem dX10_numbered_41 : decode cX10_numbered 41 = .ok (.aload_n 0, 1) := by decide +kernel
theorem dX10_numbered_42 : decode cX10_numbered 42 = .ok (.getfield 80, 3) := by decide +kernel
theorem dX10_numbered_45 : decode cX10_numbered 45 = .ok (.bipush 6, 2) := by decide +kernel
theorem dX10_numbered_47 : decode cX10_numbered 47 = .ok (.if_icmp .ne 21, 3) := by decide +kernel
theorem dX10_numbered_50 : decode cX10_numbered 50 = .ok (.aload_n 0, 1) := by decide +kernel
theorem dX10_numbered_51 : decode cX10_numbered 51 = .ok (.bipush 7, 2) := by decide +kernel
theorem dX10_numbered_53 : decode cX10_numbered 53 = .ok (.putfield 80, 3) := by decide +kernel
theorem dX10_numbered_56 : decode cX10_numbered 56 = .ok (.iload_n 1, 1) := by decide +kernel
theorem dX10_numbered_57 : decode cX10_numbered 57 = .ok (.bipush 58, 2) := by decide +kernel
theorem dX10_numbered_59 : decode cX10_numbered 59 = .ok (.if_icmp .ne 7, 3) := by decide +kernel
theorem dX10_numbered_62 : decode cX10_numbered 62 = .ok (.iconst 1, 1) := by decide +kernel
theorem dX10_numbered_63 : decode cX10_numbered 63 = .ok (.goto 4, 3) := by decide +kernel
theorem dX10_numbered_66 : decode cX10_numbered 66 = .ok (.iconst 0, 1) := by decide +kernel
theorem dX10_numbered_67 : decode cX10_numbered 67 = .ok (.ireturn, 1) := by decide +kernel
theorem dX10_numbered_68 : decode cX10_numbered 68 = .ok (.aload_n 0, 1) := by decide +kernel
theorem dX10_numbered_69 : decode cX10_numbered 69 = .ok (.getfield 80, 3) := by decide +kernel
theorem dX10_numbered_72 : decode cX10_numbered 72 = .ok (.bipush 8, 2) := by decide +kernel
theorem dX10_numbered_74 : decode cX10_numbered 74 = .ok (.if_icmp .ne 14, 3) := by decide +kernel
theorem dX10_numbered_77 : decode cX10_numbered 77 = .ok (.aload_n 0, 1) := by decide +kernel
theorem dX10_numbered_78 : decode cX10_numbered 78 = .ok (.iconst 0, 1) := by decide +kernel
theorem dX10_numbered_79 : decode cX10_numbered 79 = .ok (.putfield 80, 3) := by decide +kernel
theorem dX10_numbered_82 : decode cX10_numbered 82 = .ok (.iload_n 1, 1) := by decide +kernel
theorem dX10_numbered_83 : decode cX10_numbered 83 = .ok (.iconst 2, 1) := by decide +kernel
theorem dX10_numbered_84 : decode cX10_numbered 84 = .ok (.invokestatic 104, 3) := by decide +kernel
theorem dX10_numbered_87 : decode cX10_numbered 87 = .ok (.ireturn, 1) := by decide +kernel
theorem dX10_numbered_88 : decode cX10_numbered 88 = .ok (.aload_n 0, 1) := by decide +kernel
theorem dX10_numbered_89 : decode cX10_numbered 89 = .ok (.getfield 80, 3) := by decide +kernel
theorem dX10_numbered_92 : decode cX10_numbered 92 = .ok (.bipush 10, 2) := by decide +kernel
theorem dX10_numbered_94 : decode cX10_numbered 94 = .ok (.if_icmp .ne 16, 3) := by decide +kernel
theorem dX10_numbered_97 : decode cX10_numbered 97 = .ok (.iload_n 1, 1) := by decide +kernel
theorem dX10_numbered_98 : decode cX10_numbered 98 = .ok (.bipush 58, 2) := by decide +kernel
theorem dX10_numbered_100 : decode cX10_numbered 100 = .ok (.if_icmp .ne 10, 3) := by decide +kernel
theorem dX10_numbered_103 : decode cX10_numbered 103 = .ok (.aload_n 0, 1) := by decide +kernel
theorem dX10_numbered_104 : decode cX10_numbered 104 = .ok (.iconst 0, 1) := by decide +kernel
theorem dX10_numbered_105 : decode cX10_numbered 105 = .ok (.putfield 80, 3) := by decide +kernel
theorem dX10_numbered_108 : decode cX10_numbered 108 = .ok (.iconst 1, 1) := by decide +kernel
theorem dX10_numbered_109 : decode cX10_numbered 109 = .ok (.ireturn, 1) := by decide +kernel
theorem dX10_numbered_110 : decode cX10_numbered 110 = .ok (.aload_n 0, 1) := by decide +kernel
theorem dX10_numbered_111 : decode cX10_numbered 111 = .ok (.bipush 10, 2) := by decide +kernel
theorem dX10_numbered_113 : decode cX10_numbered 113 = .ok (.putfield 80, 3) := by decide +kernel
theorem dX10_numbered_116 : decode cX10_numbered 116 = .ok (.iload_n 1, 1) := by decide +kernel
theorem dX10_numbered_117 : decode cX10_numbered 117 = .ok (.iconst 1, 1) := by decide +kernel
theorem dX10_numbered_118 : decode cX10_numbered 118 = .ok (.invokestatic 104, 3) := by decide +kernel
theorem dX10_numbered_121 : decode cX10_numbered 121 = .ok (.ireturn, 1) := by decide +kernel
theorem dX10_may_0 : decode cX10_may 0 = .ok (.aload_n 0, 1) := by decide +kernel
theorem dX10_may_1 : decode cX10_may 1 = .ok (.getfield 80, 3) := by decide +kernel
theorem dX10_may_4 : decode cX10_may 4 = .ok (.tableswitch 126 0 4 #[36, 42, 78, 114, 120], 36) := by decide +kernel
theorem dX10_may_40 : decode cX10_may 40 = .ok (.aload_n 0, 1) := by decide +kernel
theorem dX10_may_41 : decode cX10_may 41 = .ok (.iload_n 1, 1) := by decide +kernel
theorem dX10_may_42 : decode cX10_may 42 = .ok (.invokevirtual 101, 3) := by decide +kernel
theorem dX10_may_45 : decode cX10_may 45 = .ok (.ireturn, 1) := by decide +kernel
theorem dX10_may_46 : decode cX10_may 46 = .ok (.aload_n 0, 1) := by decide +kernel
theorem dX10_may_47 : decode cX10_may 47 = .ok (.getfield 19, 3) := by decide +kernel
theorem dX10_may_50 : decode cX10_may 50 = .ok (.aload_n 0, 1) := by decide +kernel
theorem dX10_may_51 : decode cX10_may 51 = .ok (.getfield 90, 3) := by decide +kernel
theorem dX10_may_54 : decode cX10_may 54 = .ok (.dup2, 1) := by decide +kernel
theorem dX10_may_55 : decode cX10_may 55 = .ok (.iaload, 1) := by decide +kernel
theorem dX10_may_56 : decode cX10_may 56 = .ok (.iconst 1, 1) := by decide +kernel
theorem dX10_may_57 : decode cX10_may 57 = .ok (.iadd, 1) := by decide +kernel
theorem dX10_may_58 : decode cX10_may 58 = .ok (.iastore, 1) := by decide +kernel
theorem dX10_may_59 : decode cX10_may 59 = .ok (.aload_n 0, 1) := by decide +kernel
theorem dX10_may_60 : decode cX10_may 60 = .ok (.iconst 3, 1) := by decide +kernel
theorem dX10_may_61 : decode cX10_may 61 = .ok (.putfield 80, 3) := by decide +kernel
theorem dX10_may_64 : decode cX10_may 64 = .ok (.aload_n 0, 1) := by decide +kernel
theorem dX10_may_65 : decode cX10_may 65 = .ok (.iconst 0, 1) := by decide +kernel
theorem dX10_may_66 : decode cX10_may 66 = .ok (.putfield 87, 3) := by decide +kernel
theorem dX10_may_69 : decode cX10_may 69 = .ok (.iload_n 1, 1) := by decide +kernel
theorem dX10_may_70 : decode cX10_may 70 = .ok (.invokestatic 83, 3) := by decide +kernel
theorem dX10_may_73 : decode cX10_may 73 = .ok (.ifCond .lt 7, 3) := by decide +kernel
theorem dX10_may_76 : decode cX10_may 76 = .ok (.iconst 1, 1) := by decide +kernel
theorem dX10_may_77 : decode cX10_may 77 = .ok (.goto 4, 3) := by decide +kernel
theorem dX10_may_80 : decode cX10_may 80 = .ok (.iconst 0, 1) := by decide +kernel
theorem dX10_may_81 : decode cX10_may 81 = .ok (.ireturn, 1) := by decide +kernel
theorem dX10_may_82 : decode cX10_may 82 = .ok (.aload_n 0, 1) := by decide +kernel
theorem dX10_may_83 : decode cX10_may 83 = .ok (.getfield 19, 3) := by decide +kernel
theorem dX10_may_86 : decode cX10_may 86 = .ok (.aload_n 0, 1) := by decide +kernel
theorem dX10_may_87 : decode cX10_may 87 = .ok (.getfield 90, 3) := by decide +kernel
theorem dX10_may_90 : decode cX10_may 90 = .ok (.dup2, 1) := by decide +kernel
theorem dX10_may_91 : decode cX10_may 91 = .ok (.iaload, 1) := by decide +kernel
theorem dX10_may_92 : decode cX10_may 92 = .ok (.iconst 1, 1) := by decide +kernel
theorem dX10_may_93 : decode cX10_may 93 = .ok (.iadd, 1) := by decide +kernel
theorem dX10_may_94 : decode cX10_may 94 = .ok (.iastore, 1) := by decide +kernel
theorem dX10_may_95 : decode cX10_may 95 = .ok (.aload_n 0, 1) := by decide +kernel
theorem dX10_may_96 : decode cX10_may 96 = .ok (.iconst 4, 1) := by decide +kernel
theorem dX10_may_97 : decode cX10_may 97 = .ok (.putfield 80, 3) := by decide +kernel
theorem dX10_may_100 : decode cX10_may 100 = .ok (.aload_n 0, 1) := by decide +kernel
theorem dX10_may_101 : decode cX10_may 101 = .ok (.iconst 0, 1) := by decide +kernel
theorem dX10_may_102 : decode cX10_may 102 = .ok (.putfield 87, 3) := by decide +kernel
theorem dX10_may_105 : decode cX10_may 105 = .ok (.iload_n 1, 1) := by decide +kernel
theorem dX10_may_106 : decode cX10_may 106 = .ok (.invokestatic 83, 3) := by decide +kernel
theorem dX10_may_109 : decode cX10_may 109 = .ok (.ifCond .lt 7, 3) := by decide +kernel
theorem dX10_may_112 : decode cX10_may 112 = .ok (.iconst 1, 1) := by decide +kernel
theorem dX10_may_113 : decode cX10_may 113 = .ok (.goto 4, 3) := by decide +kernel
theorem dX10_may_116 : decode cX10_may 116 = .ok (.iconst 0, 1) := by decide +kernel
theorem dX10_may_117 : decode cX10_may 117 = .ok (.ireturn, 1) := by decide +kernel
theorem dX10_may_118 : decode cX10_may 118 = .ok (.aload_n 0, 1) := by decide +kernel
theorem dX10_may_119 : decode cX10_may 119 = .ok (.iload_n 1, 1) := by decide +kernel
theorem dX10_may_120 : decode cX10_may 120 = .ok (.invokevirtual 108, 3) := by decide +kernel
theorem dX10_may_123 : decode cX10_may 123 = .ok (.ireturn, 1) := by decide +kernel
theorem dX10_may_124 : decode cX10_may 124 = .ok (.aload_n 0, 1) := by decide +kernel
theorem dX10_may_125 : decode cX10_may 125 = .ok (.iload_n 1, 1) := by decide +kernel
theorem dX10_may_126 : decode cX10_may 126 = .ok (.invokevirtual 108, 3) := by decide +kernel
theorem dX10_may_129 : decode cX10_may 129 = .ok (.ireturn, 1) := by decide +kernel
theorem dX10_may_130 : decode cX10_may 130 = .ok (.aload_n 0, 1) := by decide +kernel
theorem dX10_may_131 : decode cX10_may 131 = .ok (.iload_n 1, 1) := by decide +kernel
theorem dX10_may_132 : decode cX10_may 132 = .ok (.invokevirtual 111, 3) := by decide +kernel
theorem dX10_may_135 : decode cX10_may 135 = .ok (.ireturn, 1) := by decide +kernel
theorem dX10_wrongAt_0 : decode cX10_wrongAt 0 = .ok (.aload_n 0, 1) := by decide +kernel
theorem dX10_wrongAt_1 : decode cX10_wrongAt 1 = .ok (.iconst 0, 1) := by decide +kernel
theorem dX10_wrongAt_2 : decode cX10_wrongAt 2 = .ok (.putfield 80, 3) := by decide +kernel
theorem dX10_wrongAt_5 : decode cX10_wrongAt 5 = .ok (.aload_n 0, 1) := by decide +kernel
theorem dX10_wrongAt_6 : decode cX10_wrongAt 6 = .ok (.iconst 0, 1) := by decide +kernel
theorem dX10_wrongAt_7 : decode cX10_wrongAt 7 = .ok (.putfield 90, 3) := by decide +kernel
theorem dX10_wrongAt_10 : decode cX10_wrongAt 10 = .ok (.aload_n 0, 1) := by decide +kernel
theorem dX10_wrongAt_11 : decode cX10_wrongAt 11 = .ok (.iconst 0, 1) := by decide +kernel
theorem dX10_wrongAt_12 : decode cX10_wrongAt 12 = .ok (.putfield 97, 3) := by decide +kernel
theorem dX10_wrongAt_15 : decode cX10_wrongAt 15 = .ok (.iconst 0, 1) := by decide +kernel
theorem dX10_wrongAt_16 : decode cX10_wrongAt 16 = .ok (.istore_n 1, 1) := by decide +kernel
theorem dX10_wrongAt_17 : decode cX10_wrongAt 17 = .ok (.iload_n 1, 1) := by decide +kernel
theorem dX10_wrongAt_18 : decode cX10_wrongAt 18 = .ok (.aload_n 0, 1) := by decide +kernel
theorem dX10_wrongAt_19 : decode cX10_wrongAt 19 = .ok (.getfield 114, 3) := by decide +kernel
theorem dX10_wrongAt_22 : decode cX10_wrongAt 22 = .ok (.if_icmp .ge 24, 3) := by decide +kernel
theorem dX10_wrongAt_25 : decode cX10_wrongAt 25 = .ok (.aload_n 0, 1) := by decide +kernel
theorem dX10_wrongAt_26 : decode cX10_wrongAt 26 = .ok (.aload_n 0, 1) := by decide +kernel
theorem dX10_wrongAt_27 : decode cX10_wrongAt 27 = .ok (.getfield 16, 3) := by decide +kernel
theorem dX10_wrongAt_30 : decode cX10_wrongAt 30 = .ok (.iload_n 1, 1) := by decide +kernel
theorem dX10_wrongAt_31 : decode cX10_wrongAt 31 = .ok (.iaload, 1) := by decide +kernel
theorem dX10_wrongAt_32 : decode cX10_wrongAt 32 = .ok (.invokevirtual 117, 3) := by decide +kernel
theorem dX10_wrongAt_35 : decode cX10_wrongAt 35 = .ok (.ifCond .ne 5, 3) := by decide +kernel
theorem dX10_wrongAt_38 : decode cX10_wrongAt 38 = .ok (.iload_n 1, 1) := by decide +kernel
theorem dX10_wrongAt_39 : decode cX10_wrongAt 39 = .ok (.ireturn, 1) := by decide +kernel
theorem dX10_wrongAt_40 : decode cX10_wrongAt 40 = .ok (.iinc 1 1, 3) := by decide +kernel
theorem dX10_wrongAt_43 : decode cX10_wrongAt 43 = .ok (.goto (-26), 3) := by decide +kernel
theorem dX10_wrongAt_46 : decode cX10_wrongAt 46 = .ok (.aload_n 0, 1) := by decide +kernel
theorem dX10_wrongAt_47 : decode cX10_wrongAt 47 = .ok (.getfield 80, 3) := by decide +kernel
theorem dX10_wrongAt_50 : decode cX10_wrongAt 50 = .ok (.ifCond .eq 19, 3) := by decide +kernel
theorem dX10_wrongAt_53 : decode cX10_wrongAt 53 = .ok (.aload_n 0, 1) := by decide +kernel
theorem dX10_wrongAt_54 : decode cX10_wrongAt 54 = .ok (.getfield 80, 3) := by decide +kernel
theorem dX10_wrongAt_57 : decode cX10_wrongAt 57 = .ok (.iconst 3, 1) := by decide +kernel
theorem dX10_wrongAt_58 : decode cX10_wrongAt 58 = .ok (.if_icmp .eq 11, 3) := by decide +kernel
theorem dX10_wrongAt_61 : decode cX10_wrongAt 61 = .ok (.aload_n 0, 1) := by decide +kernel
theorem dX10_wrongAt_62 : decode cX10_wrongAt 62 = .ok (.getfield 80, 3) := by decide +kernel
theorem dX10_wrongAt_65 : decode cX10_wrongAt 65 = .ok (.iconst 4, 1) := by decide +kernel
theorem dX10_wrongAt_66 : decode cX10_wrongAt 66 = .ok (.if_icmp .ne 21, 3) := by decide +kernel
theorem dX10_wrongAt_69 : decode cX10_wrongAt 69 = .ok (.aload_n 0, 1) := by decide +kernel
theorem dX10_wrongAt_70 : decode cX10_wrongAt 70 = .ok (.getfield 90, 3) := by decide +kernel
theorem dX10_wrongAt_73 : decode cX10_wrongAt 73 = .ok (.ifCond .ne 14, 3) := by decide +kernel
theorem dX10_wrongAt_76 : decode cX10_wrongAt 76 = .ok (.aload_n 0, 1) := by decide +kernel
theorem dX10_wrongAt_77 : decode cX10_wrongAt 77 = .ok (.getfield 97, 3) := by decide +kernel
theorem dX10_wrongAt_80 : decode cX10_wrongAt 80 = .ok (.ifCond .ne 7, 3) := by decide +kernel
theorem dX10_wrongAt_83 : decode cX10_wrongAt 83 = .ok (.iconst 1, 1) := by decide +kernel
theorem dX10_wrongAt_84 : decode cX10_wrongAt 84 = .ok (.goto 4, 3) := by decide +kernel
theorem dX10_wrongAt_87 : decode cX10_wrongAt 87 = .ok (.iconst 0, 1) := by decide +kernel
theorem dX10_wrongAt_88 : decode cX10_wrongAt 88 = .ok (.istore_n 1, 1) := by decide +kernel
theorem dX10_wrongAt_89 : decode cX10_wrongAt 89 = .ok (.iload_n 1, 1) := by decide +kernel
theorem dX10_wrongAt_90 : decode cX10_wrongAt 90 = .ok (.ifCond .eq 7, 3) := by decide +kernel
theorem dX10_wrongAt_93 : decode cX10_wrongAt 93 = .ok (.iconst (-1), 1) := by decide +kernel
theorem dX10_wrongAt_94 : decode cX10_wrongAt 94 = .ok (.goto 7, 3) := by decide +kernel
theorem dX10_wrongAt_97 : decode cX10_wrongAt 97 = .ok (.aload_n 0, 1) := by decide +kernel
theorem dX10_wrongAt_98 : decode cX10_wrongAt 98 = .ok (.getfield 114, 3) := by decide +kernel
theorem dX10_wrongAt_101 : decode cX10_wrongAt 101 = .ok (.ireturn, 1) := by decide +kernel
theorem dX10_at_0 : decode cX10_at 0 = .ok (.iload_n 2, 1) := by decide +kernel
theorem dX10_at_1 : decode cX10_at 1 = .ok (.aload_n 0, 1) := by decide +kernel
theorem dX10_at_2 : decode cX10_at 2 = .ok (.getfield 7, 3) := by decide +kernel
theorem dX10_at_5 : decode cX10_at 5 = .ok (.bipush 101, 2) := by decide +kernel
theorem dX10_at_7 : decode cX10_at 7 = .ok (.iload_n 1, 1) := by decide +kernel
theorem dX10_at_8 : decode cX10_at 8 = .ok (.imul, 1) := by decide +kernel
theorem dX10_at_9 : decode cX10_at 9 = .ok (.iaload, 1) := by decide +kernel
theorem dX10_at_10 : decode cX10_at 10 = .ok (.if_icmp .ge 19, 3) := by decide +kernel
theorem dX10_at_13 : decode cX10_at 13 = .ok (.aload_n 0, 1) := by decide +kernel
theorem dX10_at_14 : decode cX10_at 14 = .ok (.getfield 7, 3) := by decide +kernel
theorem dX10_at_17 : decode cX10_at 17 = .ok (.bipush 101, 2) := by decide +kernel
theorem dX10_at_19 : decode cX10_at 19 = .ok (.iload_n 1, 1) := by decide +kernel
theorem dX10_at_20 : decode cX10_at 20 = .ok (.imul, 1) := by decide +kernel
theorem dX10_at_21 : decode cX10_at 21 = .ok (.iconst 1, 1) := by decide +kernel
theorem dX10_at_22 : decode cX10_at 22 = .ok (.iadd, 1) := by decide +kernel
theorem dX10_at_23 : decode cX10_at 23 = .ok (.iload_n 2, 1) := by decide +kernel
theorem dX10_at_24 : decode cX10_at 24 = .ok (.iadd, 1) := by decide +kernel
theorem dX10_at_25 : decode cX10_at 25 = .ok (.iaload, 1) := by decide +kernel
theorem dX10_at_26 : decode cX10_at 26 = .ok (.goto 4, 3) := by decide +kernel
theorem dX10_at_29 : decode cX10_at 29 = .ok (.iconst (-1), 1) := by decide +kernel
theorem dX10_at_30 : decode cX10_at 30 = .ok (.ireturn, 1) := by decide +kernel
theorem dX10_lays_0 : decode cX10_lays 0 = .ok (.iload_n 2, 1) := by decide +kernel
theorem dX10_lays_1 : decode cX10_lays 1 = .ok (.istore 4, 2) := by decide +kernel
theorem dX10_lays_3 : decode cX10_lays 3 = .ok (.aload_n 0, 1) := by decide +kernel
theorem dX10_lays_4 : decode cX10_lays 4 = .ok (.iload_n 1, 1) := by decide +kernel
theorem dX10_lays_5 : decode cX10_lays 5 = .ok (.iload 4, 2) := by decide +kernel
theorem dX10_lays_7 : decode cX10_lays 7 = .ok (.invokevirtual 120, 3) := by decide +kernel
theorem dX10_lays_10 : decode cX10_lays 10 = .ok (.bipush 47, 2) := by decide +kernel
theorem dX10_lays_12 : decode cX10_lays 12 = .ok (.if_icmp .eq 51, 3) := by decide +kernel
theorem dX10_lays_15 : decode cX10_lays 15 = .ok (.aload_n 0, 1) := by decide +kernel
theorem dX10_lays_16 : decode cX10_lays 16 = .ok (.iload_n 1, 1) := by decide +kernel
theorem dX10_lays_17 : decode cX10_lays 17 = .ok (.iload 4, 2) := by decide +kernel
theorem dX10_lays_19 : decode cX10_lays 19 = .ok (.invokevirtual 120, 3) := by decide +kernel
theorem dX10_lays_22 : decode cX10_lays 22 = .ok (.bipush 93, 2) := by decide +kernel
theorem dX10_lays_24 : decode cX10_lays 24 = .ok (.if_icmp .eq 39, 3) := by decide +kernel
theorem dX10_lays_27 : decode cX10_lays 27 = .ok (.iload_n 3, 1) := by decide +kernel
theorem dX10_lays_28 : decode cX10_lays 28 = .ok (.ifCond .eq 29, 3) := by decide +kernel
theorem dX10_lays_31 : decode cX10_lays 31 = .ok (.aload_n 0, 1) := by decide +kernel
theorem dX10_lays_32 : decode cX10_lays 32 = .ok (.getfield 22, 3) := by decide +kernel
theorem dX10_lays_35 : decode cX10_lays 35 = .ok (.aload_n 0, 1) := by decide +kernel
theorem dX10_lays_36 : decode cX10_lays 36 = .ok (.getfield 124, 3) := by decide +kernel
theorem dX10_lays_39 : decode cX10_lays 39 = .ok (.aload_n 0, 1) := by decide +kernel
theorem dX10_lays_40 : decode cX10_lays 40 = .ok (.iload_n 1, 1) := by decide +kernel
theorem dX10_lays_41 : decode cX10_lays 41 = .ok (.iload 4, 2) := by decide +kernel
theorem dX10_lays_43 : decode cX10_lays 43 = .ok (.invokevirtual 120, 3) := by decide +kernel
theorem dX10_lays_46 : decode cX10_lays 46 = .ok (.iastore, 1) := by decide +kernel
theorem dX10_lays_47 : decode cX10_lays 47 = .ok (.aload_n 0, 1) := by decide +kernel
theorem dX10_lays_48 : decode cX10_lays 48 = .ok (.dup, 1) := by decide +kernel
theorem dX10_lays_49 : decode cX10_lays 49 = .ok (.getfield 124, 3) := by decide +kernel
theorem dX10_lays_52 : decode cX10_lays 52 = .ok (.iconst 1, 1) := by decide +kernel
theorem dX10_lays_53 : decode cX10_lays 53 = .ok (.iadd, 1) := by decide +kernel
theorem dX10_lays_54 : decode cX10_lays 54 = .ok (.putfield 124, 3) := by decide +kernel
theorem dX10_lays_57 : decode cX10_lays 57 = .ok (.iinc 4 1, 3) := by decide +kernel
theorem dX10_lays_60 : decode cX10_lays 60 = .ok (.goto (-57), 3) := by decide +kernel
theorem dX10_lays_63 : decode cX10_lays 63 = .ok (.iload 4, 2) := by decide +kernel
theorem dX10_lays_65 : decode cX10_lays 65 = .ok (.ireturn, 1) := by decide +kernel
theorem dX10_closing_0 : decode cX10_closing 0 = .ok (.iload_n 2, 1) := by decide +kernel
theorem dX10_closing_1 : decode cX10_closing 1 = .ok (.istore_n 3, 1) := by decide +kernel
theorem dX10_closing_2 : decode cX10_closing 2 = .ok (.aload_n 0, 1) := by decide +kernel
theorem dX10_closing_3 : decode cX10_closing 3 = .ok (.iload_n 1, 1) := by decide +kernel
theorem dX10_closing_4 : decode cX10_closing 4 = .ok (.iload_n 3, 1) := by decide +kernel
theorem dX10_closing_5 : decode cX10_closing 5 = .ok (.invokevirtual 120, 3) := by decide +kernel
theorem dX10_closing_8 : decode cX10_closing 8 = .ok (.bipush 93, 2) := by decide +kernel
theorem dX10_closing_10 : decode cX10_closing 10 = .ok (.if_icmp .eq 9, 3) := by decide +kernel
theorem dX10_closing_13 : decode cX10_closing 13 = .ok (.iinc 3 1, 3) := by decide +kernel
theorem dX10_closing_16 : decode cX10_closing 16 = .ok (.goto (-14), 3) := by decide +kernel
theorem dX10_closing_19 : decode cX10_closing 19 = .ok (.iload_n 3, 1) := by decide +kernel
theorem dX10_closing_20 : decode cX10_closing 20 = .ok (.ireturn, 1) := by decide +kernel
theorem dX10_passes_0 : decode cX10_passes 0 = .ok (.aload_n 0, 1) := by decide +kernel
theorem dX10_passes_1 : decode cX10_passes 1 = .ok (.iload_n 1, 1) := by decide +kernel
theorem dX10_passes_2 : decode cX10_passes 2 = .ok (.iload_n 2, 1) := by decide +kernel
theorem dX10_passes_3 : decode cX10_passes 3 = .ok (.iconst 1, 1) := by decide +kernel
theorem dX10_passes_4 : decode cX10_passes 4 = .ok (.invokevirtual 127, 3) := by decide +kernel
theorem dX10_passes_7 : decode cX10_passes 7 = .ok (.istore 4, 2) := by decide +kernel
theorem dX10_passes_9 : decode cX10_passes 9 = .ok (.iconst 0, 1) := by decide +kernel
theorem dX10_passes_10 : decode cX10_passes 10 = .ok (.istore 5, 2) := by decide +kernel
theorem dX10_passes_12 : decode cX10_passes 12 = .ok (.aload_n 0, 1) := by decide +kernel
theorem dX10_passes_13 : decode cX10_passes 13 = .ok (.iload_n 1, 1) := by decide +kernel
theorem dX10_passes_14 : decode cX10_passes 14 = .ok (.iload 4, 2) := by decide +kernel
theorem dX10_passes_16 : decode cX10_passes 16 = .ok (.invokevirtual 120, 3) := by decide +kernel
theorem dX10_passes_19 : decode cX10_passes 19 = .ok (.bipush 47, 2) := by decide +kernel
theorem dX10_passes_21 : decode cX10_passes 21 = .ok (.if_icmp .ne 99, 3) := by decide +kernel
theorem dX10_passes_24 : decode cX10_passes 24 = .ok (.iconst 0, 1) := by decide +kernel
theorem dX10_passes_25 : decode cX10_passes 25 = .ok (.istore 6, 2) := by decide +kernel
theorem dX10_passes_27 : decode cX10_passes 27 = .ok (.iinc 4 1, 3) := by decide +kernel
theorem dX10_passes_30 : decode cX10_passes 30 = .ok (.aload_n 0, 1) := by decide +kernel
theorem dX10_passes_31 : decode cX10_passes 31 = .ok (.iload_n 1, 1) := by decide +kernel
theorem dX10_passes_32 : decode cX10_passes 32 = .ok (.iload 4, 2) := by decide +kernel
theorem dX10_passes_34 : decode cX10_passes 34 = .ok (.invokevirtual 120, 3) := by decide +kernel
theorem dX10_passes_37 : decode cX10_passes 37 = .ok (.bipush 58, 2) := by decide +kernel
theorem dX10_passes_39 : decode cX10_passes 39 = .ok (.if_icmp .eq 35, 3) := by decide +kernel
theorem dX10_passes_42 : decode cX10_passes 42 = .ok (.iload 6, 2) := by decide +kernel
theorem dX10_passes_44 : decode cX10_passes 44 = .ok (.ifCond .ne 17, 3) := by decide +kernel
theorem dX10_passes_47 : decode cX10_passes 47 = .ok (.aload_n 0, 1) := by decide +kernel
theorem dX10_passes_48 : decode cX10_passes 48 = .ok (.iload_n 1, 1) := by decide +kernel
theorem dX10_passes_49 : decode cX10_passes 49 = .ok (.iload 4, 2) := by decide +kernel
theorem dX10_passes_51 : decode cX10_passes 51 = .ok (.invokevirtual 120, 3) := by decide +kernel
theorem dX10_passes_54 : decode cX10_passes 54 = .ok (.bipush 48, 2) := by decide +kernel
theorem dX10_passes_56 : decode cX10_passes 56 = .ok (.iload_n 3, 1) := by decide +kernel
theorem dX10_passes_57 : decode cX10_passes 57 = .ok (.iadd, 1) := by decide +kernel
theorem dX10_passes_58 : decode cX10_passes 58 = .ok (.if_icmp .ne 7, 3) := by decide +kernel
theorem dX10_passes_61 : decode cX10_passes 61 = .ok (.iconst 1, 1) := by decide +kernel
theorem dX10_passes_62 : decode cX10_passes 62 = .ok (.goto 4, 3) := by decide +kernel
theorem dX10_passes_65 : decode cX10_passes 65 = .ok (.iconst 0, 1) := by decide +kernel
theorem dX10_passes_66 : decode cX10_passes 66 = .ok (.istore 6, 2) := by decide +kernel
theorem dX10_passes_68 : decode cX10_passes 68 = .ok (.iinc 4 1, 3) := by decide +kernel
theorem dX10_passes_71 : decode cX10_passes 71 = .ok (.goto (-41), 3) := by decide +kernel
theorem dX10_passes_74 : decode cX10_passes 74 = .ok (.aload_n 0, 1) := by decide +kernel
theorem dX10_passes_75 : decode cX10_passes 75 = .ok (.iload_n 1, 1) := by decide +kernel
theorem dX10_passes_76 : decode cX10_passes 76 = .ok (.iload 4, 2) := by decide +kernel
theorem dX10_passes_78 : decode cX10_passes 78 = .ok (.iconst 1, 1) := by decide +kernel
theorem dX10_passes_79 : decode cX10_passes 79 = .ok (.iadd, 1) := by decide +kernel
theorem dX10_passes_80 : decode cX10_passes 80 = .ok (.iload 6, 2) := by decide +kernel
theorem dX10_passes_82 : decode cX10_passes 82 = .ok (.ifCond .eq 12, 3) := by decide +kernel
theorem dX10_passes_85 : decode cX10_passes 85 = .ok (.iload 5, 2) := by decide +kernel
theorem dX10_passes_87 : decode cX10_passes 87 = .ok (.ifCond .ne 7, 3) := by decide +kernel
theorem dX10_passes_90 : decode cX10_passes 90 = .ok (.iconst 1, 1) := by decide +kernel
theorem dX10_passes_91 : decode cX10_passes 91 = .ok (.goto 4, 3) := by decide +kernel
theorem dX10_passes_94 : decode cX10_passes 94 = .ok (.iconst 0, 1) := by decide +kernel
theorem dX10_passes_95 : decode cX10_passes 95 = .ok (.invokevirtual 127, 3) := by decide +kernel
theorem dX10_passes_98 : decode cX10_passes 98 = .ok (.istore 4, 2) := by decide +kernel
theorem dX10_passes_100 : decode cX10_passes 100 = .ok (.iload 5, 2) := by decide +kernel
theorem dX10_passes_102 : decode cX10_passes 102 = .ok (.ifCond .ne 8, 3) := by decide +kernel
theorem dX10_passes_105 : decode cX10_passes 105 = .ok (.iload 6, 2) := by decide +kernel
theorem dX10_passes_107 : decode cX10_passes 107 = .ok (.ifCond .eq 7, 3) := by decide +kernel
theorem dX10_passes_110 : decode cX10_passes 110 = .ok (.iconst 1, 1) := by decide +kernel
theorem dX10_passes_111 : decode cX10_passes 111 = .ok (.goto 4, 3) := by decide +kernel
theorem dX10_passes_114 : decode cX10_passes 114 = .ok (.iconst 0, 1) := by decide +kernel
theorem dX10_passes_115 : decode cX10_passes 115 = .ok (.istore 5, 2) := by decide +kernel
theorem dX10_passes_117 : decode cX10_passes 117 = .ok (.goto (-105), 3) := by decide +kernel
theorem dX10_passes_120 : decode cX10_passes 120 = .ok (.return_, 1) := by decide +kernel
theorem dX10_unfolds_0 : decode cX10_unfolds 0 = .ok (.aload_n 0, 1) := by decide +kernel
theorem dX10_unfolds_1 : decode cX10_unfolds 1 = .ok (.iconst 0, 1) := by decide +kernel
theorem dX10_unfolds_2 : decode cX10_unfolds 2 = .ok (.putfield 124, 3) := by decide +kernel
theorem dX10_unfolds_5 : decode cX10_unfolds 5 = .ok (.iconst 0, 1) := by decide +kernel
theorem dX10_unfolds_6 : decode cX10_unfolds 6 = .ok (.istore_n 2, 1) := by decide +kernel
theorem dX10_unfolds_7 : decode cX10_unfolds 7 = .ok (.iload_n 2, 1) := by decide +kernel
theorem dX10_unfolds_8 : decode cX10_unfolds 8 = .ok (.aload_n 0, 1) := by decide +kernel
theorem dX10_unfolds_9 : decode cX10_unfolds 9 = .ok (.getfield 7, 3) := by decide +kernel
theorem dX10_unfolds_12 : decode cX10_unfolds 12 = .ok (.bipush 101, 2) := by decide +kernel
theorem dX10_unfolds_14 : decode cX10_unfolds 14 = .ok (.iload_n 1, 1) := by decide +kernel
theorem dX10_unfolds_15 : decode cX10_unfolds 15 = .ok (.imul, 1) := by decide +kernel
theorem dX10_unfolds_16 : decode cX10_unfolds 16 = .ok (.iaload, 1) := by decide +kernel
theorem dX10_unfolds_17 : decode cX10_unfolds 17 = .ok (.if_icmp .ge 94, 3) := by decide +kernel
theorem dX10_unfolds_20 : decode cX10_unfolds 20 = .ok (.aload_n 0, 1) := by decide +kernel
theorem dX10_unfolds_21 : decode cX10_unfolds 21 = .ok (.iload_n 1, 1) := by decide +kernel
theorem dX10_unfolds_22 : decode cX10_unfolds 22 = .ok (.iload_n 2, 1) := by decide +kernel
theorem dX10_unfolds_23 : decode cX10_unfolds 23 = .ok (.invokevirtual 120, 3) := by decide +kernel
theorem dX10_unfolds_26 : decode cX10_unfolds 26 = .ok (.bipush 91, 2) := by decide +kernel
theorem dX10_unfolds_28 : decode cX10_unfolds 28 = .ok (.if_icmp .ne 52, 3) := by decide +kernel
theorem dX10_unfolds_31 : decode cX10_unfolds 31 = .ok (.aload_n 0, 1) := by decide +kernel
theorem dX10_unfolds_32 : decode cX10_unfolds 32 = .ok (.iload_n 1, 1) := by decide +kernel
theorem dX10_unfolds_33 : decode cX10_unfolds 33 = .ok (.iload_n 2, 1) := by decide +kernel
theorem dX10_unfolds_34 : decode cX10_unfolds 34 = .ok (.invokevirtual 131, 3) := by decide +kernel
theorem dX10_unfolds_37 : decode cX10_unfolds 37 = .ok (.istore_n 3, 1) := by decide +kernel
theorem dX10_unfolds_38 : decode cX10_unfolds 38 = .ok (.iconst 1, 1) := by decide +kernel
theorem dX10_unfolds_39 : decode cX10_unfolds 39 = .ok (.istore 4, 2) := by decide +kernel
theorem dX10_unfolds_41 : decode cX10_unfolds 41 = .ok (.iload 4, 2) := by decide +kernel
theorem dX10_unfolds_43 : decode cX10_unfolds 43 = .ok (.aload_n 0, 1) := by decide +kernel
theorem dX10_unfolds_44 : decode cX10_unfolds 44 = .ok (.iload_n 1, 1) := by decide +kernel
theorem dX10_unfolds_45 : decode cX10_unfolds 45 = .ok (.iload_n 3, 1) := by decide +kernel
theorem dX10_unfolds_46 : decode cX10_unfolds 46 = .ok (.iconst 1, 1) := by decide +kernel
theorem dX10_unfolds_47 : decode cX10_unfolds 47 = .ok (.iadd, 1) := by decide +kernel
theorem dX10_unfolds_48 : decode cX10_unfolds 48 = .ok (.invokevirtual 120, 3) := by decide +kernel
theorem dX10_unfolds_51 : decode cX10_unfolds 51 = .ok (.bipush 48, 2) := by decide +kernel
theorem dX10_unfolds_53 : decode cX10_unfolds 53 = .ok (.isub, 1) := by decide +kernel
theorem dX10_unfolds_54 : decode cX10_unfolds 54 = .ok (.if_icmp .gt 19, 3) := by decide +kernel
theorem dX10_unfolds_57 : decode cX10_unfolds 57 = .ok (.aload_n 0, 1) := by decide +kernel
theorem dX10_unfolds_58 : decode cX10_unfolds 58 = .ok (.iload_n 1, 1) := by decide +kernel
theorem dX10_unfolds_59 : decode cX10_unfolds 59 = .ok (.iload_n 2, 1) := by decide +kernel
theorem dX10_unfolds_60 : decode cX10_unfolds 60 = .ok (.iconst 1, 1) := by decide +kernel
theorem dX10_unfolds_61 : decode cX10_unfolds 61 = .ok (.iadd, 1) := by decide +kernel
theorem dX10_unfolds_62 : decode cX10_unfolds 62 = .ok (.iload 4, 2) := by decide +kernel
theorem dX10_unfolds_64 : decode cX10_unfolds 64 = .ok (.invokevirtual 134, 3) := by decide +kernel
theorem dX10_unfolds_67 : decode cX10_unfolds 67 = .ok (.iinc 4 1, 3) := by decide +kernel
theorem dX10_unfolds_70 : decode cX10_unfolds 70 = .ok (.goto (-29), 3) := by decide +kernel
theorem dX10_unfolds_73 : decode cX10_unfolds 73 = .ok (.iload_n 3, 1) := by decide +kernel
theorem dX10_unfolds_74 : decode cX10_unfolds 74 = .ok (.iconst 2, 1) := by decide +kernel
theorem dX10_unfolds_75 : decode cX10_unfolds 75 = .ok (.iadd, 1) := by decide +kernel
theorem dX10_unfolds_76 : decode cX10_unfolds 76 = .ok (.istore_n 2, 1) := by decide +kernel
theorem dX10_unfolds_77 : decode cX10_unfolds 77 = .ok (.goto (-70), 3) := by decide +kernel
theorem dX10_unfolds_80 : decode cX10_unfolds 80 = .ok (.aload_n 0, 1) := by decide +kernel
theorem dX10_unfolds_81 : decode cX10_unfolds 81 = .ok (.getfield 22, 3) := by decide +kernel
theorem dX10_unfolds_84 : decode cX10_unfolds 84 = .ok (.aload_n 0, 1) := by decide +kernel
theorem dX10_unfolds_85 : decode cX10_unfolds 85 = .ok (.getfield 124, 3) := by decide +kernel
theorem dX10_unfolds_88 : decode cX10_unfolds 88 = .ok (.aload_n 0, 1) := by decide +kernel
theorem dX10_unfolds_89 : decode cX10_unfolds 89 = .ok (.iload_n 1, 1) := by decide +kernel
theorem dX10_unfolds_90 : decode cX10_unfolds 90 = .ok (.iload_n 2, 1) := by decide +kernel
theorem dX10_unfolds_91 : decode cX10_unfolds 91 = .ok (.invokevirtual 120, 3) := by decide +kernel
theorem dX10_unfolds_94 : decode cX10_unfolds 94 = .ok (.iastore, 1) := by decide +kernel
theorem dX10_unfolds_95 : decode cX10_unfolds 95 = .ok (.aload_n 0, 1) := by decide +kernel
theorem dX10_unfolds_96 : decode cX10_unfolds 96 = .ok (.dup, 1) := by decide +kernel
theorem dX10_unfolds_97 : decode cX10_unfolds 97 = .ok (.getfield 124, 3) := by decide +kernel
theorem dX10_unfolds_100 : decode cX10_unfolds 100 = .ok (.iconst 1, 1) := by decide +kernel
theorem dX10_unfolds_101 : decode cX10_unfolds 101 = .ok (.iadd, 1) := by decide +kernel
theorem dX10_unfolds_102 : decode cX10_unfolds 102 = .ok (.putfield 124, 3) := by decide +kernel
theorem dX10_unfolds_105 : decode cX10_unfolds 105 = .ok (.iinc 2 1, 3) := by decide +kernel
theorem dX10_unfolds_108 : decode cX10_unfolds 108 = .ok (.goto (-101), 3) := by decide +kernel
theorem dX10_unfolds_111 : decode cX10_unfolds 111 = .ok (.return_, 1) := by decide +kernel
theorem dX10_lengthAt_0 : decode cX10_lengthAt 0 = .ok (.ldc2_w 138, 3) := by decide +kernel
theorem dX10_lengthAt_3 : decode cX10_lengthAt 3 = .ok (.iload_n 1, 1) := by decide +kernel
theorem dX10_lengthAt_4 : decode cX10_lengthAt 4 = .ok (.invokestatic 83, 3) := by decide +kernel
theorem dX10_lengthAt_7 : decode cX10_lengthAt 7 = .ok (.lshr, 1) := by decide +kernel
theorem dX10_lengthAt_8 : decode cX10_lengthAt 8 = .ok (.lstore 4, 2) := by decide +kernel
theorem dX10_lengthAt_10 : decode cX10_lengthAt 10 = .ok (.iload_n 2, 1) := by decide +kernel
theorem dX10_lengthAt_11 : decode cX10_lengthAt 11 = .ok (.ifCond .ne 8, 3) := by decide +kernel
theorem dX10_lengthAt_14 : decode cX10_lengthAt 14 = .ok (.lload 4, 2) := by decide +kernel
theorem dX10_lengthAt_16 : decode cX10_lengthAt 16 = .ok (.goto 31, 3) := by decide +kernel
theorem dX10_lengthAt_19 : decode cX10_lengthAt 19 = .ok (.iload_n 2, 1) := by decide +kernel
theorem dX10_lengthAt_20 : decode cX10_lengthAt 20 = .ok (.iconst 1, 1) := by decide +kernel
theorem dX10_lengthAt_21 : decode cX10_lengthAt 21 = .ok (.if_icmp .ne 16, 3) := by decide +kernel
theorem dX10_lengthAt_24 : decode cX10_lengthAt 24 = .ok (.lload 4, 2) := by decide +kernel
theorem dX10_lengthAt_26 : decode cX10_lengthAt 26 = .ok (.ldc2_w 140, 3) := by decide +kernel
theorem dX10_lengthAt_29 : decode cX10_lengthAt 29 = .ok (.lmul, 1) := by decide +kernel
theorem dX10_lengthAt_30 : decode cX10_lengthAt 30 = .ok (.ldc2_w 142, 3) := by decide +kernel
theorem dX10_lengthAt_33 : decode cX10_lengthAt 33 = .ok (.ldiv, 1) := by decide +kernel
theorem dX10_lengthAt_34 : decode cX10_lengthAt 34 = .ok (.goto 13, 3) := by decide +kernel
theorem dX10_lengthAt_37 : decode cX10_lengthAt 37 = .ok (.lload 4, 2) := by decide +kernel
theorem dX10_lengthAt_39 : decode cX10_lengthAt 39 = .ok (.ldc2_w 144, 3) := by decide +kernel
theorem dX10_lengthAt_42 : decode cX10_lengthAt 42 = .ok (.lmul, 1) := by decide +kernel
theorem dX10_lengthAt_43 : decode cX10_lengthAt 43 = .ok (.ldc2_w 146, 3) := by decide +kernel
theorem dX10_lengthAt_46 : decode cX10_lengthAt 46 = .ok (.ldiv, 1) := by decide +kernel
theorem dX10_lengthAt_47 : decode cX10_lengthAt 47 = .ok (.lstore 4, 2) := by decide +kernel
theorem dX10_lengthAt_49 : decode cX10_lengthAt 49 = .ok (.iconst 0, 1) := by decide +kernel
theorem dX10_lengthAt_50 : decode cX10_lengthAt 50 = .ok (.istore 6, 2) := by decide +kernel
theorem dX10_lengthAt_52 : decode cX10_lengthAt 52 = .ok (.iload 6, 2) := by decide +kernel
theorem dX10_lengthAt_54 : decode cX10_lengthAt 54 = .ok (.iload_n 3, 1) := by decide +kernel
theorem dX10_lengthAt_55 : decode cX10_lengthAt 55 = .ok (.if_icmp .ge 31, 3) := by decide +kernel
theorem dX10_lengthAt_58 : decode cX10_lengthAt 58 = .ok (.lload 4, 2) := by decide +kernel
theorem dX10_lengthAt_60 : decode cX10_lengthAt 60 = .ok (.aload_n 0, 1) := by decide +kernel
theorem dX10_lengthAt_61 : decode cX10_lengthAt 61 = .ok (.getfield 57, 3) := by decide +kernel
theorem dX10_lengthAt_64 : decode cX10_lengthAt 64 = .ok (.iload 6, 2) := by decide +kernel
theorem dX10_lengthAt_66 : decode cX10_lengthAt 66 = .ok (.iaload, 1) := by decide +kernel
theorem dX10_lengthAt_67 : decode cX10_lengthAt 67 = .ok (.i2l, 1) := by decide +kernel
theorem dX10_lengthAt_68 : decode cX10_lengthAt 68 = .ok (.lmul, 1) := by decide +kernel
theorem dX10_lengthAt_69 : decode cX10_lengthAt 69 = .ok (.aload_n 0, 1) := by decide +kernel
theorem dX10_lengthAt_70 : decode cX10_lengthAt 70 = .ok (.getfield 60, 3) := by decide +kernel
theorem dX10_lengthAt_73 : decode cX10_lengthAt 73 = .ok (.iload 6, 2) := by decide +kernel
theorem dX10_lengthAt_75 : decode cX10_lengthAt 75 = .ok (.iaload, 1) := by decide +kernel
theorem dX10_lengthAt_76 : decode cX10_lengthAt 76 = .ok (.i2l, 1) := by decide +kernel
theorem dX10_lengthAt_77 : decode cX10_lengthAt 77 = .ok (.ldiv, 1) := by decide +kernel
theorem dX10_lengthAt_78 : decode cX10_lengthAt 78 = .ok (.lstore 4, 2) := by decide +kernel
theorem dX10_lengthAt_80 : decode cX10_lengthAt 80 = .ok (.iinc 6 1, 3) := by decide +kernel
theorem dX10_lengthAt_83 : decode cX10_lengthAt 83 = .ok (.goto (-31), 3) := by decide +kernel
theorem dX10_lengthAt_86 : decode cX10_lengthAt 86 = .ok (.lload 4, 2) := by decide +kernel
theorem dX10_lengthAt_88 : decode cX10_lengthAt 88 = .ok (.lreturn, 1) := by decide +kernel
theorem dX10_addsEvent_0 : decode cX10_addsEvent 0 = .ok (.sipush 300, 3) := by decide +kernel
theorem dX10_addsEvent_3 : decode cX10_addsEvent 3 = .ok (.iload_n 1, 1) := by decide +kernel
theorem dX10_addsEvent_4 : decode cX10_addsEvent 4 = .ok (.imul, 1) := by decide +kernel
theorem dX10_addsEvent_5 : decode cX10_addsEvent 5 = .ok (.aload_n 0, 1) := by decide +kernel
theorem dX10_addsEvent_6 : decode cX10_addsEvent 6 = .ok (.getfield 41, 3) := by decide +kernel
theorem dX10_addsEvent_9 : decode cX10_addsEvent 9 = .ok (.iload_n 1, 1) := by decide +kernel
theorem dX10_addsEvent_10 : decode cX10_addsEvent 10 = .ok (.iaload, 1) := by decide +kernel
theorem dX10_addsEvent_11 : decode cX10_addsEvent 11 = .ok (.iadd, 1) := by decide +kernel
theorem dX10_addsEvent_12 : decode cX10_addsEvent 12 = .ok (.istore 9, 2) := by decide +kernel
theorem dX10_addsEvent_14 : decode cX10_addsEvent 14 = .ok (.iload 8, 2) := by decide +kernel
theorem dX10_addsEvent_16 : decode cX10_addsEvent 16 = .ok (.ifCond .eq 31, 3) := by decide +kernel
theorem dX10_addsEvent_19 : decode cX10_addsEvent 19 = .ok (.aload_n 0, 1) := by decide +kernel
theorem dX10_addsEvent_20 : decode cX10_addsEvent 20 = .ok (.getfield 29, 3) := by decide +kernel
theorem dX10_addsEvent_23 : decode cX10_addsEvent 23 = .ok (.iload 9, 2) := by decide +kernel
theorem dX10_addsEvent_25 : decode cX10_addsEvent 25 = .ok (.iconst 1, 1) := by decide +kernel
theorem dX10_addsEvent_26 : decode cX10_addsEvent 26 = .ok (.isub, 1) := by decide +kernel
theorem dX10_addsEvent_27 : decode cX10_addsEvent 27 = .ok (.dup2, 1) := by decide +kernel
theorem dX10_addsEvent_28 : decode cX10_addsEvent 28 = .ok (.laload, 1) := by decide +kernel
theorem dX10_addsEvent_29 : decode cX10_addsEvent 29 = .ok (.lload 4, 2) := by decide +kernel
theorem dX10_addsEvent_31 : decode cX10_addsEvent 31 = .ok (.ladd, 1) := by decide +kernel
theorem dX10_addsEvent_32 : decode cX10_addsEvent 32 = .ok (.lastore, 1) := by decide +kernel
theorem dX10_addsEvent_33 : decode cX10_addsEvent 33 = .ok (.aload_n 0, 1) := by decide +kernel
theorem dX10_addsEvent_34 : decode cX10_addsEvent 34 = .ok (.getfield 38, 3) := by decide +kernel
theorem dX10_addsEvent_37 : decode cX10_addsEvent 37 = .ok (.iload 9, 2) := by decide +kernel
theorem dX10_addsEvent_39 : decode cX10_addsEvent 39 = .ok (.iconst 1, 1) := by decide +kernel
theorem dX10_addsEvent_40 : decode cX10_addsEvent 40 = .ok (.isub, 1) := by decide +kernel
theorem dX10_addsEvent_41 : decode cX10_addsEvent 41 = .ok (.dup2, 1) := by decide +kernel
theorem dX10_addsEvent_42 : decode cX10_addsEvent 42 = .ok (.iaload, 1) := by decide +kernel
theorem dX10_addsEvent_43 : decode cX10_addsEvent 43 = .ok (.iconst 1, 1) := by decide +kernel
theorem dX10_addsEvent_44 : decode cX10_addsEvent 44 = .ok (.iadd, 1) := by decide +kernel
theorem dX10_addsEvent_45 : decode cX10_addsEvent 45 = .ok (.iastore, 1) := by decide +kernel
theorem dX10_addsEvent_46 : decode cX10_addsEvent 46 = .ok (.return_, 1) := by decide +kernel
theorem dX10_addsEvent_47 : decode cX10_addsEvent 47 = .ok (.aload_n 0, 1) := by decide +kernel
theorem dX10_addsEvent_48 : decode cX10_addsEvent 48 = .ok (.getfield 25, 3) := by decide +kernel
theorem dX10_addsEvent_51 : decode cX10_addsEvent 51 = .ok (.iload 9, 2) := by decide +kernel
theorem dX10_addsEvent_53 : decode cX10_addsEvent 53 = .ok (.lload_n 2, 1) := by decide +kernel
theorem dX10_addsEvent_54 : decode cX10_addsEvent 54 = .ok (.lastore, 1) := by decide +kernel
theorem dX10_addsEvent_55 : decode cX10_addsEvent 55 = .ok (.aload_n 0, 1) := by decide +kernel
theorem dX10_addsEvent_56 : decode cX10_addsEvent 56 = .ok (.getfield 29, 3) := by decide +kernel
theorem dX10_addsEvent_59 : decode cX10_addsEvent 59 = .ok (.iload 9, 2) := by decide +kernel
theorem dX10_addsEvent_61 : decode cX10_addsEvent 61 = .ok (.lload 4, 2) := by decide +kernel
theorem dX10_addsEvent_63 : decode cX10_addsEvent 63 = .ok (.lastore, 1) := by decide +kernel
theorem dX10_addsEvent_64 : decode cX10_addsEvent 64 = .ok (.aload_n 0, 1) := by decide +kernel
theorem dX10_addsEvent_65 : decode cX10_addsEvent 65 = .ok (.getfield 32, 3) := by decide +kernel
theorem dX10_addsEvent_68 : decode cX10_addsEvent 68 = .ok (.iload 9, 2) := by decide +kernel
theorem dX10_addsEvent_70 : decode cX10_addsEvent 70 = .ok (.iload 6, 2) := by decide +kernel
theorem dX10_addsEvent_72 : decode cX10_addsEvent 72 = .ok (.ifCond .eq 7, 3) := by decide +kernel
theorem dX10_addsEvent_75 : decode cX10_addsEvent 75 = .ok (.iconst 1, 1) := by decide +kernel
theorem dX10_addsEvent_76 : decode cX10_addsEvent 76 = .ok (.goto 4, 3) := by decide +kernel
theorem dX10_addsEvent_79 : decode cX10_addsEvent 79 = .ok (.iconst 0, 1) := by decide +kernel
theorem dX10_addsEvent_80 : decode cX10_addsEvent 80 = .ok (.iastore, 1) := by decide +kernel
theorem dX10_addsEvent_81 : decode cX10_addsEvent 81 = .ok (.aload_n 0, 1) := by decide +kernel
theorem dX10_addsEvent_82 : decode cX10_addsEvent 82 = .ok (.getfield 35, 3) := by decide +kernel
theorem dX10_addsEvent_85 : decode cX10_addsEvent 85 = .ok (.iload 9, 2) := by decide +kernel
theorem dX10_addsEvent_87 : decode cX10_addsEvent 87 = .ok (.iload 7, 2) := by decide +kernel
theorem dX10_addsEvent_89 : decode cX10_addsEvent 89 = .ok (.iastore, 1) := by decide +kernel
theorem dX10_addsEvent_90 : decode cX10_addsEvent 90 = .ok (.aload_n 0, 1) := by decide +kernel
theorem dX10_addsEvent_91 : decode cX10_addsEvent 91 = .ok (.getfield 38, 3) := by decide +kernel
theorem dX10_addsEvent_94 : decode cX10_addsEvent 94 = .ok (.iload 9, 2) := by decide +kernel
theorem dX10_addsEvent_96 : decode cX10_addsEvent 96 = .ok (.iconst 1, 1) := by decide +kernel
theorem dX10_addsEvent_97 : decode cX10_addsEvent 97 = .ok (.iastore, 1) := by decide +kernel
theorem dX10_addsEvent_98 : decode cX10_addsEvent 98 = .ok (.aload_n 0, 1) := by decide +kernel
theorem dX10_addsEvent_99 : decode cX10_addsEvent 99 = .ok (.getfield 41, 3) := by decide +kernel
theorem dX10_addsEvent_102 : decode cX10_addsEvent 102 = .ok (.iload_n 1, 1) := by decide +kernel
theorem dX10_addsEvent_103 : decode cX10_addsEvent 103 = .ok (.dup2, 1) := by decide +kernel
theorem dX10_addsEvent_104 : decode cX10_addsEvent 104 = .ok (.iaload, 1) := by decide +kernel
theorem dX10_addsEvent_105 : decode cX10_addsEvent 105 = .ok (.iconst 1, 1) := by decide +kernel
theorem dX10_addsEvent_106 : decode cX10_addsEvent 106 = .ok (.iadd, 1) := by decide +kernel
theorem dX10_addsEvent_107 : decode cX10_addsEvent 107 = .ok (.iastore, 1) := by decide +kernel
theorem dX10_addsEvent_108 : decode cX10_addsEvent 108 = .ok (.return_, 1) := by decide +kernel
theorem dX10_works_0 : decode cX10_works 0 = .ok (.aload_n 0, 1) := by decide +kernel
theorem dX10_works_1 : decode cX10_works 1 = .ok (.iload_n 1, 1) := by decide +kernel
theorem dX10_works_2 : decode cX10_works 2 = .ok (.invokevirtual 148, 3) := by decide +kernel
theorem dX10_works_5 : decode cX10_works 5 = .ok (.aload_n 0, 1) := by decide +kernel
theorem dX10_works_6 : decode cX10_works 6 = .ok (.getfield 41, 3) := by decide +kernel
theorem dX10_works_9 : decode cX10_works 9 = .ok (.iload_n 1, 1) := by decide +kernel
theorem dX10_works_10 : decode cX10_works 10 = .ok (.iconst 0, 1) := by decide +kernel
theorem dX10_works_11 : decode cX10_works 11 = .ok (.iastore, 1) := by decide +kernel
theorem dX10_works_12 : decode cX10_works 12 = .ok (.aload_n 0, 1) := by decide +kernel
theorem dX10_works_13 : decode cX10_works 13 = .ok (.iconst 0, 1) := by decide +kernel
theorem dX10_works_14 : decode cX10_works 14 = .ok (.putfield 152, 3) := by decide +kernel
theorem dX10_works_17 : decode cX10_works 17 = .ok (.lconst 0, 1) := by decide +kernel
theorem dX10_works_18 : decode cX10_works 18 = .ok (.lstore_n 2, 1) := by decide +kernel
theorem dX10_works_19 : decode cX10_works 19 = .ok (.iconst 0, 1) := by decide +kernel
theorem dX10_works_20 : decode cX10_works 20 = .ok (.istore 4, 2) := by decide +kernel
theorem dX10_works_22 : decode cX10_works 22 = .ok (.iconst 0, 1) := by decide +kernel
theorem dX10_works_23 : decode cX10_works 23 = .ok (.istore 5, 2) := by decide +kernel
theorem dX10_works_25 : decode cX10_works 25 = .ok (.iconst 0, 1) := by decide +kernel
theorem dX10_works_26 : decode cX10_works 26 = .ok (.istore 6, 2) := by decide +kernel
theorem dX10_works_28 : decode cX10_works 28 = .ok (.iconst 0, 1) := by decide +kernel
theorem dX10_works_29 : decode cX10_works 29 = .ok (.istore 7, 2) := by decide +kernel
theorem dX10_works_31 : decode cX10_works 31 = .ok (.iconst 0, 1) := by decide +kernel
theorem dX10_works_32 : decode cX10_works 32 = .ok (.istore 8, 2) := by decide +kernel
theorem dX10_works_34 : decode cX10_works 34 = .ok (.aload_n 0, 1) := by decide +kernel
theorem dX10_works_35 : decode cX10_works 35 = .ok (.getfield 50, 3) := by decide +kernel
theorem dX10_works_38 : decode cX10_works 38 = .ok (.iconst 0, 1) := by decide +kernel
theorem dX10_works_39 : decode cX10_works 39 = .ok (.lconst 0, 1) := by decide +kernel
theorem dX10_works_40 : decode cX10_works 40 = .ok (.lastore, 1) := by decide +kernel
theorem dX10_works_41 : decode cX10_works 41 = .ok (.aload_n 0, 1) := by decide +kernel
theorem dX10_works_42 : decode cX10_works 42 = .ok (.getfield 53, 3) := by decide +kernel
theorem dX10_works_45 : decode cX10_works 45 = .ok (.iconst 0, 1) := by decide +kernel
theorem dX10_works_46 : decode cX10_works 46 = .ok (.iconst 1, 1) := by decide +kernel
theorem dX10_works_47 : decode cX10_works 47 = .ok (.bastore, 1) := by decide +kernel
theorem dX10_works_48 : decode cX10_works 48 = .ok (.iconst 0, 1) := by decide +kernel
theorem dX10_works_49 : decode cX10_works 49 = .ok (.istore 9, 2) := by decide +kernel
theorem dX10_works_51 : decode cX10_works 51 = .ok (.iload 9, 2) := by decide +kernel
theorem dX10_works_53 : decode cX10_works 53 = .ok (.aload_n 0, 1) := by decide +kernel
theorem dX10_works_54 : decode cX10_works 54 = .ok (.getfield 124, 3) := by decide +kernel
theorem dX10_works_57 : decode cX10_works 57 = .ok (.if_icmp .ge 314, 3) := by decide +kernel
theorem dX10_works_60 : decode cX10_works 60 = .ok (.aload_n 0, 1) := by decide +kernel
theorem dX10_works_61 : decode cX10_works 61 = .ok (.getfield 152, 3) := by decide +kernel
theorem dX10_works_64 : decode cX10_works 64 = .ok (.sipush 300, 3) := by decide +kernel
theorem dX10_works_67 : decode cX10_works 67 = .ok (.if_icmp .gt 304, 3) := by decide +kernel
theorem dX10_works_70 : decode cX10_works 70 = .ok (.aload_n 0, 1) := by decide +kernel
theorem dX10_works_71 : decode cX10_works 71 = .ok (.getfield 22, 3) := by decide +kernel
theorem dX10_works_74 : decode cX10_works 74 = .ok (.iload 9, 2) := by decide +kernel
theorem dX10_works_76 : decode cX10_works 76 = .ok (.iaload, 1) := by decide +kernel
theorem dX10_works_77 : decode cX10_works 77 = .ok (.istore 10, 2) := by decide +kernel
theorem dX10_works_79 : decode cX10_works 79 = .ok (.iload 10, 2) := by decide +kernel
theorem dX10_works_81 : decode cX10_works 81 = .ok (.bipush 123, 2) := by decide +kernel
theorem dX10_works_83 : decode cX10_works 83 = .ok (.if_icmp .ne 50, 3) := by decide +kernel
theorem dX10_works_86 : decode cX10_works 86 = .ok (.aload_n 0, 1) := by decide +kernel
theorem dX10_works_87 : decode cX10_works 87 = .ok (.getfield 60, 3) := by decide +kernel
theorem dX10_works_90 : decode cX10_works 90 = .ok (.iload 4, 2) := by decide +kernel
theorem dX10_works_92 : decode cX10_works 92 = .ok (.aload_n 0, 1) := by decide +kernel
theorem dX10_works_93 : decode cX10_works 93 = .ok (.getfield 22, 3) := by decide +kernel
theorem dX10_works_96 : decode cX10_works 96 = .ok (.iload 9, 2) := by decide +kernel
theorem dX10_works_98 : decode cX10_works 98 = .ok (.iconst 1, 1) := by decide +kernel
theorem dX10_works_99 : decode cX10_works 99 = .ok (.iadd, 1) := by decide +kernel
theorem dX10_works_100 : decode cX10_works 100 = .ok (.iaload, 1) := by decide +kernel
theorem dX10_works_101 : decode cX10_works 101 = .ok (.bipush 48, 2) := by decide +kernel
theorem dX10_works_103 : decode cX10_works 103 = .ok (.isub, 1) := by decide +kernel
theorem dX10_works_104 : decode cX10_works 104 = .ok (.iastore, 1) := by decide +kernel
theorem dX10_works_105 : decode cX10_works 105 = .ok (.aload_n 0, 1) := by decide +kernel
theorem dX10_works_106 : decode cX10_works 106 = .ok (.getfield 57, 3) := by decide +kernel
theorem dX10_works_109 : decode cX10_works 109 = .ok (.iload 4, 2) := by decide +kernel
theorem dX10_works_111 : decode cX10_works 111 = .ok (.aload_n 0, 1) := by decide +kernel
theorem dX10_works_112 : decode cX10_works 112 = .ok (.getfield 22, 3) := by decide +kernel
theorem dX10_works_115 : decode cX10_works 115 = .ok (.iload 9, 2) := by decide +kernel
theorem dX10_works_117 : decode cX10_works 117 = .ok (.iconst 3, 1) := by decide +kernel
theorem dX10_works_118 : decode cX10_works 118 = .ok (.iadd, 1) := by decide +kernel
theorem dX10_works_119 : decode cX10_works 119 = .ok (.iaload, 1) := by decide +kernel
theorem dX10_works_120 : decode cX10_works 120 = .ok (.bipush 48, 2) := by decide +kernel
theorem dX10_works_122 : decode cX10_works 122 = .ok (.isub, 1) := by decide +kernel
theorem dX10_works_123 : decode cX10_works 123 = .ok (.iastore, 1) := by decide +kernel
theorem dX10_works_124 : decode cX10_works 124 = .ok (.iinc 4 1, 3) := by decide +kernel
theorem dX10_works_127 : decode cX10_works 127 = .ok (.iinc 9 3, 3) := by decide +kernel
theorem dX10_works_130 : decode cX10_works 130 = .ok (.goto 235, 3) := by decide +kernel
theorem dX10_works_133 : decode cX10_works 133 = .ok (.iload 10, 2) := by decide +kernel
theorem dX10_works_135 : decode cX10_works 135 = .ok (.bipush 125, 2) := by decide +kernel
theorem dX10_works_137 : decode cX10_works 137 = .ok (.if_icmp .ne 9, 3) := by decide +kernel
theorem dX10_works_140 : decode cX10_works 140 = .ok (.iinc 4 (-1), 3) := by decide +kernel
theorem dX10_works_143 : decode cX10_works 143 = .ok (.goto 222, 3) := by decide +kernel
theorem dX10_works_146 : decode cX10_works 146 = .ok (.iload 10, 2) := by decide +kernel
theorem dX10_works_148 : decode cX10_works 148 = .ok (.bipush 124, 2) := by decide +kernel
theorem dX10_works_150 : decode cX10_works 150 = .ok (.if_icmp .ne 25, 3) := by decide +kernel
theorem dX10_works_153 : decode cX10_works 153 = .ok (.iinc 5 1, 3) := by decide +kernel
theorem dX10_works_156 : decode cX10_works 156 = .ok (.aload_n 0, 1) := by decide +kernel
theorem dX10_works_157 : decode cX10_works 157 = .ok (.getfield 50, 3) := by decide +kernel
theorem dX10_works_160 : decode cX10_works 160 = .ok (.iload 5, 2) := by decide +kernel
theorem dX10_works_162 : decode cX10_works 162 = .ok (.lconst 0, 1) := by decide +kernel
theorem dX10_works_163 : decode cX10_works 163 = .ok (.lastore, 1) := by decide +kernel
theorem dX10_works_164 : decode cX10_works 164 = .ok (.aload_n 0, 1) := by decide +kernel
theorem dX10_works_165 : decode cX10_works 165 = .ok (.getfield 53, 3) := by decide +kernel
theorem dX10_works_168 : decode cX10_works 168 = .ok (.iload 5, 2) := by decide +kernel
theorem dX10_works_170 : decode cX10_works 170 = .ok (.iconst 1, 1) := by decide +kernel
theorem dX10_works_171 : decode cX10_works 171 = .ok (.bastore, 1) := by decide +kernel
theorem dX10_works_172 : decode cX10_works 172 = .ok (.goto 193, 3) := by decide +kernel
theorem dX10_works_175 : decode cX10_works 175 = .ok (.iload 10, 2) := by decide +kernel
theorem dX10_works_177 : decode cX10_works 177 = .ok (.bipush 94, 2) := by decide +kernel
theorem dX10_works_179 : decode cX10_works 179 = .ok (.if_icmp .ne 9, 3) := by decide +kernel
theorem dX10_works_182 : decode cX10_works 182 = .ok (.iconst 1, 1) := by decide +kernel
theorem dX10_works_183 : decode cX10_works 183 = .ok (.istore 7, 2) := by decide +kernel
theorem dX10_works_185 : decode cX10_works 185 = .ok (.goto 180, 3) := by decide +kernel
theorem dX10_works_188 : decode cX10_works 188 = .ok (.iload 10, 2) := by decide +kernel
theorem dX10_works_190 : decode cX10_works 190 = .ok (.bipush 114, 2) := by decide +kernel
theorem dX10_works_192 : decode cX10_works 192 = .ok (.if_icmp .ne 9, 3) := by decide +kernel
theorem dX10_works_195 : decode cX10_works 195 = .ok (.iconst 1, 1) := by decide +kernel
theorem dX10_works_196 : decode cX10_works 196 = .ok (.istore 8, 2) := by decide +kernel
theorem dX10_works_198 : decode cX10_works 198 = .ok (.goto 167, 3) := by decide +kernel
theorem dX10_works_201 : decode cX10_works 201 = .ok (.iload 10, 2) := by decide +kernel
theorem dX10_works_203 : decode cX10_works 203 = .ok (.invokestatic 83, 3) := by decide +kernel
theorem dX10_works_206 : decode cX10_works 206 = .ok (.ifCond .lt 159, 3) := by decide +kernel
theorem dX10_works_209 : decode cX10_works 209 = .ok (.iconst 0, 1) := by decide +kernel
theorem dX10_works_210 : decode cX10_works 210 = .ok (.istore 11, 2) := by decide +kernel
theorem dX10_works_212 : decode cX10_works 212 = .ok (.iload 9, 2) := by decide +kernel
theorem dX10_works_214 : decode cX10_works 214 = .ok (.iconst 1, 1) := by decide +kernel
theorem dX10_works_215 : decode cX10_works 215 = .ok (.iadd, 1) := by decide +kernel
theorem dX10_works_216 : decode cX10_works 216 = .ok (.aload_n 0, 1) := by decide +kernel
theorem dX10_works_217 : decode cX10_works 217 = .ok (.getfield 124, 3) := by decide +kernel
theorem dX10_works_220 : decode cX10_works 220 = .ok (.if_icmp .ge 26, 3) := by decide +kernel
theorem dX10_works_223 : decode cX10_works 223 = .ok (.aload_n 0, 1) := by decide +kernel
theorem dX10_works_224 : decode cX10_works 224 = .ok (.getfield 22, 3) := by decide +kernel
theorem dX10_works_227 : decode cX10_works 227 = .ok (.iload 9, 2) := by decide +kernel
theorem dX10_works_229 : decode cX10_works 229 = .ok (.iconst 1, 1) := by decide +kernel
theorem dX10_works_230 : decode cX10_works 230 = .ok (.iadd, 1) := by decide +kernel
theorem dX10_works_231 : decode cX10_works 231 = .ok (.iaload, 1) := by decide +kernel
theorem dX10_works_232 : decode cX10_works 232 = .ok (.bipush 46, 2) := by decide +kernel
theorem dX10_works_234 : decode cX10_works 234 = .ok (.if_icmp .ne 12, 3) := by decide +kernel
theorem dX10_works_237 : decode cX10_works 237 = .ok (.iinc 11 1, 3) := by decide +kernel
theorem dX10_works_240 : decode cX10_works 240 = .ok (.iinc 9 1, 3) := by decide +kernel
theorem dX10_works_243 : decode cX10_works 243 = .ok (.goto (-31), 3) := by decide +kernel
theorem dX10_works_246 : decode cX10_works 246 = .ok (.aload_n 0, 1) := by decide +kernel
theorem dX10_works_247 : decode cX10_works 247 = .ok (.iload 10, 2) := by decide +kernel
theorem dX10_works_249 : decode cX10_works 249 = .ok (.iload 11, 2) := by decide +kernel
theorem dX10_works_251 : decode cX10_works 251 = .ok (.iload 4, 2) := by decide +kernel
theorem dX10_works_253 : decode cX10_works 253 = .ok (.invokevirtual 155, 3) := by decide +kernel
theorem dX10_works_256 : decode cX10_works 256 = .ok (.lstore 12, 2) := by decide +kernel
theorem dX10_works_258 : decode cX10_works 258 = .ok (.aload_n 0, 1) := by decide +kernel
theorem dX10_works_259 : decode cX10_works 259 = .ok (.dup, 1) := by decide +kernel
theorem dX10_works_260 : decode cX10_works 260 = .ok (.getfield 152, 3) := by decide +kernel
theorem dX10_works_263 : decode cX10_works 263 = .ok (.iconst 1, 1) := by decide +kernel
theorem dX10_works_264 : decode cX10_works 264 = .ok (.iadd, 1) := by decide +kernel
theorem dX10_works_265 : decode cX10_works 265 = .ok (.putfield 152, 3) := by decide +kernel
theorem dX10_works_268 : decode cX10_works 268 = .ok (.iload 8, 2) := by decide +kernel
theorem dX10_works_270 : decode cX10_works 270 = .ok (.ifCond .ne 27, 3) := by decide +kernel
theorem dX10_works_273 : decode cX10_works 273 = .ok (.aload_n 0, 1) := by decide +kernel
theorem dX10_works_274 : decode cX10_works 274 = .ok (.getfield 152, 3) := by decide +kernel
theorem dX10_works_277 : decode cX10_works 277 = .ok (.sipush 300, 3) := by decide +kernel
theorem dX10_works_280 : decode cX10_works 280 = .ok (.if_icmp .gt 17, 3) := by decide +kernel
theorem dX10_works_283 : decode cX10_works 283 = .ok (.aload_n 0, 1) := by decide +kernel
theorem dX10_works_284 : decode cX10_works 284 = .ok (.iload_n 1, 1) := by decide +kernel
theorem dX10_works_285 : decode cX10_works 285 = .ok (.lload_n 2, 1) := by decide +kernel
theorem dX10_works_286 : decode cX10_works 286 = .ok (.lload 12, 2) := by decide +kernel
theorem dX10_works_288 : decode cX10_works 288 = .ok (.iload 7, 2) := by decide +kernel
theorem dX10_works_290 : decode cX10_works 290 = .ok (.iload 5, 2) := by decide +kernel
theorem dX10_works_292 : decode cX10_works 292 = .ok (.iload 6, 2) := by decide +kernel
theorem dX10_works_294 : decode cX10_works 294 = .ok (.invokevirtual 159, 3) := by decide +kernel
theorem dX10_works_297 : decode cX10_works 297 = .ok (.iload 8, 2) := by decide +kernel
theorem dX10_works_299 : decode cX10_works 299 = .ok (.ifCond .ne 32, 3) := by decide +kernel
theorem dX10_works_302 : decode cX10_works 302 = .ok (.iload 9, 2) := by decide +kernel
theorem dX10_works_304 : decode cX10_works 304 = .ok (.iconst 1, 1) := by decide +kernel
theorem dX10_works_305 : decode cX10_works 305 = .ok (.iadd, 1) := by decide +kernel
theorem dX10_works_306 : decode cX10_works 306 = .ok (.aload_n 0, 1) := by decide +kernel
theorem dX10_works_307 : decode cX10_works 307 = .ok (.getfield 124, 3) := by decide +kernel
theorem dX10_works_310 : decode cX10_works 310 = .ok (.if_icmp .ge 21, 3) := by decide +kernel
theorem dX10_works_313 : decode cX10_works 313 = .ok (.aload_n 0, 1) := by decide +kernel
theorem dX10_works_314 : decode cX10_works 314 = .ok (.getfield 22, 3) := by decide +kernel
theorem dX10_works_317 : decode cX10_works 317 = .ok (.iload 9, 2) := by decide +kernel
theorem dX10_works_319 : decode cX10_works 319 = .ok (.iconst 1, 1) := by decide +kernel
theorem dX10_works_320 : decode cX10_works 320 = .ok (.iadd, 1) := by decide +kernel
theorem dX10_works_321 : decode cX10_works 321 = .ok (.iaload, 1) := by decide +kernel
theorem dX10_works_322 : decode cX10_works 322 = .ok (.bipush 126, 2) := by decide +kernel
theorem dX10_works_324 : decode cX10_works 324 = .ok (.if_icmp .ne 7, 3) := by decide +kernel
theorem dX10_works_327 : decode cX10_works 327 = .ok (.iconst 1, 1) := by decide +kernel
theorem dX10_works_328 : decode cX10_works 328 = .ok (.goto 4, 3) := by decide +kernel
theorem dX10_works_331 : decode cX10_works 331 = .ok (.iconst 0, 1) := by decide +kernel
theorem dX10_works_332 : decode cX10_works 332 = .ok (.istore 6, 2) := by decide +kernel
theorem dX10_works_334 : decode cX10_works 334 = .ok (.iconst 0, 1) := by decide +kernel
theorem dX10_works_335 : decode cX10_works 335 = .ok (.istore 8, 2) := by decide +kernel
theorem dX10_works_337 : decode cX10_works 337 = .ok (.iconst 0, 1) := by decide +kernel
theorem dX10_works_338 : decode cX10_works 338 = .ok (.istore 7, 2) := by decide +kernel
theorem dX10_works_340 : decode cX10_works 340 = .ok (.lload_n 2, 1) := by decide +kernel
theorem dX10_works_341 : decode cX10_works 341 = .ok (.lload 12, 2) := by decide +kernel
theorem dX10_works_343 : decode cX10_works 343 = .ok (.ladd, 1) := by decide +kernel
theorem dX10_works_344 : decode cX10_works 344 = .ok (.lstore_n 2, 1) := by decide +kernel
theorem dX10_works_345 : decode cX10_works 345 = .ok (.aload_n 0, 1) := by decide +kernel
theorem dX10_works_346 : decode cX10_works 346 = .ok (.getfield 50, 3) := by decide +kernel
theorem dX10_works_349 : decode cX10_works 349 = .ok (.iload 5, 2) := by decide +kernel
theorem dX10_works_351 : decode cX10_works 351 = .ok (.dup2, 1) := by decide +kernel
theorem dX10_works_352 : decode cX10_works 352 = .ok (.laload, 1) := by decide +kernel
theorem dX10_works_353 : decode cX10_works 353 = .ok (.lload 12, 2) := by decide +kernel
theorem dX10_works_355 : decode cX10_works 355 = .ok (.ladd, 1) := by decide +kernel
theorem dX10_works_356 : decode cX10_works 356 = .ok (.lastore, 1) := by decide +kernel
theorem dX10_works_357 : decode cX10_works 357 = .ok (.aload_n 0, 1) := by decide +kernel
theorem dX10_works_358 : decode cX10_works 358 = .ok (.getfield 53, 3) := by decide +kernel
theorem dX10_works_361 : decode cX10_works 361 = .ok (.iload 5, 2) := by decide +kernel
theorem dX10_works_363 : decode cX10_works 363 = .ok (.iconst 0, 1) := by decide +kernel
theorem dX10_works_364 : decode cX10_works 364 = .ok (.bastore, 1) := by decide +kernel
theorem dX10_works_365 : decode cX10_works 365 = .ok (.iinc 9 1, 3) := by decide +kernel
theorem dX10_works_368 : decode cX10_works 368 = .ok (.goto (-317), 3) := by decide +kernel
theorem dX10_works_371 : decode cX10_works 371 = .ok (.aload_n 0, 1) := by decide +kernel
theorem dX10_works_372 : decode cX10_works 372 = .ok (.getfield 44, 3) := by decide +kernel
theorem dX10_works_375 : decode cX10_works 375 = .ok (.iload_n 1, 1) := by decide +kernel
theorem dX10_works_376 : decode cX10_works 376 = .ok (.lload_n 2, 1) := by decide +kernel
theorem dX10_works_377 : decode cX10_works 377 = .ok (.lastore, 1) := by decide +kernel
theorem dX10_works_378 : decode cX10_works 378 = .ok (.aload_n 0, 1) := by decide +kernel
theorem dX10_works_379 : decode cX10_works 379 = .ok (.getfield 47, 3) := by decide +kernel
theorem dX10_works_382 : decode cX10_works 382 = .ok (.iload_n 1, 1) := by decide +kernel
theorem dX10_works_383 : decode cX10_works 383 = .ok (.iload 5, 2) := by decide +kernel
theorem dX10_works_385 : decode cX10_works 385 = .ok (.iconst 1, 1) := by decide +kernel
theorem dX10_works_386 : decode cX10_works 386 = .ok (.iadd, 1) := by decide +kernel
theorem dX10_works_387 : decode cX10_works 387 = .ok (.iastore, 1) := by decide +kernel
theorem dX10_works_388 : decode cX10_works 388 = .ok (.return_, 1) := by decide +kernel
theorem dX10_type_0 : decode cX10_type 0 = .ok (.iload_n 1, 1) := by decide +kernel
theorem dX10_type_1 : decode cX10_type 1 = .ok (.bipush 32, 2) := by decide +kernel
theorem dX10_type_3 : decode cX10_type 3 = .ok (.bipush 126, 2) := by decide +kernel
theorem dX10_type_5 : decode cX10_type 5 = .ok (.invokestatic 76, 3) := by decide +kernel
theorem dX10_type_8 : decode cX10_type 8 = .ok (.ifCond .ne 5, 3) := by decide +kernel
theorem dX10_type_11 : decode cX10_type 11 = .ok (.iconst (-1), 1) := by decide +kernel
theorem dX10_type_12 : decode cX10_type 12 = .ok (.ireturn, 1) := by decide +kernel
theorem dX10_type_13 : decode cX10_type 13 = .ok (.aload_n 0, 1) := by decide +kernel
theorem dX10_type_14 : decode cX10_type 14 = .ok (.getfield 114, 3) := by decide +kernel
theorem dX10_type_17 : decode cX10_type 17 = .ok (.bipush 100, 2) := by decide +kernel
theorem dX10_type_19 : decode cX10_type 19 = .ok (.if_icmp .ne 6, 3) := by decide +kernel
theorem dX10_type_22 : decode cX10_type 22 = .ok (.bipush (-3), 2) := by decide +kernel
theorem dX10_type_24 : decode cX10_type 24 = .ok (.ireturn, 1) := by decide +kernel
theorem dX10_type_25 : decode cX10_type 25 = .ok (.aload_n 0, 1) := by decide +kernel
theorem dX10_type_26 : decode cX10_type 26 = .ok (.getfield 16, 3) := by decide +kernel
theorem dX10_type_29 : decode cX10_type 29 = .ok (.aload_n 0, 1) := by decide +kernel
theorem dX10_type_30 : decode cX10_type 30 = .ok (.getfield 114, 3) := by decide +kernel
theorem dX10_type_33 : decode cX10_type 33 = .ok (.iload_n 1, 1) := by decide +kernel
theorem dX10_type_34 : decode cX10_type 34 = .ok (.iastore, 1) := by decide +kernel
theorem dX10_type_35 : decode cX10_type 35 = .ok (.aload_n 0, 1) := by decide +kernel
theorem dX10_type_36 : decode cX10_type 36 = .ok (.dup, 1) := by decide +kernel
theorem dX10_type_37 : decode cX10_type 37 = .ok (.getfield 114, 3) := by decide +kernel
theorem dX10_type_40 : decode cX10_type 40 = .ok (.iconst 1, 1) := by decide +kernel
theorem dX10_type_41 : decode cX10_type 41 = .ok (.iadd, 1) := by decide +kernel
theorem dX10_type_42 : decode cX10_type 42 = .ok (.putfield 114, 3) := by decide +kernel
theorem dX10_type_45 : decode cX10_type 45 = .ok (.aload_n 0, 1) := by decide +kernel
theorem dX10_type_46 : decode cX10_type 46 = .ok (.getfield 114, 3) := by decide +kernel
theorem dX10_type_49 : decode cX10_type 49 = .ok (.ireturn, 1) := by decide +kernel
theorem dX10_clear_0 : decode cX10_clear 0 = .ok (.aload_n 0, 1) := by decide +kernel
theorem dX10_clear_1 : decode cX10_clear 1 = .ok (.getfield 114, 3) := by decide +kernel
theorem dX10_clear_4 : decode cX10_clear 4 = .ok (.istore_n 1, 1) := by decide +kernel
theorem dX10_clear_5 : decode cX10_clear 5 = .ok (.aload_n 0, 1) := by decide +kernel
theorem dX10_clear_6 : decode cX10_clear 6 = .ok (.iconst 0, 1) := by decide +kernel
theorem dX10_clear_7 : decode cX10_clear 7 = .ok (.putfield 114, 3) := by decide +kernel
theorem dX10_clear_10 : decode cX10_clear 10 = .ok (.iload_n 1, 1) := by decide +kernel
theorem dX10_clear_11 : decode cX10_clear 11 = .ok (.ireturn, 1) := by decide +kernel
theorem dX10_takes_0 : decode cX10_takes 0 = .ok (.aload_n 0, 1) := by decide +kernel
theorem dX10_takes_1 : decode cX10_takes 1 = .ok (.getfield 7, 3) := by decide +kernel
theorem dX10_takes_4 : decode cX10_takes 4 = .ok (.bipush 101, 2) := by decide +kernel
theorem dX10_takes_6 : decode cX10_takes 6 = .ok (.iload_n 1, 1) := by decide +kernel
theorem dX10_takes_7 : decode cX10_takes 7 = .ok (.imul, 1) := by decide +kernel
theorem dX10_takes_8 : decode cX10_takes 8 = .ok (.iload_n 3, 1) := by decide +kernel
theorem dX10_takes_9 : decode cX10_takes 9 = .ok (.iastore, 1) := by decide +kernel
theorem dX10_takes_10 : decode cX10_takes 10 = .ok (.iconst 0, 1) := by decide +kernel
theorem dX10_takes_11 : decode cX10_takes 11 = .ok (.istore 4, 2) := by decide +kernel
theorem dX10_takes_13 : decode cX10_takes 13 = .ok (.iload 4, 2) := by decide +kernel
theorem dX10_takes_15 : decode cX10_takes 15 = .ok (.bipush 100, 2) := by decide +kernel
theorem dX10_takes_17 : decode cX10_takes 17 = .ok (.if_icmp .ge 37, 3) := by decide +kernel
theorem dX10_takes_20 : decode cX10_takes 20 = .ok (.aload_n 0, 1) := by decide +kernel
theorem dX10_takes_21 : decode cX10_takes 21 = .ok (.getfield 7, 3) := by decide +kernel
theorem dX10_takes_24 : decode cX10_takes 24 = .ok (.bipush 101, 2) := by decide +kernel
theorem dX10_takes_26 : decode cX10_takes 26 = .ok (.iload_n 1, 1) := by decide +kernel
theorem dX10_takes_27 : decode cX10_takes 27 = .ok (.imul, 1) := by decide +kernel
theorem dX10_takes_28 : decode cX10_takes 28 = .ok (.iconst 1, 1) := by decide +kernel
theorem dX10_takes_29 : decode cX10_takes 29 = .ok (.iadd, 1) := by decide +kernel
theorem dX10_takes_30 : decode cX10_takes 30 = .ok (.iload 4, 2) := by decide +kernel
theorem dX10_takes_32 : decode cX10_takes 32 = .ok (.iadd, 1) := by decide +kernel
theorem dX10_takes_33 : decode cX10_takes 33 = .ok (.iload 4, 2) := by decide +kernel
theorem dX10_takes_35 : decode cX10_takes 35 = .ok (.iload_n 3, 1) := by decide +kernel
theorem dX10_takes_36 : decode cX10_takes 36 = .ok (.if_icmp .ge 10, 3) := by decide +kernel
theorem dX10_takes_39 : decode cX10_takes 39 = .ok (.aload_n 2, 1) := by decide +kernel
theorem dX10_takes_40 : decode cX10_takes 40 = .ok (.iload 4, 2) := by decide +kernel
theorem dX10_takes_42 : decode cX10_takes 42 = .ok (.iaload, 1) := by decide +kernel
theorem dX10_takes_43 : decode cX10_takes 43 = .ok (.goto 4, 3) := by decide +kernel
theorem dX10_takes_46 : decode cX10_takes 46 = .ok (.iconst 0, 1) := by decide +kernel
theorem dX10_takes_47 : decode cX10_takes 47 = .ok (.iastore, 1) := by decide +kernel
theorem dX10_takes_48 : decode cX10_takes 48 = .ok (.iinc 4 1, 3) := by decide +kernel
theorem dX10_takes_51 : decode cX10_takes 51 = .ok (.goto (-38), 3) := by decide +kernel
theorem dX10_takes_54 : decode cX10_takes 54 = .ok (.return_, 1) := by decide +kernel
theorem dX10_read_0 : decode cX10_read 0 = .ok (.iload_n 1, 1) := by decide +kernel
theorem dX10_read_1 : decode cX10_read 1 = .ok (.invokestatic 163, 3) := by decide +kernel
theorem dX10_read_4 : decode cX10_read 4 = .ok (.ifCond .ne 5, 3) := by decide +kernel
theorem dX10_read_7 : decode cX10_read 7 = .ok (.iconst (-1), 1) := by decide +kernel
theorem dX10_read_8 : decode cX10_read 8 = .ok (.ireturn, 1) := by decide +kernel
theorem dX10_read_9 : decode cX10_read 9 = .ok (.aload_n 0, 1) := by decide +kernel
theorem dX10_read_10 : decode cX10_read 10 = .ok (.invokevirtual 166, 3) := by decide +kernel
theorem dX10_read_13 : decode cX10_read 13 = .ok (.istore_n 2, 1) := by decide +kernel
theorem dX10_read_14 : decode cX10_read 14 = .ok (.iload_n 2, 1) := by decide +kernel
theorem dX10_read_15 : decode cX10_read 15 = .ok (.ifCond .lt 8, 3) := by decide +kernel
theorem dX10_read_18 : decode cX10_read 18 = .ok (.bipush (-100), 2) := by decide +kernel
theorem dX10_read_20 : decode cX10_read 20 = .ok (.iload_n 2, 1) := by decide +kernel
theorem dX10_read_21 : decode cX10_read 21 = .ok (.isub, 1) := by decide +kernel
theorem dX10_read_22 : decode cX10_read 22 = .ok (.ireturn, 1) := by decide +kernel
theorem dX10_read_23 : decode cX10_read 23 = .ok (.iconst 0, 1) := by decide +kernel
theorem dX10_read_24 : decode cX10_read 24 = .ok (.istore_n 3, 1) := by decide +kernel
theorem dX10_read_25 : decode cX10_read 25 = .ok (.iload_n 3, 1) := by decide +kernel
theorem dX10_read_26 : decode cX10_read 26 = .ok (.bipush 101, 2) := by decide +kernel
theorem dX10_read_28 : decode cX10_read 28 = .ok (.if_icmp .ge 26, 3) := by decide +kernel
theorem dX10_read_31 : decode cX10_read 31 = .ok (.aload_n 0, 1) := by decide +kernel
theorem dX10_read_32 : decode cX10_read 32 = .ok (.getfield 63, 3) := by decide +kernel
theorem dX10_read_35 : decode cX10_read 35 = .ok (.iload_n 3, 1) := by decide +kernel
theorem dX10_read_36 : decode cX10_read 36 = .ok (.aload_n 0, 1) := by decide +kernel
theorem dX10_read_37 : decode cX10_read 37 = .ok (.getfield 7, 3) := by decide +kernel
theorem dX10_read_40 : decode cX10_read 40 = .ok (.bipush 101, 2) := by decide +kernel
theorem dX10_read_42 : decode cX10_read 42 = .ok (.iload_n 1, 1) := by decide +kernel
theorem dX10_read_43 : decode cX10_read 43 = .ok (.imul, 1) := by decide +kernel
theorem dX10_read_44 : decode cX10_read 44 = .ok (.iload_n 3, 1) := by decide +kernel
theorem dX10_read_45 : decode cX10_read 45 = .ok (.iadd, 1) := by decide +kernel
theorem dX10_read_46 : decode cX10_read 46 = .ok (.iaload, 1) := by decide +kernel
theorem dX10_read_47 : decode cX10_read 47 = .ok (.iastore, 1) := by decide +kernel
theorem dX10_read_48 : decode cX10_read 48 = .ok (.iinc 3 1, 3) := by decide +kernel
theorem dX10_read_51 : decode cX10_read 51 = .ok (.goto (-26), 3) := by decide +kernel
theorem dX10_read_54 : decode cX10_read 54 = .ok (.aload_n 0, 1) := by decide +kernel
theorem dX10_read_55 : decode cX10_read 55 = .ok (.iload_n 1, 1) := by decide +kernel
theorem dX10_read_56 : decode cX10_read 56 = .ok (.aload_n 0, 1) := by decide +kernel
theorem dX10_read_57 : decode cX10_read 57 = .ok (.getfield 16, 3) := by decide +kernel
theorem dX10_read_60 : decode cX10_read 60 = .ok (.aload_n 0, 1) := by decide +kernel
theorem dX10_read_61 : decode cX10_read 61 = .ok (.getfield 114, 3) := by decide +kernel
theorem dX10_read_64 : decode cX10_read 64 = .ok (.invokevirtual 170, 3) := by decide +kernel
theorem dX10_read_67 : decode cX10_read 67 = .ok (.aload_n 0, 1) := by decide +kernel
theorem dX10_read_68 : decode cX10_read 68 = .ok (.iload_n 1, 1) := by decide +kernel
theorem dX10_read_69 : decode cX10_read 69 = .ok (.invokevirtual 174, 3) := by decide +kernel
theorem dX10_read_72 : decode cX10_read 72 = .ok (.aload_n 0, 1) := by decide +kernel
theorem dX10_read_73 : decode cX10_read 73 = .ok (.getfield 152, 3) := by decide +kernel
theorem dX10_read_76 : decode cX10_read 76 = .ok (.sipush 300, 3) := by decide +kernel
theorem dX10_read_79 : decode cX10_read 79 = .ok (.if_icmp .le 7, 3) := by decide +kernel
theorem dX10_read_82 : decode cX10_read 82 = .ok (.iconst 1, 1) := by decide +kernel
theorem dX10_read_83 : decode cX10_read 83 = .ok (.goto 4, 3) := by decide +kernel
theorem dX10_read_86 : decode cX10_read 86 = .ok (.iconst 0, 1) := by decide +kernel
theorem dX10_read_87 : decode cX10_read 87 = .ok (.istore_n 3, 1) := by decide +kernel
theorem dX10_read_88 : decode cX10_read 88 = .ok (.iconst 0, 1) := by decide +kernel
theorem dX10_read_89 : decode cX10_read 89 = .ok (.istore 4, 2) := by decide +kernel
theorem dX10_read_91 : decode cX10_read 91 = .ok (.iload 4, 2) := by decide +kernel
theorem dX10_read_93 : decode cX10_read 93 = .ok (.bipush 101, 2) := by decide +kernel
theorem dX10_read_95 : decode cX10_read 95 = .ok (.if_icmp .ge 28, 3) := by decide +kernel
theorem dX10_read_98 : decode cX10_read 98 = .ok (.aload_n 0, 1) := by decide +kernel
theorem dX10_read_99 : decode cX10_read 99 = .ok (.getfield 7, 3) := by decide +kernel
theorem dX10_read_102 : decode cX10_read 102 = .ok (.bipush 101, 2) := by decide +kernel
theorem dX10_read_104 : decode cX10_read 104 = .ok (.iload_n 1, 1) := by decide +kernel
theorem dX10_read_105 : decode cX10_read 105 = .ok (.imul, 1) := by decide +kernel
theorem dX10_read_106 : decode cX10_read 106 = .ok (.iload 4, 2) := by decide +kernel
theorem dX10_read_108 : decode cX10_read 108 = .ok (.iadd, 1) := by decide +kernel
theorem dX10_read_109 : decode cX10_read 109 = .ok (.aload_n 0, 1) := by decide +kernel
theorem dX10_read_110 : decode cX10_read 110 = .ok (.getfield 63, 3) := by decide +kernel
theorem dX10_read_113 : decode cX10_read 113 = .ok (.iload 4, 2) := by decide +kernel
theorem dX10_read_115 : decode cX10_read 115 = .ok (.iaload, 1) := by decide +kernel
theorem dX10_read_116 : decode cX10_read 116 = .ok (.iastore, 1) := by decide +kernel
theorem dX10_read_117 : decode cX10_read 117 = .ok (.iinc 4 1, 3) := by decide +kernel
theorem dX10_read_120 : decode cX10_read 120 = .ok (.goto (-29), 3) := by decide +kernel
theorem dX10_read_123 : decode cX10_read 123 = .ok (.iload_n 3, 1) := by decide +kernel
theorem dX10_read_124 : decode cX10_read 124 = .ok (.ifCond .eq 6, 3) := by decide +kernel
theorem dX10_read_127 : decode cX10_read 127 = .ok (.bipush (-3), 2) := by decide +kernel
theorem dX10_read_129 : decode cX10_read 129 = .ok (.ireturn, 1) := by decide +kernel
theorem dX10_read_130 : decode cX10_read 130 = .ok (.aload_n 0, 1) := by decide +kernel
theorem dX10_read_131 : decode cX10_read 131 = .ok (.invokevirtual 177, 3) := by decide +kernel
theorem dX10_read_134 : decode cX10_read 134 = .ok (.aload_n 0, 1) := by decide +kernel
theorem dX10_read_135 : decode cX10_read 135 = .ok (.iload_n 1, 1) := by decide +kernel
theorem dX10_read_136 : decode cX10_read 136 = .ok (.aload_n 0, 1) := by decide +kernel
theorem dX10_read_137 : decode cX10_read 137 = .ok (.getfield 16, 3) := by decide +kernel
theorem dX10_read_140 : decode cX10_read 140 = .ok (.aload_n 0, 1) := by decide +kernel
theorem dX10_read_141 : decode cX10_read 141 = .ok (.getfield 114, 3) := by decide +kernel
theorem dX10_read_144 : decode cX10_read 144 = .ok (.invokevirtual 170, 3) := by decide +kernel
theorem dX10_read_147 : decode cX10_read 147 = .ok (.aload_n 0, 1) := by decide +kernel
theorem dX10_read_148 : decode cX10_read 148 = .ok (.iconst 0, 1) := by decide +kernel
theorem dX10_read_149 : decode cX10_read 149 = .ok (.putfield 114, 3) := by decide +kernel
theorem dX10_read_152 : decode cX10_read 152 = .ok (.aload_n 0, 1) := by decide +kernel
theorem dX10_read_153 : decode cX10_read 153 = .ok (.getfield 41, 3) := by decide +kernel
theorem dX10_read_156 : decode cX10_read 156 = .ok (.iload_n 1, 1) := by decide +kernel
theorem dX10_read_157 : decode cX10_read 157 = .ok (.iaload, 1) := by decide +kernel
theorem dX10_read_158 : decode cX10_read 158 = .ok (.ireturn, 1) := by decide +kernel
theorem dX10_copy_0 : decode cX10_copy 0 = .ok (.iload_n 1, 1) := by decide +kernel
theorem dX10_copy_1 : decode cX10_copy 1 = .ok (.invokestatic 163, 3) := by decide +kernel
theorem dX10_copy_4 : decode cX10_copy 4 = .ok (.ifCond .eq 10, 3) := by decide +kernel
theorem dX10_copy_7 : decode cX10_copy 7 = .ok (.iload_n 2, 1) := by decide +kernel
theorem dX10_copy_8 : decode cX10_copy 8 = .ok (.invokestatic 163, 3) := by decide +kernel
theorem dX10_copy_11 : decode cX10_copy 11 = .ok (.ifCond .ne 5, 3) := by decide +kernel
theorem dX10_copy_14 : decode cX10_copy 14 = .ok (.iconst (-1), 1) := by decide +kernel
theorem dX10_copy_15 : decode cX10_copy 15 = .ok (.ireturn, 1) := by decide +kernel
theorem dX10_copy_16 : decode cX10_copy 16 = .ok (.aload_n 0, 1) := by decide +kernel
theorem dX10_copy_17 : decode cX10_copy 17 = .ok (.invokevirtual 177, 3) := by decide +kernel
theorem dX10_copy_20 : decode cX10_copy 20 = .ok (.iconst 0, 1) := by decide +kernel
theorem dX10_copy_21 : decode cX10_copy 21 = .ok (.istore_n 3, 1) := by decide +kernel
theorem dX10_copy_22 : decode cX10_copy 22 = .ok (.iload_n 3, 1) := by decide +kernel
theorem dX10_copy_23 : decode cX10_copy 23 = .ok (.bipush 101, 2) := by decide +kernel
theorem dX10_copy_25 : decode cX10_copy 25 = .ok (.if_icmp .ge 31, 3) := by decide +kernel
theorem dX10_copy_28 : decode cX10_copy 28 = .ok (.aload_n 0, 1) := by decide +kernel
theorem dX10_copy_29 : decode cX10_copy 29 = .ok (.getfield 7, 3) := by decide +kernel
theorem dX10_copy_32 : decode cX10_copy 32 = .ok (.bipush 101, 2) := by decide +kernel
theorem dX10_copy_34 : decode cX10_copy 34 = .ok (.iload_n 2, 1) := by decide +kernel
theorem dX10_copy_35 : decode cX10_copy 35 = .ok (.imul, 1) := by decide +kernel
theorem dX10_copy_36 : decode cX10_copy 36 = .ok (.iload_n 3, 1) := by decide +kernel
theorem dX10_copy_37 : decode cX10_copy 37 = .ok (.iadd, 1) := by decide +kernel
theorem dX10_copy_38 : decode cX10_copy 38 = .ok (.aload_n 0, 1) := by decide +kernel
theorem dX10_copy_39 : decode cX10_copy 39 = .ok (.getfield 7, 3) := by decide +kernel
theorem dX10_copy_42 : decode cX10_copy 42 = .ok (.bipush 101, 2) := by decide +kernel
theorem dX10_copy_44 : decode cX10_copy 44 = .ok (.iload_n 1, 1) := by decide +kernel
theorem dX10_copy_45 : decode cX10_copy 45 = .ok (.imul, 1) := by decide +kernel
theorem dX10_copy_46 : decode cX10_copy 46 = .ok (.iload_n 3, 1) := by decide +kernel
theorem dX10_copy_47 : decode cX10_copy 47 = .ok (.iadd, 1) := by decide +kernel
theorem dX10_copy_48 : decode cX10_copy 48 = .ok (.iaload, 1) := by decide +kernel
theorem dX10_copy_49 : decode cX10_copy 49 = .ok (.iastore, 1) := by decide +kernel
theorem dX10_copy_50 : decode cX10_copy 50 = .ok (.iinc 3 1, 3) := by decide +kernel
theorem dX10_copy_53 : decode cX10_copy 53 = .ok (.goto (-31), 3) := by decide +kernel
theorem dX10_copy_56 : decode cX10_copy 56 = .ok (.aload_n 0, 1) := by decide +kernel
theorem dX10_copy_57 : decode cX10_copy 57 = .ok (.iload_n 2, 1) := by decide +kernel
theorem dX10_copy_58 : decode cX10_copy 58 = .ok (.invokevirtual 174, 3) := by decide +kernel
theorem dX10_copy_61 : decode cX10_copy 61 = .ok (.aload_n 0, 1) := by decide +kernel
theorem dX10_copy_62 : decode cX10_copy 62 = .ok (.getfield 41, 3) := by decide +kernel
theorem dX10_copy_65 : decode cX10_copy 65 = .ok (.iload_n 2, 1) := by decide +kernel
theorem dX10_copy_66 : decode cX10_copy 66 = .ok (.iaload, 1) := by decide +kernel
theorem dX10_copy_67 : decode cX10_copy 67 = .ok (.ireturn, 1) := by decide +kernel
theorem dX10_spread_0 : decode cX10_spread 0 = .ok (.iload_n 1, 1) := by decide +kernel
theorem dX10_spread_1 : decode cX10_spread 1 = .ok (.invokestatic 163, 3) := by decide +kernel
theorem dX10_spread_4 : decode cX10_spread 4 = .ok (.ifCond .eq 30, 3) := by decide +kernel
theorem dX10_spread_7 : decode cX10_spread 7 = .ok (.iload_n 3, 1) := by decide +kernel
theorem dX10_spread_8 : decode cX10_spread 8 = .ok (.iconst 1, 1) := by decide +kernel
theorem dX10_spread_9 : decode cX10_spread 9 = .ok (.bipush 32, 2) := by decide +kernel
theorem dX10_spread_11 : decode cX10_spread 11 = .ok (.invokestatic 76, 3) := by decide +kernel
theorem dX10_spread_14 : decode cX10_spread 14 = .ok (.ifCond .eq 20, 3) := by decide +kernel
theorem dX10_spread_17 : decode cX10_spread 17 = .ok (.iload_n 2, 1) := by decide +kernel
theorem dX10_spread_18 : decode cX10_spread 18 = .ok (.iconst 0, 1) := by decide +kernel
theorem dX10_spread_19 : decode cX10_spread 19 = .ok (.iload_n 3, 1) := by decide +kernel
theorem dX10_spread_20 : decode cX10_spread 20 = .ok (.invokestatic 76, 3) := by decide +kernel
theorem dX10_spread_23 : decode cX10_spread 23 = .ok (.ifCond .eq 11, 3) := by decide +kernel
theorem dX10_spread_26 : decode cX10_spread 26 = .ok (.iload 4, 2) := by decide +kernel
theorem dX10_spread_28 : decode cX10_spread 28 = .ok (.invokestatic 83, 3) := by decide +kernel
theorem dX10_spread_31 : decode cX10_spread 31 = .ok (.ifCond .ge 5, 3) := by decide +kernel
theorem dX10_spread_34 : decode cX10_spread 34 = .ok (.iconst (-1), 1) := by decide +kernel
theorem dX10_spread_35 : decode cX10_spread 35 = .ok (.ireturn, 1) := by decide +kernel
theorem dX10_spread_36 : decode cX10_spread 36 = .ok (.aload_n 0, 1) := by decide +kernel
theorem dX10_spread_37 : decode cX10_spread 37 = .ok (.invokevirtual 177, 3) := by decide +kernel
theorem dX10_spread_40 : decode cX10_spread 40 = .ok (.iconst 0, 1) := by decide +kernel
theorem dX10_spread_41 : decode cX10_spread 41 = .ok (.istore 5, 2) := by decide +kernel
theorem dX10_spread_43 : decode cX10_spread 43 = .ok (.iconst 0, 1) := by decide +kernel
theorem dX10_spread_44 : decode cX10_spread 44 = .ok (.istore 6, 2) := by decide +kernel
theorem dX10_spread_46 : decode cX10_spread 46 = .ok (.iload 6, 2) := by decide +kernel
theorem dX10_spread_48 : decode cX10_spread 48 = .ok (.iload_n 3, 1) := by decide +kernel
theorem dX10_spread_49 : decode cX10_spread 49 = .ok (.if_icmp .ge 43, 3) := by decide +kernel
theorem dX10_spread_52 : decode cX10_spread 52 = .ok (.iload 6, 2) := by decide +kernel
theorem dX10_spread_54 : decode cX10_spread 54 = .ok (.iload_n 2, 1) := by decide +kernel
theorem dX10_spread_55 : decode cX10_spread 55 = .ok (.imul, 1) := by decide +kernel
theorem dX10_spread_56 : decode cX10_spread 56 = .ok (.iload_n 3, 1) := by decide +kernel
theorem dX10_spread_57 : decode cX10_spread 57 = .ok (.irem, 1) := by decide +kernel
theorem dX10_spread_58 : decode cX10_spread 58 = .ok (.iload_n 2, 1) := by decide +kernel
theorem dX10_spread_59 : decode cX10_spread 59 = .ok (.if_icmp .lt 15, 3) := by decide +kernel
theorem dX10_spread_62 : decode cX10_spread 62 = .ok (.aload_n 0, 1) := by decide +kernel
theorem dX10_spread_63 : decode cX10_spread 63 = .ok (.getfield 66, 3) := by decide +kernel
theorem dX10_spread_66 : decode cX10_spread 66 = .ok (.iload 5, 2) := by decide +kernel
theorem dX10_spread_68 : decode cX10_spread 68 = .ok (.bipush 114, 2) := by decide +kernel
theorem dX10_spread_70 : decode cX10_spread 70 = .ok (.iastore, 1) := by decide +kernel
theorem dX10_spread_71 : decode cX10_spread 71 = .ok (.iinc 5 1, 3) := by decide +kernel
theorem dX10_spread_74 : decode cX10_spread 74 = .ok (.aload_n 0, 1) := by decide +kernel
theorem dX10_spread_75 : decode cX10_spread 75 = .ok (.getfield 66, 3) := by decide +kernel
theorem dX10_spread_78 : decode cX10_spread 78 = .ok (.iload 5, 2) := by decide +kernel
theorem dX10_spread_80 : decode cX10_spread 80 = .ok (.iload 4, 2) := by decide +kernel
theorem dX10_spread_82 : decode cX10_spread 82 = .ok (.iastore, 1) := by decide +kernel
theorem dX10_spread_83 : decode cX10_spread 83 = .ok (.iinc 5 1, 3) := by decide +kernel
theorem dX10_spread_86 : decode cX10_spread 86 = .ok (.iinc 6 1, 3) := by decide +kernel
theorem dX10_spread_89 : decode cX10_spread 89 = .ok (.goto (-43), 3) := by decide +kernel
theorem dX10_spread_92 : decode cX10_spread 92 = .ok (.aload_n 0, 1) := by decide +kernel
theorem dX10_spread_93 : decode cX10_spread 93 = .ok (.iload_n 1, 1) := by decide +kernel
theorem dX10_spread_94 : decode cX10_spread 94 = .ok (.aload_n 0, 1) := by decide +kernel
theorem dX10_spread_95 : decode cX10_spread 95 = .ok (.getfield 66, 3) := by decide +kernel
theorem dX10_spread_98 : decode cX10_spread 98 = .ok (.iload 5, 2) := by decide +kernel
theorem dX10_spread_100 : decode cX10_spread 100 = .ok (.invokevirtual 170, 3) := by decide +kernel
theorem dX10_spread_103 : decode cX10_spread 103 = .ok (.aload_n 0, 1) := by decide +kernel
theorem dX10_spread_104 : decode cX10_spread 104 = .ok (.iload_n 1, 1) := by decide +kernel
theorem dX10_spread_105 : decode cX10_spread 105 = .ok (.invokevirtual 174, 3) := by decide +kernel
theorem dX10_spread_108 : decode cX10_spread 108 = .ok (.aload_n 0, 1) := by decide +kernel
theorem dX10_spread_109 : decode cX10_spread 109 = .ok (.getfield 41, 3) := by decide +kernel
theorem dX10_spread_112 : decode cX10_spread 112 = .ok (.iload_n 1, 1) := by decide +kernel
theorem dX10_spread_113 : decode cX10_spread 113 = .ok (.iaload, 1) := by decide +kernel
theorem dX10_spread_114 : decode cX10_spread 114 = .ok (.ireturn, 1) := by decide +kernel
theorem dX10_textOf_0 : decode cX10_textOf 0 = .ok (.iload_n 1, 1) := by decide +kernel
theorem dX10_textOf_1 : decode cX10_textOf 1 = .ok (.invokestatic 163, 3) := by decide +kernel
theorem dX10_textOf_4 : decode cX10_textOf 4 = .ok (.ifCond .eq 7, 3) := by decide +kernel
theorem dX10_textOf_7 : decode cX10_textOf 7 = .ok (.iload_n 2, 1) := by decide +kernel
theorem dX10_textOf_8 : decode cX10_textOf 8 = .ok (.ifCond .ge 7, 3) := by decide +kernel
theorem dX10_textOf_11 : decode cX10_textOf 11 = .ok (.iconst (-1), 1) := by decide +kernel
theorem dX10_textOf_12 : decode cX10_textOf 12 = .ok (.goto 34, 3) := by decide +kernel
theorem dX10_textOf_15 : decode cX10_textOf 15 = .ok (.iload_n 2, 1) := by decide +kernel
theorem dX10_textOf_16 : decode cX10_textOf 16 = .ok (.aload_n 0, 1) := by decide +kernel
theorem dX10_textOf_17 : decode cX10_textOf 17 = .ok (.getfield 7, 3) := by decide +kernel
theorem dX10_textOf_20 : decode cX10_textOf 20 = .ok (.bipush 101, 2) := by decide +kernel
theorem dX10_textOf_22 : decode cX10_textOf 22 = .ok (.iload_n 1, 1) := by decide +kernel
theorem dX10_textOf_23 : decode cX10_textOf 23 = .ok (.imul, 1) := by decide +kernel
theorem dX10_textOf_24 : decode cX10_textOf 24 = .ok (.iaload, 1) := by decide +kernel
theorem dX10_textOf_25 : decode cX10_textOf 25 = .ok (.if_icmp .ge 19, 3) := by decide +kernel
theorem dX10_textOf_28 : decode cX10_textOf 28 = .ok (.aload_n 0, 1) := by decide +kernel
theorem dX10_textOf_29 : decode cX10_textOf 29 = .ok (.getfield 7, 3) := by decide +kernel
theorem dX10_textOf_32 : decode cX10_textOf 32 = .ok (.bipush 101, 2) := by decide +kernel
theorem dX10_textOf_34 : decode cX10_textOf 34 = .ok (.iload_n 1, 1) := by decide +kernel
theorem dX10_textOf_35 : decode cX10_textOf 35 = .ok (.imul, 1) := by decide +kernel
theorem dX10_textOf_36 : decode cX10_textOf 36 = .ok (.iconst 1, 1) := by decide +kernel
theorem dX10_textOf_37 : decode cX10_textOf 37 = .ok (.iadd, 1) := by decide +kernel
theorem dX10_textOf_38 : decode cX10_textOf 38 = .ok (.iload_n 2, 1) := by decide +kernel
theorem dX10_textOf_39 : decode cX10_textOf 39 = .ok (.iadd, 1) := by decide +kernel
theorem dX10_textOf_40 : decode cX10_textOf 40 = .ok (.iaload, 1) := by decide +kernel
theorem dX10_textOf_41 : decode cX10_textOf 41 = .ok (.goto 5, 3) := by decide +kernel
theorem dX10_textOf_44 : decode cX10_textOf 44 = .ok (.bipush (-9), 2) := by decide +kernel
theorem dX10_textOf_46 : decode cX10_textOf 46 = .ok (.ireturn, 1) := by decide +kernel
theorem dX10_unfolded_0 : decode cX10_unfolded 0 = .ok (.iload_n 1, 1) := by decide +kernel
theorem dX10_unfolded_1 : decode cX10_unfolded 1 = .ok (.invokestatic 163, 3) := by decide +kernel
theorem dX10_unfolded_4 : decode cX10_unfolded 4 = .ok (.ifCond .eq 7, 3) := by decide +kernel
theorem dX10_unfolded_7 : decode cX10_unfolded 7 = .ok (.iload_n 2, 1) := by decide +kernel
theorem dX10_unfolded_8 : decode cX10_unfolded 8 = .ok (.ifCond .ge 5, 3) := by decide +kernel
theorem dX10_unfolded_11 : decode cX10_unfolded 11 = .ok (.iconst (-1), 1) := by decide +kernel
theorem dX10_unfolded_12 : decode cX10_unfolded 12 = .ok (.ireturn, 1) := by decide +kernel
theorem dX10_unfolded_13 : decode cX10_unfolded 13 = .ok (.aload_n 0, 1) := by decide +kernel
theorem dX10_unfolded_14 : decode cX10_unfolded 14 = .ok (.iload_n 1, 1) := by decide +kernel
theorem dX10_unfolded_15 : decode cX10_unfolded 15 = .ok (.invokevirtual 148, 3) := by decide +kernel
theorem dX10_unfolded_18 : decode cX10_unfolded 18 = .ok (.iload_n 2, 1) := by decide +kernel
theorem dX10_unfolded_19 : decode cX10_unfolded 19 = .ok (.aload_n 0, 1) := by decide +kernel
theorem dX10_unfolded_20 : decode cX10_unfolded 20 = .ok (.getfield 124, 3) := by decide +kernel
theorem dX10_unfolded_23 : decode cX10_unfolded 23 = .ok (.if_icmp .ge 12, 3) := by decide +kernel
theorem dX10_unfolded_26 : decode cX10_unfolded 26 = .ok (.aload_n 0, 1) := by decide +kernel
theorem dX10_unfolded_27 : decode cX10_unfolded 27 = .ok (.getfield 22, 3) := by decide +kernel
theorem dX10_unfolded_30 : decode cX10_unfolded 30 = .ok (.iload_n 2, 1) := by decide +kernel
theorem dX10_unfolded_31 : decode cX10_unfolded 31 = .ok (.iaload, 1) := by decide +kernel
theorem dX10_unfolded_32 : decode cX10_unfolded 32 = .ok (.goto 5, 3) := by decide +kernel
theorem dX10_unfolded_35 : decode cX10_unfolded 35 = .ok (.bipush (-9), 2) := by decide +kernel
theorem dX10_unfolded_37 : decode cX10_unfolded 37 = .ok (.ireturn, 1) := by decide +kernel
theorem dX10_setMeter_0 : decode cX10_setMeter 0 = .ok (.iload_n 2, 1) := by decide +kernel
theorem dX10_setMeter_1 : decode cX10_setMeter 1 = .ok (.iconst 1, 1) := by decide +kernel
theorem dX10_setMeter_2 : decode cX10_setMeter 2 = .ok (.if_icmp .eq 25, 3) := by decide +kernel
theorem dX10_setMeter_5 : decode cX10_setMeter 5 = .ok (.iload_n 2, 1) := by decide +kernel
theorem dX10_setMeter_6 : decode cX10_setMeter 6 = .ok (.iconst 2, 1) := by decide +kernel
theorem dX10_setMeter_7 : decode cX10_setMeter 7 = .ok (.if_icmp .eq 20, 3) := by decide +kernel
theorem dX10_setMeter_10 : decode cX10_setMeter 10 = .ok (.iload_n 2, 1) := by decide +kernel
theorem dX10_setMeter_11 : decode cX10_setMeter 11 = .ok (.iconst 4, 1) := by decide +kernel
theorem dX10_setMeter_12 : decode cX10_setMeter 12 = .ok (.if_icmp .eq 15, 3) := by decide +kernel
theorem dX10_setMeter_15 : decode cX10_setMeter 15 = .ok (.iload_n 2, 1) := by decide +kernel
theorem dX10_setMeter_16 : decode cX10_setMeter 16 = .ok (.bipush 8, 2) := by decide +kernel
theorem dX10_setMeter_18 : decode cX10_setMeter 18 = .ok (.if_icmp .eq 9, 3) := by decide +kernel
theorem dX10_setMeter_21 : decode cX10_setMeter 21 = .ok (.iload_n 2, 1) := by decide +kernel
theorem dX10_setMeter_22 : decode cX10_setMeter 22 = .ok (.bipush 16, 2) := by decide +kernel
theorem dX10_setMeter_24 : decode cX10_setMeter 24 = .ok (.if_icmp .ne 7, 3) := by decide +kernel
theorem dX10_setMeter_27 : decode cX10_setMeter 27 = .ok (.iconst 1, 1) := by decide +kernel
theorem dX10_setMeter_28 : decode cX10_setMeter 28 = .ok (.goto 4, 3) := by decide +kernel
theorem dX10_setMeter_31 : decode cX10_setMeter 31 = .ok (.iconst 0, 1) := by decide +kernel
theorem dX10_setMeter_32 : decode cX10_setMeter 32 = .ok (.istore_n 3, 1) := by decide +kernel
theorem dX10_setMeter_33 : decode cX10_setMeter 33 = .ok (.iload_n 1, 1) := by decide +kernel
theorem dX10_setMeter_34 : decode cX10_setMeter 34 = .ok (.iconst 1, 1) := by decide +kernel
theorem dX10_setMeter_35 : decode cX10_setMeter 35 = .ok (.bipush 16, 2) := by decide +kernel
theorem dX10_setMeter_37 : decode cX10_setMeter 37 = .ok (.invokestatic 76, 3) := by decide +kernel
theorem dX10_setMeter_40 : decode cX10_setMeter 40 = .ok (.ifCond .eq 7, 3) := by decide +kernel
theorem dX10_setMeter_43 : decode cX10_setMeter 43 = .ok (.iload_n 3, 1) := by decide +kernel
theorem dX10_setMeter_44 : decode cX10_setMeter 44 = .ok (.ifCond .ne 5, 3) := by decide +kernel
theorem dX10_setMeter_47 : decode cX10_setMeter 47 = .ok (.iconst (-1), 1) := by decide +kernel
theorem dX10_setMeter_48 : decode cX10_setMeter 48 = .ok (.ireturn, 1) := by decide +kernel
theorem dX10_setMeter_49 : decode cX10_setMeter 49 = .ok (.aload_n 0, 1) := by decide +kernel
theorem dX10_setMeter_50 : decode cX10_setMeter 50 = .ok (.invokevirtual 177, 3) := by decide +kernel
theorem dX10_setMeter_53 : decode cX10_setMeter 53 = .ok (.bipush 100, 2) := by decide +kernel
theorem dX10_setMeter_55 : decode cX10_setMeter 55 = .ok (.aload_n 0, 1) := by decide +kernel
theorem dX10_setMeter_56 : decode cX10_setMeter 56 = .ok (.getfield 7, 3) := by decide +kernel
theorem dX10_setMeter_59 : decode cX10_setMeter 59 = .ok (.sipush 404, 3) := by decide +kernel
theorem dX10_setMeter_62 : decode cX10_setMeter 62 = .ok (.iaload, 1) := by decide +kernel
theorem dX10_setMeter_63 : decode cX10_setMeter 63 = .ok (.imul, 1) := by decide +kernel
theorem dX10_setMeter_64 : decode cX10_setMeter 64 = .ok (.aload_n 0, 1) := by decide +kernel
theorem dX10_setMeter_65 : decode cX10_setMeter 65 = .ok (.getfield 7, 3) := by decide +kernel
theorem dX10_setMeter_68 : decode cX10_setMeter 68 = .ok (.sipush 405, 3) := by decide +kernel
theorem dX10_setMeter_71 : decode cX10_setMeter 71 = .ok (.iaload, 1) := by decide +kernel
theorem dX10_setMeter_72 : decode cX10_setMeter 72 = .ok (.iadd, 1) := by decide +kernel
theorem dX10_setMeter_73 : decode cX10_setMeter 73 = .ok (.istore 4, 2) := by decide +kernel
theorem dX10_setMeter_75 : decode cX10_setMeter 75 = .ok (.aload_n 0, 1) := by decide +kernel
theorem dX10_setMeter_76 : decode cX10_setMeter 76 = .ok (.getfield 7, 3) := by decide +kernel
theorem dX10_setMeter_79 : decode cX10_setMeter 79 = .ok (.sipush 404, 3) := by decide +kernel
theorem dX10_setMeter_82 : decode cX10_setMeter 82 = .ok (.iload_n 1, 1) := by decide +kernel
theorem dX10_setMeter_83 : decode cX10_setMeter 83 = .ok (.iastore, 1) := by decide +kernel
theorem dX10_setMeter_84 : decode cX10_setMeter 84 = .ok (.aload_n 0, 1) := by decide +kernel
theorem dX10_setMeter_85 : decode cX10_setMeter 85 = .ok (.getfield 7, 3) := by decide +kernel
theorem dX10_setMeter_88 : decode cX10_setMeter 88 = .ok (.sipush 405, 3) := by decide +kernel
theorem dX10_setMeter_91 : decode cX10_setMeter 91 = .ok (.iload_n 2, 1) := by decide +kernel
theorem dX10_setMeter_92 : decode cX10_setMeter 92 = .ok (.iastore, 1) := by decide +kernel
theorem dX10_setMeter_93 : decode cX10_setMeter 93 = .ok (.iload 4, 2) := by decide +kernel
theorem dX10_setMeter_95 : decode cX10_setMeter 95 = .ok (.ireturn, 1) := by decide +kernel
theorem dX10_setSwing_0 : decode cX10_setSwing 0 = .ok (.iload_n 1, 1) := by decide +kernel
theorem dX10_setSwing_1 : decode cX10_setSwing 1 = .ok (.iconst 1, 1) := by decide +kernel
theorem dX10_setSwing_2 : decode cX10_setSwing 2 = .ok (.bipush 9, 2) := by decide +kernel
theorem dX10_setSwing_4 : decode cX10_setSwing 4 = .ok (.invokestatic 76, 3) := by decide +kernel
theorem dX10_setSwing_7 : decode cX10_setSwing 7 = .ok (.ifCond .eq 13, 3) := by decide +kernel
theorem dX10_setSwing_10 : decode cX10_setSwing 10 = .ok (.iload_n 2, 1) := by decide +kernel
theorem dX10_setSwing_11 : decode cX10_setSwing 11 = .ok (.iconst 1, 1) := by decide +kernel
theorem dX10_setSwing_12 : decode cX10_setSwing 12 = .ok (.bipush 9, 2) := by decide +kernel
theorem dX10_setSwing_14 : decode cX10_setSwing 14 = .ok (.invokestatic 76, 3) := by decide +kernel
theorem dX10_setSwing_17 : decode cX10_setSwing 17 = .ok (.ifCond .ne 5, 3) := by decide +kernel
theorem dX10_setSwing_20 : decode cX10_setSwing 20 = .ok (.iconst (-1), 1) := by decide +kernel
theorem dX10_setSwing_21 : decode cX10_setSwing 21 = .ok (.ireturn, 1) := by decide +kernel
theorem dX10_setSwing_22 : decode cX10_setSwing 22 = .ok (.aload_n 0, 1) := by decide +kernel
theorem dX10_setSwing_23 : decode cX10_setSwing 23 = .ok (.invokevirtual 177, 3) := by decide +kernel
theorem dX10_setSwing_26 : decode cX10_setSwing 26 = .ok (.bipush 10, 2) := by decide +kernel
theorem dX10_setSwing_28 : decode cX10_setSwing 28 = .ok (.aload_n 0, 1) := by decide +kernel
theorem dX10_setSwing_29 : decode cX10_setSwing 29 = .ok (.getfield 7, 3) := by decide +kernel
theorem dX10_setSwing_32 : decode cX10_setSwing 32 = .ok (.sipush 406, 3) := by decide +kernel
theorem dX10_setSwing_35 : decode cX10_setSwing 35 = .ok (.iaload, 1) := by decide +kernel
theorem dX10_setSwing_36 : decode cX10_setSwing 36 = .ok (.imul, 1) := by decide +kernel
theorem dX10_setSwing_37 : decode cX10_setSwing 37 = .ok (.aload_n 0, 1) := by decide +kernel
theorem dX10_setSwing_38 : decode cX10_setSwing 38 = .ok (.getfield 7, 3) := by decide +kernel
theorem dX10_setSwing_41 : decode cX10_setSwing 41 = .ok (.sipush 407, 3) := by decide +kernel
theorem dX10_setSwing_44 : decode cX10_setSwing 44 = .ok (.iaload, 1) := by decide +kernel
theorem dX10_setSwing_45 : decode cX10_setSwing 45 = .ok (.iadd, 1) := by decide +kernel
theorem dX10_setSwing_46 : decode cX10_setSwing 46 = .ok (.istore_n 3, 1) := by decide +kernel
theorem dX10_setSwing_47 : decode cX10_setSwing 47 = .ok (.aload_n 0, 1) := by decide +kernel
theorem dX10_setSwing_48 : decode cX10_setSwing 48 = .ok (.getfield 7, 3) := by decide +kernel
theorem dX10_setSwing_51 : decode cX10_setSwing 51 = .ok (.sipush 406, 3) := by decide +kernel
theorem dX10_setSwing_54 : decode cX10_setSwing 54 = .ok (.iload_n 1, 1) := by decide +kernel
theorem dX10_setSwing_55 : decode cX10_setSwing 55 = .ok (.iastore, 1) := by decide +kernel
theorem dX10_setSwing_56 : decode cX10_setSwing 56 = .ok (.aload_n 0, 1) := by decide +kernel
theorem dX10_setSwing_57 : decode cX10_setSwing 57 = .ok (.getfield 7, 3) := by decide +kernel
theorem dX10_setSwing_60 : decode cX10_setSwing 60 = .ok (.sipush 407, 3) := by decide +kernel
theorem dX10_setSwing_63 : decode cX10_setSwing 63 = .ok (.iload_n 2, 1) := by decide +kernel
theorem dX10_setSwing_64 : decode cX10_setSwing 64 = .ok (.iastore, 1) := by decide +kernel
theorem dX10_setSwing_65 : decode cX10_setSwing 65 = .ok (.iload_n 3, 1) := by decide +kernel
theorem dX10_setSwing_66 : decode cX10_setSwing 66 = .ok (.ireturn, 1) := by decide +kernel
theorem dX10_divisor_0 : decode cX10_divisor 0 = .ok (.lload_n 0, 1) := by decide +kernel
theorem dX10_divisor_1 : decode cX10_divisor 1 = .ok (.lstore 4, 2) := by decide +kernel
theorem dX10_divisor_3 : decode cX10_divisor 3 = .ok (.lload_n 2, 1) := by decide +kernel
theorem dX10_divisor_4 : decode cX10_divisor 4 = .ok (.lstore 6, 2) := by decide +kernel
theorem dX10_divisor_6 : decode cX10_divisor 6 = .ok (.lload 6, 2) := by decide +kernel
theorem dX10_divisor_8 : decode cX10_divisor 8 = .ok (.lconst 0, 1) := by decide +kernel
theorem dX10_divisor_9 : decode cX10_divisor 9 = .ok (.lcmp, 1) := by decide +kernel
theorem dX10_divisor_10 : decode cX10_divisor 10 = .ok (.ifCond .eq 21, 3) := by decide +kernel
theorem dX10_divisor_13 : decode cX10_divisor 13 = .ok (.lload 4, 2) := by decide +kernel
theorem dX10_divisor_15 : decode cX10_divisor 15 = .ok (.lload 6, 2) := by decide +kernel
theorem dX10_divisor_17 : decode cX10_divisor 17 = .ok (.lrem, 1) := by decide +kernel
theorem dX10_divisor_18 : decode cX10_divisor 18 = .ok (.lstore 8, 2) := by decide +kernel
theorem dX10_divisor_20 : decode cX10_divisor 20 = .ok (.lload 6, 2) := by decide +kernel
theorem dX10_divisor_22 : decode cX10_divisor 22 = .ok (.lstore 4, 2) := by decide +kernel
theorem dX10_divisor_24 : decode cX10_divisor 24 = .ok (.lload 8, 2) := by decide +kernel
theorem dX10_divisor_26 : decode cX10_divisor 26 = .ok (.lstore 6, 2) := by decide +kernel
theorem dX10_divisor_28 : decode cX10_divisor 28 = .ok (.goto (-22), 3) := by decide +kernel
theorem dX10_divisor_31 : decode cX10_divisor 31 = .ok (.lload 4, 2) := by decide +kernel
theorem dX10_divisor_33 : decode cX10_divisor 33 = .ok (.lreturn, 1) := by decide +kernel
theorem dX10_told_0 : decode cX10_told 0 = .ok (.lload_n 0, 1) := by decide +kernel
theorem dX10_told_1 : decode cX10_told 1 = .ok (.lload_n 2, 1) := by decide +kernel
theorem dX10_told_2 : decode cX10_told 2 = .ok (.invokestatic 180, 3) := by decide +kernel
theorem dX10_told_5 : decode cX10_told 5 = .ok (.lstore 5, 2) := by decide +kernel
theorem dX10_told_7 : decode cX10_told 7 = .ok (.iload 4, 2) := by decide +kernel
theorem dX10_told_9 : decode cX10_told 9 = .ok (.ifCond .ne 10, 3) := by decide +kernel
theorem dX10_told_12 : decode cX10_told 12 = .ok (.lload_n 0, 1) := by decide +kernel
theorem dX10_told_13 : decode cX10_told 13 = .ok (.lload 5, 2) := by decide +kernel
theorem dX10_told_15 : decode cX10_told 15 = .ok (.ldiv, 1) := by decide +kernel
theorem dX10_told_16 : decode cX10_told 16 = .ok (.goto 7, 3) := by decide +kernel
theorem dX10_told_19 : decode cX10_told 19 = .ok (.lload_n 2, 1) := by decide +kernel
theorem dX10_told_20 : decode cX10_told 20 = .ok (.lload 5, 2) := by decide +kernel
theorem dX10_told_22 : decode cX10_told 22 = .ok (.ldiv, 1) := by decide +kernel
theorem dX10_told_23 : decode cX10_told 23 = .ok (.lreturn, 1) := by decide +kernel
theorem dX10_events_0 : decode cX10_events 0 = .ok (.iload_n 1, 1) := by decide +kernel
theorem dX10_events_1 : decode cX10_events 1 = .ok (.invokestatic 163, 3) := by decide +kernel
theorem dX10_events_4 : decode cX10_events 4 = .ok (.ifCond .ne 5, 3) := by decide +kernel
theorem dX10_events_7 : decode cX10_events 7 = .ok (.iconst (-1), 1) := by decide +kernel
theorem dX10_events_8 : decode cX10_events 8 = .ok (.ireturn, 1) := by decide +kernel
theorem dX10_events_9 : decode cX10_events 9 = .ok (.aload_n 0, 1) := by decide +kernel
theorem dX10_events_10 : decode cX10_events 10 = .ok (.iload_n 1, 1) := by decide +kernel
theorem dX10_events_11 : decode cX10_events 11 = .ok (.invokevirtual 174, 3) := by decide +kernel
theorem dX10_events_14 : decode cX10_events 14 = .ok (.aload_n 0, 1) := by decide +kernel
theorem dX10_events_15 : decode cX10_events 15 = .ok (.getfield 41, 3) := by decide +kernel
theorem dX10_events_18 : decode cX10_events 18 = .ok (.iload_n 1, 1) := by decide +kernel
theorem dX10_events_19 : decode cX10_events 19 = .ok (.iaload, 1) := by decide +kernel
theorem dX10_events_20 : decode cX10_events 20 = .ok (.ireturn, 1) := by decide +kernel
theorem dX10_length_0 : decode cX10_length 0 = .ok (.iload_n 1, 1) := by decide +kernel
theorem dX10_length_1 : decode cX10_length 1 = .ok (.invokestatic 163, 3) := by decide +kernel
theorem dX10_length_4 : decode cX10_length 4 = .ok (.ifCond .eq 12, 3) := by decide +kernel
theorem dX10_length_7 : decode cX10_length 7 = .ok (.iload_n 2, 1) := by decide +kernel
theorem dX10_length_8 : decode cX10_length 8 = .ok (.iconst 0, 1) := by decide +kernel
theorem dX10_length_9 : decode cX10_length 9 = .ok (.iconst 1, 1) := by decide +kernel
theorem dX10_length_10 : decode cX10_length 10 = .ok (.invokestatic 76, 3) := by decide +kernel
theorem dX10_length_13 : decode cX10_length 13 = .ok (.ifCond .ne 7, 3) := by decide +kernel
theorem dX10_length_16 : decode cX10_length 16 = .ok (.ldc2_w 184, 3) := by decide +kernel
theorem dX10_length_19 : decode cX10_length 19 = .ok (.lreturn, 1) := by decide +kernel
theorem dX10_length_20 : decode cX10_length 20 = .ok (.aload_n 0, 1) := by decide +kernel
theorem dX10_length_21 : decode cX10_length 21 = .ok (.iload_n 1, 1) := by decide +kernel
theorem dX10_length_22 : decode cX10_length 22 = .ok (.invokevirtual 174, 3) := by decide +kernel
theorem dX10_length_25 : decode cX10_length 25 = .ok (.aload_n 0, 1) := by decide +kernel
theorem dX10_length_26 : decode cX10_length 26 = .ok (.getfield 44, 3) := by decide +kernel
theorem dX10_length_29 : decode cX10_length 29 = .ok (.iload_n 1, 1) := by decide +kernel
theorem dX10_length_30 : decode cX10_length 30 = .ok (.laload, 1) := by decide +kernel
theorem dX10_length_31 : decode cX10_length 31 = .ok (.ldc2_w 138, 3) := by decide +kernel
theorem dX10_length_34 : decode cX10_length 34 = .ok (.iload_n 2, 1) := by decide +kernel
theorem dX10_length_35 : decode cX10_length 35 = .ok (.invokestatic 186, 3) := by decide +kernel
theorem dX10_length_38 : decode cX10_length 38 = .ok (.lreturn, 1) := by decide +kernel
theorem dX10_isEvent_0 : decode cX10_isEvent 0 = .ok (.iload_n 1, 1) := by decide +kernel
theorem dX10_isEvent_1 : decode cX10_isEvent 1 = .ok (.invokestatic 163, 3) := by decide +kernel
theorem dX10_isEvent_4 : decode cX10_isEvent 4 = .ok (.ifCond .ne 5, 3) := by decide +kernel
theorem dX10_isEvent_7 : decode cX10_isEvent 7 = .ok (.iconst 0, 1) := by decide +kernel
theorem dX10_isEvent_8 : decode cX10_isEvent 8 = .ok (.ireturn, 1) := by decide +kernel
theorem dX10_isEvent_9 : decode cX10_isEvent 9 = .ok (.aload_n 0, 1) := by decide +kernel
theorem dX10_isEvent_10 : decode cX10_isEvent 10 = .ok (.iload_n 1, 1) := by decide +kernel
theorem dX10_isEvent_11 : decode cX10_isEvent 11 = .ok (.invokevirtual 174, 3) := by decide +kernel
theorem dX10_isEvent_14 : decode cX10_isEvent 14 = .ok (.iload_n 2, 1) := by decide +kernel
theorem dX10_isEvent_15 : decode cX10_isEvent 15 = .ok (.iconst 0, 1) := by decide +kernel
theorem dX10_isEvent_16 : decode cX10_isEvent 16 = .ok (.aload_n 0, 1) := by decide +kernel
theorem dX10_isEvent_17 : decode cX10_isEvent 17 = .ok (.getfield 41, 3) := by decide +kernel
theorem dX10_isEvent_20 : decode cX10_isEvent 20 = .ok (.iload_n 1, 1) := by decide +kernel
theorem dX10_isEvent_21 : decode cX10_isEvent 21 = .ok (.iaload, 1) := by decide +kernel
theorem dX10_isEvent_22 : decode cX10_isEvent 22 = .ok (.iconst 1, 1) := by decide +kernel
theorem dX10_isEvent_23 : decode cX10_isEvent 23 = .ok (.isub, 1) := by decide +kernel
theorem dX10_isEvent_24 : decode cX10_isEvent 24 = .ok (.invokestatic 76, 3) := by decide +kernel
theorem dX10_isEvent_27 : decode cX10_isEvent 27 = .ok (.ireturn, 1) := by decide +kernel
theorem dX10_onset_0 : decode cX10_onset 0 = .ok (.iload_n 3, 1) := by decide +kernel
theorem dX10_onset_1 : decode cX10_onset 1 = .ok (.iconst 0, 1) := by decide +kernel
theorem dX10_onset_2 : decode cX10_onset 2 = .ok (.iconst 1, 1) := by decide +kernel
theorem dX10_onset_3 : decode cX10_onset 3 = .ok (.invokestatic 76, 3) := by decide +kernel
theorem dX10_onset_6 : decode cX10_onset 6 = .ok (.ifCond .eq 34, 3) := by decide +kernel
theorem dX10_onset_9 : decode cX10_onset 9 = .ok (.aload_n 0, 1) := by decide +kernel
theorem dX10_onset_10 : decode cX10_onset 10 = .ok (.iload_n 1, 1) := by decide +kernel
theorem dX10_onset_11 : decode cX10_onset 11 = .ok (.iload_n 2, 1) := by decide +kernel
theorem dX10_onset_12 : decode cX10_onset 12 = .ok (.invokevirtual 190, 3) := by decide +kernel
theorem dX10_onset_15 : decode cX10_onset 15 = .ok (.ifCond .eq 25, 3) := by decide +kernel
theorem dX10_onset_18 : decode cX10_onset 18 = .ok (.aload_n 0, 1) := by decide +kernel
theorem dX10_onset_19 : decode cX10_onset 19 = .ok (.getfield 25, 3) := by decide +kernel
theorem dX10_onset_22 : decode cX10_onset 22 = .ok (.sipush 300, 3) := by decide +kernel
theorem dX10_onset_25 : decode cX10_onset 25 = .ok (.iload_n 1, 1) := by decide +kernel
theorem dX10_onset_26 : decode cX10_onset 26 = .ok (.imul, 1) := by decide +kernel
theorem dX10_onset_27 : decode cX10_onset 27 = .ok (.iload_n 2, 1) := by decide +kernel
theorem dX10_onset_28 : decode cX10_onset 28 = .ok (.iadd, 1) := by decide +kernel
theorem dX10_onset_29 : decode cX10_onset 29 = .ok (.laload, 1) := by decide +kernel
theorem dX10_onset_30 : decode cX10_onset 30 = .ok (.ldc2_w 138, 3) := by decide +kernel
theorem dX10_onset_33 : decode cX10_onset 33 = .ok (.iload_n 3, 1) := by decide +kernel
theorem dX10_onset_34 : decode cX10_onset 34 = .ok (.invokestatic 186, 3) := by decide +kernel
theorem dX10_onset_37 : decode cX10_onset 37 = .ok (.goto 6, 3) := by decide +kernel
theorem dX10_onset_40 : decode cX10_onset 40 = .ok (.ldc2_w 184, 3) := by decide +kernel
theorem dX10_onset_43 : decode cX10_onset 43 = .ok (.lreturn, 1) := by decide +kernel
theorem dX10_lasts_0 : decode cX10_lasts 0 = .ok (.iload_n 3, 1) := by decide +kernel
theorem dX10_lasts_1 : decode cX10_lasts 1 = .ok (.iconst 0, 1) := by decide +kernel
theorem dX10_lasts_2 : decode cX10_lasts 2 = .ok (.iconst 1, 1) := by decide +kernel
theorem dX10_lasts_3 : decode cX10_lasts 3 = .ok (.invokestatic 76, 3) := by decide +kernel
theorem dX10_lasts_6 : decode cX10_lasts 6 = .ok (.ifCond .eq 34, 3) := by decide +kernel
theorem dX10_lasts_9 : decode cX10_lasts 9 = .ok (.aload_n 0, 1) := by decide +kernel
theorem dX10_lasts_10 : decode cX10_lasts 10 = .ok (.iload_n 1, 1) := by decide +kernel
theorem dX10_lasts_11 : decode cX10_lasts 11 = .ok (.iload_n 2, 1) := by decide +kernel
theorem dX10_lasts_12 : decode cX10_lasts 12 = .ok (.invokevirtual 190, 3) := by decide +kernel
theorem dX10_lasts_15 : decode cX10_lasts 15 = .ok (.ifCond .eq 25, 3) := by decide +kernel
theorem dX10_lasts_18 : decode cX10_lasts 18 = .ok (.aload_n 0, 1) := by decide +kernel
theorem dX10_lasts_19 : decode cX10_lasts 19 = .ok (.getfield 29, 3) := by decide +kernel
theorem dX10_lasts_22 : decode cX10_lasts 22 = .ok (.sipush 300, 3) := by decide +kernel
theorem dX10_lasts_25 : decode cX10_lasts 25 = .ok (.iload_n 1, 1) := by decide +kernel
theorem dX10_lasts_26 : decode cX10_lasts 26 = .ok (.imul, 1) := by decide +kernel
theorem dX10_lasts_27 : decode cX10_lasts 27 = .ok (.iload_n 2, 1) := by decide +kernel
theorem dX10_lasts_28 : decode cX10_lasts 28 = .ok (.iadd, 1) := by decide +kernel
theorem dX10_lasts_29 : decode cX10_lasts 29 = .ok (.laload, 1) := by decide +kernel
theorem dX10_lasts_30 : decode cX10_lasts 30 = .ok (.ldc2_w 138, 3) := by decide +kernel
theorem dX10_lasts_33 : decode cX10_lasts 33 = .ok (.iload_n 3, 1) := by decide +kernel
theorem dX10_lasts_34 : decode cX10_lasts 34 = .ok (.invokestatic 186, 3) := by decide +kernel
theorem dX10_lasts_37 : decode cX10_lasts 37 = .ok (.goto 6, 3) := by decide +kernel
theorem dX10_lasts_40 : decode cX10_lasts 40 = .ok (.ldc2_w 184, 3) := by decide +kernel
theorem dX10_lasts_43 : decode cX10_lasts 43 = .ok (.lreturn, 1) := by decide +kernel
theorem dX10_swungOf_0 : decode cX10_swungOf 0 = .ok (.lload_n 1, 1) := by decide +kernel
theorem dX10_swungOf_1 : decode cX10_swungOf 1 = .ok (.ldc2_w 193, 3) := by decide +kernel
theorem dX10_swungOf_4 : decode cX10_swungOf 4 = .ok (.lrem, 1) := by decide +kernel
theorem dX10_swungOf_5 : decode cX10_swungOf 5 = .ok (.lstore_n 3, 1) := by decide +kernel
theorem dX10_swungOf_6 : decode cX10_swungOf 6 = .ok (.lload_n 1, 1) := by decide +kernel
theorem dX10_swungOf_7 : decode cX10_swungOf 7 = .ok (.lload_n 3, 1) := by decide +kernel
theorem dX10_swungOf_8 : decode cX10_swungOf 8 = .ok (.lsub, 1) := by decide +kernel
theorem dX10_swungOf_9 : decode cX10_swungOf 9 = .ok (.lstore 5, 2) := by decide +kernel
theorem dX10_swungOf_11 : decode cX10_swungOf 11 = .ok (.aload_n 0, 1) := by decide +kernel
theorem dX10_swungOf_12 : decode cX10_swungOf 12 = .ok (.getfield 7, 3) := by decide +kernel
theorem dX10_swungOf_15 : decode cX10_swungOf 15 = .ok (.sipush 406, 3) := by decide +kernel
theorem dX10_swungOf_18 : decode cX10_swungOf 18 = .ok (.iaload, 1) := by decide +kernel
theorem dX10_swungOf_19 : decode cX10_swungOf 19 = .ok (.aload_n 0, 1) := by decide +kernel
theorem dX10_swungOf_20 : decode cX10_swungOf 20 = .ok (.getfield 7, 3) := by decide +kernel
theorem dX10_swungOf_23 : decode cX10_swungOf 23 = .ok (.sipush 407, 3) := by decide +kernel
theorem dX10_swungOf_26 : decode cX10_swungOf 26 = .ok (.iaload, 1) := by decide +kernel
theorem dX10_swungOf_27 : decode cX10_swungOf 27 = .ok (.iadd, 1) := by decide +kernel
theorem dX10_swungOf_28 : decode cX10_swungOf 28 = .ok (.i2l, 1) := by decide +kernel
theorem dX10_swungOf_29 : decode cX10_swungOf 29 = .ok (.lstore 7, 2) := by decide +kernel
theorem dX10_swungOf_31 : decode cX10_swungOf 31 = .ok (.lload_n 3, 1) := by decide +kernel
theorem dX10_swungOf_32 : decode cX10_swungOf 32 = .ok (.ldc2_w 195, 3) := by decide +kernel
theorem dX10_swungOf_35 : decode cX10_swungOf 35 = .ok (.lcmp, 1) := by decide +kernel
theorem dX10_swungOf_36 : decode cX10_swungOf 36 = .ok (.ifCond .ge 25, 3) := by decide +kernel
theorem dX10_swungOf_39 : decode cX10_swungOf 39 = .ok (.lload 5, 2) := by decide +kernel
theorem dX10_swungOf_41 : decode cX10_swungOf 41 = .ok (.lload 7, 2) := by decide +kernel
theorem dX10_swungOf_43 : decode cX10_swungOf 43 = .ok (.lmul, 1) := by decide +kernel
theorem dX10_swungOf_44 : decode cX10_swungOf 44 = .ok (.lload_n 3, 1) := by decide +kernel
theorem dX10_swungOf_45 : decode cX10_swungOf 45 = .ok (.ldc2_w 142, 3) := by decide +kernel
theorem dX10_swungOf_48 : decode cX10_swungOf 48 = .ok (.lmul, 1) := by decide +kernel
theorem dX10_swungOf_49 : decode cX10_swungOf 49 = .ok (.aload_n 0, 1) := by decide +kernel
theorem dX10_swungOf_50 : decode cX10_swungOf 50 = .ok (.getfield 7, 3) := by decide +kernel
theorem dX10_swungOf_53 : decode cX10_swungOf 53 = .ok (.sipush 406, 3) := by decide +kernel
theorem dX10_swungOf_56 : decode cX10_swungOf 56 = .ok (.iaload, 1) := by decide +kernel
theorem dX10_swungOf_57 : decode cX10_swungOf 57 = .ok (.i2l, 1) := by decide +kernel
theorem dX10_swungOf_58 : decode cX10_swungOf 58 = .ok (.lmul, 1) := by decide +kernel
theorem dX10_swungOf_59 : decode cX10_swungOf 59 = .ok (.ladd, 1) := by decide +kernel
theorem dX10_swungOf_60 : decode cX10_swungOf 60 = .ok (.lreturn, 1) := by decide +kernel
theorem dX10_swungOf_61 : decode cX10_swungOf 61 = .ok (.lload 5, 2) := by decide +kernel
theorem dX10_swungOf_63 : decode cX10_swungOf 63 = .ok (.lload 7, 2) := by decide +kernel
theorem dX10_swungOf_65 : decode cX10_swungOf 65 = .ok (.lmul, 1) := by decide +kernel
theorem dX10_swungOf_66 : decode cX10_swungOf 66 = .ok (.ldc2_w 193, 3) := by decide +kernel
theorem dX10_swungOf_69 : decode cX10_swungOf 69 = .ok (.aload_n 0, 1) := by decide +kernel
theorem dX10_swungOf_70 : decode cX10_swungOf 70 = .ok (.getfield 7, 3) := by decide +kernel
theorem dX10_swungOf_73 : decode cX10_swungOf 73 = .ok (.sipush 406, 3) := by decide +kernel
theorem dX10_swungOf_76 : decode cX10_swungOf 76 = .ok (.iaload, 1) := by decide +kernel
theorem dX10_swungOf_77 : decode cX10_swungOf 77 = .ok (.i2l, 1) := by decide +kernel
theorem dX10_swungOf_78 : decode cX10_swungOf 78 = .ok (.lmul, 1) := by decide +kernel
theorem dX10_swungOf_79 : decode cX10_swungOf 79 = .ok (.ladd, 1) := by decide +kernel
theorem dX10_swungOf_80 : decode cX10_swungOf 80 = .ok (.lload_n 3, 1) := by decide +kernel
theorem dX10_swungOf_81 : decode cX10_swungOf 81 = .ok (.ldc2_w 195, 3) := by decide +kernel
theorem dX10_swungOf_84 : decode cX10_swungOf 84 = .ok (.lsub, 1) := by decide +kernel
theorem dX10_swungOf_85 : decode cX10_swungOf 85 = .ok (.ldc2_w 142, 3) := by decide +kernel
theorem dX10_swungOf_88 : decode cX10_swungOf 88 = .ok (.lmul, 1) := by decide +kernel
theorem dX10_swungOf_89 : decode cX10_swungOf 89 = .ok (.aload_n 0, 1) := by decide +kernel
theorem dX10_swungOf_90 : decode cX10_swungOf 90 = .ok (.getfield 7, 3) := by decide +kernel
theorem dX10_swungOf_93 : decode cX10_swungOf 93 = .ok (.sipush 407, 3) := by decide +kernel
theorem dX10_swungOf_96 : decode cX10_swungOf 96 = .ok (.iaload, 1) := by decide +kernel
theorem dX10_swungOf_97 : decode cX10_swungOf 97 = .ok (.i2l, 1) := by decide +kernel
theorem dX10_swungOf_98 : decode cX10_swungOf 98 = .ok (.lmul, 1) := by decide +kernel
theorem dX10_swungOf_99 : decode cX10_swungOf 99 = .ok (.ladd, 1) := by decide +kernel
theorem dX10_swungOf_100 : decode cX10_swungOf 100 = .ok (.lreturn, 1) := by decide +kernel
theorem dX10_swung_0 : decode cX10_swung 0 = .ok (.iload_n 3, 1) := by decide +kernel
theorem dX10_swung_1 : decode cX10_swung 1 = .ok (.iconst 0, 1) := by decide +kernel
theorem dX10_swung_2 : decode cX10_swung 2 = .ok (.iconst 1, 1) := by decide +kernel
theorem dX10_swung_3 : decode cX10_swung 3 = .ok (.invokestatic 76, 3) := by decide +kernel
theorem dX10_swung_6 : decode cX10_swung 6 = .ok (.ifCond .eq 12, 3) := by decide +kernel
theorem dX10_swung_9 : decode cX10_swung 9 = .ok (.aload_n 0, 1) := by decide +kernel
theorem dX10_swung_10 : decode cX10_swung 10 = .ok (.iload_n 1, 1) := by decide +kernel
theorem dX10_swung_11 : decode cX10_swung 11 = .ok (.iload_n 2, 1) := by decide +kernel
theorem dX10_swung_12 : decode cX10_swung 12 = .ok (.invokevirtual 190, 3) := by decide +kernel
theorem dX10_swung_15 : decode cX10_swung 15 = .ok (.ifCond .ne 7, 3) := by decide +kernel
theorem dX10_swung_18 : decode cX10_swung 18 = .ok (.ldc2_w 184, 3) := by decide +kernel
theorem dX10_swung_21 : decode cX10_swung 21 = .ok (.lreturn, 1) := by decide +kernel
theorem dX10_swung_22 : decode cX10_swung 22 = .ok (.aload_n 0, 1) := by decide +kernel
theorem dX10_swung_23 : decode cX10_swung 23 = .ok (.aload_n 0, 1) := by decide +kernel
theorem dX10_swung_24 : decode cX10_swung 24 = .ok (.getfield 25, 3) := by decide +kernel
theorem dX10_swung_27 : decode cX10_swung 27 = .ok (.sipush 300, 3) := by decide +kernel
theorem dX10_swung_30 : decode cX10_swung 30 = .ok (.iload_n 1, 1) := by decide +kernel
theorem dX10_swung_31 : decode cX10_swung 31 = .ok (.imul, 1) := by decide +kernel
theorem dX10_swung_32 : decode cX10_swung 32 = .ok (.iload_n 2, 1) := by decide +kernel
theorem dX10_swung_33 : decode cX10_swung 33 = .ok (.iadd, 1) := by decide +kernel
theorem dX10_swung_34 : decode cX10_swung 34 = .ok (.laload, 1) := by decide +kernel
theorem dX10_swung_35 : decode cX10_swung 35 = .ok (.invokevirtual 197, 3) := by decide +kernel
theorem dX10_swung_38 : decode cX10_swung 38 = .ok (.ldc2_w 138, 3) := by decide +kernel
theorem dX10_swung_41 : decode cX10_swung 41 = .ok (.aload_n 0, 1) := by decide +kernel
theorem dX10_swung_42 : decode cX10_swung 42 = .ok (.getfield 7, 3) := by decide +kernel
theorem dX10_swung_45 : decode cX10_swung 45 = .ok (.sipush 406, 3) := by decide +kernel
theorem dX10_swung_48 : decode cX10_swung 48 = .ok (.iaload, 1) := by decide +kernel
theorem dX10_swung_49 : decode cX10_swung 49 = .ok (.aload_n 0, 1) := by decide +kernel
theorem dX10_swung_50 : decode cX10_swung 50 = .ok (.getfield 7, 3) := by decide +kernel
theorem dX10_swung_53 : decode cX10_swung 53 = .ok (.sipush 407, 3) := by decide +kernel
theorem dX10_swung_56 : decode cX10_swung 56 = .ok (.iaload, 1) := by decide +kernel
theorem dX10_swung_57 : decode cX10_swung 57 = .ok (.iadd, 1) := by decide +kernel
theorem dX10_swung_58 : decode cX10_swung 58 = .ok (.i2l, 1) := by decide +kernel
theorem dX10_swung_59 : decode cX10_swung 59 = .ok (.lmul, 1) := by decide +kernel
theorem dX10_swung_60 : decode cX10_swung 60 = .ok (.iload_n 3, 1) := by decide +kernel
theorem dX10_swung_61 : decode cX10_swung 61 = .ok (.invokestatic 186, 3) := by decide +kernel
theorem dX10_swung_64 : decode cX10_swung 64 = .ok (.lreturn, 1) := by decide +kernel
theorem dX10_meter_0 : decode cX10_meter 0 = .ok (.ldc2_w 138, 3) := by decide +kernel
theorem dX10_meter_3 : decode cX10_meter 3 = .ok (.aload_n 0, 1) := by decide +kernel
theorem dX10_meter_4 : decode cX10_meter 4 = .ok (.getfield 7, 3) := by decide +kernel
theorem dX10_meter_7 : decode cX10_meter 7 = .ok (.sipush 405, 3) := by decide +kernel
theorem dX10_meter_10 : decode cX10_meter 10 = .ok (.iaload, 1) := by decide +kernel
theorem dX10_meter_11 : decode cX10_meter 11 = .ok (.i2l, 1) := by decide +kernel
theorem dX10_meter_12 : decode cX10_meter 12 = .ok (.ldiv, 1) := by decide +kernel
theorem dX10_meter_13 : decode cX10_meter 13 = .ok (.aload_n 0, 1) := by decide +kernel
theorem dX10_meter_14 : decode cX10_meter 14 = .ok (.getfield 7, 3) := by decide +kernel
theorem dX10_meter_17 : decode cX10_meter 17 = .ok (.sipush 404, 3) := by decide +kernel
theorem dX10_meter_20 : decode cX10_meter 20 = .ok (.iaload, 1) := by decide +kernel
theorem dX10_meter_21 : decode cX10_meter 21 = .ok (.i2l, 1) := by decide +kernel
theorem dX10_meter_22 : decode cX10_meter 22 = .ok (.lmul, 1) := by decide +kernel
theorem dX10_meter_23 : decode cX10_meter 23 = .ok (.lreturn, 1) := by decide +kernel
theorem dX10_levelOf_0 : decode cX10_levelOf 0 = .ok (.iconst 0, 1) := by decide +kernel
theorem dX10_levelOf_1 : decode cX10_levelOf 1 = .ok (.istore_n 3, 1) := by decide +kernel
theorem dX10_levelOf_2 : decode cX10_levelOf 2 = .ok (.iload_n 3, 1) := by decide +kernel
theorem dX10_levelOf_3 : decode cX10_levelOf 3 = .ok (.bipush 7, 2) := by decide +kernel
theorem dX10_levelOf_5 : decode cX10_levelOf 5 = .ok (.if_icmp .ge 24, 3) := by decide +kernel
theorem dX10_levelOf_8 : decode cX10_levelOf 8 = .ok (.lload_n 1, 1) := by decide +kernel
theorem dX10_levelOf_9 : decode cX10_levelOf 9 = .ok (.aload_n 0, 1) := by decide +kernel
theorem dX10_levelOf_10 : decode cX10_levelOf 10 = .ok (.invokevirtual 201, 3) := by decide +kernel
theorem dX10_levelOf_13 : decode cX10_levelOf 13 = .ok (.iload_n 3, 1) := by decide +kernel
theorem dX10_levelOf_14 : decode cX10_levelOf 14 = .ok (.lshr, 1) := by decide +kernel
theorem dX10_levelOf_15 : decode cX10_levelOf 15 = .ok (.lrem, 1) := by decide +kernel
theorem dX10_levelOf_16 : decode cX10_levelOf 16 = .ok (.lconst 0, 1) := by decide +kernel
theorem dX10_levelOf_17 : decode cX10_levelOf 17 = .ok (.lcmp, 1) := by decide +kernel
theorem dX10_levelOf_18 : decode cX10_levelOf 18 = .ok (.ifCond .ne 5, 3) := by decide +kernel
theorem dX10_levelOf_21 : decode cX10_levelOf 21 = .ok (.iload_n 3, 1) := by decide +kernel
theorem dX10_levelOf_22 : decode cX10_levelOf 22 = .ok (.ireturn, 1) := by decide +kernel
theorem dX10_levelOf_23 : decode cX10_levelOf 23 = .ok (.iinc 3 1, 3) := by decide +kernel
theorem dX10_levelOf_26 : decode cX10_levelOf 26 = .ok (.goto (-24), 3) := by decide +kernel
theorem dX10_levelOf_29 : decode cX10_levelOf 29 = .ok (.bipush 7, 2) := by decide +kernel
theorem dX10_levelOf_31 : decode cX10_levelOf 31 = .ok (.ireturn, 1) := by decide +kernel
theorem dX10_syncopationOf_0 : decode cX10_syncopationOf 0 = .ok (.aload_n 0, 1) := by decide +kernel
theorem dX10_syncopationOf_1 : decode cX10_syncopationOf 1 = .ok (.getfield 25, 3) := by decide +kernel
theorem dX10_syncopationOf_4 : decode cX10_syncopationOf 4 = .ok (.iload_n 1, 1) := by decide +kernel
theorem dX10_syncopationOf_5 : decode cX10_syncopationOf 5 = .ok (.laload, 1) := by decide +kernel
theorem dX10_syncopationOf_6 : decode cX10_syncopationOf 6 = .ok (.lstore_n 2, 1) := by decide +kernel
theorem dX10_syncopationOf_7 : decode cX10_syncopationOf 7 = .ok (.lload_n 2, 1) := by decide +kernel
theorem dX10_syncopationOf_8 : decode cX10_syncopationOf 8 = .ok (.aload_n 0, 1) := by decide +kernel
theorem dX10_syncopationOf_9 : decode cX10_syncopationOf 9 = .ok (.getfield 29, 3) := by decide +kernel
theorem dX10_syncopationOf_12 : decode cX10_syncopationOf 12 = .ok (.iload_n 1, 1) := by decide +kernel
theorem dX10_syncopationOf_13 : decode cX10_syncopationOf 13 = .ok (.laload, 1) := by decide +kernel
theorem dX10_syncopationOf_14 : decode cX10_syncopationOf 14 = .ok (.ladd, 1) := by decide +kernel
theorem dX10_syncopationOf_15 : decode cX10_syncopationOf 15 = .ok (.lstore 4, 2) := by decide +kernel
theorem dX10_syncopationOf_17 : decode cX10_syncopationOf 17 = .ok (.iconst 0, 1) := by decide +kernel
theorem dX10_syncopationOf_18 : decode cX10_syncopationOf 18 = .ok (.istore 6, 2) := by decide +kernel
theorem dX10_syncopationOf_20 : decode cX10_syncopationOf 20 = .ok (.iload 6, 2) := by decide +kernel
theorem dX10_syncopationOf_22 : decode cX10_syncopationOf 22 = .ok (.bipush 7, 2) := by decide +kernel
theorem dX10_syncopationOf_24 : decode cX10_syncopationOf 24 = .ok (.if_icmp .ge 55, 3) := by decide +kernel
theorem dX10_syncopationOf_27 : decode cX10_syncopationOf 27 = .ok (.aload_n 0, 1) := by decide +kernel
theorem dX10_syncopationOf_28 : decode cX10_syncopationOf 28 = .ok (.invokevirtual 201, 3) := by decide +kernel
theorem dX10_syncopationOf_31 : decode cX10_syncopationOf 31 = .ok (.iload 6, 2) := by decide +kernel
theorem dX10_syncopationOf_33 : decode cX10_syncopationOf 33 = .ok (.lshr, 1) := by decide +kernel
theorem dX10_syncopationOf_34 : decode cX10_syncopationOf 34 = .ok (.lstore 7, 2) := by decide +kernel
theorem dX10_syncopationOf_36 : decode cX10_syncopationOf 36 = .ok (.lload_n 2, 1) := by decide +kernel
theorem dX10_syncopationOf_37 : decode cX10_syncopationOf 37 = .ok (.lload 7, 2) := by decide +kernel
theorem dX10_syncopationOf_39 : decode cX10_syncopationOf 39 = .ok (.ldiv, 1) := by decide +kernel
theorem dX10_syncopationOf_40 : decode cX10_syncopationOf 40 = .ok (.lconst 1, 1) := by decide +kernel
theorem dX10_syncopationOf_41 : decode cX10_syncopationOf 41 = .ok (.ladd, 1) := by decide +kernel
theorem dX10_syncopationOf_42 : decode cX10_syncopationOf 42 = .ok (.lload 7, 2) := by decide +kernel
theorem dX10_syncopationOf_44 : decode cX10_syncopationOf 44 = .ok (.lmul, 1) := by decide +kernel
theorem dX10_syncopationOf_45 : decode cX10_syncopationOf 45 = .ok (.lload 4, 2) := by decide +kernel
theorem dX10_syncopationOf_47 : decode cX10_syncopationOf 47 = .ok (.lcmp, 1) := by decide +kernel
theorem dX10_syncopationOf_48 : decode cX10_syncopationOf 48 = .ok (.ifCond .ge 25, 3) := by decide +kernel
theorem dX10_syncopationOf_51 : decode cX10_syncopationOf 51 = .ok (.aload_n 0, 1) := by decide +kernel
theorem dX10_syncopationOf_52 : decode cX10_syncopationOf 52 = .ok (.lload_n 2, 1) := by decide +kernel
theorem dX10_syncopationOf_53 : decode cX10_syncopationOf 53 = .ok (.invokevirtual 205, 3) := by decide +kernel
theorem dX10_syncopationOf_56 : decode cX10_syncopationOf 56 = .ok (.iload 6, 2) := by decide +kernel
theorem dX10_syncopationOf_58 : decode cX10_syncopationOf 58 = .ok (.isub, 1) := by decide +kernel
theorem dX10_syncopationOf_59 : decode cX10_syncopationOf 59 = .ok (.istore 9, 2) := by decide +kernel
theorem dX10_syncopationOf_61 : decode cX10_syncopationOf 61 = .ok (.iload 9, 2) := by decide +kernel
theorem dX10_syncopationOf_63 : decode cX10_syncopationOf 63 = .ok (.ifCond .le 8, 3) := by decide +kernel
theorem dX10_syncopationOf_66 : decode cX10_syncopationOf 66 = .ok (.iload 9, 2) := by decide +kernel
theorem dX10_syncopationOf_68 : decode cX10_syncopationOf 68 = .ok (.goto 4, 3) := by decide +kernel
theorem dX10_syncopationOf_71 : decode cX10_syncopationOf 71 = .ok (.iconst 0, 1) := by decide +kernel
theorem dX10_syncopationOf_72 : decode cX10_syncopationOf 72 = .ok (.ireturn, 1) := by decide +kernel
theorem dX10_syncopationOf_73 : decode cX10_syncopationOf 73 = .ok (.iinc 6 1, 3) := by decide +kernel
theorem dX10_syncopationOf_76 : decode cX10_syncopationOf 76 = .ok (.goto (-56), 3) := by decide +kernel
theorem dX10_syncopationOf_79 : decode cX10_syncopationOf 79 = .ok (.iconst 0, 1) := by decide +kernel
theorem dX10_syncopationOf_80 : decode cX10_syncopationOf 80 = .ok (.ireturn, 1) := by decide +kernel
theorem dX10_event_0 : decode cX10_event 0 = .ok (.iload_n 3, 1) := by decide +kernel
theorem dX10_event_1 : decode cX10_event 1 = .ok (.iconst 0, 1) := by decide +kernel
theorem dX10_event_2 : decode cX10_event 2 = .ok (.iconst 4, 1) := by decide +kernel
theorem dX10_event_3 : decode cX10_event 3 = .ok (.invokestatic 76, 3) := by decide +kernel
theorem dX10_event_6 : decode cX10_event 6 = .ok (.ifCond .eq 12, 3) := by decide +kernel
theorem dX10_event_9 : decode cX10_event 9 = .ok (.aload_n 0, 1) := by decide +kernel
theorem dX10_event_10 : decode cX10_event 10 = .ok (.iload_n 1, 1) := by decide +kernel
theorem dX10_event_11 : decode cX10_event 11 = .ok (.iload_n 2, 1) := by decide +kernel
theorem dX10_event_12 : decode cX10_event 12 = .ok (.invokevirtual 190, 3) := by decide +kernel
theorem dX10_event_15 : decode cX10_event 15 = .ok (.ifCond .ne 5, 3) := by decide +kernel
theorem dX10_event_18 : decode cX10_event 18 = .ok (.iconst (-1), 1) := by decide +kernel
theorem dX10_event_19 : decode cX10_event 19 = .ok (.ireturn, 1) := by decide +kernel
theorem dX10_event_20 : decode cX10_event 20 = .ok (.sipush 300, 3) := by decide +kernel
theorem dX10_event_23 : decode cX10_event 23 = .ok (.iload_n 1, 1) := by decide +kernel
theorem dX10_event_24 : decode cX10_event 24 = .ok (.imul, 1) := by decide +kernel
theorem dX10_event_25 : decode cX10_event 25 = .ok (.iload_n 2, 1) := by decide +kernel
theorem dX10_event_26 : decode cX10_event 26 = .ok (.iadd, 1) := by decide +kernel
theorem dX10_event_27 : decode cX10_event 27 = .ok (.istore 4, 2) := by decide +kernel
theorem dX10_event_29 : decode cX10_event 29 = .ok (.iload_n 3, 1) := by decide +kernel
theorem dX10_event_30 : decode cX10_event 30 = .ok (.tableswitch 66 0 3 #[30, 38, 46, 54], 30) := by decide +kernel
theorem dX10_event_60 : decode cX10_event 60 = .ok (.aload_n 0, 1) := by decide +kernel
theorem dX10_event_61 : decode cX10_event 61 = .ok (.getfield 32, 3) := by decide +kernel
theorem dX10_event_64 : decode cX10_event 64 = .ok (.iload 4, 2) := by decide +kernel
theorem dX10_event_66 : decode cX10_event 66 = .ok (.iaload, 1) := by decide +kernel
theorem dX10_event_67 : decode cX10_event 67 = .ok (.ireturn, 1) := by decide +kernel
theorem dX10_event_68 : decode cX10_event 68 = .ok (.aload_n 0, 1) := by decide +kernel
theorem dX10_event_69 : decode cX10_event 69 = .ok (.getfield 35, 3) := by decide +kernel
theorem dX10_event_72 : decode cX10_event 72 = .ok (.iload 4, 2) := by decide +kernel
theorem dX10_event_74 : decode cX10_event 74 = .ok (.iaload, 1) := by decide +kernel
theorem dX10_event_75 : decode cX10_event 75 = .ok (.ireturn, 1) := by decide +kernel
theorem dX10_event_76 : decode cX10_event 76 = .ok (.aload_n 0, 1) := by decide +kernel
theorem dX10_event_77 : decode cX10_event 77 = .ok (.getfield 38, 3) := by decide +kernel
theorem dX10_event_80 : decode cX10_event 80 = .ok (.iload 4, 2) := by decide +kernel
theorem dX10_event_82 : decode cX10_event 82 = .ok (.iaload, 1) := by decide +kernel
theorem dX10_event_83 : decode cX10_event 83 = .ok (.ireturn, 1) := by decide +kernel
theorem dX10_event_84 : decode cX10_event 84 = .ok (.aload_n 0, 1) := by decide +kernel
theorem dX10_event_85 : decode cX10_event 85 = .ok (.aload_n 0, 1) := by decide +kernel
theorem dX10_event_86 : decode cX10_event 86 = .ok (.getfield 25, 3) := by decide +kernel
theorem dX10_event_89 : decode cX10_event 89 = .ok (.iload 4, 2) := by decide +kernel
theorem dX10_event_91 : decode cX10_event 91 = .ok (.laload, 1) := by decide +kernel
theorem dX10_event_92 : decode cX10_event 92 = .ok (.invokevirtual 205, 3) := by decide +kernel
theorem dX10_event_95 : decode cX10_event 95 = .ok (.ireturn, 1) := by decide +kernel
theorem dX10_event_96 : decode cX10_event 96 = .ok (.aload_n 0, 1) := by decide +kernel
theorem dX10_event_97 : decode cX10_event 97 = .ok (.iload 4, 2) := by decide +kernel
theorem dX10_event_99 : decode cX10_event 99 = .ok (.invokevirtual 209, 3) := by decide +kernel
theorem dX10_event_102 : decode cX10_event 102 = .ok (.ireturn, 1) := by decide +kernel
theorem dX10_bars_0 : decode cX10_bars 0 = .ok (.iload_n 1, 1) := by decide +kernel
theorem dX10_bars_1 : decode cX10_bars 1 = .ok (.invokestatic 163, 3) := by decide +kernel
theorem dX10_bars_4 : decode cX10_bars 4 = .ok (.ifCond .ne 5, 3) := by decide +kernel
theorem dX10_bars_7 : decode cX10_bars 7 = .ok (.iconst (-1), 1) := by decide +kernel
theorem dX10_bars_8 : decode cX10_bars 8 = .ok (.ireturn, 1) := by decide +kernel
theorem dX10_bars_9 : decode cX10_bars 9 = .ok (.aload_n 0, 1) := by decide +kernel
theorem dX10_bars_10 : decode cX10_bars 10 = .ok (.iload_n 1, 1) := by decide +kernel
theorem dX10_bars_11 : decode cX10_bars 11 = .ok (.invokevirtual 174, 3) := by decide +kernel
theorem dX10_bars_14 : decode cX10_bars 14 = .ok (.aload_n 0, 1) := by decide +kernel
theorem dX10_bars_15 : decode cX10_bars 15 = .ok (.getfield 47, 3) := by decide +kernel
theorem dX10_bars_18 : decode cX10_bars 18 = .ok (.iload_n 1, 1) := by decide +kernel
theorem dX10_bars_19 : decode cX10_bars 19 = .ok (.iaload, 1) := by decide +kernel
theorem dX10_bars_20 : decode cX10_bars 20 = .ok (.ireturn, 1) := by decide +kernel
theorem dX10_bar_0 : decode cX10_bar 0 = .ok (.iload_n 1, 1) := by decide +kernel
theorem dX10_bar_1 : decode cX10_bar 1 = .ok (.invokestatic 163, 3) := by decide +kernel
theorem dX10_bar_4 : decode cX10_bar 4 = .ok (.ifCond .eq 12, 3) := by decide +kernel
theorem dX10_bar_7 : decode cX10_bar 7 = .ok (.iload_n 3, 1) := by decide +kernel
theorem dX10_bar_8 : decode cX10_bar 8 = .ok (.iconst 0, 1) := by decide +kernel
theorem dX10_bar_9 : decode cX10_bar 9 = .ok (.iconst 1, 1) := by decide +kernel
theorem dX10_bar_10 : decode cX10_bar 10 = .ok (.invokestatic 76, 3) := by decide +kernel
theorem dX10_bar_13 : decode cX10_bar 13 = .ok (.ifCond .ne 7, 3) := by decide +kernel
theorem dX10_bar_16 : decode cX10_bar 16 = .ok (.ldc2_w 184, 3) := by decide +kernel
theorem dX10_bar_19 : decode cX10_bar 19 = .ok (.lreturn, 1) := by decide +kernel
theorem dX10_bar_20 : decode cX10_bar 20 = .ok (.aload_n 0, 1) := by decide +kernel
theorem dX10_bar_21 : decode cX10_bar 21 = .ok (.iload_n 1, 1) := by decide +kernel
theorem dX10_bar_22 : decode cX10_bar 22 = .ok (.invokevirtual 174, 3) := by decide +kernel
theorem dX10_bar_25 : decode cX10_bar 25 = .ok (.iload_n 2, 1) := by decide +kernel
theorem dX10_bar_26 : decode cX10_bar 26 = .ok (.iconst 0, 1) := by decide +kernel
theorem dX10_bar_27 : decode cX10_bar 27 = .ok (.aload_n 0, 1) := by decide +kernel
theorem dX10_bar_28 : decode cX10_bar 28 = .ok (.getfield 47, 3) := by decide +kernel
theorem dX10_bar_31 : decode cX10_bar 31 = .ok (.iload_n 1, 1) := by decide +kernel
theorem dX10_bar_32 : decode cX10_bar 32 = .ok (.iaload, 1) := by decide +kernel
theorem dX10_bar_33 : decode cX10_bar 33 = .ok (.iconst 1, 1) := by decide +kernel
theorem dX10_bar_34 : decode cX10_bar 34 = .ok (.isub, 1) := by decide +kernel
theorem dX10_bar_35 : decode cX10_bar 35 = .ok (.invokestatic 76, 3) := by decide +kernel
theorem dX10_bar_38 : decode cX10_bar 38 = .ok (.ifCond .eq 19, 3) := by decide +kernel
theorem dX10_bar_41 : decode cX10_bar 41 = .ok (.aload_n 0, 1) := by decide +kernel
theorem dX10_bar_42 : decode cX10_bar 42 = .ok (.getfield 50, 3) := by decide +kernel
theorem dX10_bar_45 : decode cX10_bar 45 = .ok (.iload_n 2, 1) := by decide +kernel
theorem dX10_bar_46 : decode cX10_bar 46 = .ok (.laload, 1) := by decide +kernel
theorem dX10_bar_47 : decode cX10_bar 47 = .ok (.ldc2_w 138, 3) := by decide +kernel
theorem dX10_bar_50 : decode cX10_bar 50 = .ok (.iload_n 3, 1) := by decide +kernel
theorem dX10_bar_51 : decode cX10_bar 51 = .ok (.invokestatic 186, 3) := by decide +kernel
theorem dX10_bar_54 : decode cX10_bar 54 = .ok (.goto 6, 3) := by decide +kernel
theorem dX10_bar_57 : decode cX10_bar 57 = .ok (.ldc2_w 184, 3) := by decide +kernel
theorem dX10_bar_60 : decode cX10_bar 60 = .ok (.lreturn, 1) := by decide +kernel
theorem dX10_wrongBar_0 : decode cX10_wrongBar 0 = .ok (.iload_n 1, 1) := by decide +kernel
theorem dX10_wrongBar_1 : decode cX10_wrongBar 1 = .ok (.invokestatic 163, 3) := by decide +kernel
theorem dX10_wrongBar_4 : decode cX10_wrongBar 4 = .ok (.ifCond .ne 5, 3) := by decide +kernel
theorem dX10_wrongBar_7 : decode cX10_wrongBar 7 = .ok (.iconst (-1), 1) := by decide +kernel
theorem dX10_wrongBar_8 : decode cX10_wrongBar 8 = .ok (.ireturn, 1) := by decide +kernel
theorem dX10_wrongBar_9 : decode cX10_wrongBar 9 = .ok (.aload_n 0, 1) := by decide +kernel
theorem dX10_wrongBar_10 : decode cX10_wrongBar 10 = .ok (.iload_n 1, 1) := by decide +kernel
theorem dX10_wrongBar_11 : decode cX10_wrongBar 11 = .ok (.invokevirtual 174, 3) := by decide +kernel
theorem dX10_wrongBar_14 : decode cX10_wrongBar 14 = .ok (.iconst 0, 1) := by decide +kernel
theorem dX10_wrongBar_15 : decode cX10_wrongBar 15 = .ok (.istore_n 2, 1) := by decide +kernel
theorem dX10_wrongBar_16 : decode cX10_wrongBar 16 = .ok (.iload_n 2, 1) := by decide +kernel
theorem dX10_wrongBar_17 : decode cX10_wrongBar 17 = .ok (.aload_n 0, 1) := by decide +kernel
theorem dX10_wrongBar_18 : decode cX10_wrongBar 18 = .ok (.getfield 47, 3) := by decide +kernel
theorem dX10_wrongBar_21 : decode cX10_wrongBar 21 = .ok (.iload_n 1, 1) := by decide +kernel
theorem dX10_wrongBar_22 : decode cX10_wrongBar 22 = .ok (.iaload, 1) := by decide +kernel
theorem dX10_wrongBar_23 : decode cX10_wrongBar 23 = .ok (.if_icmp .ge 56, 3) := by decide +kernel
theorem dX10_wrongBar_26 : decode cX10_wrongBar 26 = .ok (.iload_n 2, 1) := by decide +kernel
theorem dX10_wrongBar_27 : decode cX10_wrongBar 27 = .ok (.aload_n 0, 1) := by decide +kernel
theorem dX10_wrongBar_28 : decode cX10_wrongBar 28 = .ok (.getfield 47, 3) := by decide +kernel
theorem dX10_wrongBar_31 : decode cX10_wrongBar 31 = .ok (.iload_n 1, 1) := by decide +kernel
theorem dX10_wrongBar_32 : decode cX10_wrongBar 32 = .ok (.iaload, 1) := by decide +kernel
theorem dX10_wrongBar_33 : decode cX10_wrongBar 33 = .ok (.iconst 1, 1) := by decide +kernel
theorem dX10_wrongBar_34 : decode cX10_wrongBar 34 = .ok (.isub, 1) := by decide +kernel
theorem dX10_wrongBar_35 : decode cX10_wrongBar 35 = .ok (.if_icmp .ne 16, 3) := by decide +kernel
theorem dX10_wrongBar_38 : decode cX10_wrongBar 38 = .ok (.aload_n 0, 1) := by decide +kernel
theorem dX10_wrongBar_39 : decode cX10_wrongBar 39 = .ok (.getfield 53, 3) := by decide +kernel
theorem dX10_wrongBar_42 : decode cX10_wrongBar 42 = .ok (.iload_n 2, 1) := by decide +kernel
theorem dX10_wrongBar_43 : decode cX10_wrongBar 43 = .ok (.baload, 1) := by decide +kernel
theorem dX10_wrongBar_44 : decode cX10_wrongBar 44 = .ok (.ifCond .eq 7, 3) := by decide +kernel
theorem dX10_wrongBar_47 : decode cX10_wrongBar 47 = .ok (.iconst 1, 1) := by decide +kernel
theorem dX10_wrongBar_48 : decode cX10_wrongBar 48 = .ok (.goto 4, 3) := by decide +kernel
theorem dX10_wrongBar_51 : decode cX10_wrongBar 51 = .ok (.iconst 0, 1) := by decide +kernel
theorem dX10_wrongBar_52 : decode cX10_wrongBar 52 = .ok (.istore_n 3, 1) := by decide +kernel
theorem dX10_wrongBar_53 : decode cX10_wrongBar 53 = .ok (.aload_n 0, 1) := by decide +kernel
theorem dX10_wrongBar_54 : decode cX10_wrongBar 54 = .ok (.getfield 50, 3) := by decide +kernel
theorem dX10_wrongBar_57 : decode cX10_wrongBar 57 = .ok (.iload_n 2, 1) := by decide +kernel
theorem dX10_wrongBar_58 : decode cX10_wrongBar 58 = .ok (.laload, 1) := by decide +kernel
theorem dX10_wrongBar_59 : decode cX10_wrongBar 59 = .ok (.aload_n 0, 1) := by decide +kernel
theorem dX10_wrongBar_60 : decode cX10_wrongBar 60 = .ok (.invokevirtual 201, 3) := by decide +kernel
theorem dX10_wrongBar_63 : decode cX10_wrongBar 63 = .ok (.lcmp, 1) := by decide +kernel
theorem dX10_wrongBar_64 : decode cX10_wrongBar 64 = .ok (.ifCond .eq 9, 3) := by decide +kernel
theorem dX10_wrongBar_67 : decode cX10_wrongBar 67 = .ok (.iload_n 3, 1) := by decide +kernel
theorem dX10_wrongBar_68 : decode cX10_wrongBar 68 = .ok (.ifCond .ne 5, 3) := by decide +kernel
theorem dX10_wrongBar_71 : decode cX10_wrongBar 71 = .ok (.iload_n 2, 1) := by decide +kernel
theorem dX10_wrongBar_72 : decode cX10_wrongBar 72 = .ok (.ireturn, 1) := by decide +kernel
theorem dX10_wrongBar_73 : decode cX10_wrongBar 73 = .ok (.iinc 2 1, 3) := by decide +kernel
theorem dX10_wrongBar_76 : decode cX10_wrongBar 76 = .ok (.goto (-60), 3) := by decide +kernel
theorem dX10_wrongBar_79 : decode cX10_wrongBar 79 = .ok (.bipush (-9), 2) := by decide +kernel
theorem dX10_wrongBar_81 : decode cX10_wrongBar 81 = .ok (.ireturn, 1) := by decide +kernel
theorem dX10_syncopation_0 : decode cX10_syncopation 0 = .ok (.iload_n 1, 1) := by decide +kernel
theorem dX10_syncopation_1 : decode cX10_syncopation 1 = .ok (.invokestatic 163, 3) := by decide +kernel
theorem dX10_syncopation_4 : decode cX10_syncopation 4 = .ok (.ifCond .ne 5, 3) := by decide +kernel
theorem dX10_syncopation_7 : decode cX10_syncopation 7 = .ok (.iconst (-1), 1) := by decide +kernel
theorem dX10_syncopation_8 : decode cX10_syncopation 8 = .ok (.ireturn, 1) := by decide +kernel
theorem dX10_syncopation_9 : decode cX10_syncopation 9 = .ok (.aload_n 0, 1) := by decide +kernel
theorem dX10_syncopation_10 : decode cX10_syncopation 10 = .ok (.iload_n 1, 1) := by decide +kernel
theorem dX10_syncopation_11 : decode cX10_syncopation 11 = .ok (.invokevirtual 174, 3) := by decide +kernel
theorem dX10_syncopation_14 : decode cX10_syncopation 14 = .ok (.iconst 0, 1) := by decide +kernel
theorem dX10_syncopation_15 : decode cX10_syncopation 15 = .ok (.istore_n 2, 1) := by decide +kernel
theorem dX10_syncopation_16 : decode cX10_syncopation 16 = .ok (.iconst 0, 1) := by decide +kernel
theorem dX10_syncopation_17 : decode cX10_syncopation 17 = .ok (.istore_n 3, 1) := by decide +kernel
theorem dX10_syncopation_18 : decode cX10_syncopation 18 = .ok (.iload_n 3, 1) := by decide +kernel
theorem dX10_syncopation_19 : decode cX10_syncopation 19 = .ok (.aload_n 0, 1) := by decide +kernel
theorem dX10_syncopation_20 : decode cX10_syncopation 20 = .ok (.getfield 41, 3) := by decide +kernel
theorem dX10_syncopation_23 : decode cX10_syncopation 23 = .ok (.iload_n 1, 1) := by decide +kernel
theorem dX10_syncopation_24 : decode cX10_syncopation 24 = .ok (.iaload, 1) := by decide +kernel
theorem dX10_syncopation_25 : decode cX10_syncopation 25 = .ok (.if_icmp .ge 23, 3) := by decide +kernel
theorem dX10_syncopation_28 : decode cX10_syncopation 28 = .ok (.iload_n 2, 1) := by decide +kernel
theorem dX10_syncopation_29 : decode cX10_syncopation 29 = .ok (.aload_n 0, 1) := by decide +kernel
theorem dX10_syncopation_30 : decode cX10_syncopation 30 = .ok (.sipush 300, 3) := by decide +kernel
theorem dX10_syncopation_33 : decode cX10_syncopation 33 = .ok (.iload_n 1, 1) := by decide +kernel
theorem dX10_syncopation_34 : decode cX10_syncopation 34 = .ok (.imul, 1) := by decide +kernel
theorem dX10_syncopation_35 : decode cX10_syncopation 35 = .ok (.iload_n 3, 1) := by decide +kernel
theorem dX10_syncopation_36 : decode cX10_syncopation 36 = .ok (.iadd, 1) := by decide +kernel
theorem dX10_syncopation_37 : decode cX10_syncopation 37 = .ok (.invokevirtual 209, 3) := by decide +kernel
theorem dX10_syncopation_40 : decode cX10_syncopation 40 = .ok (.iadd, 1) := by decide +kernel
theorem dX10_syncopation_41 : decode cX10_syncopation 41 = .ok (.istore_n 2, 1) := by decide +kernel
theorem dX10_syncopation_42 : decode cX10_syncopation 42 = .ok (.iinc 3 1, 3) := by decide +kernel
theorem dX10_syncopation_45 : decode cX10_syncopation 45 = .ok (.goto (-27), 3) := by decide +kernel
theorem dX10_syncopation_48 : decode cX10_syncopation 48 = .ok (.iload_n 2, 1) := by decide +kernel
theorem dX10_syncopation_49 : decode cX10_syncopation 49 = .ok (.ireturn, 1) := by decide +kernel
theorem dX10_offGrid_0 : decode cX10_offGrid 0 = .ok (.iload_n 1, 1) := by decide +kernel
theorem dX10_offGrid_1 : decode cX10_offGrid 1 = .ok (.invokestatic 163, 3) := by decide +kernel
theorem dX10_offGrid_4 : decode cX10_offGrid 4 = .ok (.ifCond .eq 14, 3) := by decide +kernel
theorem dX10_offGrid_7 : decode cX10_offGrid 7 = .ok (.iload_n 2, 1) := by decide +kernel
theorem dX10_offGrid_8 : decode cX10_offGrid 8 = .ok (.iconst 1, 1) := by decide +kernel
theorem dX10_offGrid_9 : decode cX10_offGrid 9 = .ok (.sipush 1000, 3) := by decide +kernel
theorem dX10_offGrid_12 : decode cX10_offGrid 12 = .ok (.invokestatic 76, 3) := by decide +kernel
theorem dX10_offGrid_15 : decode cX10_offGrid 15 = .ok (.ifCond .ne 5, 3) := by decide +kernel
theorem dX10_offGrid_18 : decode cX10_offGrid 18 = .ok (.iconst (-1), 1) := by decide +kernel
theorem dX10_offGrid_19 : decode cX10_offGrid 19 = .ok (.ireturn, 1) := by decide +kernel
theorem dX10_offGrid_20 : decode cX10_offGrid 20 = .ok (.aload_n 0, 1) := by decide +kernel
theorem dX10_offGrid_21 : decode cX10_offGrid 21 = .ok (.iload_n 1, 1) := by decide +kernel
theorem dX10_offGrid_22 : decode cX10_offGrid 22 = .ok (.invokevirtual 174, 3) := by decide +kernel
theorem dX10_offGrid_25 : decode cX10_offGrid 25 = .ok (.iconst 0, 1) := by decide +kernel
theorem dX10_offGrid_26 : decode cX10_offGrid 26 = .ok (.istore_n 3, 1) := by decide +kernel
theorem dX10_offGrid_27 : decode cX10_offGrid 27 = .ok (.iconst 0, 1) := by decide +kernel
theorem dX10_offGrid_28 : decode cX10_offGrid 28 = .ok (.istore 4, 2) := by decide +kernel
theorem dX10_offGrid_30 : decode cX10_offGrid 30 = .ok (.iload 4, 2) := by decide +kernel
theorem dX10_offGrid_32 : decode cX10_offGrid 32 = .ok (.aload_n 0, 1) := by decide +kernel
theorem dX10_offGrid_33 : decode cX10_offGrid 33 = .ok (.getfield 41, 3) := by decide +kernel
theorem dX10_offGrid_36 : decode cX10_offGrid 36 = .ok (.iload_n 1, 1) := by decide +kernel
theorem dX10_offGrid_37 : decode cX10_offGrid 37 = .ok (.iaload, 1) := by decide +kernel
theorem dX10_offGrid_38 : decode cX10_offGrid 38 = .ok (.if_icmp .ge 42, 3) := by decide +kernel
theorem dX10_offGrid_41 : decode cX10_offGrid 41 = .ok (.iload_n 3, 1) := by decide +kernel
theorem dX10_offGrid_42 : decode cX10_offGrid 42 = .ok (.aload_n 0, 1) := by decide +kernel
theorem dX10_offGrid_43 : decode cX10_offGrid 43 = .ok (.getfield 25, 3) := by decide +kernel
theorem dX10_offGrid_46 : decode cX10_offGrid 46 = .ok (.sipush 300, 3) := by decide +kernel
theorem dX10_offGrid_49 : decode cX10_offGrid 49 = .ok (.iload_n 1, 1) := by decide +kernel
theorem dX10_offGrid_50 : decode cX10_offGrid 50 = .ok (.imul, 1) := by decide +kernel
theorem dX10_offGrid_51 : decode cX10_offGrid 51 = .ok (.iload 4, 2) := by decide +kernel
theorem dX10_offGrid_53 : decode cX10_offGrid 53 = .ok (.iadd, 1) := by decide +kernel
theorem dX10_offGrid_54 : decode cX10_offGrid 54 = .ok (.laload, 1) := by decide +kernel
theorem dX10_offGrid_55 : decode cX10_offGrid 55 = .ok (.iload_n 2, 1) := by decide +kernel
theorem dX10_offGrid_56 : decode cX10_offGrid 56 = .ok (.i2l, 1) := by decide +kernel
theorem dX10_offGrid_57 : decode cX10_offGrid 57 = .ok (.lmul, 1) := by decide +kernel
theorem dX10_offGrid_58 : decode cX10_offGrid 58 = .ok (.ldc2_w 138, 3) := by decide +kernel
theorem dX10_offGrid_61 : decode cX10_offGrid 61 = .ok (.lrem, 1) := by decide +kernel
theorem dX10_offGrid_62 : decode cX10_offGrid 62 = .ok (.lconst 0, 1) := by decide +kernel
theorem dX10_offGrid_63 : decode cX10_offGrid 63 = .ok (.lcmp, 1) := by decide +kernel
theorem dX10_offGrid_64 : decode cX10_offGrid 64 = .ok (.ifCond .ne 7, 3) := by decide +kernel
theorem dX10_offGrid_67 : decode cX10_offGrid 67 = .ok (.iconst 0, 1) := by decide +kernel
theorem dX10_offGrid_68 : decode cX10_offGrid 68 = .ok (.goto 4, 3) := by decide +kernel
theorem dX10_offGrid_71 : decode cX10_offGrid 71 = .ok (.iconst 1, 1) := by decide +kernel
theorem dX10_offGrid_72 : decode cX10_offGrid 72 = .ok (.iadd, 1) := by decide +kernel
theorem dX10_offGrid_73 : decode cX10_offGrid 73 = .ok (.istore_n 3, 1) := by decide +kernel
theorem dX10_offGrid_74 : decode cX10_offGrid 74 = .ok (.iinc 4 1, 3) := by decide +kernel
theorem dX10_offGrid_77 : decode cX10_offGrid 77 = .ok (.goto (-47), 3) := by decide +kernel
theorem dX10_offGrid_80 : decode cX10_offGrid 80 = .ok (.iload_n 3, 1) := by decide +kernel
theorem dX10_offGrid_81 : decode cX10_offGrid 81 = .ok (.ireturn, 1) := by decide +kernel
theorem dX10_leastGrid_0 : decode cX10_leastGrid 0 = .ok (.iload_n 1, 1) := by decide +kernel
theorem dX10_leastGrid_1 : decode cX10_leastGrid 1 = .ok (.invokestatic 163, 3) := by decide +kernel
theorem dX10_leastGrid_4 : decode cX10_leastGrid 4 = .ok (.ifCond .ne 5, 3) := by decide +kernel
theorem dX10_leastGrid_7 : decode cX10_leastGrid 7 = .ok (.iconst (-1), 1) := by decide +kernel
theorem dX10_leastGrid_8 : decode cX10_leastGrid 8 = .ok (.ireturn, 1) := by decide +kernel
theorem dX10_leastGrid_9 : decode cX10_leastGrid 9 = .ok (.aload_n 0, 1) := by decide +kernel
theorem dX10_leastGrid_10 : decode cX10_leastGrid 10 = .ok (.iload_n 1, 1) := by decide +kernel
theorem dX10_leastGrid_11 : decode cX10_leastGrid 11 = .ok (.invokevirtual 174, 3) := by decide +kernel
theorem dX10_leastGrid_14 : decode cX10_leastGrid 14 = .ok (.lconst 1, 1) := by decide +kernel
theorem dX10_leastGrid_15 : decode cX10_leastGrid 15 = .ok (.lstore_n 2, 1) := by decide +kernel
theorem dX10_leastGrid_16 : decode cX10_leastGrid 16 = .ok (.iconst 0, 1) := by decide +kernel
theorem dX10_leastGrid_17 : decode cX10_leastGrid 17 = .ok (.istore 4, 2) := by decide +kernel
theorem dX10_leastGrid_19 : decode cX10_leastGrid 19 = .ok (.iload 4, 2) := by decide +kernel
theorem dX10_leastGrid_21 : decode cX10_leastGrid 21 = .ok (.aload_n 0, 1) := by decide +kernel
theorem dX10_leastGrid_22 : decode cX10_leastGrid 22 = .ok (.getfield 41, 3) := by decide +kernel
theorem dX10_leastGrid_25 : decode cX10_leastGrid 25 = .ok (.iload_n 1, 1) := by decide +kernel
theorem dX10_leastGrid_26 : decode cX10_leastGrid 26 = .ok (.iaload, 1) := by decide +kernel
theorem dX10_leastGrid_27 : decode cX10_leastGrid 27 = .ok (.if_icmp .ge 43, 3) := by decide +kernel
theorem dX10_leastGrid_30 : decode cX10_leastGrid 30 = .ok (.aload_n 0, 1) := by decide +kernel
theorem dX10_leastGrid_31 : decode cX10_leastGrid 31 = .ok (.getfield 25, 3) := by decide +kernel
theorem dX10_leastGrid_34 : decode cX10_leastGrid 34 = .ok (.sipush 300, 3) := by decide +kernel
theorem dX10_leastGrid_37 : decode cX10_leastGrid 37 = .ok (.iload_n 1, 1) := by decide +kernel
theorem dX10_leastGrid_38 : decode cX10_leastGrid 38 = .ok (.imul, 1) := by decide +kernel
theorem dX10_leastGrid_39 : decode cX10_leastGrid 39 = .ok (.iload 4, 2) := by decide +kernel
theorem dX10_leastGrid_41 : decode cX10_leastGrid 41 = .ok (.iadd, 1) := by decide +kernel
theorem dX10_leastGrid_42 : decode cX10_leastGrid 42 = .ok (.laload, 1) := by decide +kernel
theorem dX10_leastGrid_43 : decode cX10_leastGrid 43 = .ok (.ldc2_w 138, 3) := by decide +kernel
theorem dX10_leastGrid_46 : decode cX10_leastGrid 46 = .ok (.iconst 1, 1) := by decide +kernel
theorem dX10_leastGrid_47 : decode cX10_leastGrid 47 = .ok (.invokestatic 186, 3) := by decide +kernel
theorem dX10_leastGrid_50 : decode cX10_leastGrid 50 = .ok (.lstore 5, 2) := by decide +kernel
theorem dX10_leastGrid_52 : decode cX10_leastGrid 52 = .ok (.lload_n 2, 1) := by decide +kernel
theorem dX10_leastGrid_53 : decode cX10_leastGrid 53 = .ok (.lload_n 2, 1) := by decide +kernel
theorem dX10_leastGrid_54 : decode cX10_leastGrid 54 = .ok (.lload 5, 2) := by decide +kernel
theorem dX10_leastGrid_56 : decode cX10_leastGrid 56 = .ok (.invokestatic 180, 3) := by decide +kernel
theorem dX10_leastGrid_59 : decode cX10_leastGrid 59 = .ok (.ldiv, 1) := by decide +kernel
theorem dX10_leastGrid_60 : decode cX10_leastGrid 60 = .ok (.lload 5, 2) := by decide +kernel
theorem dX10_leastGrid_62 : decode cX10_leastGrid 62 = .ok (.lmul, 1) := by decide +kernel
theorem dX10_leastGrid_63 : decode cX10_leastGrid 63 = .ok (.lstore_n 2, 1) := by decide +kernel
theorem dX10_leastGrid_64 : decode cX10_leastGrid 64 = .ok (.iinc 4 1, 3) := by decide +kernel
theorem dX10_leastGrid_67 : decode cX10_leastGrid 67 = .ok (.goto (-48), 3) := by decide +kernel
theorem dX10_leastGrid_70 : decode cX10_leastGrid 70 = .ok (.lload_n 2, 1) := by decide +kernel
theorem dX10_leastGrid_71 : decode cX10_leastGrid 71 = .ok (.ldc2_w 212, 3) := by decide +kernel
theorem dX10_leastGrid_74 : decode cX10_leastGrid 74 = .ok (.lcmp, 1) := by decide +kernel
theorem dX10_leastGrid_75 : decode cX10_leastGrid 75 = .ok (.ifCond .gt 8, 3) := by decide +kernel
theorem dX10_leastGrid_78 : decode cX10_leastGrid 78 = .ok (.lload_n 2, 1) := by decide +kernel
theorem dX10_leastGrid_79 : decode cX10_leastGrid 79 = .ok (.l2i, 1) := by decide +kernel
theorem dX10_leastGrid_80 : decode cX10_leastGrid 80 = .ok (.goto 5, 3) := by decide +kernel
theorem dX10_leastGrid_83 : decode cX10_leastGrid 83 = .ok (.bipush (-9), 2) := by decide +kernel
theorem dX10_leastGrid_85 : decode cX10_leastGrid 85 = .ok (.ireturn, 1) := by decide +kernel
theorem dX10_startsAll_0 : decode cX10_startsAll 0 = .ok (.iconst 0, 1) := by decide +kernel
theorem dX10_startsAll_1 : decode cX10_startsAll 1 = .ok (.istore_n 1, 1) := by decide +kernel
theorem dX10_startsAll_2 : decode cX10_startsAll 2 = .ok (.iload_n 1, 1) := by decide +kernel
theorem dX10_startsAll_3 : decode cX10_startsAll 3 = .ok (.iconst 4, 1) := by decide +kernel
theorem dX10_startsAll_4 : decode cX10_startsAll 4 = .ok (.if_icmp .ge 21, 3) := by decide +kernel
theorem dX10_startsAll_7 : decode cX10_startsAll 7 = .ok (.aload_n 0, 1) := by decide +kernel
theorem dX10_startsAll_8 : decode cX10_startsAll 8 = .ok (.iload_n 1, 1) := by decide +kernel
theorem dX10_startsAll_9 : decode cX10_startsAll 9 = .ok (.invokevirtual 174, 3) := by decide +kernel
theorem dX10_startsAll_12 : decode cX10_startsAll 12 = .ok (.aload_n 0, 1) := by decide +kernel
theorem dX10_startsAll_13 : decode cX10_startsAll 13 = .ok (.getfield 69, 3) := by decide +kernel
theorem dX10_startsAll_16 : decode cX10_startsAll 16 = .ok (.iload_n 1, 1) := by decide +kernel
theorem dX10_startsAll_17 : decode cX10_startsAll 17 = .ok (.iconst 0, 1) := by decide +kernel
theorem dX10_startsAll_18 : decode cX10_startsAll 18 = .ok (.iastore, 1) := by decide +kernel
theorem dX10_startsAll_19 : decode cX10_startsAll 19 = .ok (.iinc 1 1, 3) := by decide +kernel
theorem dX10_startsAll_22 : decode cX10_startsAll 22 = .ok (.goto (-20), 3) := by decide +kernel
theorem dX10_startsAll_25 : decode cX10_startsAll 25 = .ok (.return_, 1) := by decide +kernel
theorem dX10_nextTime_0 : decode cX10_nextTime 0 = .ok (.ldc2_w 184, 3) := by decide +kernel
theorem dX10_nextTime_3 : decode cX10_nextTime 3 = .ok (.lstore_n 1, 1) := by decide +kernel
theorem dX10_nextTime_4 : decode cX10_nextTime 4 = .ok (.iconst 0, 1) := by decide +kernel
theorem dX10_nextTime_5 : decode cX10_nextTime 5 = .ok (.istore_n 3, 1) := by decide +kernel
theorem dX10_nextTime_6 : decode cX10_nextTime 6 = .ok (.iload_n 3, 1) := by decide +kernel
theorem dX10_nextTime_7 : decode cX10_nextTime 7 = .ok (.iconst 4, 1) := by decide +kernel
theorem dX10_nextTime_8 : decode cX10_nextTime 8 = .ok (.if_icmp .ge 76, 3) := by decide +kernel
theorem dX10_nextTime_11 : decode cX10_nextTime 11 = .ok (.aload_n 0, 1) := by decide +kernel
theorem dX10_nextTime_12 : decode cX10_nextTime 12 = .ok (.getfield 69, 3) := by decide +kernel
theorem dX10_nextTime_15 : decode cX10_nextTime 15 = .ok (.iload_n 3, 1) := by decide +kernel
theorem dX10_nextTime_16 : decode cX10_nextTime 16 = .ok (.iaload, 1) := by decide +kernel
theorem dX10_nextTime_17 : decode cX10_nextTime 17 = .ok (.aload_n 0, 1) := by decide +kernel
theorem dX10_nextTime_18 : decode cX10_nextTime 18 = .ok (.getfield 41, 3) := by decide +kernel
theorem dX10_nextTime_21 : decode cX10_nextTime 21 = .ok (.iload_n 3, 1) := by decide +kernel
theorem dX10_nextTime_22 : decode cX10_nextTime 22 = .ok (.iaload, 1) := by decide +kernel
theorem dX10_nextTime_23 : decode cX10_nextTime 23 = .ok (.if_icmp .ge 23, 3) := by decide +kernel
theorem dX10_nextTime_26 : decode cX10_nextTime 26 = .ok (.aload_n 0, 1) := by decide +kernel
theorem dX10_nextTime_27 : decode cX10_nextTime 27 = .ok (.getfield 25, 3) := by decide +kernel
theorem dX10_nextTime_30 : decode cX10_nextTime 30 = .ok (.sipush 300, 3) := by decide +kernel
theorem dX10_nextTime_33 : decode cX10_nextTime 33 = .ok (.iload_n 3, 1) := by decide +kernel
theorem dX10_nextTime_34 : decode cX10_nextTime 34 = .ok (.imul, 1) := by decide +kernel
theorem dX10_nextTime_35 : decode cX10_nextTime 35 = .ok (.aload_n 0, 1) := by decide +kernel
theorem dX10_nextTime_36 : decode cX10_nextTime 36 = .ok (.getfield 69, 3) := by decide +kernel
theorem dX10_nextTime_39 : decode cX10_nextTime 39 = .ok (.iload_n 3, 1) := by decide +kernel
theorem dX10_nextTime_40 : decode cX10_nextTime 40 = .ok (.iaload, 1) := by decide +kernel
theorem dX10_nextTime_41 : decode cX10_nextTime 41 = .ok (.iadd, 1) := by decide +kernel
theorem dX10_nextTime_42 : decode cX10_nextTime 42 = .ok (.laload, 1) := by decide +kernel
theorem dX10_nextTime_43 : decode cX10_nextTime 43 = .ok (.goto 6, 3) := by decide +kernel
theorem dX10_nextTime_46 : decode cX10_nextTime 46 = .ok (.ldc2_w 184, 3) := by decide +kernel
theorem dX10_nextTime_49 : decode cX10_nextTime 49 = .ok (.lstore 4, 2) := by decide +kernel
theorem dX10_nextTime_51 : decode cX10_nextTime 51 = .ok (.lload 4, 2) := by decide +kernel
theorem dX10_nextTime_53 : decode cX10_nextTime 53 = .ok (.lconst 0, 1) := by decide +kernel
theorem dX10_nextTime_54 : decode cX10_nextTime 54 = .ok (.lcmp, 1) := by decide +kernel
theorem dX10_nextTime_55 : decode cX10_nextTime 55 = .ok (.ifCond .lt 21, 3) := by decide +kernel
theorem dX10_nextTime_58 : decode cX10_nextTime 58 = .ok (.lload_n 1, 1) := by decide +kernel
theorem dX10_nextTime_59 : decode cX10_nextTime 59 = .ok (.lconst 0, 1) := by decide +kernel
theorem dX10_nextTime_60 : decode cX10_nextTime 60 = .ok (.lcmp, 1) := by decide +kernel
theorem dX10_nextTime_61 : decode cX10_nextTime 61 = .ok (.ifCond .lt 10, 3) := by decide +kernel
theorem dX10_nextTime_64 : decode cX10_nextTime 64 = .ok (.lload 4, 2) := by decide +kernel
theorem dX10_nextTime_66 : decode cX10_nextTime 66 = .ok (.lload_n 1, 1) := by decide +kernel
theorem dX10_nextTime_67 : decode cX10_nextTime 67 = .ok (.lcmp, 1) := by decide +kernel
theorem dX10_nextTime_68 : decode cX10_nextTime 68 = .ok (.ifCond .ge 8, 3) := by decide +kernel
theorem dX10_nextTime_71 : decode cX10_nextTime 71 = .ok (.lload 4, 2) := by decide +kernel
theorem dX10_nextTime_73 : decode cX10_nextTime 73 = .ok (.goto 4, 3) := by decide +kernel
theorem dX10_nextTime_76 : decode cX10_nextTime 76 = .ok (.lload_n 1, 1) := by decide +kernel
theorem dX10_nextTime_77 : decode cX10_nextTime 77 = .ok (.lstore_n 1, 1) := by decide +kernel
theorem dX10_nextTime_78 : decode cX10_nextTime 78 = .ok (.iinc 3 1, 3) := by decide +kernel
theorem dX10_nextTime_81 : decode cX10_nextTime 81 = .ok (.goto (-75), 3) := by decide +kernel
theorem dX10_nextTime_84 : decode cX10_nextTime 84 = .ok (.aload_n 0, 1) := by decide +kernel
theorem dX10_nextTime_85 : decode cX10_nextTime 85 = .ok (.iconst 0, 1) := by decide +kernel
theorem dX10_nextTime_86 : decode cX10_nextTime 86 = .ok (.putfield 214, 3) := by decide +kernel
theorem dX10_nextTime_89 : decode cX10_nextTime 89 = .ok (.iconst 0, 1) := by decide +kernel
theorem dX10_nextTime_90 : decode cX10_nextTime 90 = .ok (.istore_n 3, 1) := by decide +kernel
theorem dX10_nextTime_91 : decode cX10_nextTime 91 = .ok (.iload_n 3, 1) := by decide +kernel
theorem dX10_nextTime_92 : decode cX10_nextTime 92 = .ok (.iconst 4, 1) := by decide +kernel
theorem dX10_nextTime_93 : decode cX10_nextTime 93 = .ok (.if_icmp .ge 74, 3) := by decide +kernel
theorem dX10_nextTime_96 : decode cX10_nextTime 96 = .ok (.lload_n 1, 1) := by decide +kernel
theorem dX10_nextTime_97 : decode cX10_nextTime 97 = .ok (.lconst 0, 1) := by decide +kernel
theorem dX10_nextTime_98 : decode cX10_nextTime 98 = .ok (.lcmp, 1) := by decide +kernel
theorem dX10_nextTime_99 : decode cX10_nextTime 99 = .ok (.ifCond .lt 68, 3) := by decide +kernel
theorem dX10_nextTime_102 : decode cX10_nextTime 102 = .ok (.aload_n 0, 1) := by decide +kernel
theorem dX10_nextTime_103 : decode cX10_nextTime 103 = .ok (.getfield 69, 3) := by decide +kernel
theorem dX10_nextTime_106 : decode cX10_nextTime 106 = .ok (.iload_n 3, 1) := by decide +kernel
theorem dX10_nextTime_107 : decode cX10_nextTime 107 = .ok (.iaload, 1) := by decide +kernel
theorem dX10_nextTime_108 : decode cX10_nextTime 108 = .ok (.aload_n 0, 1) := by decide +kernel
theorem dX10_nextTime_109 : decode cX10_nextTime 109 = .ok (.getfield 41, 3) := by decide +kernel
theorem dX10_nextTime_112 : decode cX10_nextTime 112 = .ok (.iload_n 3, 1) := by decide +kernel
theorem dX10_nextTime_113 : decode cX10_nextTime 113 = .ok (.iaload, 1) := by decide +kernel
theorem dX10_nextTime_114 : decode cX10_nextTime 114 = .ok (.if_icmp .ge 47, 3) := by decide +kernel
theorem dX10_nextTime_117 : decode cX10_nextTime 117 = .ok (.aload_n 0, 1) := by decide +kernel
theorem dX10_nextTime_118 : decode cX10_nextTime 118 = .ok (.getfield 25, 3) := by decide +kernel
theorem dX10_nextTime_121 : decode cX10_nextTime 121 = .ok (.sipush 300, 3) := by decide +kernel
theorem dX10_nextTime_124 : decode cX10_nextTime 124 = .ok (.iload_n 3, 1) := by decide +kernel
theorem dX10_nextTime_125 : decode cX10_nextTime 125 = .ok (.imul, 1) := by decide +kernel
theorem dX10_nextTime_126 : decode cX10_nextTime 126 = .ok (.aload_n 0, 1) := by decide +kernel
theorem dX10_nextTime_127 : decode cX10_nextTime 127 = .ok (.getfield 69, 3) := by decide +kernel
theorem dX10_nextTime_130 : decode cX10_nextTime 130 = .ok (.iload_n 3, 1) := by decide +kernel
theorem dX10_nextTime_131 : decode cX10_nextTime 131 = .ok (.iaload, 1) := by decide +kernel
theorem dX10_nextTime_132 : decode cX10_nextTime 132 = .ok (.iadd, 1) := by decide +kernel
theorem dX10_nextTime_133 : decode cX10_nextTime 133 = .ok (.laload, 1) := by decide +kernel
theorem dX10_nextTime_134 : decode cX10_nextTime 134 = .ok (.lload_n 1, 1) := by decide +kernel
theorem dX10_nextTime_135 : decode cX10_nextTime 135 = .ok (.lcmp, 1) := by decide +kernel
theorem dX10_nextTime_136 : decode cX10_nextTime 136 = .ok (.ifCond .ne 25, 3) := by decide +kernel
theorem dX10_nextTime_139 : decode cX10_nextTime 139 = .ok (.aload_n 0, 1) := by decide +kernel
theorem dX10_nextTime_140 : decode cX10_nextTime 140 = .ok (.dup, 1) := by decide +kernel
theorem dX10_nextTime_141 : decode cX10_nextTime 141 = .ok (.getfield 214, 3) := by decide +kernel
theorem dX10_nextTime_144 : decode cX10_nextTime 144 = .ok (.iconst 1, 1) := by decide +kernel
theorem dX10_nextTime_145 : decode cX10_nextTime 145 = .ok (.iload_n 3, 1) := by decide +kernel
theorem dX10_nextTime_146 : decode cX10_nextTime 146 = .ok (.ishl, 1) := by decide +kernel
theorem dX10_nextTime_147 : decode cX10_nextTime 147 = .ok (.ior, 1) := by decide +kernel
theorem dX10_nextTime_148 : decode cX10_nextTime 148 = .ok (.putfield 214, 3) := by decide +kernel
theorem dX10_nextTime_151 : decode cX10_nextTime 151 = .ok (.aload_n 0, 1) := by decide +kernel
theorem dX10_nextTime_152 : decode cX10_nextTime 152 = .ok (.getfield 69, 3) := by decide +kernel
theorem dX10_nextTime_155 : decode cX10_nextTime 155 = .ok (.iload_n 3, 1) := by decide +kernel
theorem dX10_nextTime_156 : decode cX10_nextTime 156 = .ok (.dup2, 1) := by decide +kernel
theorem dX10_nextTime_157 : decode cX10_nextTime 157 = .ok (.iaload, 1) := by decide +kernel
theorem dX10_nextTime_158 : decode cX10_nextTime 158 = .ok (.iconst 1, 1) := by decide +kernel
theorem dX10_nextTime_159 : decode cX10_nextTime 159 = .ok (.iadd, 1) := by decide +kernel
theorem dX10_nextTime_160 : decode cX10_nextTime 160 = .ok (.iastore, 1) := by decide +kernel
theorem dX10_nextTime_161 : decode cX10_nextTime 161 = .ok (.iinc 3 1, 3) := by decide +kernel
theorem dX10_nextTime_164 : decode cX10_nextTime 164 = .ok (.goto (-73), 3) := by decide +kernel
theorem dX10_nextTime_167 : decode cX10_nextTime 167 = .ok (.lload_n 1, 1) := by decide +kernel
theorem dX10_nextTime_168 : decode cX10_nextTime 168 = .ok (.lreturn, 1) := by decide +kernel
theorem dX10_times_0 : decode cX10_times 0 = .ok (.aload_n 0, 1) := by decide +kernel
theorem dX10_times_1 : decode cX10_times 1 = .ok (.invokevirtual 217, 3) := by decide +kernel
theorem dX10_times_4 : decode cX10_times 4 = .ok (.iconst 0, 1) := by decide +kernel
theorem dX10_times_5 : decode cX10_times 5 = .ok (.istore_n 1, 1) := by decide +kernel
theorem dX10_times_6 : decode cX10_times 6 = .ok (.aload_n 0, 1) := by decide +kernel
theorem dX10_times_7 : decode cX10_times 7 = .ok (.invokevirtual 220, 3) := by decide +kernel
theorem dX10_times_10 : decode cX10_times 10 = .ok (.lconst 0, 1) := by decide +kernel
theorem dX10_times_11 : decode cX10_times 11 = .ok (.lcmp, 1) := by decide +kernel
theorem dX10_times_12 : decode cX10_times 12 = .ok (.ifCond .lt 9, 3) := by decide +kernel
theorem dX10_times_15 : decode cX10_times 15 = .ok (.iinc 1 1, 3) := by decide +kernel
theorem dX10_times_18 : decode cX10_times 18 = .ok (.goto (-12), 3) := by decide +kernel
theorem dX10_times_21 : decode cX10_times 21 = .ok (.iload_n 1, 1) := by decide +kernel
theorem dX10_times_22 : decode cX10_times 22 = .ok (.ireturn, 1) := by decide +kernel
theorem dX10_time_0 : decode cX10_time 0 = .ok (.iload_n 1, 1) := by decide +kernel
theorem dX10_time_1 : decode cX10_time 1 = .ok (.ifCond .lt 12, 3) := by decide +kernel
theorem dX10_time_4 : decode cX10_time 4 = .ok (.iload_n 2, 1) := by decide +kernel
theorem dX10_time_5 : decode cX10_time 5 = .ok (.iconst 0, 1) := by decide +kernel
theorem dX10_time_6 : decode cX10_time 6 = .ok (.iconst 2, 1) := by decide +kernel
theorem dX10_time_7 : decode cX10_time 7 = .ok (.invokestatic 76, 3) := by decide +kernel
theorem dX10_time_10 : decode cX10_time 10 = .ok (.ifCond .ne 7, 3) := by decide +kernel
theorem dX10_time_13 : decode cX10_time 13 = .ok (.ldc2_w 184, 3) := by decide +kernel
theorem dX10_time_16 : decode cX10_time 16 = .ok (.lreturn, 1) := by decide +kernel
theorem dX10_time_17 : decode cX10_time 17 = .ok (.aload_n 0, 1) := by decide +kernel
theorem dX10_time_18 : decode cX10_time 18 = .ok (.invokevirtual 217, 3) := by decide +kernel
theorem dX10_time_21 : decode cX10_time 21 = .ok (.aload_n 0, 1) := by decide +kernel
theorem dX10_time_22 : decode cX10_time 22 = .ok (.invokevirtual 220, 3) := by decide +kernel
theorem dX10_time_25 : decode cX10_time 25 = .ok (.lstore_n 3, 1) := by decide +kernel
theorem dX10_time_26 : decode cX10_time 26 = .ok (.iconst 0, 1) := by decide +kernel
theorem dX10_time_27 : decode cX10_time 27 = .ok (.istore 5, 2) := by decide +kernel
theorem dX10_time_29 : decode cX10_time 29 = .ok (.iload 5, 2) := by decide +kernel
theorem dX10_time_31 : decode cX10_time 31 = .ok (.iload_n 1, 1) := by decide +kernel
theorem dX10_time_32 : decode cX10_time 32 = .ok (.if_icmp .ge 20, 3) := by decide +kernel
theorem dX10_time_35 : decode cX10_time 35 = .ok (.lload_n 3, 1) := by decide +kernel
theorem dX10_time_36 : decode cX10_time 36 = .ok (.lconst 0, 1) := by decide +kernel
theorem dX10_time_37 : decode cX10_time 37 = .ok (.lcmp, 1) := by decide +kernel
theorem dX10_time_38 : decode cX10_time 38 = .ok (.ifCond .lt 14, 3) := by decide +kernel
theorem dX10_time_41 : decode cX10_time 41 = .ok (.aload_n 0, 1) := by decide +kernel
theorem dX10_time_42 : decode cX10_time 42 = .ok (.invokevirtual 220, 3) := by decide +kernel
theorem dX10_time_45 : decode cX10_time 45 = .ok (.lstore_n 3, 1) := by decide +kernel
theorem dX10_time_46 : decode cX10_time 46 = .ok (.iinc 5 1, 3) := by decide +kernel
theorem dX10_time_49 : decode cX10_time 49 = .ok (.goto (-20), 3) := by decide +kernel
theorem dX10_time_52 : decode cX10_time 52 = .ok (.lload_n 3, 1) := by decide +kernel
theorem dX10_time_53 : decode cX10_time 53 = .ok (.lconst 0, 1) := by decide +kernel
theorem dX10_time_54 : decode cX10_time 54 = .ok (.lcmp, 1) := by decide +kernel
theorem dX10_time_55 : decode cX10_time 55 = .ok (.ifCond .ge 9, 3) := by decide +kernel
theorem dX10_time_58 : decode cX10_time 58 = .ok (.ldc2_w 184, 3) := by decide +kernel
theorem dX10_time_61 : decode cX10_time 61 = .ok (.goto 24, 3) := by decide +kernel
theorem dX10_time_64 : decode cX10_time 64 = .ok (.iload_n 2, 1) := by decide +kernel
theorem dX10_time_65 : decode cX10_time 65 = .ok (.iconst 2, 1) := by decide +kernel
theorem dX10_time_66 : decode cX10_time 66 = .ok (.if_icmp .ne 11, 3) := by decide +kernel
theorem dX10_time_69 : decode cX10_time 69 = .ok (.aload_n 0, 1) := by decide +kernel
theorem dX10_time_70 : decode cX10_time 70 = .ok (.getfield 214, 3) := by decide +kernel
theorem dX10_time_73 : decode cX10_time 73 = .ok (.i2l, 1) := by decide +kernel
theorem dX10_time_74 : decode cX10_time 74 = .ok (.goto 11, 3) := by decide +kernel
theorem dX10_time_77 : decode cX10_time 77 = .ok (.lload_n 3, 1) := by decide +kernel
theorem dX10_time_78 : decode cX10_time 78 = .ok (.ldc2_w 138, 3) := by decide +kernel
theorem dX10_time_81 : decode cX10_time 81 = .ok (.iload_n 2, 1) := by decide +kernel
theorem dX10_time_82 : decode cX10_time 82 = .ok (.invokestatic 186, 3) := by decide +kernel
theorem dX10_time_85 : decode cX10_time 85 = .ok (.lreturn, 1) := by decide +kernel
theorem dX10_cycleOf_0 : decode cX10_cycleOf 0 = .ok (.aload_n 0, 1) := by decide +kernel
theorem dX10_cycleOf_1 : decode cX10_cycleOf 1 = .ok (.iload_n 1, 1) := by decide +kernel
theorem dX10_cycleOf_2 : decode cX10_cycleOf 2 = .ok (.invokevirtual 174, 3) := by decide +kernel
theorem dX10_cycleOf_5 : decode cX10_cycleOf 5 = .ok (.aload_n 0, 1) := by decide +kernel
theorem dX10_cycleOf_6 : decode cX10_cycleOf 6 = .ok (.iload_n 2, 1) := by decide +kernel
theorem dX10_cycleOf_7 : decode cX10_cycleOf 7 = .ok (.invokevirtual 174, 3) := by decide +kernel
theorem dX10_cycleOf_10 : decode cX10_cycleOf 10 = .ok (.aload_n 0, 1) := by decide +kernel
theorem dX10_cycleOf_11 : decode cX10_cycleOf 11 = .ok (.getfield 44, 3) := by decide +kernel
theorem dX10_cycleOf_14 : decode cX10_cycleOf 14 = .ok (.iload_n 1, 1) := by decide +kernel
theorem dX10_cycleOf_15 : decode cX10_cycleOf 15 = .ok (.laload, 1) := by decide +kernel
theorem dX10_cycleOf_16 : decode cX10_cycleOf 16 = .ok (.lconst 0, 1) := by decide +kernel
theorem dX10_cycleOf_17 : decode cX10_cycleOf 17 = .ok (.lcmp, 1) := by decide +kernel
theorem dX10_cycleOf_18 : decode cX10_cycleOf 18 = .ok (.ifCond .eq 14, 3) := by decide +kernel
theorem dX10_cycleOf_21 : decode cX10_cycleOf 21 = .ok (.aload_n 0, 1) := by decide +kernel
theorem dX10_cycleOf_22 : decode cX10_cycleOf 22 = .ok (.getfield 44, 3) := by decide +kernel
theorem dX10_cycleOf_25 : decode cX10_cycleOf 25 = .ok (.iload_n 2, 1) := by decide +kernel
theorem dX10_cycleOf_26 : decode cX10_cycleOf 26 = .ok (.laload, 1) := by decide +kernel
theorem dX10_cycleOf_27 : decode cX10_cycleOf 27 = .ok (.lconst 0, 1) := by decide +kernel
theorem dX10_cycleOf_28 : decode cX10_cycleOf 28 = .ok (.lcmp, 1) := by decide +kernel
theorem dX10_cycleOf_29 : decode cX10_cycleOf 29 = .ok (.ifCond .ne 7, 3) := by decide +kernel
theorem dX10_cycleOf_32 : decode cX10_cycleOf 32 = .ok (.ldc2_w 223, 3) := by decide +kernel
theorem dX10_cycleOf_35 : decode cX10_cycleOf 35 = .ok (.lreturn, 1) := by decide +kernel
theorem dX10_cycleOf_36 : decode cX10_cycleOf 36 = .ok (.aload_n 0, 1) := by decide +kernel
theorem dX10_cycleOf_37 : decode cX10_cycleOf 37 = .ok (.getfield 44, 3) := by decide +kernel
theorem dX10_cycleOf_40 : decode cX10_cycleOf 40 = .ok (.iload_n 1, 1) := by decide +kernel
theorem dX10_cycleOf_41 : decode cX10_cycleOf 41 = .ok (.laload, 1) := by decide +kernel
theorem dX10_cycleOf_42 : decode cX10_cycleOf 42 = .ok (.aload_n 0, 1) := by decide +kernel
theorem dX10_cycleOf_43 : decode cX10_cycleOf 43 = .ok (.getfield 44, 3) := by decide +kernel
theorem dX10_cycleOf_46 : decode cX10_cycleOf 46 = .ok (.iload_n 1, 1) := by decide +kernel
theorem dX10_cycleOf_47 : decode cX10_cycleOf 47 = .ok (.laload, 1) := by decide +kernel
theorem dX10_cycleOf_48 : decode cX10_cycleOf 48 = .ok (.aload_n 0, 1) := by decide +kernel
theorem dX10_cycleOf_49 : decode cX10_cycleOf 49 = .ok (.getfield 44, 3) := by decide +kernel
theorem dX10_cycleOf_52 : decode cX10_cycleOf 52 = .ok (.iload_n 2, 1) := by decide +kernel
theorem dX10_cycleOf_53 : decode cX10_cycleOf 53 = .ok (.laload, 1) := by decide +kernel
theorem dX10_cycleOf_54 : decode cX10_cycleOf 54 = .ok (.invokestatic 180, 3) := by decide +kernel
theorem dX10_cycleOf_57 : decode cX10_cycleOf 57 = .ok (.ldiv, 1) := by decide +kernel
theorem dX10_cycleOf_58 : decode cX10_cycleOf 58 = .ok (.lstore_n 3, 1) := by decide +kernel
theorem dX10_cycleOf_59 : decode cX10_cycleOf 59 = .ok (.lload_n 3, 1) := by decide +kernel
theorem dX10_cycleOf_60 : decode cX10_cycleOf 60 = .ok (.ldc2_w 225, 3) := by decide +kernel
theorem dX10_cycleOf_63 : decode cX10_cycleOf 63 = .ok (.aload_n 0, 1) := by decide +kernel
theorem dX10_cycleOf_64 : decode cX10_cycleOf 64 = .ok (.getfield 44, 3) := by decide +kernel
theorem dX10_cycleOf_67 : decode cX10_cycleOf 67 = .ok (.iload_n 2, 1) := by decide +kernel
theorem dX10_cycleOf_68 : decode cX10_cycleOf 68 = .ok (.laload, 1) := by decide +kernel
theorem dX10_cycleOf_69 : decode cX10_cycleOf 69 = .ok (.ldiv, 1) := by decide +kernel
theorem dX10_cycleOf_70 : decode cX10_cycleOf 70 = .ok (.lcmp, 1) := by decide +kernel
theorem dX10_cycleOf_71 : decode cX10_cycleOf 71 = .ok (.ifCond .le 9, 3) := by decide +kernel
theorem dX10_cycleOf_74 : decode cX10_cycleOf 74 = .ok (.ldc2_w 227, 3) := by decide +kernel
theorem dX10_cycleOf_77 : decode cX10_cycleOf 77 = .ok (.goto 11, 3) := by decide +kernel
theorem dX10_cycleOf_80 : decode cX10_cycleOf 80 = .ok (.lload_n 3, 1) := by decide +kernel
theorem dX10_cycleOf_81 : decode cX10_cycleOf 81 = .ok (.aload_n 0, 1) := by decide +kernel
theorem dX10_cycleOf_82 : decode cX10_cycleOf 82 = .ok (.getfield 44, 3) := by decide +kernel
theorem dX10_cycleOf_85 : decode cX10_cycleOf 85 = .ok (.iload_n 2, 1) := by decide +kernel
theorem dX10_cycleOf_86 : decode cX10_cycleOf 86 = .ok (.laload, 1) := by decide +kernel
theorem dX10_cycleOf_87 : decode cX10_cycleOf 87 = .ok (.lmul, 1) := by decide +kernel
theorem dX10_cycleOf_88 : decode cX10_cycleOf 88 = .ok (.lreturn, 1) := by decide +kernel
theorem dX10_cycle_0 : decode cX10_cycle 0 = .ok (.iload_n 1, 1) := by decide +kernel
theorem dX10_cycle_1 : decode cX10_cycle 1 = .ok (.invokestatic 163, 3) := by decide +kernel
theorem dX10_cycle_4 : decode cX10_cycle 4 = .ok (.ifCond .eq 19, 3) := by decide +kernel
theorem dX10_cycle_7 : decode cX10_cycle 7 = .ok (.iload_n 2, 1) := by decide +kernel
theorem dX10_cycle_8 : decode cX10_cycle 8 = .ok (.invokestatic 163, 3) := by decide +kernel
theorem dX10_cycle_11 : decode cX10_cycle 11 = .ok (.ifCond .eq 12, 3) := by decide +kernel
theorem dX10_cycle_14 : decode cX10_cycle 14 = .ok (.iload_n 3, 1) := by decide +kernel
theorem dX10_cycle_15 : decode cX10_cycle 15 = .ok (.iconst 0, 1) := by decide +kernel
theorem dX10_cycle_16 : decode cX10_cycle 16 = .ok (.iconst 1, 1) := by decide +kernel
theorem dX10_cycle_17 : decode cX10_cycle 17 = .ok (.invokestatic 76, 3) := by decide +kernel
theorem dX10_cycle_20 : decode cX10_cycle 20 = .ok (.ifCond .ne 7, 3) := by decide +kernel
theorem dX10_cycle_23 : decode cX10_cycle 23 = .ok (.ldc2_w 184, 3) := by decide +kernel
theorem dX10_cycle_26 : decode cX10_cycle 26 = .ok (.lreturn, 1) := by decide +kernel
theorem dX10_cycle_27 : decode cX10_cycle 27 = .ok (.aload_n 0, 1) := by decide +kernel
theorem dX10_cycle_28 : decode cX10_cycle 28 = .ok (.iload_n 1, 1) := by decide +kernel
theorem dX10_cycle_29 : decode cX10_cycle 29 = .ok (.iload_n 2, 1) := by decide +kernel
theorem dX10_cycle_30 : decode cX10_cycle 30 = .ok (.invokevirtual 229, 3) := by decide +kernel
theorem dX10_cycle_33 : decode cX10_cycle 33 = .ok (.lstore 4, 2) := by decide +kernel
theorem dX10_cycle_35 : decode cX10_cycle 35 = .ok (.lload 4, 2) := by decide +kernel
theorem dX10_cycle_37 : decode cX10_cycle 37 = .ok (.lconst 0, 1) := by decide +kernel
theorem dX10_cycle_38 : decode cX10_cycle 38 = .ok (.lcmp, 1) := by decide +kernel
theorem dX10_cycle_39 : decode cX10_cycle 39 = .ok (.ifCond .ge 8, 3) := by decide +kernel
theorem dX10_cycle_42 : decode cX10_cycle 42 = .ok (.lload 4, 2) := by decide +kernel
theorem dX10_cycle_44 : decode cX10_cycle 44 = .ok (.goto 12, 3) := by decide +kernel
theorem dX10_cycle_47 : decode cX10_cycle 47 = .ok (.lload 4, 2) := by decide +kernel
theorem dX10_cycle_49 : decode cX10_cycle 49 = .ok (.ldc2_w 138, 3) := by decide +kernel
theorem dX10_cycle_52 : decode cX10_cycle 52 = .ok (.iload_n 3, 1) := by decide +kernel
theorem dX10_cycle_53 : decode cX10_cycle 53 = .ok (.invokestatic 186, 3) := by decide +kernel
theorem dX10_cycle_56 : decode cX10_cycle 56 = .ok (.lreturn, 1) := by decide +kernel
theorem dX10_meets_0 : decode cX10_meets 0 = .ok (.iload_n 1, 1) := by decide +kernel
theorem dX10_meets_1 : decode cX10_meets 1 = .ok (.invokestatic 163, 3) := by decide +kernel
theorem dX10_meets_4 : decode cX10_meets 4 = .ok (.ifCond .eq 10, 3) := by decide +kernel
theorem dX10_meets_7 : decode cX10_meets 7 = .ok (.iload_n 2, 1) := by decide +kernel
theorem dX10_meets_8 : decode cX10_meets 8 = .ok (.invokestatic 163, 3) := by decide +kernel
theorem dX10_meets_11 : decode cX10_meets 11 = .ok (.ifCond .ne 5, 3) := by decide +kernel
theorem dX10_meets_14 : decode cX10_meets 14 = .ok (.iconst (-1), 1) := by decide +kernel
theorem dX10_meets_15 : decode cX10_meets 15 = .ok (.ireturn, 1) := by decide +kernel
theorem dX10_meets_16 : decode cX10_meets 16 = .ok (.aload_n 0, 1) := by decide +kernel
theorem dX10_meets_17 : decode cX10_meets 17 = .ok (.iload_n 1, 1) := by decide +kernel
theorem dX10_meets_18 : decode cX10_meets 18 = .ok (.iload_n 2, 1) := by decide +kernel
theorem dX10_meets_19 : decode cX10_meets 19 = .ok (.invokevirtual 229, 3) := by decide +kernel
theorem dX10_meets_22 : decode cX10_meets 22 = .ok (.lstore_n 3, 1) := by decide +kernel
theorem dX10_meets_23 : decode cX10_meets 23 = .ok (.lload_n 3, 1) := by decide +kernel
theorem dX10_meets_24 : decode cX10_meets 24 = .ok (.lconst 0, 1) := by decide +kernel
theorem dX10_meets_25 : decode cX10_meets 25 = .ok (.lcmp, 1) := by decide +kernel
theorem dX10_meets_26 : decode cX10_meets 26 = .ok (.ifCond .ge 6, 3) := by decide +kernel
theorem dX10_meets_29 : decode cX10_meets 29 = .ok (.lload_n 3, 1) := by decide +kernel
theorem dX10_meets_30 : decode cX10_meets 30 = .ok (.l2i, 1) := by decide +kernel
theorem dX10_meets_31 : decode cX10_meets 31 = .ok (.ireturn, 1) := by decide +kernel
theorem dX10_meets_32 : decode cX10_meets 32 = .ok (.iconst 0, 1) := by decide +kernel
theorem dX10_meets_33 : decode cX10_meets 33 = .ok (.istore 5, 2) := by decide +kernel
theorem dX10_meets_35 : decode cX10_meets 35 = .ok (.iconst 0, 1) := by decide +kernel
theorem dX10_meets_36 : decode cX10_meets 36 = .ok (.istore 6, 2) := by decide +kernel
theorem dX10_meets_38 : decode cX10_meets 38 = .ok (.iconst 0, 1) := by decide +kernel
theorem dX10_meets_39 : decode cX10_meets 39 = .ok (.istore 7, 2) := by decide +kernel
theorem dX10_meets_41 : decode cX10_meets 41 = .ok (.lconst 0, 1) := by decide +kernel
theorem dX10_meets_42 : decode cX10_meets 42 = .ok (.lstore 8, 2) := by decide +kernel
theorem dX10_meets_44 : decode cX10_meets 44 = .ok (.lconst 0, 1) := by decide +kernel
theorem dX10_meets_45 : decode cX10_meets 45 = .ok (.lstore 10, 2) := by decide +kernel
theorem dX10_meets_47 : decode cX10_meets 47 = .ok (.aload_n 0, 1) := by decide +kernel
theorem dX10_meets_48 : decode cX10_meets 48 = .ok (.getfield 41, 3) := by decide +kernel
theorem dX10_meets_51 : decode cX10_meets 51 = .ok (.iload_n 1, 1) := by decide +kernel
theorem dX10_meets_52 : decode cX10_meets 52 = .ok (.iaload, 1) := by decide +kernel
theorem dX10_meets_53 : decode cX10_meets 53 = .ok (.ifCond .le 195, 3) := by decide +kernel
theorem dX10_meets_56 : decode cX10_meets 56 = .ok (.aload_n 0, 1) := by decide +kernel
theorem dX10_meets_57 : decode cX10_meets 57 = .ok (.getfield 41, 3) := by decide +kernel
theorem dX10_meets_60 : decode cX10_meets 60 = .ok (.iload_n 2, 1) := by decide +kernel
theorem dX10_meets_61 : decode cX10_meets 61 = .ok (.iaload, 1) := by decide +kernel
theorem dX10_meets_62 : decode cX10_meets 62 = .ok (.ifCond .le 186, 3) := by decide +kernel
theorem dX10_meets_65 : decode cX10_meets 65 = .ok (.lload 8, 2) := by decide +kernel
theorem dX10_meets_67 : decode cX10_meets 67 = .ok (.lload_n 3, 1) := by decide +kernel
theorem dX10_meets_68 : decode cX10_meets 68 = .ok (.lcmp, 1) := by decide +kernel
theorem dX10_meets_69 : decode cX10_meets 69 = .ok (.ifCond .ge 179, 3) := by decide +kernel
theorem dX10_meets_72 : decode cX10_meets 72 = .ok (.lload 10, 2) := by decide +kernel
theorem dX10_meets_74 : decode cX10_meets 74 = .ok (.lload_n 3, 1) := by decide +kernel
theorem dX10_meets_75 : decode cX10_meets 75 = .ok (.lcmp, 1) := by decide +kernel
theorem dX10_meets_76 : decode cX10_meets 76 = .ok (.ifCond .ge 172, 3) := by decide +kernel
theorem dX10_meets_79 : decode cX10_meets 79 = .ok (.lload 8, 2) := by decide +kernel
theorem dX10_meets_81 : decode cX10_meets 81 = .ok (.aload_n 0, 1) := by decide +kernel
theorem dX10_meets_82 : decode cX10_meets 82 = .ok (.getfield 25, 3) := by decide +kernel
theorem dX10_meets_85 : decode cX10_meets 85 = .ok (.sipush 300, 3) := by decide +kernel
theorem dX10_meets_88 : decode cX10_meets 88 = .ok (.iload_n 1, 1) := by decide +kernel
theorem dX10_meets_89 : decode cX10_meets 89 = .ok (.imul, 1) := by decide +kernel
theorem dX10_meets_90 : decode cX10_meets 90 = .ok (.iload 6, 2) := by decide +kernel
theorem dX10_meets_92 : decode cX10_meets 92 = .ok (.iadd, 1) := by decide +kernel
theorem dX10_meets_93 : decode cX10_meets 93 = .ok (.laload, 1) := by decide +kernel
theorem dX10_meets_94 : decode cX10_meets 94 = .ok (.ladd, 1) := by decide +kernel
theorem dX10_meets_95 : decode cX10_meets 95 = .ok (.lstore 12, 2) := by decide +kernel
theorem dX10_meets_97 : decode cX10_meets 97 = .ok (.lload 10, 2) := by decide +kernel
theorem dX10_meets_99 : decode cX10_meets 99 = .ok (.aload_n 0, 1) := by decide +kernel
theorem dX10_meets_100 : decode cX10_meets 100 = .ok (.getfield 25, 3) := by decide +kernel
theorem dX10_meets_103 : decode cX10_meets 103 = .ok (.sipush 300, 3) := by decide +kernel
theorem dX10_meets_106 : decode cX10_meets 106 = .ok (.iload_n 2, 1) := by decide +kernel
theorem dX10_meets_107 : decode cX10_meets 107 = .ok (.imul, 1) := by decide +kernel
theorem dX10_meets_108 : decode cX10_meets 108 = .ok (.iload 7, 2) := by decide +kernel
theorem dX10_meets_110 : decode cX10_meets 110 = .ok (.iadd, 1) := by decide +kernel
theorem dX10_meets_111 : decode cX10_meets 111 = .ok (.laload, 1) := by decide +kernel
theorem dX10_meets_112 : decode cX10_meets 112 = .ok (.ladd, 1) := by decide +kernel
theorem dX10_meets_113 : decode cX10_meets 113 = .ok (.lstore 14, 2) := by decide +kernel
theorem dX10_meets_115 : decode cX10_meets 115 = .ok (.iload 5, 2) := by decide +kernel
theorem dX10_meets_117 : decode cX10_meets 117 = .ok (.lload 12, 2) := by decide +kernel
theorem dX10_meets_119 : decode cX10_meets 119 = .ok (.lload 14, 2) := by decide +kernel
theorem dX10_meets_121 : decode cX10_meets 121 = .ok (.lcmp, 1) := by decide +kernel
theorem dX10_meets_122 : decode cX10_meets 122 = .ok (.ifCond .ne 7, 3) := by decide +kernel
theorem dX10_meets_125 : decode cX10_meets 125 = .ok (.iconst 1, 1) := by decide +kernel
theorem dX10_meets_126 : decode cX10_meets 126 = .ok (.goto 4, 3) := by decide +kernel
theorem dX10_meets_129 : decode cX10_meets 129 = .ok (.iconst 0, 1) := by decide +kernel
theorem dX10_meets_130 : decode cX10_meets 130 = .ok (.iadd, 1) := by decide +kernel
theorem dX10_meets_131 : decode cX10_meets 131 = .ok (.istore 5, 2) := by decide +kernel
theorem dX10_meets_133 : decode cX10_meets 133 = .ok (.lload 12, 2) := by decide +kernel
theorem dX10_meets_135 : decode cX10_meets 135 = .ok (.lload 14, 2) := by decide +kernel
theorem dX10_meets_137 : decode cX10_meets 137 = .ok (.lcmp, 1) := by decide +kernel
theorem dX10_meets_138 : decode cX10_meets 138 = .ok (.ifCond .gt 51, 3) := by decide +kernel
theorem dX10_meets_141 : decode cX10_meets 141 = .ok (.iinc 6 1, 3) := by decide +kernel
theorem dX10_meets_144 : decode cX10_meets 144 = .ok (.lload 8, 2) := by decide +kernel
theorem dX10_meets_146 : decode cX10_meets 146 = .ok (.iload 6, 2) := by decide +kernel
theorem dX10_meets_148 : decode cX10_meets 148 = .ok (.aload_n 0, 1) := by decide +kernel
theorem dX10_meets_149 : decode cX10_meets 149 = .ok (.getfield 41, 3) := by decide +kernel
theorem dX10_meets_152 : decode cX10_meets 152 = .ok (.iload_n 1, 1) := by decide +kernel
theorem dX10_meets_153 : decode cX10_meets 153 = .ok (.iaload, 1) := by decide +kernel
theorem dX10_meets_154 : decode cX10_meets 154 = .ok (.if_icmp .ne 12, 3) := by decide +kernel
theorem dX10_meets_157 : decode cX10_meets 157 = .ok (.aload_n 0, 1) := by decide +kernel
theorem dX10_meets_158 : decode cX10_meets 158 = .ok (.getfield 44, 3) := by decide +kernel
theorem dX10_meets_161 : decode cX10_meets 161 = .ok (.iload_n 1, 1) := by decide +kernel
theorem dX10_meets_162 : decode cX10_meets 162 = .ok (.laload, 1) := by decide +kernel
theorem dX10_meets_163 : decode cX10_meets 163 = .ok (.goto 4, 3) := by decide +kernel
theorem dX10_meets_166 : decode cX10_meets 166 = .ok (.lconst 0, 1) := by decide +kernel
theorem dX10_meets_167 : decode cX10_meets 167 = .ok (.ladd, 1) := by decide +kernel
theorem dX10_meets_168 : decode cX10_meets 168 = .ok (.lstore 8, 2) := by decide +kernel
theorem dX10_meets_170 : decode cX10_meets 170 = .ok (.iload 6, 2) := by decide +kernel
theorem dX10_meets_172 : decode cX10_meets 172 = .ok (.aload_n 0, 1) := by decide +kernel
theorem dX10_meets_173 : decode cX10_meets 173 = .ok (.getfield 41, 3) := by decide +kernel
theorem dX10_meets_176 : decode cX10_meets 176 = .ok (.iload_n 1, 1) := by decide +kernel
theorem dX10_meets_177 : decode cX10_meets 177 = .ok (.iaload, 1) := by decide +kernel
theorem dX10_meets_178 : decode cX10_meets 178 = .ok (.if_icmp .ne 7, 3) := by decide +kernel
theorem dX10_meets_181 : decode cX10_meets 181 = .ok (.iconst 0, 1) := by decide +kernel
theorem dX10_meets_182 : decode cX10_meets 182 = .ok (.goto 5, 3) := by decide +kernel
theorem dX10_meets_185 : decode cX10_meets 185 = .ok (.iload 6, 2) := by decide +kernel
theorem dX10_meets_187 : decode cX10_meets 187 = .ok (.istore 6, 2) := by decide +kernel
theorem dX10_meets_189 : decode cX10_meets 189 = .ok (.lload 14, 2) := by decide +kernel
theorem dX10_meets_191 : decode cX10_meets 191 = .ok (.lload 12, 2) := by decide +kernel
theorem dX10_meets_193 : decode cX10_meets 193 = .ok (.lcmp, 1) := by decide +kernel
theorem dX10_meets_194 : decode cX10_meets 194 = .ok (.ifCond .gt 51, 3) := by decide +kernel
theorem dX10_meets_197 : decode cX10_meets 197 = .ok (.iinc 7 1, 3) := by decide +kernel
theorem dX10_meets_200 : decode cX10_meets 200 = .ok (.lload 10, 2) := by decide +kernel
theorem dX10_meets_202 : decode cX10_meets 202 = .ok (.iload 7, 2) := by decide +kernel
theorem dX10_meets_204 : decode cX10_meets 204 = .ok (.aload_n 0, 1) := by decide +kernel
theorem dX10_meets_205 : decode cX10_meets 205 = .ok (.getfield 41, 3) := by decide +kernel
theorem dX10_meets_208 : decode cX10_meets 208 = .ok (.iload_n 2, 1) := by decide +kernel
theorem dX10_meets_209 : decode cX10_meets 209 = .ok (.iaload, 1) := by decide +kernel
theorem dX10_meets_210 : decode cX10_meets 210 = .ok (.if_icmp .ne 12, 3) := by decide +kernel
theorem dX10_meets_213 : decode cX10_meets 213 = .ok (.aload_n 0, 1) := by decide +kernel
theorem dX10_meets_214 : decode cX10_meets 214 = .ok (.getfield 44, 3) := by decide +kernel
theorem dX10_meets_217 : decode cX10_meets 217 = .ok (.iload_n 2, 1) := by decide +kernel
theorem dX10_meets_218 : decode cX10_meets 218 = .ok (.laload, 1) := by decide +kernel
theorem dX10_meets_219 : decode cX10_meets 219 = .ok (.goto 4, 3) := by decide +kernel
theorem dX10_meets_222 : decode cX10_meets 222 = .ok (.lconst 0, 1) := by decide +kernel
theorem dX10_meets_223 : decode cX10_meets 223 = .ok (.ladd, 1) := by decide +kernel
theorem dX10_meets_224 : decode cX10_meets 224 = .ok (.lstore 10, 2) := by decide +kernel
theorem dX10_meets_226 : decode cX10_meets 226 = .ok (.iload 7, 2) := by decide +kernel
theorem dX10_meets_228 : decode cX10_meets 228 = .ok (.aload_n 0, 1) := by decide +kernel
theorem dX10_meets_229 : decode cX10_meets 229 = .ok (.getfield 41, 3) := by decide +kernel
theorem dX10_meets_232 : decode cX10_meets 232 = .ok (.iload_n 2, 1) := by decide +kernel
theorem dX10_meets_233 : decode cX10_meets 233 = .ok (.iaload, 1) := by decide +kernel
theorem dX10_meets_234 : decode cX10_meets 234 = .ok (.if_icmp .ne 7, 3) := by decide +kernel
theorem dX10_meets_237 : decode cX10_meets 237 = .ok (.iconst 0, 1) := by decide +kernel
theorem dX10_meets_238 : decode cX10_meets 238 = .ok (.goto 5, 3) := by decide +kernel
theorem dX10_meets_241 : decode cX10_meets 241 = .ok (.iload 7, 2) := by decide +kernel
theorem dX10_meets_243 : decode cX10_meets 243 = .ok (.istore 7, 2) := by decide +kernel
theorem dX10_meets_245 : decode cX10_meets 245 = .ok (.goto (-198), 3) := by decide +kernel
theorem dX10_meets_248 : decode cX10_meets 248 = .ok (.iload 5, 2) := by decide +kernel
theorem dX10_meets_250 : decode cX10_meets 250 = .ok (.ireturn, 1) := by decide +kernel
theorem dX10_undo_0 : decode cX10_undo 0 = .ok (.aload_n 0, 1) := by decide +kernel
theorem dX10_undo_1 : decode cX10_undo 1 = .ok (.getfield 72, 3) := by decide +kernel
theorem dX10_undo_4 : decode cX10_undo 4 = .ok (.ifCond .ne 6, 3) := by decide +kernel
theorem dX10_undo_7 : decode cX10_undo 7 = .ok (.bipush (-9), 2) := by decide +kernel
theorem dX10_undo_9 : decode cX10_undo 9 = .ok (.ireturn, 1) := by decide +kernel
theorem dX10_undo_10 : decode cX10_undo 10 = .ok (.aload_n 0, 1) := by decide +kernel
theorem dX10_undo_11 : decode cX10_undo 11 = .ok (.dup, 1) := by decide +kernel
theorem dX10_undo_12 : decode cX10_undo 12 = .ok (.getfield 72, 3) := by decide +kernel
theorem dX10_undo_15 : decode cX10_undo 15 = .ok (.iconst 1, 1) := by decide +kernel
theorem dX10_undo_16 : decode cX10_undo 16 = .ok (.isub, 1) := by decide +kernel
theorem dX10_undo_17 : decode cX10_undo 17 = .ok (.putfield 72, 3) := by decide +kernel
theorem dX10_undo_20 : decode cX10_undo 20 = .ok (.iconst 0, 1) := by decide +kernel
theorem dX10_undo_21 : decode cX10_undo 21 = .ok (.istore_n 1, 1) := by decide +kernel
theorem dX10_undo_22 : decode cX10_undo 22 = .ok (.iload_n 1, 1) := by decide +kernel
theorem dX10_undo_23 : decode cX10_undo 23 = .ok (.sipush 420, 3) := by decide +kernel
theorem dX10_undo_26 : decode cX10_undo 26 = .ok (.if_icmp .ge 30, 3) := by decide +kernel
theorem dX10_undo_29 : decode cX10_undo 29 = .ok (.aload_n 0, 1) := by decide +kernel
theorem dX10_undo_30 : decode cX10_undo 30 = .ok (.getfield 7, 3) := by decide +kernel
theorem dX10_undo_33 : decode cX10_undo 33 = .ok (.iload_n 1, 1) := by decide +kernel
theorem dX10_undo_34 : decode cX10_undo 34 = .ok (.aload_n 0, 1) := by decide +kernel
theorem dX10_undo_35 : decode cX10_undo 35 = .ok (.getfield 13, 3) := by decide +kernel
theorem dX10_undo_38 : decode cX10_undo 38 = .ok (.sipush 420, 3) := by decide +kernel
theorem dX10_undo_41 : decode cX10_undo 41 = .ok (.aload_n 0, 1) := by decide +kernel
theorem dX10_undo_42 : decode cX10_undo 42 = .ok (.getfield 72, 3) := by decide +kernel
theorem dX10_undo_45 : decode cX10_undo 45 = .ok (.imul, 1) := by decide +kernel
theorem dX10_undo_46 : decode cX10_undo 46 = .ok (.iload_n 1, 1) := by decide +kernel
theorem dX10_undo_47 : decode cX10_undo 47 = .ok (.iadd, 1) := by decide +kernel
theorem dX10_undo_48 : decode cX10_undo 48 = .ok (.iaload, 1) := by decide +kernel
theorem dX10_undo_49 : decode cX10_undo 49 = .ok (.iastore, 1) := by decide +kernel
theorem dX10_undo_50 : decode cX10_undo 50 = .ok (.iinc 1 1, 3) := by decide +kernel
theorem dX10_undo_53 : decode cX10_undo 53 = .ok (.goto (-31), 3) := by decide +kernel
theorem dX10_undo_56 : decode cX10_undo 56 = .ok (.aload_n 0, 1) := by decide +kernel
theorem dX10_undo_57 : decode cX10_undo 57 = .ok (.getfield 72, 3) := by decide +kernel
theorem dX10_undo_60 : decode cX10_undo 60 = .ok (.ireturn, 1) := by decide +kernel
theorem dX10_fingerprint_0 : decode cX10_fingerprint 0 = .ok (.ldc2_w 233, 3) := by decide +kernel
theorem dX10_fingerprint_3 : decode cX10_fingerprint 3 = .ok (.lstore_n 1, 1) := by decide +kernel
theorem dX10_fingerprint_4 : decode cX10_fingerprint 4 = .ok (.iconst 0, 1) := by decide +kernel
theorem dX10_fingerprint_5 : decode cX10_fingerprint 5 = .ok (.istore_n 3, 1) := by decide +kernel
theorem dX10_fingerprint_6 : decode cX10_fingerprint 6 = .ok (.iload_n 3, 1) := by decide +kernel
theorem dX10_fingerprint_7 : decode cX10_fingerprint 7 = .ok (.iconst 4, 1) := by decide +kernel
theorem dX10_fingerprint_8 : decode cX10_fingerprint 8 = .ok (.if_icmp .ge 71, 3) := by decide +kernel
theorem dX10_fingerprint_11 : decode cX10_fingerprint 11 = .ok (.ldc2_w 235, 3) := by decide +kernel
theorem dX10_fingerprint_14 : decode cX10_fingerprint 14 = .ok (.lload_n 1, 1) := by decide +kernel
theorem dX10_fingerprint_15 : decode cX10_fingerprint 15 = .ok (.lmul, 1) := by decide +kernel
theorem dX10_fingerprint_16 : decode cX10_fingerprint 16 = .ok (.aload_n 0, 1) := by decide +kernel
theorem dX10_fingerprint_17 : decode cX10_fingerprint 17 = .ok (.getfield 7, 3) := by decide +kernel
theorem dX10_fingerprint_20 : decode cX10_fingerprint 20 = .ok (.bipush 101, 2) := by decide +kernel
theorem dX10_fingerprint_22 : decode cX10_fingerprint 22 = .ok (.iload_n 3, 1) := by decide +kernel
theorem dX10_fingerprint_23 : decode cX10_fingerprint 23 = .ok (.imul, 1) := by decide +kernel
theorem dX10_fingerprint_24 : decode cX10_fingerprint 24 = .ok (.iaload, 1) := by decide +kernel
theorem dX10_fingerprint_25 : decode cX10_fingerprint 25 = .ok (.i2l, 1) := by decide +kernel
theorem dX10_fingerprint_26 : decode cX10_fingerprint 26 = .ok (.ladd, 1) := by decide +kernel
theorem dX10_fingerprint_27 : decode cX10_fingerprint 27 = .ok (.lstore_n 1, 1) := by decide +kernel
theorem dX10_fingerprint_28 : decode cX10_fingerprint 28 = .ok (.iconst 0, 1) := by decide +kernel
theorem dX10_fingerprint_29 : decode cX10_fingerprint 29 = .ok (.istore 4, 2) := by decide +kernel
theorem dX10_fingerprint_31 : decode cX10_fingerprint 31 = .ok (.iload 4, 2) := by decide +kernel
theorem dX10_fingerprint_33 : decode cX10_fingerprint 33 = .ok (.aload_n 0, 1) := by decide +kernel
theorem dX10_fingerprint_34 : decode cX10_fingerprint 34 = .ok (.getfield 7, 3) := by decide +kernel
theorem dX10_fingerprint_37 : decode cX10_fingerprint 37 = .ok (.bipush 101, 2) := by decide +kernel
theorem dX10_fingerprint_39 : decode cX10_fingerprint 39 = .ok (.iload_n 3, 1) := by decide +kernel
theorem dX10_fingerprint_40 : decode cX10_fingerprint 40 = .ok (.imul, 1) := by decide +kernel
theorem dX10_fingerprint_41 : decode cX10_fingerprint 41 = .ok (.iaload, 1) := by decide +kernel
theorem dX10_fingerprint_42 : decode cX10_fingerprint 42 = .ok (.if_icmp .ge 31, 3) := by decide +kernel
theorem dX10_fingerprint_45 : decode cX10_fingerprint 45 = .ok (.ldc2_w 235, 3) := by decide +kernel
theorem dX10_fingerprint_48 : decode cX10_fingerprint 48 = .ok (.lload_n 1, 1) := by decide +kernel
theorem dX10_fingerprint_49 : decode cX10_fingerprint 49 = .ok (.lmul, 1) := by decide +kernel
theorem dX10_fingerprint_50 : decode cX10_fingerprint 50 = .ok (.aload_n 0, 1) := by decide +kernel
theorem dX10_fingerprint_51 : decode cX10_fingerprint 51 = .ok (.getfield 7, 3) := by decide +kernel
theorem dX10_fingerprint_54 : decode cX10_fingerprint 54 = .ok (.bipush 101, 2) := by decide +kernel
theorem dX10_fingerprint_56 : decode cX10_fingerprint 56 = .ok (.iload_n 3, 1) := by decide +kernel
theorem dX10_fingerprint_57 : decode cX10_fingerprint 57 = .ok (.imul, 1) := by decide +kernel
theorem dX10_fingerprint_58 : decode cX10_fingerprint 58 = .ok (.iconst 1, 1) := by decide +kernel
theorem dX10_fingerprint_59 : decode cX10_fingerprint 59 = .ok (.iadd, 1) := by decide +kernel
theorem dX10_fingerprint_60 : decode cX10_fingerprint 60 = .ok (.iload 4, 2) := by decide +kernel
theorem dX10_fingerprint_62 : decode cX10_fingerprint 62 = .ok (.iadd, 1) := by decide +kernel
theorem dX10_fingerprint_63 : decode cX10_fingerprint 63 = .ok (.iaload, 1) := by decide +kernel
theorem dX10_fingerprint_64 : decode cX10_fingerprint 64 = .ok (.i2l, 1) := by decide +kernel
theorem dX10_fingerprint_65 : decode cX10_fingerprint 65 = .ok (.ladd, 1) := by decide +kernel
theorem dX10_fingerprint_66 : decode cX10_fingerprint 66 = .ok (.lstore_n 1, 1) := by decide +kernel
theorem dX10_fingerprint_67 : decode cX10_fingerprint 67 = .ok (.iinc 4 1, 3) := by decide +kernel
theorem dX10_fingerprint_70 : decode cX10_fingerprint 70 = .ok (.goto (-39), 3) := by decide +kernel
theorem dX10_fingerprint_73 : decode cX10_fingerprint 73 = .ok (.iinc 3 1, 3) := by decide +kernel
theorem dX10_fingerprint_76 : decode cX10_fingerprint 76 = .ok (.goto (-70), 3) := by decide +kernel
theorem dX10_fingerprint_79 : decode cX10_fingerprint 79 = .ok (.sipush 404, 3) := by decide +kernel
theorem dX10_fingerprint_82 : decode cX10_fingerprint 82 = .ok (.istore_n 3, 1) := by decide +kernel
theorem dX10_fingerprint_83 : decode cX10_fingerprint 83 = .ok (.iload_n 3, 1) := by decide +kernel
theorem dX10_fingerprint_84 : decode cX10_fingerprint 84 = .ok (.sipush 407, 3) := by decide +kernel
theorem dX10_fingerprint_87 : decode cX10_fingerprint 87 = .ok (.if_icmp .gt 23, 3) := by decide +kernel
theorem dX10_fingerprint_90 : decode cX10_fingerprint 90 = .ok (.ldc2_w 235, 3) := by decide +kernel
theorem dX10_fingerprint_93 : decode cX10_fingerprint 93 = .ok (.lload_n 1, 1) := by decide +kernel
theorem dX10_fingerprint_94 : decode cX10_fingerprint 94 = .ok (.lmul, 1) := by decide +kernel
theorem dX10_fingerprint_95 : decode cX10_fingerprint 95 = .ok (.aload_n 0, 1) := by decide +kernel
theorem dX10_fingerprint_96 : decode cX10_fingerprint 96 = .ok (.getfield 7, 3) := by decide +kernel
theorem dX10_fingerprint_99 : decode cX10_fingerprint 99 = .ok (.iload_n 3, 1) := by decide +kernel
theorem dX10_fingerprint_100 : decode cX10_fingerprint 100 = .ok (.iaload, 1) := by decide +kernel
theorem dX10_fingerprint_101 : decode cX10_fingerprint 101 = .ok (.i2l, 1) := by decide +kernel
theorem dX10_fingerprint_102 : decode cX10_fingerprint 102 = .ok (.ladd, 1) := by decide +kernel
theorem dX10_fingerprint_103 : decode cX10_fingerprint 103 = .ok (.lstore_n 1, 1) := by decide +kernel
theorem dX10_fingerprint_104 : decode cX10_fingerprint 104 = .ok (.iinc 3 1, 3) := by decide +kernel
theorem dX10_fingerprint_107 : decode cX10_fingerprint 107 = .ok (.goto (-24), 3) := by decide +kernel
theorem dX10_fingerprint_110 : decode cX10_fingerprint 110 = .ok (.lload_n 1, 1) := by decide +kernel
theorem dX10_fingerprint_111 : decode cX10_fingerprint 111 = .ok (.lreturn, 1) := by decide +kernel
end
section
theorem dL_law_0 : decode cL_law 0 = .ok (.new 7, 3) := by decide +kernel
theorem dL_law_3 : decode cL_law 3 = .ok (.dup, 1) := by decide +kernel
theorem dL_law_4 : decode cL_law 4 = .ok (.invokespecial 9, 3) := by decide +kernel
theorem dL_law_7 : decode cL_law 7 = .ok (.astore_n 1, 1) := by decide +kernel
theorem dL_law_8 : decode cL_law 8 = .ok (.new 10, 3) := by decide +kernel
theorem dL_law_11 : decode cL_law 11 = .ok (.dup, 1) := by decide +kernel
theorem dL_law_12 : decode cL_law 12 = .ok (.invokespecial 12, 3) := by decide +kernel
theorem dL_law_15 : decode cL_law 15 = .ok (.astore_n 2, 1) := by decide +kernel
theorem dL_law_16 : decode cL_law 16 = .ok (.iconst 0, 1) := by decide +kernel
theorem dL_law_17 : decode cL_law 17 = .ok (.istore_n 3, 1) := by decide +kernel
theorem dL_law_18 : decode cL_law 18 = .ok (.iload_n 3, 1) := by decide +kernel
theorem dL_law_19 : decode cL_law 19 = .ok (.aload_n 0, 1) := by decide +kernel
theorem dL_law_20 : decode cL_law 20 = .ok (.arraylength, 1) := by decide +kernel
theorem dL_law_21 : decode cL_law 21 = .ok (.iconst 5, 1) := by decide +kernel
theorem dL_law_22 : decode cL_law 22 = .ok (.isub, 1) := by decide +kernel
theorem dL_law_23 : decode cL_law 23 = .ok (.if_icmp .gt 968, 3) := by decide +kernel
theorem dL_law_26 : decode cL_law 26 = .ok (.aload_n 0, 1) := by decide +kernel
theorem dL_law_27 : decode cL_law 27 = .ok (.iload_n 3, 1) := by decide +kernel
theorem dL_law_28 : decode cL_law 28 = .ok (.iaload, 1) := by decide +kernel
theorem dL_law_29 : decode cL_law 29 = .ok (.bipush 31, 2) := by decide +kernel
theorem dL_law_31 : decode cL_law 31 = .ok (.iand, 1) := by decide +kernel
theorem dL_law_32 : decode cL_law 32 = .ok (.tableswitch 953 0 26 #[124, 147, 160, 183, 216, 269, 302, 335, 368, 401, 424, 458, 502, 546, 590, 633, 656, 700, 723, 746, 779, 802, 815, 849, 893, 926, 939], 124) := by decide +kernel
theorem dL_law_156 : decode cL_law 156 = .ok (.aload_n 1, 1) := by decide +kernel
theorem dL_law_157 : decode cL_law 157 = .ok (.aload_n 0, 1) := by decide +kernel
theorem dL_law_158 : decode cL_law 158 = .ok (.iload_n 3, 1) := by decide +kernel
theorem dL_law_159 : decode cL_law 159 = .ok (.iconst 1, 1) := by decide +kernel
theorem dL_law_160 : decode cL_law 160 = .ok (.iadd, 1) := by decide +kernel
theorem dL_law_161 : decode cL_law 161 = .ok (.iaload, 1) := by decide +kernel
theorem dL_law_162 : decode cL_law 162 = .ok (.invokevirtual 13, 3) := by decide +kernel
theorem dL_law_165 : decode cL_law 165 = .ok (.aload_n 2, 1) := by decide +kernel
theorem dL_law_166 : decode cL_law 166 = .ok (.aload_n 0, 1) := by decide +kernel
theorem dL_law_167 : decode cL_law 167 = .ok (.iload_n 3, 1) := by decide +kernel
theorem dL_law_168 : decode cL_law 168 = .ok (.iconst 1, 1) := by decide +kernel
theorem dL_law_169 : decode cL_law 169 = .ok (.iadd, 1) := by decide +kernel
theorem dL_law_170 : decode cL_law 170 = .ok (.iaload, 1) := by decide +kernel
theorem dL_law_171 : decode cL_law 171 = .ok (.invokevirtual 17, 3) := by decide +kernel
theorem dL_law_174 : decode cL_law 174 = .ok (.if_icmp .eq 811, 3) := by decide +kernel
theorem dL_law_177 : decode cL_law 177 = .ok (.iconst 0, 1) := by decide +kernel
theorem dL_law_178 : decode cL_law 178 = .ok (.ireturn, 1) := by decide +kernel
theorem dL_law_179 : decode cL_law 179 = .ok (.aload_n 1, 1) := by decide +kernel
theorem dL_law_180 : decode cL_law 180 = .ok (.invokevirtual 18, 3) := by decide +kernel
theorem dL_law_183 : decode cL_law 183 = .ok (.aload_n 2, 1) := by decide +kernel
theorem dL_law_184 : decode cL_law 184 = .ok (.invokevirtual 22, 3) := by decide +kernel
theorem dL_law_187 : decode cL_law 187 = .ok (.if_icmp .eq 798, 3) := by decide +kernel
theorem dL_law_190 : decode cL_law 190 = .ok (.iconst 0, 1) := by decide +kernel
theorem dL_law_191 : decode cL_law 191 = .ok (.ireturn, 1) := by decide +kernel
theorem dL_law_192 : decode cL_law 192 = .ok (.aload_n 1, 1) := by decide +kernel
theorem dL_law_193 : decode cL_law 193 = .ok (.aload_n 0, 1) := by decide +kernel
theorem dL_law_194 : decode cL_law 194 = .ok (.iload_n 3, 1) := by decide +kernel
theorem dL_law_195 : decode cL_law 195 = .ok (.iconst 1, 1) := by decide +kernel
theorem dL_law_196 : decode cL_law 196 = .ok (.iadd, 1) := by decide +kernel
theorem dL_law_197 : decode cL_law 197 = .ok (.iaload, 1) := by decide +kernel
theorem dL_law_198 : decode cL_law 198 = .ok (.invokevirtual 23, 3) := by decide +kernel
theorem dL_law_201 : decode cL_law 201 = .ok (.aload_n 2, 1) := by decide +kernel
theorem dL_law_202 : decode cL_law 202 = .ok (.aload_n 0, 1) := by decide +kernel
theorem dL_law_203 : decode cL_law 203 = .ok (.iload_n 3, 1) := by decide +kernel
theorem dL_law_204 : decode cL_law 204 = .ok (.iconst 1, 1) := by decide +kernel
theorem dL_law_205 : decode cL_law 205 = .ok (.iadd, 1) := by decide +kernel
theorem dL_law_206 : decode cL_law 206 = .ok (.iaload, 1) := by decide +kernel
theorem dL_law_207 : decode cL_law 207 = .ok (.invokevirtual 26, 3) := by decide +kernel
theorem dL_law_210 : decode cL_law 210 = .ok (.if_icmp .eq 775, 3) := by decide +kernel
theorem dL_law_213 : decode cL_law 213 = .ok (.iconst 0, 1) := by decide +kernel
theorem dL_law_214 : decode cL_law 214 = .ok (.ireturn, 1) := by decide +kernel
theorem dL_law_215 : decode cL_law 215 = .ok (.aload_n 1, 1) := by decide +kernel
theorem dL_law_216 : decode cL_law 216 = .ok (.aload_n 0, 1) := by decide +kernel
theorem dL_law_217 : decode cL_law 217 = .ok (.iload_n 3, 1) := by decide +kernel
theorem dL_law_218 : decode cL_law 218 = .ok (.iconst 1, 1) := by decide +kernel
theorem dL_law_219 : decode cL_law 219 = .ok (.iadd, 1) := by decide +kernel
theorem dL_law_220 : decode cL_law 220 = .ok (.iaload, 1) := by decide +kernel
theorem dL_law_221 : decode cL_law 221 = .ok (.aload_n 0, 1) := by decide +kernel
theorem dL_law_222 : decode cL_law 222 = .ok (.iload_n 3, 1) := by decide +kernel
theorem dL_law_223 : decode cL_law 223 = .ok (.iconst 2, 1) := by decide +kernel
theorem dL_law_224 : decode cL_law 224 = .ok (.iadd, 1) := by decide +kernel
theorem dL_law_225 : decode cL_law 225 = .ok (.iaload, 1) := by decide +kernel
theorem dL_law_226 : decode cL_law 226 = .ok (.invokevirtual 27, 3) := by decide +kernel
theorem dL_law_229 : decode cL_law 229 = .ok (.aload_n 2, 1) := by decide +kernel
theorem dL_law_230 : decode cL_law 230 = .ok (.aload_n 0, 1) := by decide +kernel
theorem dL_law_231 : decode cL_law 231 = .ok (.iload_n 3, 1) := by decide +kernel
theorem dL_law_232 : decode cL_law 232 = .ok (.iconst 1, 1) := by decide +kernel
theorem dL_law_233 : decode cL_law 233 = .ok (.iadd, 1) := by decide +kernel
theorem dL_law_234 : decode cL_law 234 = .ok (.iaload, 1) := by decide +kernel
theorem dL_law_235 : decode cL_law 235 = .ok (.aload_n 0, 1) := by decide +kernel
theorem dL_law_236 : decode cL_law 236 = .ok (.iload_n 3, 1) := by decide +kernel
theorem dL_law_237 : decode cL_law 237 = .ok (.iconst 2, 1) := by decide +kernel
theorem dL_law_238 : decode cL_law 238 = .ok (.iadd, 1) := by decide +kernel
theorem dL_law_239 : decode cL_law 239 = .ok (.iaload, 1) := by decide +kernel
theorem dL_law_240 : decode cL_law 240 = .ok (.invokevirtual 31, 3) := by decide +kernel
theorem dL_law_243 : decode cL_law 243 = .ok (.if_icmp .eq 742, 3) := by decide +kernel
theorem dL_law_246 : decode cL_law 246 = .ok (.iconst 0, 1) := by decide +kernel
theorem dL_law_247 : decode cL_law 247 = .ok (.ireturn, 1) := by decide +kernel
theorem dL_law_248 : decode cL_law 248 = .ok (.aload_n 1, 1) := by decide +kernel
theorem dL_law_249 : decode cL_law 249 = .ok (.aload_n 0, 1) := by decide +kernel
theorem dL_law_250 : decode cL_law 250 = .ok (.iload_n 3, 1) := by decide +kernel
theorem dL_law_251 : decode cL_law 251 = .ok (.iconst 1, 1) := by decide +kernel
theorem dL_law_252 : decode cL_law 252 = .ok (.iadd, 1) := by decide +kernel
theorem dL_law_253 : decode cL_law 253 = .ok (.iaload, 1) := by decide +kernel
theorem dL_law_254 : decode cL_law 254 = .ok (.aload_n 0, 1) := by decide +kernel
theorem dL_law_255 : decode cL_law 255 = .ok (.iload_n 3, 1) := by decide +kernel
theorem dL_law_256 : decode cL_law 256 = .ok (.iconst 2, 1) := by decide +kernel
theorem dL_law_257 : decode cL_law 257 = .ok (.iadd, 1) := by decide +kernel
theorem dL_law_258 : decode cL_law 258 = .ok (.iaload, 1) := by decide +kernel
theorem dL_law_259 : decode cL_law 259 = .ok (.aload_n 0, 1) := by decide +kernel
theorem dL_law_260 : decode cL_law 260 = .ok (.iload_n 3, 1) := by decide +kernel
theorem dL_law_261 : decode cL_law 261 = .ok (.iconst 3, 1) := by decide +kernel
theorem dL_law_262 : decode cL_law 262 = .ok (.iadd, 1) := by decide +kernel
theorem dL_law_263 : decode cL_law 263 = .ok (.iaload, 1) := by decide +kernel
theorem dL_law_264 : decode cL_law 264 = .ok (.aload_n 0, 1) := by decide +kernel
theorem dL_law_265 : decode cL_law 265 = .ok (.iload_n 3, 1) := by decide +kernel
theorem dL_law_266 : decode cL_law 266 = .ok (.iconst 4, 1) := by decide +kernel
theorem dL_law_267 : decode cL_law 267 = .ok (.iadd, 1) := by decide +kernel
theorem dL_law_268 : decode cL_law 268 = .ok (.iaload, 1) := by decide +kernel
theorem dL_law_269 : decode cL_law 269 = .ok (.invokevirtual 32, 3) := by decide +kernel
theorem dL_law_272 : decode cL_law 272 = .ok (.aload_n 2, 1) := by decide +kernel
theorem dL_law_273 : decode cL_law 273 = .ok (.aload_n 0, 1) := by decide +kernel
theorem dL_law_274 : decode cL_law 274 = .ok (.iload_n 3, 1) := by decide +kernel
theorem dL_law_275 : decode cL_law 275 = .ok (.iconst 1, 1) := by decide +kernel
theorem dL_law_276 : decode cL_law 276 = .ok (.iadd, 1) := by decide +kernel
theorem dL_law_277 : decode cL_law 277 = .ok (.iaload, 1) := by decide +kernel
theorem dL_law_278 : decode cL_law 278 = .ok (.aload_n 0, 1) := by decide +kernel
theorem dL_law_279 : decode cL_law 279 = .ok (.iload_n 3, 1) := by decide +kernel
theorem dL_law_280 : decode cL_law 280 = .ok (.iconst 2, 1) := by decide +kernel
theorem dL_law_281 : decode cL_law 281 = .ok (.iadd, 1) := by decide +kernel
theorem dL_law_282 : decode cL_law 282 = .ok (.iaload, 1) := by decide +kernel
theorem dL_law_283 : decode cL_law 283 = .ok (.aload_n 0, 1) := by decide +kernel
theorem dL_law_284 : decode cL_law 284 = .ok (.iload_n 3, 1) := by decide +kernel
theorem dL_law_285 : decode cL_law 285 = .ok (.iconst 3, 1) := by decide +kernel
theorem dL_law_286 : decode cL_law 286 = .ok (.iadd, 1) := by decide +kernel
theorem dL_law_287 : decode cL_law 287 = .ok (.iaload, 1) := by decide +kernel
theorem dL_law_288 : decode cL_law 288 = .ok (.aload_n 0, 1) := by decide +kernel
theorem dL_law_289 : decode cL_law 289 = .ok (.iload_n 3, 1) := by decide +kernel
theorem dL_law_290 : decode cL_law 290 = .ok (.iconst 4, 1) := by decide +kernel
theorem dL_law_291 : decode cL_law 291 = .ok (.iadd, 1) := by decide +kernel
theorem dL_law_292 : decode cL_law 292 = .ok (.iaload, 1) := by decide +kernel
theorem dL_law_293 : decode cL_law 293 = .ok (.invokevirtual 36, 3) := by decide +kernel
theorem dL_law_296 : decode cL_law 296 = .ok (.if_icmp .eq 689, 3) := by decide +kernel
theorem dL_law_299 : decode cL_law 299 = .ok (.iconst 0, 1) := by decide +kernel
theorem dL_law_300 : decode cL_law 300 = .ok (.ireturn, 1) := by decide +kernel
theorem dL_law_301 : decode cL_law 301 = .ok (.aload_n 1, 1) := by decide +kernel
theorem dL_law_302 : decode cL_law 302 = .ok (.aload_n 0, 1) := by decide +kernel
theorem dL_law_303 : decode cL_law 303 = .ok (.iload_n 3, 1) := by decide +kernel
theorem dL_law_304 : decode cL_law 304 = .ok (.iconst 1, 1) := by decide +kernel
theorem dL_law_305 : decode cL_law 305 = .ok (.iadd, 1) := by decide +kernel
theorem dL_law_306 : decode cL_law 306 = .ok (.iaload, 1) := by decide +kernel
theorem dL_law_307 : decode cL_law 307 = .ok (.aload_n 0, 1) := by decide +kernel
theorem dL_law_308 : decode cL_law 308 = .ok (.iload_n 3, 1) := by decide +kernel
theorem dL_law_309 : decode cL_law 309 = .ok (.iconst 2, 1) := by decide +kernel
theorem dL_law_310 : decode cL_law 310 = .ok (.iadd, 1) := by decide +kernel
theorem dL_law_311 : decode cL_law 311 = .ok (.iaload, 1) := by decide +kernel
theorem dL_law_312 : decode cL_law 312 = .ok (.invokevirtual 37, 3) := by decide +kernel
theorem dL_law_315 : decode cL_law 315 = .ok (.aload_n 2, 1) := by decide +kernel
theorem dL_law_316 : decode cL_law 316 = .ok (.aload_n 0, 1) := by decide +kernel
theorem dL_law_317 : decode cL_law 317 = .ok (.iload_n 3, 1) := by decide +kernel
theorem dL_law_318 : decode cL_law 318 = .ok (.iconst 1, 1) := by decide +kernel
theorem dL_law_319 : decode cL_law 319 = .ok (.iadd, 1) := by decide +kernel
theorem dL_law_320 : decode cL_law 320 = .ok (.iaload, 1) := by decide +kernel
theorem dL_law_321 : decode cL_law 321 = .ok (.aload_n 0, 1) := by decide +kernel
theorem dL_law_322 : decode cL_law 322 = .ok (.iload_n 3, 1) := by decide +kernel
theorem dL_law_323 : decode cL_law 323 = .ok (.iconst 2, 1) := by decide +kernel
theorem dL_law_324 : decode cL_law 324 = .ok (.iadd, 1) := by decide +kernel
theorem dL_law_325 : decode cL_law 325 = .ok (.iaload, 1) := by decide +kernel
theorem dL_law_326 : decode cL_law 326 = .ok (.invokevirtual 40, 3) := by decide +kernel
theorem dL_law_329 : decode cL_law 329 = .ok (.if_icmp .eq 656, 3) := by decide +kernel
theorem dL_law_332 : decode cL_law 332 = .ok (.iconst 0, 1) := by decide +kernel
theorem dL_law_333 : decode cL_law 333 = .ok (.ireturn, 1) := by decide +kernel
theorem dL_law_334 : decode cL_law 334 = .ok (.aload_n 1, 1) := by decide +kernel
theorem dL_law_335 : decode cL_law 335 = .ok (.aload_n 0, 1) := by decide +kernel
theorem dL_law_336 : decode cL_law 336 = .ok (.iload_n 3, 1) := by decide +kernel
theorem dL_law_337 : decode cL_law 337 = .ok (.iconst 1, 1) := by decide +kernel
theorem dL_law_338 : decode cL_law 338 = .ok (.iadd, 1) := by decide +kernel
theorem dL_law_339 : decode cL_law 339 = .ok (.iaload, 1) := by decide +kernel
theorem dL_law_340 : decode cL_law 340 = .ok (.aload_n 0, 1) := by decide +kernel
theorem dL_law_341 : decode cL_law 341 = .ok (.iload_n 3, 1) := by decide +kernel
theorem dL_law_342 : decode cL_law 342 = .ok (.iconst 2, 1) := by decide +kernel
theorem dL_law_343 : decode cL_law 343 = .ok (.iadd, 1) := by decide +kernel
theorem dL_law_344 : decode cL_law 344 = .ok (.iaload, 1) := by decide +kernel
theorem dL_law_345 : decode cL_law 345 = .ok (.invokevirtual 41, 3) := by decide +kernel
theorem dL_law_348 : decode cL_law 348 = .ok (.aload_n 2, 1) := by decide +kernel
theorem dL_law_349 : decode cL_law 349 = .ok (.aload_n 0, 1) := by decide +kernel
theorem dL_law_350 : decode cL_law 350 = .ok (.iload_n 3, 1) := by decide +kernel
theorem dL_law_351 : decode cL_law 351 = .ok (.iconst 1, 1) := by decide +kernel
theorem dL_law_352 : decode cL_law 352 = .ok (.iadd, 1) := by decide +kernel
theorem dL_law_353 : decode cL_law 353 = .ok (.iaload, 1) := by decide +kernel
theorem dL_law_354 : decode cL_law 354 = .ok (.aload_n 0, 1) := by decide +kernel
theorem dL_law_355 : decode cL_law 355 = .ok (.iload_n 3, 1) := by decide +kernel
theorem dL_law_356 : decode cL_law 356 = .ok (.iconst 2, 1) := by decide +kernel
theorem dL_law_357 : decode cL_law 357 = .ok (.iadd, 1) := by decide +kernel
theorem dL_law_358 : decode cL_law 358 = .ok (.iaload, 1) := by decide +kernel
theorem dL_law_359 : decode cL_law 359 = .ok (.invokevirtual 44, 3) := by decide +kernel
theorem dL_law_362 : decode cL_law 362 = .ok (.if_icmp .eq 623, 3) := by decide +kernel
theorem dL_law_365 : decode cL_law 365 = .ok (.iconst 0, 1) := by decide +kernel
theorem dL_law_366 : decode cL_law 366 = .ok (.ireturn, 1) := by decide +kernel
theorem dL_law_367 : decode cL_law 367 = .ok (.aload_n 1, 1) := by decide +kernel
theorem dL_law_368 : decode cL_law 368 = .ok (.aload_n 0, 1) := by decide +kernel
theorem dL_law_369 : decode cL_law 369 = .ok (.iload_n 3, 1) := by decide +kernel
theorem dL_law_370 : decode cL_law 370 = .ok (.iconst 1, 1) := by decide +kernel
theorem dL_law_371 : decode cL_law 371 = .ok (.iadd, 1) := by decide +kernel
theorem dL_law_372 : decode cL_law 372 = .ok (.iaload, 1) := by decide +kernel
theorem dL_law_373 : decode cL_law 373 = .ok (.aload_n 0, 1) := by decide +kernel
theorem dL_law_374 : decode cL_law 374 = .ok (.iload_n 3, 1) := by decide +kernel
theorem dL_law_375 : decode cL_law 375 = .ok (.iconst 2, 1) := by decide +kernel
theorem dL_law_376 : decode cL_law 376 = .ok (.iadd, 1) := by decide +kernel
theorem dL_law_377 : decode cL_law 377 = .ok (.iaload, 1) := by decide +kernel
theorem dL_law_378 : decode cL_law 378 = .ok (.invokevirtual 45, 3) := by decide +kernel
theorem dL_law_381 : decode cL_law 381 = .ok (.aload_n 2, 1) := by decide +kernel
theorem dL_law_382 : decode cL_law 382 = .ok (.aload_n 0, 1) := by decide +kernel
theorem dL_law_383 : decode cL_law 383 = .ok (.iload_n 3, 1) := by decide +kernel
theorem dL_law_384 : decode cL_law 384 = .ok (.iconst 1, 1) := by decide +kernel
theorem dL_law_385 : decode cL_law 385 = .ok (.iadd, 1) := by decide +kernel
theorem dL_law_386 : decode cL_law 386 = .ok (.iaload, 1) := by decide +kernel
theorem dL_law_387 : decode cL_law 387 = .ok (.aload_n 0, 1) := by decide +kernel
theorem dL_law_388 : decode cL_law 388 = .ok (.iload_n 3, 1) := by decide +kernel
theorem dL_law_389 : decode cL_law 389 = .ok (.iconst 2, 1) := by decide +kernel
theorem dL_law_390 : decode cL_law 390 = .ok (.iadd, 1) := by decide +kernel
theorem dL_law_391 : decode cL_law 391 = .ok (.iaload, 1) := by decide +kernel
theorem dL_law_392 : decode cL_law 392 = .ok (.invokevirtual 48, 3) := by decide +kernel
theorem dL_law_395 : decode cL_law 395 = .ok (.if_icmp .eq 590, 3) := by decide +kernel
theorem dL_law_398 : decode cL_law 398 = .ok (.iconst 0, 1) := by decide +kernel
theorem dL_law_399 : decode cL_law 399 = .ok (.ireturn, 1) := by decide +kernel
theorem dL_law_400 : decode cL_law 400 = .ok (.aload_n 1, 1) := by decide +kernel
theorem dL_law_401 : decode cL_law 401 = .ok (.aload_n 0, 1) := by decide +kernel
theorem dL_law_402 : decode cL_law 402 = .ok (.iload_n 3, 1) := by decide +kernel
theorem dL_law_403 : decode cL_law 403 = .ok (.iconst 1, 1) := by decide +kernel
theorem dL_law_404 : decode cL_law 404 = .ok (.iadd, 1) := by decide +kernel
theorem dL_law_405 : decode cL_law 405 = .ok (.iaload, 1) := by decide +kernel
theorem dL_law_406 : decode cL_law 406 = .ok (.aload_n 0, 1) := by decide +kernel
theorem dL_law_407 : decode cL_law 407 = .ok (.iload_n 3, 1) := by decide +kernel
theorem dL_law_408 : decode cL_law 408 = .ok (.iconst 2, 1) := by decide +kernel
theorem dL_law_409 : decode cL_law 409 = .ok (.iadd, 1) := by decide +kernel
theorem dL_law_410 : decode cL_law 410 = .ok (.iaload, 1) := by decide +kernel
theorem dL_law_411 : decode cL_law 411 = .ok (.invokevirtual 49, 3) := by decide +kernel
theorem dL_law_414 : decode cL_law 414 = .ok (.aload_n 2, 1) := by decide +kernel
theorem dL_law_415 : decode cL_law 415 = .ok (.aload_n 0, 1) := by decide +kernel
theorem dL_law_416 : decode cL_law 416 = .ok (.iload_n 3, 1) := by decide +kernel
theorem dL_law_417 : decode cL_law 417 = .ok (.iconst 1, 1) := by decide +kernel
theorem dL_law_418 : decode cL_law 418 = .ok (.iadd, 1) := by decide +kernel
theorem dL_law_419 : decode cL_law 419 = .ok (.iaload, 1) := by decide +kernel
theorem dL_law_420 : decode cL_law 420 = .ok (.aload_n 0, 1) := by decide +kernel
theorem dL_law_421 : decode cL_law 421 = .ok (.iload_n 3, 1) := by decide +kernel
theorem dL_law_422 : decode cL_law 422 = .ok (.iconst 2, 1) := by decide +kernel
theorem dL_law_423 : decode cL_law 423 = .ok (.iadd, 1) := by decide +kernel
theorem dL_law_424 : decode cL_law 424 = .ok (.iaload, 1) := by decide +kernel
theorem dL_law_425 : decode cL_law 425 = .ok (.invokevirtual 52, 3) := by decide +kernel
theorem dL_law_428 : decode cL_law 428 = .ok (.if_icmp .eq 557, 3) := by decide +kernel
theorem dL_law_431 : decode cL_law 431 = .ok (.iconst 0, 1) := by decide +kernel
theorem dL_law_432 : decode cL_law 432 = .ok (.ireturn, 1) := by decide +kernel
theorem dL_law_433 : decode cL_law 433 = .ok (.aload_n 1, 1) := by decide +kernel
theorem dL_law_434 : decode cL_law 434 = .ok (.aload_n 0, 1) := by decide +kernel
theorem dL_law_435 : decode cL_law 435 = .ok (.iload_n 3, 1) := by decide +kernel
theorem dL_law_436 : decode cL_law 436 = .ok (.iconst 1, 1) := by decide +kernel
theorem dL_law_437 : decode cL_law 437 = .ok (.iadd, 1) := by decide +kernel
theorem dL_law_438 : decode cL_law 438 = .ok (.iaload, 1) := by decide +kernel
theorem dL_law_439 : decode cL_law 439 = .ok (.invokevirtual 53, 3) := by decide +kernel
theorem dL_law_442 : decode cL_law 442 = .ok (.aload_n 2, 1) := by decide +kernel
theorem dL_law_443 : decode cL_law 443 = .ok (.aload_n 0, 1) := by decide +kernel
theorem dL_law_444 : decode cL_law 444 = .ok (.iload_n 3, 1) := by decide +kernel
theorem dL_law_445 : decode cL_law 445 = .ok (.iconst 1, 1) := by decide +kernel
theorem dL_law_446 : decode cL_law 446 = .ok (.iadd, 1) := by decide +kernel
theorem dL_law_447 : decode cL_law 447 = .ok (.iaload, 1) := by decide +kernel
theorem dL_law_448 : decode cL_law 448 = .ok (.invokevirtual 56, 3) := by decide +kernel
theorem dL_law_451 : decode cL_law 451 = .ok (.if_icmp .eq 534, 3) := by decide +kernel
theorem dL_law_454 : decode cL_law 454 = .ok (.iconst 0, 1) := by decide +kernel
theorem dL_law_455 : decode cL_law 455 = .ok (.ireturn, 1) := by decide +kernel
theorem dL_law_456 : decode cL_law 456 = .ok (.aload_n 1, 1) := by decide +kernel
theorem dL_law_457 : decode cL_law 457 = .ok (.aload_n 0, 1) := by decide +kernel
theorem dL_law_458 : decode cL_law 458 = .ok (.iload_n 3, 1) := by decide +kernel
theorem dL_law_459 : decode cL_law 459 = .ok (.iconst 1, 1) := by decide +kernel
theorem dL_law_460 : decode cL_law 460 = .ok (.iadd, 1) := by decide +kernel
theorem dL_law_461 : decode cL_law 461 = .ok (.iaload, 1) := by decide +kernel
theorem dL_law_462 : decode cL_law 462 = .ok (.aload_n 0, 1) := by decide +kernel
theorem dL_law_463 : decode cL_law 463 = .ok (.iload_n 3, 1) := by decide +kernel
theorem dL_law_464 : decode cL_law 464 = .ok (.iconst 2, 1) := by decide +kernel
theorem dL_law_465 : decode cL_law 465 = .ok (.iadd, 1) := by decide +kernel
theorem dL_law_466 : decode cL_law 466 = .ok (.iaload, 1) := by decide +kernel
theorem dL_law_467 : decode cL_law 467 = .ok (.invokevirtual 57, 3) := by decide +kernel
theorem dL_law_470 : decode cL_law 470 = .ok (.aload_n 2, 1) := by decide +kernel
theorem dL_law_471 : decode cL_law 471 = .ok (.aload_n 0, 1) := by decide +kernel
theorem dL_law_472 : decode cL_law 472 = .ok (.iload_n 3, 1) := by decide +kernel
theorem dL_law_473 : decode cL_law 473 = .ok (.iconst 1, 1) := by decide +kernel
theorem dL_law_474 : decode cL_law 474 = .ok (.iadd, 1) := by decide +kernel
theorem dL_law_475 : decode cL_law 475 = .ok (.iaload, 1) := by decide +kernel
theorem dL_law_476 : decode cL_law 476 = .ok (.aload_n 0, 1) := by decide +kernel
theorem dL_law_477 : decode cL_law 477 = .ok (.iload_n 3, 1) := by decide +kernel
theorem dL_law_478 : decode cL_law 478 = .ok (.iconst 2, 1) := by decide +kernel
theorem dL_law_479 : decode cL_law 479 = .ok (.iadd, 1) := by decide +kernel
theorem dL_law_480 : decode cL_law 480 = .ok (.iaload, 1) := by decide +kernel
theorem dL_law_481 : decode cL_law 481 = .ok (.invokevirtual 61, 3) := by decide +kernel
theorem dL_law_484 : decode cL_law 484 = .ok (.lcmp, 1) := by decide +kernel
theorem dL_law_485 : decode cL_law 485 = .ok (.ifCond .eq 500, 3) := by decide +kernel
theorem dL_law_488 : decode cL_law 488 = .ok (.iconst 0, 1) := by decide +kernel
theorem dL_law_489 : decode cL_law 489 = .ok (.ireturn, 1) := by decide +kernel
theorem dL_law_490 : decode cL_law 490 = .ok (.aload_n 1, 1) := by decide +kernel
theorem dL_law_491 : decode cL_law 491 = .ok (.aload_n 0, 1) := by decide +kernel
theorem dL_law_492 : decode cL_law 492 = .ok (.iload_n 3, 1) := by decide +kernel
theorem dL_law_493 : decode cL_law 493 = .ok (.iconst 1, 1) := by decide +kernel
theorem dL_law_494 : decode cL_law 494 = .ok (.iadd, 1) := by decide +kernel
theorem dL_law_495 : decode cL_law 495 = .ok (.iaload, 1) := by decide +kernel
theorem dL_law_496 : decode cL_law 496 = .ok (.aload_n 0, 1) := by decide +kernel
theorem dL_law_497 : decode cL_law 497 = .ok (.iload_n 3, 1) := by decide +kernel
theorem dL_law_498 : decode cL_law 498 = .ok (.iconst 2, 1) := by decide +kernel
theorem dL_law_499 : decode cL_law 499 = .ok (.iadd, 1) := by decide +kernel
theorem dL_law_500 : decode cL_law 500 = .ok (.iaload, 1) := by decide +kernel
theorem dL_law_501 : decode cL_law 501 = .ok (.aload_n 0, 1) := by decide +kernel
theorem dL_law_502 : decode cL_law 502 = .ok (.iload_n 3, 1) := by decide +kernel
theorem dL_law_503 : decode cL_law 503 = .ok (.iconst 3, 1) := by decide +kernel
theorem dL_law_504 : decode cL_law 504 = .ok (.iadd, 1) := by decide +kernel
theorem dL_law_505 : decode cL_law 505 = .ok (.iaload, 1) := by decide +kernel
theorem dL_law_506 : decode cL_law 506 = .ok (.invokevirtual 62, 3) := by decide +kernel
theorem dL_law_509 : decode cL_law 509 = .ok (.aload_n 2, 1) := by decide +kernel
theorem dL_law_510 : decode cL_law 510 = .ok (.aload_n 0, 1) := by decide +kernel
theorem dL_law_511 : decode cL_law 511 = .ok (.iload_n 3, 1) := by decide +kernel
theorem dL_law_512 : decode cL_law 512 = .ok (.iconst 1, 1) := by decide +kernel
theorem dL_law_513 : decode cL_law 513 = .ok (.iadd, 1) := by decide +kernel
theorem dL_law_514 : decode cL_law 514 = .ok (.iaload, 1) := by decide +kernel
theorem dL_law_515 : decode cL_law 515 = .ok (.aload_n 0, 1) := by decide +kernel
theorem dL_law_516 : decode cL_law 516 = .ok (.iload_n 3, 1) := by decide +kernel
theorem dL_law_517 : decode cL_law 517 = .ok (.iconst 2, 1) := by decide +kernel
theorem dL_law_518 : decode cL_law 518 = .ok (.iadd, 1) := by decide +kernel
theorem dL_law_519 : decode cL_law 519 = .ok (.iaload, 1) := by decide +kernel
theorem dL_law_520 : decode cL_law 520 = .ok (.aload_n 0, 1) := by decide +kernel
theorem dL_law_521 : decode cL_law 521 = .ok (.iload_n 3, 1) := by decide +kernel
theorem dL_law_522 : decode cL_law 522 = .ok (.iconst 3, 1) := by decide +kernel
theorem dL_law_523 : decode cL_law 523 = .ok (.iadd, 1) := by decide +kernel
theorem dL_law_524 : decode cL_law 524 = .ok (.iaload, 1) := by decide +kernel
theorem dL_law_525 : decode cL_law 525 = .ok (.invokevirtual 66, 3) := by decide +kernel
theorem dL_law_528 : decode cL_law 528 = .ok (.lcmp, 1) := by decide +kernel
theorem dL_law_529 : decode cL_law 529 = .ok (.ifCond .eq 456, 3) := by decide +kernel
theorem dL_law_532 : decode cL_law 532 = .ok (.iconst 0, 1) := by decide +kernel
theorem dL_law_533 : decode cL_law 533 = .ok (.ireturn, 1) := by decide +kernel
theorem dL_law_534 : decode cL_law 534 = .ok (.aload_n 1, 1) := by decide +kernel
theorem dL_law_535 : decode cL_law 535 = .ok (.aload_n 0, 1) := by decide +kernel
theorem dL_law_536 : decode cL_law 536 = .ok (.iload_n 3, 1) := by decide +kernel
theorem dL_law_537 : decode cL_law 537 = .ok (.iconst 1, 1) := by decide +kernel
theorem dL_law_538 : decode cL_law 538 = .ok (.iadd, 1) := by decide +kernel
theorem dL_law_539 : decode cL_law 539 = .ok (.iaload, 1) := by decide +kernel
theorem dL_law_540 : decode cL_law 540 = .ok (.aload_n 0, 1) := by decide +kernel
theorem dL_law_541 : decode cL_law 541 = .ok (.iload_n 3, 1) := by decide +kernel
theorem dL_law_542 : decode cL_law 542 = .ok (.iconst 2, 1) := by decide +kernel
theorem dL_law_543 : decode cL_law 543 = .ok (.iadd, 1) := by decide +kernel
theorem dL_law_544 : decode cL_law 544 = .ok (.iaload, 1) := by decide +kernel
theorem dL_law_545 : decode cL_law 545 = .ok (.aload_n 0, 1) := by decide +kernel
theorem dL_law_546 : decode cL_law 546 = .ok (.iload_n 3, 1) := by decide +kernel
theorem dL_law_547 : decode cL_law 547 = .ok (.iconst 3, 1) := by decide +kernel
theorem dL_law_548 : decode cL_law 548 = .ok (.iadd, 1) := by decide +kernel
theorem dL_law_549 : decode cL_law 549 = .ok (.iaload, 1) := by decide +kernel
theorem dL_law_550 : decode cL_law 550 = .ok (.invokevirtual 67, 3) := by decide +kernel
theorem dL_law_553 : decode cL_law 553 = .ok (.aload_n 2, 1) := by decide +kernel
theorem dL_law_554 : decode cL_law 554 = .ok (.aload_n 0, 1) := by decide +kernel
theorem dL_law_555 : decode cL_law 555 = .ok (.iload_n 3, 1) := by decide +kernel
theorem dL_law_556 : decode cL_law 556 = .ok (.iconst 1, 1) := by decide +kernel
theorem dL_law_557 : decode cL_law 557 = .ok (.iadd, 1) := by decide +kernel
theorem dL_law_558 : decode cL_law 558 = .ok (.iaload, 1) := by decide +kernel
theorem dL_law_559 : decode cL_law 559 = .ok (.aload_n 0, 1) := by decide +kernel
theorem dL_law_560 : decode cL_law 560 = .ok (.iload_n 3, 1) := by decide +kernel
theorem dL_law_561 : decode cL_law 561 = .ok (.iconst 2, 1) := by decide +kernel
theorem dL_law_562 : decode cL_law 562 = .ok (.iadd, 1) := by decide +kernel
theorem dL_law_563 : decode cL_law 563 = .ok (.iaload, 1) := by decide +kernel
theorem dL_law_564 : decode cL_law 564 = .ok (.aload_n 0, 1) := by decide +kernel
theorem dL_law_565 : decode cL_law 565 = .ok (.iload_n 3, 1) := by decide +kernel
theorem dL_law_566 : decode cL_law 566 = .ok (.iconst 3, 1) := by decide +kernel
theorem dL_law_567 : decode cL_law 567 = .ok (.iadd, 1) := by decide +kernel
theorem dL_law_568 : decode cL_law 568 = .ok (.iaload, 1) := by decide +kernel
theorem dL_law_569 : decode cL_law 569 = .ok (.invokevirtual 70, 3) := by decide +kernel
theorem dL_law_572 : decode cL_law 572 = .ok (.lcmp, 1) := by decide +kernel
theorem dL_law_573 : decode cL_law 573 = .ok (.ifCond .eq 412, 3) := by decide +kernel
theorem dL_law_576 : decode cL_law 576 = .ok (.iconst 0, 1) := by decide +kernel
theorem dL_law_577 : decode cL_law 577 = .ok (.ireturn, 1) := by decide +kernel
theorem dL_law_578 : decode cL_law 578 = .ok (.aload_n 1, 1) := by decide +kernel
theorem dL_law_579 : decode cL_law 579 = .ok (.aload_n 0, 1) := by decide +kernel
theorem dL_law_580 : decode cL_law 580 = .ok (.iload_n 3, 1) := by decide +kernel
theorem dL_law_581 : decode cL_law 581 = .ok (.iconst 1, 1) := by decide +kernel
theorem dL_law_582 : decode cL_law 582 = .ok (.iadd, 1) := by decide +kernel
theorem dL_law_583 : decode cL_law 583 = .ok (.iaload, 1) := by decide +kernel
theorem dL_law_584 : decode cL_law 584 = .ok (.aload_n 0, 1) := by decide +kernel
theorem dL_law_585 : decode cL_law 585 = .ok (.iload_n 3, 1) := by decide +kernel
theorem dL_law_586 : decode cL_law 586 = .ok (.iconst 2, 1) := by decide +kernel
theorem dL_law_587 : decode cL_law 587 = .ok (.iadd, 1) := by decide +kernel
theorem dL_law_588 : decode cL_law 588 = .ok (.iaload, 1) := by decide +kernel
theorem dL_law_589 : decode cL_law 589 = .ok (.aload_n 0, 1) := by decide +kernel
theorem dL_law_590 : decode cL_law 590 = .ok (.iload_n 3, 1) := by decide +kernel
theorem dL_law_591 : decode cL_law 591 = .ok (.iconst 3, 1) := by decide +kernel
theorem dL_law_592 : decode cL_law 592 = .ok (.iadd, 1) := by decide +kernel
theorem dL_law_593 : decode cL_law 593 = .ok (.iaload, 1) := by decide +kernel
theorem dL_law_594 : decode cL_law 594 = .ok (.invokevirtual 71, 3) := by decide +kernel
theorem dL_law_597 : decode cL_law 597 = .ok (.aload_n 2, 1) := by decide +kernel
theorem dL_law_598 : decode cL_law 598 = .ok (.aload_n 0, 1) := by decide +kernel
theorem dL_law_599 : decode cL_law 599 = .ok (.iload_n 3, 1) := by decide +kernel
theorem dL_law_600 : decode cL_law 600 = .ok (.iconst 1, 1) := by decide +kernel
theorem dL_law_601 : decode cL_law 601 = .ok (.iadd, 1) := by decide +kernel
theorem dL_law_602 : decode cL_law 602 = .ok (.iaload, 1) := by decide +kernel
theorem dL_law_603 : decode cL_law 603 = .ok (.aload_n 0, 1) := by decide +kernel
theorem dL_law_604 : decode cL_law 604 = .ok (.iload_n 3, 1) := by decide +kernel
theorem dL_law_605 : decode cL_law 605 = .ok (.iconst 2, 1) := by decide +kernel
theorem dL_law_606 : decode cL_law 606 = .ok (.iadd, 1) := by decide +kernel
theorem dL_law_607 : decode cL_law 607 = .ok (.iaload, 1) := by decide +kernel
theorem dL_law_608 : decode cL_law 608 = .ok (.aload_n 0, 1) := by decide +kernel
theorem dL_law_609 : decode cL_law 609 = .ok (.iload_n 3, 1) := by decide +kernel
theorem dL_law_610 : decode cL_law 610 = .ok (.iconst 3, 1) := by decide +kernel
theorem dL_law_611 : decode cL_law 611 = .ok (.iadd, 1) := by decide +kernel
theorem dL_law_612 : decode cL_law 612 = .ok (.iaload, 1) := by decide +kernel
theorem dL_law_613 : decode cL_law 613 = .ok (.invokevirtual 74, 3) := by decide +kernel
theorem dL_law_616 : decode cL_law 616 = .ok (.lcmp, 1) := by decide +kernel
theorem dL_law_617 : decode cL_law 617 = .ok (.ifCond .eq 368, 3) := by decide +kernel
theorem dL_law_620 : decode cL_law 620 = .ok (.iconst 0, 1) := by decide +kernel
theorem dL_law_621 : decode cL_law 621 = .ok (.ireturn, 1) := by decide +kernel
theorem dL_law_622 : decode cL_law 622 = .ok (.aload_n 1, 1) := by decide +kernel
theorem dL_law_623 : decode cL_law 623 = .ok (.aload_n 0, 1) := by decide +kernel
theorem dL_law_624 : decode cL_law 624 = .ok (.iload_n 3, 1) := by decide +kernel
theorem dL_law_625 : decode cL_law 625 = .ok (.iconst 1, 1) := by decide +kernel
theorem dL_law_626 : decode cL_law 626 = .ok (.iadd, 1) := by decide +kernel
theorem dL_law_627 : decode cL_law 627 = .ok (.iaload, 1) := by decide +kernel
theorem dL_law_628 : decode cL_law 628 = .ok (.aload_n 0, 1) := by decide +kernel
theorem dL_law_629 : decode cL_law 629 = .ok (.iload_n 3, 1) := by decide +kernel
theorem dL_law_630 : decode cL_law 630 = .ok (.iconst 2, 1) := by decide +kernel
theorem dL_law_631 : decode cL_law 631 = .ok (.iadd, 1) := by decide +kernel
theorem dL_law_632 : decode cL_law 632 = .ok (.iaload, 1) := by decide +kernel
theorem dL_law_633 : decode cL_law 633 = .ok (.aload_n 0, 1) := by decide +kernel
theorem dL_law_634 : decode cL_law 634 = .ok (.iload_n 3, 1) := by decide +kernel
theorem dL_law_635 : decode cL_law 635 = .ok (.iconst 3, 1) := by decide +kernel
theorem dL_law_636 : decode cL_law 636 = .ok (.iadd, 1) := by decide +kernel
theorem dL_law_637 : decode cL_law 637 = .ok (.iaload, 1) := by decide +kernel
theorem dL_law_638 : decode cL_law 638 = .ok (.invokevirtual 75, 3) := by decide +kernel
theorem dL_law_641 : decode cL_law 641 = .ok (.aload_n 2, 1) := by decide +kernel
theorem dL_law_642 : decode cL_law 642 = .ok (.aload_n 0, 1) := by decide +kernel
theorem dL_law_643 : decode cL_law 643 = .ok (.iload_n 3, 1) := by decide +kernel
theorem dL_law_644 : decode cL_law 644 = .ok (.iconst 1, 1) := by decide +kernel
theorem dL_law_645 : decode cL_law 645 = .ok (.iadd, 1) := by decide +kernel
theorem dL_law_646 : decode cL_law 646 = .ok (.iaload, 1) := by decide +kernel
theorem dL_law_647 : decode cL_law 647 = .ok (.aload_n 0, 1) := by decide +kernel
theorem dL_law_648 : decode cL_law 648 = .ok (.iload_n 3, 1) := by decide +kernel
theorem dL_law_649 : decode cL_law 649 = .ok (.iconst 2, 1) := by decide +kernel
theorem dL_law_650 : decode cL_law 650 = .ok (.iadd, 1) := by decide +kernel
theorem dL_law_651 : decode cL_law 651 = .ok (.iaload, 1) := by decide +kernel
theorem dL_law_652 : decode cL_law 652 = .ok (.aload_n 0, 1) := by decide +kernel
theorem dL_law_653 : decode cL_law 653 = .ok (.iload_n 3, 1) := by decide +kernel
theorem dL_law_654 : decode cL_law 654 = .ok (.iconst 3, 1) := by decide +kernel
theorem dL_law_655 : decode cL_law 655 = .ok (.iadd, 1) := by decide +kernel
theorem dL_law_656 : decode cL_law 656 = .ok (.iaload, 1) := by decide +kernel
theorem dL_law_657 : decode cL_law 657 = .ok (.invokevirtual 79, 3) := by decide +kernel
theorem dL_law_660 : decode cL_law 660 = .ok (.if_icmp .eq 325, 3) := by decide +kernel
theorem dL_law_663 : decode cL_law 663 = .ok (.iconst 0, 1) := by decide +kernel
theorem dL_law_664 : decode cL_law 664 = .ok (.ireturn, 1) := by decide +kernel
theorem dL_law_665 : decode cL_law 665 = .ok (.aload_n 1, 1) := by decide +kernel
theorem dL_law_666 : decode cL_law 666 = .ok (.aload_n 0, 1) := by decide +kernel
theorem dL_law_667 : decode cL_law 667 = .ok (.iload_n 3, 1) := by decide +kernel
theorem dL_law_668 : decode cL_law 668 = .ok (.iconst 1, 1) := by decide +kernel
theorem dL_law_669 : decode cL_law 669 = .ok (.iadd, 1) := by decide +kernel
theorem dL_law_670 : decode cL_law 670 = .ok (.iaload, 1) := by decide +kernel
theorem dL_law_671 : decode cL_law 671 = .ok (.invokevirtual 80, 3) := by decide +kernel
theorem dL_law_674 : decode cL_law 674 = .ok (.aload_n 2, 1) := by decide +kernel
theorem dL_law_675 : decode cL_law 675 = .ok (.aload_n 0, 1) := by decide +kernel
theorem dL_law_676 : decode cL_law 676 = .ok (.iload_n 3, 1) := by decide +kernel
theorem dL_law_677 : decode cL_law 677 = .ok (.iconst 1, 1) := by decide +kernel
theorem dL_law_678 : decode cL_law 678 = .ok (.iadd, 1) := by decide +kernel
theorem dL_law_679 : decode cL_law 679 = .ok (.iaload, 1) := by decide +kernel
theorem dL_law_680 : decode cL_law 680 = .ok (.invokevirtual 83, 3) := by decide +kernel
theorem dL_law_683 : decode cL_law 683 = .ok (.if_icmp .eq 302, 3) := by decide +kernel
theorem dL_law_686 : decode cL_law 686 = .ok (.iconst 0, 1) := by decide +kernel
theorem dL_law_687 : decode cL_law 687 = .ok (.ireturn, 1) := by decide +kernel
theorem dL_law_688 : decode cL_law 688 = .ok (.aload_n 1, 1) := by decide +kernel
theorem dL_law_689 : decode cL_law 689 = .ok (.aload_n 0, 1) := by decide +kernel
theorem dL_law_690 : decode cL_law 690 = .ok (.iload_n 3, 1) := by decide +kernel
theorem dL_law_691 : decode cL_law 691 = .ok (.iconst 1, 1) := by decide +kernel
theorem dL_law_692 : decode cL_law 692 = .ok (.iadd, 1) := by decide +kernel
theorem dL_law_693 : decode cL_law 693 = .ok (.iaload, 1) := by decide +kernel
theorem dL_law_694 : decode cL_law 694 = .ok (.aload_n 0, 1) := by decide +kernel
theorem dL_law_695 : decode cL_law 695 = .ok (.iload_n 3, 1) := by decide +kernel
theorem dL_law_696 : decode cL_law 696 = .ok (.iconst 2, 1) := by decide +kernel
theorem dL_law_697 : decode cL_law 697 = .ok (.iadd, 1) := by decide +kernel
theorem dL_law_698 : decode cL_law 698 = .ok (.iaload, 1) := by decide +kernel
theorem dL_law_699 : decode cL_law 699 = .ok (.aload_n 0, 1) := by decide +kernel
theorem dL_law_700 : decode cL_law 700 = .ok (.iload_n 3, 1) := by decide +kernel
theorem dL_law_701 : decode cL_law 701 = .ok (.iconst 3, 1) := by decide +kernel
theorem dL_law_702 : decode cL_law 702 = .ok (.iadd, 1) := by decide +kernel
theorem dL_law_703 : decode cL_law 703 = .ok (.iaload, 1) := by decide +kernel
theorem dL_law_704 : decode cL_law 704 = .ok (.invokevirtual 84, 3) := by decide +kernel
theorem dL_law_707 : decode cL_law 707 = .ok (.aload_n 2, 1) := by decide +kernel
theorem dL_law_708 : decode cL_law 708 = .ok (.aload_n 0, 1) := by decide +kernel
theorem dL_law_709 : decode cL_law 709 = .ok (.iload_n 3, 1) := by decide +kernel
theorem dL_law_710 : decode cL_law 710 = .ok (.iconst 1, 1) := by decide +kernel
theorem dL_law_711 : decode cL_law 711 = .ok (.iadd, 1) := by decide +kernel
theorem dL_law_712 : decode cL_law 712 = .ok (.iaload, 1) := by decide +kernel
theorem dL_law_713 : decode cL_law 713 = .ok (.aload_n 0, 1) := by decide +kernel
theorem dL_law_714 : decode cL_law 714 = .ok (.iload_n 3, 1) := by decide +kernel
theorem dL_law_715 : decode cL_law 715 = .ok (.iconst 2, 1) := by decide +kernel
theorem dL_law_716 : decode cL_law 716 = .ok (.iadd, 1) := by decide +kernel
theorem dL_law_717 : decode cL_law 717 = .ok (.iaload, 1) := by decide +kernel
theorem dL_law_718 : decode cL_law 718 = .ok (.aload_n 0, 1) := by decide +kernel
theorem dL_law_719 : decode cL_law 719 = .ok (.iload_n 3, 1) := by decide +kernel
theorem dL_law_720 : decode cL_law 720 = .ok (.iconst 3, 1) := by decide +kernel
theorem dL_law_721 : decode cL_law 721 = .ok (.iadd, 1) := by decide +kernel
theorem dL_law_722 : decode cL_law 722 = .ok (.iaload, 1) := by decide +kernel
theorem dL_law_723 : decode cL_law 723 = .ok (.invokevirtual 87, 3) := by decide +kernel
theorem dL_law_726 : decode cL_law 726 = .ok (.lcmp, 1) := by decide +kernel
theorem dL_law_727 : decode cL_law 727 = .ok (.ifCond .eq 258, 3) := by decide +kernel
theorem dL_law_730 : decode cL_law 730 = .ok (.iconst 0, 1) := by decide +kernel
theorem dL_law_731 : decode cL_law 731 = .ok (.ireturn, 1) := by decide +kernel
theorem dL_law_732 : decode cL_law 732 = .ok (.aload_n 1, 1) := by decide +kernel
theorem dL_law_733 : decode cL_law 733 = .ok (.aload_n 0, 1) := by decide +kernel
theorem dL_law_734 : decode cL_law 734 = .ok (.iload_n 3, 1) := by decide +kernel
theorem dL_law_735 : decode cL_law 735 = .ok (.iconst 1, 1) := by decide +kernel
theorem dL_law_736 : decode cL_law 736 = .ok (.iadd, 1) := by decide +kernel
theorem dL_law_737 : decode cL_law 737 = .ok (.iaload, 1) := by decide +kernel
theorem dL_law_738 : decode cL_law 738 = .ok (.invokevirtual 88, 3) := by decide +kernel
theorem dL_law_741 : decode cL_law 741 = .ok (.aload_n 2, 1) := by decide +kernel
theorem dL_law_742 : decode cL_law 742 = .ok (.aload_n 0, 1) := by decide +kernel
theorem dL_law_743 : decode cL_law 743 = .ok (.iload_n 3, 1) := by decide +kernel
theorem dL_law_744 : decode cL_law 744 = .ok (.iconst 1, 1) := by decide +kernel
theorem dL_law_745 : decode cL_law 745 = .ok (.iadd, 1) := by decide +kernel
theorem dL_law_746 : decode cL_law 746 = .ok (.iaload, 1) := by decide +kernel
theorem dL_law_747 : decode cL_law 747 = .ok (.invokevirtual 91, 3) := by decide +kernel
theorem dL_law_750 : decode cL_law 750 = .ok (.if_icmp .eq 235, 3) := by decide +kernel
theorem dL_law_753 : decode cL_law 753 = .ok (.iconst 0, 1) := by decide +kernel
theorem dL_law_754 : decode cL_law 754 = .ok (.ireturn, 1) := by decide +kernel
theorem dL_law_755 : decode cL_law 755 = .ok (.aload_n 1, 1) := by decide +kernel
theorem dL_law_756 : decode cL_law 756 = .ok (.aload_n 0, 1) := by decide +kernel
theorem dL_law_757 : decode cL_law 757 = .ok (.iload_n 3, 1) := by decide +kernel
theorem dL_law_758 : decode cL_law 758 = .ok (.iconst 1, 1) := by decide +kernel
theorem dL_law_759 : decode cL_law 759 = .ok (.iadd, 1) := by decide +kernel
theorem dL_law_760 : decode cL_law 760 = .ok (.iaload, 1) := by decide +kernel
theorem dL_law_761 : decode cL_law 761 = .ok (.invokevirtual 92, 3) := by decide +kernel
theorem dL_law_764 : decode cL_law 764 = .ok (.aload_n 2, 1) := by decide +kernel
theorem dL_law_765 : decode cL_law 765 = .ok (.aload_n 0, 1) := by decide +kernel
theorem dL_law_766 : decode cL_law 766 = .ok (.iload_n 3, 1) := by decide +kernel
theorem dL_law_767 : decode cL_law 767 = .ok (.iconst 1, 1) := by decide +kernel
theorem dL_law_768 : decode cL_law 768 = .ok (.iadd, 1) := by decide +kernel
theorem dL_law_769 : decode cL_law 769 = .ok (.iaload, 1) := by decide +kernel
theorem dL_law_770 : decode cL_law 770 = .ok (.invokevirtual 95, 3) := by decide +kernel
theorem dL_law_773 : decode cL_law 773 = .ok (.if_icmp .eq 212, 3) := by decide +kernel
theorem dL_law_776 : decode cL_law 776 = .ok (.iconst 0, 1) := by decide +kernel
theorem dL_law_777 : decode cL_law 777 = .ok (.ireturn, 1) := by decide +kernel
theorem dL_law_778 : decode cL_law 778 = .ok (.aload_n 1, 1) := by decide +kernel
theorem dL_law_779 : decode cL_law 779 = .ok (.aload_n 0, 1) := by decide +kernel
theorem dL_law_780 : decode cL_law 780 = .ok (.iload_n 3, 1) := by decide +kernel
theorem dL_law_781 : decode cL_law 781 = .ok (.iconst 1, 1) := by decide +kernel
theorem dL_law_782 : decode cL_law 782 = .ok (.iadd, 1) := by decide +kernel
theorem dL_law_783 : decode cL_law 783 = .ok (.iaload, 1) := by decide +kernel
theorem dL_law_784 : decode cL_law 784 = .ok (.aload_n 0, 1) := by decide +kernel
theorem dL_law_785 : decode cL_law 785 = .ok (.iload_n 3, 1) := by decide +kernel
theorem dL_law_786 : decode cL_law 786 = .ok (.iconst 2, 1) := by decide +kernel
theorem dL_law_787 : decode cL_law 787 = .ok (.iadd, 1) := by decide +kernel
theorem dL_law_788 : decode cL_law 788 = .ok (.iaload, 1) := by decide +kernel
theorem dL_law_789 : decode cL_law 789 = .ok (.invokevirtual 96, 3) := by decide +kernel
theorem dL_law_792 : decode cL_law 792 = .ok (.aload_n 2, 1) := by decide +kernel
theorem dL_law_793 : decode cL_law 793 = .ok (.aload_n 0, 1) := by decide +kernel
theorem dL_law_794 : decode cL_law 794 = .ok (.iload_n 3, 1) := by decide +kernel
theorem dL_law_795 : decode cL_law 795 = .ok (.iconst 1, 1) := by decide +kernel
theorem dL_law_796 : decode cL_law 796 = .ok (.iadd, 1) := by decide +kernel
theorem dL_law_797 : decode cL_law 797 = .ok (.iaload, 1) := by decide +kernel
theorem dL_law_798 : decode cL_law 798 = .ok (.aload_n 0, 1) := by decide +kernel
theorem dL_law_799 : decode cL_law 799 = .ok (.iload_n 3, 1) := by decide +kernel
theorem dL_law_800 : decode cL_law 800 = .ok (.iconst 2, 1) := by decide +kernel
theorem dL_law_801 : decode cL_law 801 = .ok (.iadd, 1) := by decide +kernel
theorem dL_law_802 : decode cL_law 802 = .ok (.iaload, 1) := by decide +kernel
theorem dL_law_803 : decode cL_law 803 = .ok (.invokevirtual 99, 3) := by decide +kernel
theorem dL_law_806 : decode cL_law 806 = .ok (.if_icmp .eq 179, 3) := by decide +kernel
theorem dL_law_809 : decode cL_law 809 = .ok (.iconst 0, 1) := by decide +kernel
theorem dL_law_810 : decode cL_law 810 = .ok (.ireturn, 1) := by decide +kernel
theorem dL_law_811 : decode cL_law 811 = .ok (.aload_n 1, 1) := by decide +kernel
theorem dL_law_812 : decode cL_law 812 = .ok (.aload_n 0, 1) := by decide +kernel
theorem dL_law_813 : decode cL_law 813 = .ok (.iload_n 3, 1) := by decide +kernel
theorem dL_law_814 : decode cL_law 814 = .ok (.iconst 1, 1) := by decide +kernel
theorem dL_law_815 : decode cL_law 815 = .ok (.iadd, 1) := by decide +kernel
theorem dL_law_816 : decode cL_law 816 = .ok (.iaload, 1) := by decide +kernel
theorem dL_law_817 : decode cL_law 817 = .ok (.invokevirtual 100, 3) := by decide +kernel
theorem dL_law_820 : decode cL_law 820 = .ok (.aload_n 2, 1) := by decide +kernel
theorem dL_law_821 : decode cL_law 821 = .ok (.aload_n 0, 1) := by decide +kernel
theorem dL_law_822 : decode cL_law 822 = .ok (.iload_n 3, 1) := by decide +kernel
theorem dL_law_823 : decode cL_law 823 = .ok (.iconst 1, 1) := by decide +kernel
theorem dL_law_824 : decode cL_law 824 = .ok (.iadd, 1) := by decide +kernel
theorem dL_law_825 : decode cL_law 825 = .ok (.iaload, 1) := by decide +kernel
theorem dL_law_826 : decode cL_law 826 = .ok (.invokevirtual 103, 3) := by decide +kernel
theorem dL_law_829 : decode cL_law 829 = .ok (.if_icmp .eq 156, 3) := by decide +kernel
theorem dL_law_832 : decode cL_law 832 = .ok (.iconst 0, 1) := by decide +kernel
theorem dL_law_833 : decode cL_law 833 = .ok (.ireturn, 1) := by decide +kernel
theorem dL_law_834 : decode cL_law 834 = .ok (.aload_n 1, 1) := by decide +kernel
theorem dL_law_835 : decode cL_law 835 = .ok (.invokevirtual 104, 3) := by decide +kernel
theorem dL_law_838 : decode cL_law 838 = .ok (.aload_n 2, 1) := by decide +kernel
theorem dL_law_839 : decode cL_law 839 = .ok (.invokevirtual 107, 3) := by decide +kernel
theorem dL_law_842 : decode cL_law 842 = .ok (.if_icmp .eq 143, 3) := by decide +kernel
theorem dL_law_845 : decode cL_law 845 = .ok (.iconst 0, 1) := by decide +kernel
theorem dL_law_846 : decode cL_law 846 = .ok (.ireturn, 1) := by decide +kernel
theorem dL_law_847 : decode cL_law 847 = .ok (.aload_n 1, 1) := by decide +kernel
theorem dL_law_848 : decode cL_law 848 = .ok (.aload_n 0, 1) := by decide +kernel
theorem dL_law_849 : decode cL_law 849 = .ok (.iload_n 3, 1) := by decide +kernel
theorem dL_law_850 : decode cL_law 850 = .ok (.iconst 1, 1) := by decide +kernel
theorem dL_law_851 : decode cL_law 851 = .ok (.iadd, 1) := by decide +kernel
theorem dL_law_852 : decode cL_law 852 = .ok (.iaload, 1) := by decide +kernel
theorem dL_law_853 : decode cL_law 853 = .ok (.aload_n 0, 1) := by decide +kernel
theorem dL_law_854 : decode cL_law 854 = .ok (.iload_n 3, 1) := by decide +kernel
theorem dL_law_855 : decode cL_law 855 = .ok (.iconst 2, 1) := by decide +kernel
theorem dL_law_856 : decode cL_law 856 = .ok (.iadd, 1) := by decide +kernel
theorem dL_law_857 : decode cL_law 857 = .ok (.iaload, 1) := by decide +kernel
theorem dL_law_858 : decode cL_law 858 = .ok (.invokevirtual 108, 3) := by decide +kernel
theorem dL_law_861 : decode cL_law 861 = .ok (.aload_n 2, 1) := by decide +kernel
theorem dL_law_862 : decode cL_law 862 = .ok (.aload_n 0, 1) := by decide +kernel
theorem dL_law_863 : decode cL_law 863 = .ok (.iload_n 3, 1) := by decide +kernel
theorem dL_law_864 : decode cL_law 864 = .ok (.iconst 1, 1) := by decide +kernel
theorem dL_law_865 : decode cL_law 865 = .ok (.iadd, 1) := by decide +kernel
theorem dL_law_866 : decode cL_law 866 = .ok (.iaload, 1) := by decide +kernel
theorem dL_law_867 : decode cL_law 867 = .ok (.aload_n 0, 1) := by decide +kernel
theorem dL_law_868 : decode cL_law 868 = .ok (.iload_n 3, 1) := by decide +kernel
theorem dL_law_869 : decode cL_law 869 = .ok (.iconst 2, 1) := by decide +kernel
theorem dL_law_870 : decode cL_law 870 = .ok (.iadd, 1) := by decide +kernel
theorem dL_law_871 : decode cL_law 871 = .ok (.iaload, 1) := by decide +kernel
theorem dL_law_872 : decode cL_law 872 = .ok (.invokevirtual 111, 3) := by decide +kernel
theorem dL_law_875 : decode cL_law 875 = .ok (.lcmp, 1) := by decide +kernel
theorem dL_law_876 : decode cL_law 876 = .ok (.ifCond .eq 109, 3) := by decide +kernel
theorem dL_law_879 : decode cL_law 879 = .ok (.iconst 0, 1) := by decide +kernel
theorem dL_law_880 : decode cL_law 880 = .ok (.ireturn, 1) := by decide +kernel
theorem dL_law_881 : decode cL_law 881 = .ok (.aload_n 1, 1) := by decide +kernel
theorem dL_law_882 : decode cL_law 882 = .ok (.aload_n 0, 1) := by decide +kernel
theorem dL_law_883 : decode cL_law 883 = .ok (.iload_n 3, 1) := by decide +kernel
theorem dL_law_884 : decode cL_law 884 = .ok (.iconst 1, 1) := by decide +kernel
theorem dL_law_885 : decode cL_law 885 = .ok (.iadd, 1) := by decide +kernel
theorem dL_law_886 : decode cL_law 886 = .ok (.iaload, 1) := by decide +kernel
theorem dL_law_887 : decode cL_law 887 = .ok (.aload_n 0, 1) := by decide +kernel
theorem dL_law_888 : decode cL_law 888 = .ok (.iload_n 3, 1) := by decide +kernel
theorem dL_law_889 : decode cL_law 889 = .ok (.iconst 2, 1) := by decide +kernel
theorem dL_law_890 : decode cL_law 890 = .ok (.iadd, 1) := by decide +kernel
theorem dL_law_891 : decode cL_law 891 = .ok (.iaload, 1) := by decide +kernel
theorem dL_law_892 : decode cL_law 892 = .ok (.aload_n 0, 1) := by decide +kernel
theorem dL_law_893 : decode cL_law 893 = .ok (.iload_n 3, 1) := by decide +kernel
theorem dL_law_894 : decode cL_law 894 = .ok (.iconst 3, 1) := by decide +kernel
theorem dL_law_895 : decode cL_law 895 = .ok (.iadd, 1) := by decide +kernel
theorem dL_law_896 : decode cL_law 896 = .ok (.iaload, 1) := by decide +kernel
theorem dL_law_897 : decode cL_law 897 = .ok (.invokevirtual 112, 3) := by decide +kernel
theorem dL_law_900 : decode cL_law 900 = .ok (.aload_n 2, 1) := by decide +kernel
theorem dL_law_901 : decode cL_law 901 = .ok (.aload_n 0, 1) := by decide +kernel
theorem dL_law_902 : decode cL_law 902 = .ok (.iload_n 3, 1) := by decide +kernel
theorem dL_law_903 : decode cL_law 903 = .ok (.iconst 1, 1) := by decide +kernel
theorem dL_law_904 : decode cL_law 904 = .ok (.iadd, 1) := by decide +kernel
theorem dL_law_905 : decode cL_law 905 = .ok (.iaload, 1) := by decide +kernel
theorem dL_law_906 : decode cL_law 906 = .ok (.aload_n 0, 1) := by decide +kernel
theorem dL_law_907 : decode cL_law 907 = .ok (.iload_n 3, 1) := by decide +kernel
theorem dL_law_908 : decode cL_law 908 = .ok (.iconst 2, 1) := by decide +kernel
theorem dL_law_909 : decode cL_law 909 = .ok (.iadd, 1) := by decide +kernel
theorem dL_law_910 : decode cL_law 910 = .ok (.iaload, 1) := by decide +kernel
theorem dL_law_911 : decode cL_law 911 = .ok (.aload_n 0, 1) := by decide +kernel
theorem dL_law_912 : decode cL_law 912 = .ok (.iload_n 3, 1) := by decide +kernel
theorem dL_law_913 : decode cL_law 913 = .ok (.iconst 3, 1) := by decide +kernel
theorem dL_law_914 : decode cL_law 914 = .ok (.iadd, 1) := by decide +kernel
theorem dL_law_915 : decode cL_law 915 = .ok (.iaload, 1) := by decide +kernel
theorem dL_law_916 : decode cL_law 916 = .ok (.invokevirtual 115, 3) := by decide +kernel
theorem dL_law_919 : decode cL_law 919 = .ok (.lcmp, 1) := by decide +kernel
theorem dL_law_920 : decode cL_law 920 = .ok (.ifCond .eq 65, 3) := by decide +kernel
theorem dL_law_923 : decode cL_law 923 = .ok (.iconst 0, 1) := by decide +kernel
theorem dL_law_924 : decode cL_law 924 = .ok (.ireturn, 1) := by decide +kernel
theorem dL_law_925 : decode cL_law 925 = .ok (.aload_n 1, 1) := by decide +kernel
theorem dL_law_926 : decode cL_law 926 = .ok (.aload_n 0, 1) := by decide +kernel
theorem dL_law_927 : decode cL_law 927 = .ok (.iload_n 3, 1) := by decide +kernel
theorem dL_law_928 : decode cL_law 928 = .ok (.iconst 1, 1) := by decide +kernel
theorem dL_law_929 : decode cL_law 929 = .ok (.iadd, 1) := by decide +kernel
theorem dL_law_930 : decode cL_law 930 = .ok (.iaload, 1) := by decide +kernel
theorem dL_law_931 : decode cL_law 931 = .ok (.aload_n 0, 1) := by decide +kernel
theorem dL_law_932 : decode cL_law 932 = .ok (.iload_n 3, 1) := by decide +kernel
theorem dL_law_933 : decode cL_law 933 = .ok (.iconst 2, 1) := by decide +kernel
theorem dL_law_934 : decode cL_law 934 = .ok (.iadd, 1) := by decide +kernel
theorem dL_law_935 : decode cL_law 935 = .ok (.iaload, 1) := by decide +kernel
theorem dL_law_936 : decode cL_law 936 = .ok (.invokevirtual 116, 3) := by decide +kernel
theorem dL_law_939 : decode cL_law 939 = .ok (.aload_n 2, 1) := by decide +kernel
theorem dL_law_940 : decode cL_law 940 = .ok (.aload_n 0, 1) := by decide +kernel
theorem dL_law_941 : decode cL_law 941 = .ok (.iload_n 3, 1) := by decide +kernel
theorem dL_law_942 : decode cL_law 942 = .ok (.iconst 1, 1) := by decide +kernel
theorem dL_law_943 : decode cL_law 943 = .ok (.iadd, 1) := by decide +kernel
theorem dL_law_944 : decode cL_law 944 = .ok (.iaload, 1) := by decide +kernel
theorem dL_law_945 : decode cL_law 945 = .ok (.aload_n 0, 1) := by decide +kernel
theorem dL_law_946 : decode cL_law 946 = .ok (.iload_n 3, 1) := by decide +kernel
theorem dL_law_947 : decode cL_law 947 = .ok (.iconst 2, 1) := by decide +kernel
theorem dL_law_948 : decode cL_law 948 = .ok (.iadd, 1) := by decide +kernel
theorem dL_law_949 : decode cL_law 949 = .ok (.iaload, 1) := by decide +kernel
theorem dL_law_950 : decode cL_law 950 = .ok (.invokevirtual 119, 3) := by decide +kernel
theorem dL_law_953 : decode cL_law 953 = .ok (.if_icmp .eq 32, 3) := by decide +kernel
theorem dL_law_956 : decode cL_law 956 = .ok (.iconst 0, 1) := by decide +kernel
theorem dL_law_957 : decode cL_law 957 = .ok (.ireturn, 1) := by decide +kernel
theorem dL_law_958 : decode cL_law 958 = .ok (.aload_n 1, 1) := by decide +kernel
theorem dL_law_959 : decode cL_law 959 = .ok (.invokevirtual 120, 3) := by decide +kernel
theorem dL_law_962 : decode cL_law 962 = .ok (.aload_n 2, 1) := by decide +kernel
theorem dL_law_963 : decode cL_law 963 = .ok (.invokevirtual 123, 3) := by decide +kernel
theorem dL_law_966 : decode cL_law 966 = .ok (.if_icmp .eq 19, 3) := by decide +kernel
theorem dL_law_969 : decode cL_law 969 = .ok (.iconst 0, 1) := by decide +kernel
theorem dL_law_970 : decode cL_law 970 = .ok (.ireturn, 1) := by decide +kernel
theorem dL_law_971 : decode cL_law 971 = .ok (.aload_n 1, 1) := by decide +kernel
theorem dL_law_972 : decode cL_law 972 = .ok (.invokevirtual 124, 3) := by decide +kernel
theorem dL_law_975 : decode cL_law 975 = .ok (.aload_n 2, 1) := by decide +kernel
theorem dL_law_976 : decode cL_law 976 = .ok (.invokevirtual 128, 3) := by decide +kernel
theorem dL_law_979 : decode cL_law 979 = .ok (.lcmp, 1) := by decide +kernel
theorem dL_law_980 : decode cL_law 980 = .ok (.ifCond .eq 5, 3) := by decide +kernel
theorem dL_law_983 : decode cL_law 983 = .ok (.iconst 0, 1) := by decide +kernel
theorem dL_law_984 : decode cL_law 984 = .ok (.ireturn, 1) := by decide +kernel
theorem dL_law_985 : decode cL_law 985 = .ok (.iinc 3 5, 3) := by decide +kernel
theorem dL_law_988 : decode cL_law 988 = .ok (.goto (-970), 3) := by decide +kernel
theorem dL_law_991 : decode cL_law 991 = .ok (.iconst 1, 1) := by decide +kernel
theorem dL_law_992 : decode cL_law 992 = .ok (.ireturn, 1) := by decide +kernel
end
section
/-! THE ABSTRACT LAYER: a memory of numbered cells (cell k lies at address bs + k), values with numbers in Int, one judgement am_W -/
-- classes and array types, by number
abbrev am_cl : List vw_C := [(RX0, TX0, 6), (RX1, TX1, 0), (RX2, TX2, 3), (RX3, TX3, 3), (RX4, TX4, 11), (RX5, TX5, 5), (RX6, TX6, 2), (RX7, TX7, 3), (RX8, TX8, 0), (RX9, TX9, 11), (RX10, TX10, 29)]
def am_tys (dA : Nat → ClassId) : List (ClassId × FieldType) := [(dA 0, .int), (dA 1, .long), (dA 2, .char), (dA 3, .boolean), (dA 4, .object "RhythmBench$Part"), (dA 5, .object "RhythmBench$State"), (dA 6, .object "RhythmBench$Text")]
-- cells
abbrev am_E : Type := (Nat × Nat × ((Nat → Int) ⊕ (Nat → Int) ⊕ (Nat → Option Nat))) ⊕ (Nat × List Value)
abbrev am_M : Type := Nat → am_E
abbrev am_I (t n : Nat) (f : Nat → Int) : am_E := .inl (t, n, .inl f)
abbrev am_L (n : Nat) (f : Nat → Int) : am_E := .inl (1, n, .inr (.inl f))
abbrev am_R (t n : Nat) (f : Nat → Option Nat) : am_E := .inl (t, n, .inr (.inr f))
abbrev am_O (c : Nat) (fs : List Value) : am_E := .inr (c, fs)
abbrev am_i (z : Int) : Value := .int (Int32.ofInt z)
abbrev am_l (z : Int) : Value := .long (Int64.ofInt z)
def am_rf (r : Option Nat) : Value := match r with
  | none => .null
  | some a => .ref a
def am_v (bs : Nat) (v : Value) : Value := match v with
  | .ref a => .ref (bs + a)
  | w => w
def am_e (bs : Nat) (dA : Nat → ClassId) (e : am_E) : va_E := match e with
  | .inl (t, n, .inl f) => .inl (dA t, n, .inl (fun j => Int32.ofInt (f j)))
  | .inl (t, n, .inr (.inl f)) => .inl (dA t, n, .inr (.inl (fun j => Int64.ofInt (f j))))
  | .inl (t, n, .inr (.inr f)) => .inl (dA t, n, .inr (.inr (.inr (.inr (fun j => (f j).map (fun a => bs + a))))))
  | .inr (c, fs) => .inr (c, fs.map (am_v bs))
def am_w (bs : Nat) (dA : Nat → ClassId) (N : Nat) (μ : am_M) : va_W := (List.range N).map fun i => (bs + i, am_e bs dA (μ i))
def am_A (bs : Nat) : Nat → Prop := fun q => bs ≤ q
def am_u (μ : am_M) (a : Nat) (e : am_E) : am_M := fun j => if j = a then e else μ j
def am_q (bs : Nat) (q : Nat × Value) : Nat × Value := (q.1, am_v bs q.2)
def am_lk (lv : List (Nat × Value)) (i : Nat) : Option Value := match lv with
  | [] => none
  | q :: r => cond (Nat.beq q.1 i) (some q.2) (am_lk r i)
def am_tb : List Cond := lw_tbl.filter goodWord
theorem am_tb_in {w : Cond} (h : w ∈ lw_tbl) (g : goodWord w = true) : w ∈ am_tb := List.mem_filter.mpr ⟨h, g⟩
theorem am_v_int {bs : Nat} {x : Int32} : am_v bs (.int x) = .int x := rfl
theorem am_v_cat (bs : Nat) (v : Value) : (am_v bs v).category = v.category := by cases v <;> rfl
theorem am_w_get {bs N : Nat} {dA : Nat → ClassId} {μ : am_M} {i : Nat} (h : i < N) : (am_w bs dA N μ)[i]? = some (bs + i, am_e bs dA (μ i)) := by
  simp [am_w, h]
theorem am_w_len {bs N : Nat} {dA : Nat → ClassId} {μ : am_M} : (am_w bs dA N μ).length = N := by simp [am_w]
theorem am_w_of {bs N : Nat} {dA : Nat → ClassId} {μ : am_M} {i : Nat} {q : Nat × va_E} (h : (am_w bs dA N μ)[i]? = some q) : i < N ∧ q = (bs + i, am_e bs dA (μ i)) := by
  have hl := (List.getElem?_eq_some_iff.mp h).1
  rw [am_w_len] at hl
  rw [am_w_get hl] at h
  exact ⟨hl, (Option.some.inj h).symm⟩
theorem am_D {bs N : Nat} {dA : Nat → ClassId} {μ : am_M} : va_D (am_A bs) (am_w bs dA N μ) := by
  refine ⟨fun i j p q hi hj hpq => ?_, fun k q hk => ?_⟩
  · obtain ⟨-, rfl⟩ := am_w_of hi
    obtain ⟨-, rfl⟩ := am_w_of hj
    simp at hpq
    exact hpq
  · obtain ⟨-, rfl⟩ := am_w_of hk
    exact Nat.le_add_right _ _
theorem am_w_set {bs N : Nat} {dA : Nat → ClassId} {μ : am_M} {i : Nat} {e : am_E} {x : va_E} (hx : x = am_e bs dA e) : (am_w bs dA N μ).set i (bs + i, x) = am_w bs dA N (am_u μ i e) := by
  subst hx
  apply List.ext_getElem?
  intro j
  by_cases hj : j < N
  · rw [am_w_get hj]
    by_cases hji : j = i
    · subst hji
      rw [List.getElem?_set_self (by rw [am_w_len]; exact hj)]
      simp [am_u]
    · rw [List.getElem?_set_ne (Ne.symm hji), am_w_get hj]
      simp [am_u, hji]
  · rw [List.getElem?_eq_none (by rw [List.length_set, am_w_len]; omega), List.getElem?_eq_none (by rw [am_w_len]; omega)]
theorem am_w_push {bs N : Nat} {dA : Nat → ClassId} {μ : am_M} {e : am_E} {x : va_E} (hx : x = am_e bs dA e) : am_w bs dA N μ ++ [(bs + N, x)] = am_w bs dA (N + 1) (am_u μ N e) := by
  subst hx
  apply List.ext_getElem?
  intro j
  by_cases hj : j < N
  · rw [List.getElem?_append_left (by rw [am_w_len]; exact hj), am_w_get hj, am_w_get (by omega)]
    simp [am_u, Nat.ne_of_lt hj]
  · rw [List.getElem?_append_right (by rw [am_w_len]; omega), am_w_len]
    by_cases hj2 : j = N
    · subst hj2
      rw [am_w_get (by omega)]
      simp [am_u]
    · rw [List.getElem?_eq_none (by simp; omega), List.getElem?_eq_none (by rw [am_w_len]; omega)]
theorem am_lk_of {lv : List (Nat × Value)} {i : Nat} {v : Value} (h : am_lk lv i = some v) : (i, v) ∈ lv := by
  induction lv with
  | nil => cases h
  | cons q r ih =>
    unfold am_lk at h
    cases hb : Nat.beq q.1 i with
    | true =>
      rw [hb] at h
      have := Nat.eq_of_beq_eq_true hb
      cases h
      subst this
      exact List.mem_cons_self
    | false =>
      rw [hb] at h
      exact List.mem_cons_of_mem _ (ih h)
theorem am_at {bs nL : Nat} {ls : Array Slot} {lv : List (Nat × Value)} {i : Nat} {v : Value} (hl : lv_has ls nL (lv.map (am_q bs))) (h : am_lk lv i = some v) : ls[i]? = some (.val (am_v bs v)) :=
  hl.2.2 (i, am_v bs v) (List.mem_map.mpr ⟨(i, v), am_lk_of h, rfl⟩)
theorem am_filter {bs : Nat} (lv : List (Nat × Value)) (i : Nat) : (lv.map (am_q bs)).filter (fun q => !(q.1 == i) && !(q.1 + 1 == i && q.2.category == 2)) = (lv.filter (fun q => !(q.1 == i) && !(q.1 + 1 == i && q.2.category == 2))).map (am_q bs) := by
  rw [List.filter_map]
  congr 1
  apply List.filter_congr
  intro q _
  simp [Function.comp, am_q, am_v_cat]
theorem am_filter2 {bs : Nat} (lv : List (Nat × Value)) (i : Nat) : (lv.map (am_q bs)).filter (fun q => !(q.1 == i) && (!(q.1 == i + 1) && !(q.1 + 1 == i && q.2.category == 2))) = (lv.filter (fun q => !(q.1 == i) && (!(q.1 == i + 1) && !(q.1 + 1 == i && q.2.category == 2)))).map (am_q bs) := by
  rw [List.filter_map]
  congr 1
  apply List.filter_congr
  intro q _
  simp [Function.comp, am_q, am_v_cat]
def am_s1 (lv : List (Nat × Value)) (i : Nat) (v : Value) : List (Nat × Value) := (i, v) :: lv.filter (fun q => !(q.1 == i) && !(q.1 + 1 == i && q.2.category == 2))
def am_s2 (lv : List (Nat × Value)) (i : Nat) (v : Value) : List (Nat × Value) := (i, v) :: lv.filter (fun q => !(q.1 == i) && (!(q.1 == i + 1) && !(q.1 + 1 == i && q.2.category == 2)))
theorem am_args (bs : Nat) (vs : List Value) : ∀ i, lv_args i (vs.map (am_v bs)) = (lv_args i vs).map (am_q bs) := by
  induction vs with
  | nil => intro i; rfl
  | cons v r ih =>
    intro i
    simp only [List.map_cons, lv_args, am_v_cat]
    rw [ih]
    rfl
/-! the facts that are carried: nest links, static cells, the one String constant -/
def am_nw : List Cond := lw_tbl.filter (fun w => match w with
  | .fieldLinkNest .. => true
  | .methodLinkNest .. => true
  | _ => false)
def am_dq (j : Nat) : Value := if j = 0 then .int 4 else if j = 1 then .int 6 else .int 7
def am_F (A : Nat → Prop) (U : State) (H : Heap) : Prop :=
  (∀ w ∈ am_nw, va_Nw w U) ∧ (va_AO "RhythmBench$Part" U ∧ va_AO "RhythmBench$State" U ∧ va_AO "RhythmBench$Text" U) ∧
  (∃ t : Nat, va_Z "RhythmBench$Score" "DOTTED_QUARTERS" "[I" (.ref t) A U H ∧ va_T .int t 3 am_dq A U H) ∧
  (∃ adK adV : Nat → Nat, vk_S 1 [6] [[119, 104, 113, 101, 115, 116]] adK adV A U H ∧ vk_R "RhythmBench$Notation" 9 "whqest" (adK 0) U) ∧
  va_Z "java/lang/String" "COMPACT_STRINGS" "Z" (.int 1) A U H
theorem am_nw_warm {s U : State} (hW : s.WarmedH U.vm) (h : ∀ w ∈ am_nw, va_Nw w s) : ∀ w ∈ am_nw, va_Nw w U := by
  intro w hw
  have h1 := h w hw
  have h2 := (List.mem_filter.mp hw).2
  cases w <;> first | exact va_Nw.warmF hW h1 | exact va_Nw.warmM hW h1 | (simp at h2; done)
theorem am_nw_same {s U : State} (hv : s.vm = U.vm) (h : ∀ w ∈ am_nw, va_Nw w s) : ∀ w ∈ am_nw, va_Nw w U := by
  intro w hw
  have h1 := h w hw
  have h2 := (List.mem_filter.mp hw).2
  refine va_Nw.same ?_ hv h1
  cases w <;> first | rfl | (simp at h2; done)
theorem am_F.warm {A : Nat → Prop} {s U : State} {H : Heap} (hW : s.WarmedH U.vm) (h : am_F A s H) : am_F A U H := by
  obtain ⟨h1, ⟨h2, h3, h4⟩, ⟨t, h5, h6⟩, ⟨k, v, h7, h8⟩, h9⟩ := h
  exact ⟨am_nw_warm hW h1, ⟨h2.moved hW.alike, h3.moved hW.alike, h4.moved hW.alike⟩, ⟨t, h5.moved hW.alike, h6.moved hW.alike⟩, ⟨k, v, h7.moved hW.alike, h8.warm hW⟩, h9.moved hW.alike⟩
theorem am_F.same {A : Nat → Prop} {s U : State} {H : Heap} (hv : s.vm = U.vm) (h : am_F A s H) : am_F A U H := by
  obtain ⟨h1, ⟨h2, h3, h4⟩, ⟨t, h5, h6⟩, ⟨k, v, h7, h8⟩, h9⟩ := h
  have hA : s.vm.Alike U.vm := by rw [hv]; exact Vm.Alike.refl _
  exact ⟨am_nw_same hv h1, ⟨h2.moved hA, h3.moved hA, h4.moved hA⟩, ⟨t, h5.moved hA, h6.moved hA⟩, ⟨k, v, h7.moved hA, h8.same hv.symm⟩, h9.moved hA⟩
theorem am_F.kept {A : Nat → Prop} {U : State} {H H1 : Heap} (h : am_F A U H) (hq : ∀ a : Nat, a < H.size → ¬ A a → H1[a]? = H[a]?) : am_F A U H1 := by
  obtain ⟨h1, h2, ⟨t, h5, h6⟩, ⟨k, v, h7, h8⟩, h9⟩ := h
  exact ⟨h1, h2, ⟨t, h5.kept hq, h6.kept hq⟩, ⟨k, v, h7.kept hq, h8⟩, h9.kept hq⟩
/-! a method: its name, bytes, locals, answer, whether a constructor, its room -/
abbrev am_Y : Type := MethodName × ByteArray × Nat × Option FieldType × Bool × Room
abbrev am_c (Y : am_Y) : ByteArray := Y.2.1
abbrev am_n (Y : am_Y) : Nat := Y.2.2.1
abbrev am_t (Y : am_Y) : Option FieldType := Y.2.2.2.1
abbrev am_z (Y : am_Y) : Bool := Y.2.2.2.2.1
abbrev am_r (Y : am_Y) : Room := Y.2.2.2.2.2
def am_S (Y : am_Y) (p : Program) (s : State) (m : MethodId) (args : Array Value) (meth : Method) (c : Code) (bs : Nat) (D : va_G) (dA : Nat → ClassId) : Prop :=
  p.tables.exec = Jvm.exec ∧ c.code = am_c Y ∧ c.maxLocals = am_n Y ∧ meth.sig.returnType = am_t Y ∧ meth.locks = false ∧ s.vm.findClass Y.1.cls = some m.cls ∧ (∀ w ∈ am_tb, w.before args s = true) ∧ va_K D am_cl (am_tys dA) s ∧ bs ≤ s.heap.size ∧ (am_z Y = true → meth.name = "<init>") ∧ am_F (am_A bs) s s.heap
def am_Qc (Q : Option Value → Nat → am_M → Prop) (bs : Nat) (D : va_G) (dA : Nat → ClassId) : Array Value → State → Outcome → State → Prop := fun _ st oc t =>
  (∃ (r : Option Value) (N : Nat) (μ : am_M), oc = .returned (r.map (am_v bs)) ∧ Q r N μ ∧ va_P D am_cl (am_w bs dA N μ) t.heap ∧ t.heap.size = bs + N) ∧ va_F (am_A bs) st t
def am_W (Y : am_Y) (Q : Option Value → Nat → am_M → Prop) (k n pc : Nat) (lv : List (Nat × Value)) (st : List Value) (N : Nat) (μ : am_M) : Prop :=
  ∀ (p : Program) (l : Launch) (e : Env) (s : State) (m : MethodId) (args : Array Value) (below : List Frame) (meth : Method) (c : Code) (bs : Nat) (D : va_G) (dA : Nat → ClassId), am_S Y p s m args meth c bs D dA →
  ∀ (H : Heap) (locs : List Loc) (ls : Array Slot), va_P D am_cl (am_w bs dA N μ) H → H.size = bs + N → va_S (am_A bs) s.heap H locs → lv_has ls (am_n Y) (lv.map (am_q bs)) →
    W p l e (am_r Y) s m args below meth c H locs k n (MQ below (am_Qc Q bs D dA) args s (am_r Y).cells (am_r Y).slots (am_A bs)) (F0 m pc ls (st.map (am_v bs)))
def am_pre (bs : Nat) (D : va_G) (dA : Nat → ClassId) (N : Nat) (μ : am_M) (U : State) : Prop :=
  U.heap.size = bs + N ∧ va_P D am_cl (am_w bs dA N μ) U.heap ∧ va_K D am_cl (am_tys dA) U ∧ am_F (am_A bs) U U.heap
def am_Met (Y : am_Y) (av : List Value) (N : Nat) (μ : am_M) (Q : Option Value → Nat → am_M → Prop) : Prop :=
  ∀ (l : Launch) (bs : Nat) (D : va_G) (dA : Nat → ClassId), Met l Y.1 (Cond.code Y.1 (am_c Y) (am_n Y) (am_t Y) :: am_tb) (am_r Y) (va_Pc (av.map (am_v bs)) (am_pre bs D dA N μ)) (am_Qc Q bs D dA) (am_r Y).cells (am_r Y).slots (am_A bs)
theorem am_met {Y : am_Y} {av : List Value} {N : Nat} {μ : am_M} {Q : Option Value → Nat → am_M → Prop} (hy : plainName Y.1.cls = true) (hn : (lg_sl av).length ≤ am_n Y) (hz : am_z Y = true → Y.1.name = "<init>") (h : am_W Y Q 0 0 0 (lv_args 0 av) [] N μ) : am_Met Y av N μ Q := by
  intro l bs D dA
  refine Met.ofW (cc := am_c Y) (maxL := am_n Y) (ret := am_t Y) hy rfl ?_
  intro p e s m args below meth c s₁ B hml hv
  obtain ⟨rfl, hsz, hP, hK, hF⟩ := hv
  have hts := atoms_spec (ws := Cond.code Y.1 (am_c Y) (am_n Y) (am_t Y) :: am_tb) B.pre
  have hown : s.vm.findClass Y.1.cls = some m.cls := findClass_of_methodNamed B.named
  have hin : meth.name = Y.1.name := (name_of_methodNamed B.named B.method).1
  have hn' : (lg_sl (av.map (am_v bs))).length ≤ am_n Y := by
    have e : ∀ vs : List Value, (lg_sl (vs.map (am_v bs))).length = (lg_sl vs).length := by
      intro vs
      induction vs with
      | nil => rfl
      | cons v r ih =>
        simp only [lg_sl, List.map_cons, List.flatMap_cons, List.length_append, am_v_cat] at ih ⊢
        rw [ih]
        by_cases hc : v.category = 2 <;> simp [hc]
    rw [e]; exact hn
  have hl := lv_entry (av.map (am_v bs)) (n := am_n Y) hn'
  rw [am_args] at hl
  rw [lg_entry_eq]
  exact h p l e s m _ below meth c bs D dA ⟨B.exec, B.bytes, hml, B.returns, B.notSynchronized, hown, fun w hw => hts w (List.mem_cons_of_mem _ hw), hK, by omega, fun hh => by rw [hin]; exact hz hh, hF⟩ s.heap [] _ hP hsz va_S.rf hl
end
section
theorem am_lt3 {a b : Int} (h : (-2147483648 ≤ a ∧ a ≤ 2147483647) ∧ (-2147483648 ≤ b ∧ b ≤ 2147483647)) : Int32.ofInt a < Int32.ofInt b ↔ a < b := Int32.ofInt_lt_iff_lt h.1.1 h.1.2 h.2.1 h.2.2
theorem am_le3 {a b : Int} (h : (-2147483648 ≤ a ∧ a ≤ 2147483647) ∧ (-2147483648 ≤ b ∧ b ≤ 2147483647)) : Int32.ofInt a ≤ Int32.ofInt b ↔ a ≤ b := Int32.ofInt_le_iff_le h.1.1 h.1.2 h.2.1 h.2.2
theorem am_to3 {a : Int} (h : (-2147483648 ≤ a ∧ a ≤ 2147483647)) : (Int32.ofInt a).toInt = a := Int32.toInt_ofInt_of_le h.1 (by have := h.2; omega)
theorem am_eq3 {a b : Int} (h : (-2147483648 ≤ a ∧ a ≤ 2147483647) ∧ (-2147483648 ≤ b ∧ b ≤ 2147483647)) : Int32.ofInt a = Int32.ofInt b ↔ a = b := ⟨fun e => by rw [← am_to3 h.1, e, am_to3 h.2], fun e => by rw [e]⟩
theorem am_lt6 {a b : Int} (h : (-9223372036854775808 ≤ a ∧ a ≤ 9223372036854775807) ∧ (-9223372036854775808 ≤ b ∧ b ≤ 9223372036854775807)) : Int64.ofInt a < Int64.ofInt b ↔ a < b := Int64.ofInt_lt_iff_lt h.1.1 h.1.2 h.2.1 h.2.2
theorem am_le6 {a b : Int} (h : (-9223372036854775808 ≤ a ∧ a ≤ 9223372036854775807) ∧ (-9223372036854775808 ≤ b ∧ b ≤ 9223372036854775807)) : Int64.ofInt a ≤ Int64.ofInt b ↔ a ≤ b := Int64.ofInt_le_iff_le h.1.1 h.1.2 h.2.1 h.2.2
theorem am_to6 {a : Int} (h : (-9223372036854775808 ≤ a ∧ a ≤ 9223372036854775807)) : (Int64.ofInt a).toInt = a := Int64.toInt_ofInt_of_le h.1 (by have := h.2; omega)
theorem am_eq6 {a b : Int} (h : (-9223372036854775808 ≤ a ∧ a ≤ 9223372036854775807) ∧ (-9223372036854775808 ≤ b ∧ b ≤ 9223372036854775807)) : Int64.ofInt a = Int64.ofInt b ↔ a = b := ⟨fun e => by rw [← am_to6 h.1, e, am_to6 h.2], fun e => by rw [e]⟩
theorem am_tn3 {j : Nat} (h : j < 2147483648) : (Int32.ofInt (j : Int)).toNatClampNeg = j := by rw [Int32.ofInt_eq_ofNat]; exact nI_clamp h
theorem am_in3 {z : Int} {j n : Nat} (hz : z = (j : Int)) (hj : j < n) (hn : n < 2147483648) : vp_in (Int32.ofInt z) n := by subst hz; rw [Int32.ofInt_eq_ofNat]; exact vp_in_nI hj hn
theorem am_c3 {a : Int} (h : 0 ≤ a ∧ a ≤ 65535) : (Int32.ofInt a).toUInt32.toUInt16.toUInt32.toInt32 = Int32.ofInt a := by
  obtain ⟨k, rfl⟩ := Int.eq_ofNat_of_zero_le h.1
  have hk : k < 65536 := by omega
  have e : Int32.ofInt (k : Int) = Int32.ofNat k := Int32.ofInt_eq_ofNat
  rw [e]
  apply Int32.toBitVec.inj
  simp
  apply BitVec.eq_of_toNat_eq
  simp
  omega
theorem am_c3b {a : Int} (h : 0 ≤ a ∧ a ≤ 65535) : ((Int32.ofInt a).toUInt32 % 65536).toInt32 = Int32.ofInt a := by
  obtain ⟨k, rfl⟩ := Int.eq_ofNat_of_zero_le h.1
  have hk : k < 65536 := by omega
  have e : Int32.ofInt (k : Int) = Int32.ofNat k := Int32.ofInt_eq_ofNat
  rw [e]
  apply Int32.toBitVec.inj
  simp
  apply BitVec.eq_of_toNat_eq
  simp
  omega
theorem am_b8 {z : Int} (h : -128 ≤ z ∧ z ≤ 127) : (Int8.ofInt z).toInt32 = Int32.ofInt z := by
  apply Int32.toInt_inj.mp
  rw [am_to3 (by omega), Int8.toInt_toInt32, Int8.toInt_ofInt_of_le h.1 (by omega)]
theorem am_b16 {z : Int} (h : -32768 ≤ z ∧ z ≤ 32767) : (Int16.ofInt z).toInt32 = Int32.ofInt z := by
  apply Int32.toInt_inj.mp
  rw [am_to3 (by omega), Int16.toInt_toInt32, Int16.toInt_ofInt_of_le h.1 (by omega)]
theorem am_i2l {a : Int} (h : (-2147483648 ≤ a ∧ a ≤ 2147483647)) : (Int32.ofInt a).toInt64 = Int64.ofInt a := Int32.toInt64_ofInt h.1 h.2
theorem am_ldiv {a b : Int} (h : (0 ≤ a ∧ a ≤ 9223372036854775807) ∧ (0 < b ∧ b ≤ 9223372036854775807)) : Int64.ofInt a / Int64.ofInt b = Int64.ofInt (a / b) := by
  rw [← Int64.ofInt_tdiv (by have : Int64.minValue.toInt = -9223372036854775808 := rfl
                             omega) h.1.2 (by have : Int64.minValue.toInt = -9223372036854775808 := rfl
                                              omega) h.2.2, Int.tdiv_eq_ediv_of_nonneg h.1.1]
theorem am_idiv {a b : Int} (h : (0 ≤ a ∧ a ≤ 2147483647) ∧ (0 < b ∧ b ≤ 2147483647)) : Int32.ofInt a / Int32.ofInt b = Int32.ofInt (a / b) := by
  rw [← Int32.ofInt_tdiv (by have : Int32.minValue.toInt = -2147483648 := rfl
                             omega) h.1.2 (by have : Int32.minValue.toInt = -2147483648 := rfl
                                              omega) h.2.2, Int.tdiv_eq_ediv_of_nonneg h.1.1]
theorem am_irem {a b : Int} (h : (0 ≤ a ∧ a ≤ 2147483647) ∧ (0 < b ∧ b ≤ 2147483647)) : Int32.ofInt a - Int32.ofInt a / Int32.ofInt b * Int32.ofInt b = Int32.ofInt (a % b) := by
  rw [am_idiv h, ← Int32.ofInt_mul, ← Int32.ofInt_sub]
  congr 1
  have := Int.mul_ediv_add_emod a b
  rw [Int.mul_comm (a / b) b]
  omega
theorem am_lrem {a b : Int} (h : (0 ≤ a ∧ a ≤ 9223372036854775807) ∧ (0 < b ∧ b ≤ 9223372036854775807)) : Int64.ofInt a - Int64.ofInt a / Int64.ofInt b * Int64.ofInt b = Int64.ofInt (a % b) := by
  rw [am_ldiv h, ← Int64.ofInt_mul, ← Int64.ofInt_sub]
  congr 1
  have := Int.mul_ediv_add_emod a b
  rw [Int.mul_comm (a / b) b]
  omega
theorem am_lremS {a b : Int} (h : (-9223372036854775808 ≤ a ∧ a ≤ 9223372036854775807) ∧ (0 < b ∧ b ≤ 9223372036854775807)) : Int64.ofInt a - Int64.ofInt a / Int64.ofInt b * Int64.ofInt b = Int64.ofInt (a.tmod b) := by
  rw [← Int64.ofInt_tdiv h.1.1 h.1.2 (by have : Int64.minValue.toInt = -9223372036854775808 := rfl
                                         omega) h.2.2, ← Int64.ofInt_mul, ← Int64.ofInt_sub]
  congr 1
  have := Int.mul_tdiv_add_tmod a b
  rw [Int.mul_comm (a.tdiv b) b]
  omega
section
variable {Y : am_Y} {Q : Option Value → Nat → am_M → Prop} {k n pc N : Nat} {lv : List (Nat × Value)} {st : List Value} {μ : am_M}
theorem ap_iconst {z : Int} (hd : decode (am_c Y) pc = .ok (.iconst z, 1)) (kk : am_W Y Q k n (pc + 1) lv (am_i z :: st) N μ) : am_W Y Q k n pc lv st N μ := by
  intro p l e s m args below meth c bs D dA S H locs ls hP hz hS hl
  exact lv_iconst S.1 S.2.1 hd rfl (kk p l e s m args below meth c bs D dA S H locs ls hP hz hS hl)
theorem ap_bipush {z : Int} (hd : decode (am_c Y) pc = .ok (.bipush z, 2)) (h : -128 ≤ z ∧ z ≤ 127) (kk : am_W Y Q k n (pc + 2) lv (am_i z :: st) N μ) : am_W Y Q k n pc lv st N μ := by
  intro p l e s m args below meth c bs D dA S H locs ls hP hz hS hl
  exact lv_bipush S.1 S.2.1 hd (am_b8 h) (kk p l e s m args below meth c bs D dA S H locs ls hP hz hS hl)
theorem ap_sipush {z : Int} (hd : decode (am_c Y) pc = .ok (.sipush z, 3)) (h : -32768 ≤ z ∧ z ≤ 32767) (kk : am_W Y Q k n (pc + 3) lv (am_i z :: st) N μ) : am_W Y Q k n pc lv st N μ := by
  intro p l e s m args below meth c bs D dA S H locs ls hP hz hS hl
  exact lv_sipush S.1 S.2.1 hd (am_b16 h) (kk p l e s m args below meth c bs D dA S H locs ls hP hz hS hl)
theorem ap_lconst {z : Fin 2} {v : Int} (hd : decode (am_c Y) pc = .ok (.lconst z, 1)) (hv : Int64.ofNat (z : Nat) = Int64.ofInt v) (kk : am_W Y Q k n (pc + 1) lv (am_l v :: st) N μ) : am_W Y Q k n pc lv st N μ := by
  intro p l e s m args below meth c bs D dA S H locs ls hP hz hS hl
  exact lv_lconst S.1 S.2.1 hd hv (kk p l e s m args below meth c bs D dA S H locs ls hP hz hS hl)
theorem ap_null  (hd : decode (am_c Y) pc = .ok (.aconst_null, 1)) (kk : am_W Y Q k n (pc + 1) lv (.null :: st) N μ) : am_W Y Q k n pc lv st N μ := by
  intro p l e s m args below meth c bs D dA S H locs ls hP hz hS hl
  exact lv_null S.1 S.2.1 hd (kk p l e s m args below meth c bs D dA S H locs ls hP hz hS hl)
theorem ap_ldc2 {i : Nat} {z : Int} (hd : decode (am_c Y) pc = .ok (.ldc2_w i, 3)) (hw : Cond.constantLong Y.1.cls i (Int64.ofInt z) ∈ am_tb) (kk : am_W Y Q k n (pc + 3) lv (am_l z :: st) N μ) : am_W Y Q k n pc lv st N μ := by
  intro p l e s m args below meth c bs D dA S H locs ls hP hz hS hl
  exact lv_ldc2 S.1 S.2.1 S.2.2.2.2.2.1 (S.2.2.2.2.2.2.1 _ hw) hd (kk p l e s m args below meth c bs D dA S H locs ls hP hz hS hl)
theorem ap_iload_n {j : Fin 4} {i : Nat} {z : Int} (hd : decode (am_c Y) pc = .ok (.iload_n j, 1)) (hi : (j : Nat) = i) (h : am_lk lv i = some (am_i z)) (kk : am_W Y Q k n (pc + 1) lv (am_i z :: st) N μ) : am_W Y Q k n pc lv st N μ := by
  intro p l e s m args below meth c bs D dA S H locs ls hP hz hS hl
  exact lv_iload_n S.1 S.2.1 hd hi (am_at hl h) (kk p l e s m args below meth c bs D dA S H locs ls hP hz hS hl)
theorem ap_iload {i : Nat} {z : Int} (hd : decode (am_c Y) pc = .ok (.iload i, 2)) (h : am_lk lv i = some (am_i z)) (kk : am_W Y Q k n (pc + 2) lv (am_i z :: st) N μ) : am_W Y Q k n pc lv st N μ := by
  intro p l e s m args below meth c bs D dA S H locs ls hP hz hS hl
  exact lv_iload S.1 S.2.1 hd (am_at hl h) (kk p l e s m args below meth c bs D dA S H locs ls hP hz hS hl)
theorem ap_lload_n {j : Fin 4} {i : Nat} {z : Int} (hd : decode (am_c Y) pc = .ok (.lload_n j, 1)) (hi : (j : Nat) = i) (h : am_lk lv i = some (am_l z)) (kk : am_W Y Q k n (pc + 1) lv (am_l z :: st) N μ) : am_W Y Q k n pc lv st N μ := by
  intro p l e s m args below meth c bs D dA S H locs ls hP hz hS hl
  exact lv_lload_n S.1 S.2.1 hd hi (am_at hl h) (kk p l e s m args below meth c bs D dA S H locs ls hP hz hS hl)
theorem ap_lload {i : Nat} {z : Int} (hd : decode (am_c Y) pc = .ok (.lload i, 2)) (h : am_lk lv i = some (am_l z)) (kk : am_W Y Q k n (pc + 2) lv (am_l z :: st) N μ) : am_W Y Q k n pc lv st N μ := by
  intro p l e s m args below meth c bs D dA S H locs ls hP hz hS hl
  exact lv_lload S.1 S.2.1 hd (am_at hl h) (kk p l e s m args below meth c bs D dA S H locs ls hP hz hS hl)
theorem ap_aload_n {j : Fin 4} {i : Nat} {a : Nat} (hd : decode (am_c Y) pc = .ok (.aload_n j, 1)) (hi : (j : Nat) = i) (h : am_lk lv i = some ((.ref a))) (kk : am_W Y Q k n (pc + 1) lv ((.ref a) :: st) N μ) : am_W Y Q k n pc lv st N μ := by
  intro p l e s m args below meth c bs D dA S H locs ls hP hz hS hl
  exact lv_aload_n S.1 S.2.1 hd hi (am_at hl h) (kk p l e s m args below meth c bs D dA S H locs ls hP hz hS hl)
theorem ap_aload {i : Nat} {a : Nat} (hd : decode (am_c Y) pc = .ok (.aload i, 2)) (h : am_lk lv i = some ((.ref a))) (kk : am_W Y Q k n (pc + 2) lv ((.ref a) :: st) N μ) : am_W Y Q k n pc lv st N μ := by
  intro p l e s m args below meth c bs D dA S H locs ls hP hz hS hl
  exact lv_aload S.1 S.2.1 hd (am_at hl h) (kk p l e s m args below meth c bs D dA S H locs ls hP hz hS hl)
theorem ap_aloadN_n {j : Fin 4} {i : Nat}  (hd : decode (am_c Y) pc = .ok (.aload_n j, 1)) (hi : (j : Nat) = i) (h : am_lk lv i = some (.null)) (kk : am_W Y Q k n (pc + 1) lv (.null :: st) N μ) : am_W Y Q k n pc lv st N μ := by
  intro p l e s m args below meth c bs D dA S H locs ls hP hz hS hl
  exact lv_aload_nN S.1 S.2.1 hd hi (am_at hl h) (kk p l e s m args below meth c bs D dA S H locs ls hP hz hS hl)
theorem ap_aloadN {i : Nat}  (hd : decode (am_c Y) pc = .ok (.aload i, 2)) (h : am_lk lv i = some (.null)) (kk : am_W Y Q k n (pc + 2) lv (.null :: st) N μ) : am_W Y Q k n pc lv st N μ := by
  intro p l e s m args below meth c bs D dA S H locs ls hP hz hS hl
  exact lv_aloadN S.1 S.2.1 hd (am_at hl h) (kk p l e s m args below meth c bs D dA S H locs ls hP hz hS hl)
theorem ap_istore_n {j : Fin 4} {i : Nat} {z : Int} {lv2 : List (Nat × Value)} (hd : decode (am_c Y) pc = .ok (.istore_n j, 1)) (hi : (j : Nat) = i) (hb : i < am_n Y) (h : am_s1 lv i (am_i z) = lv2) (kk : am_W Y Q k n (pc + 1) lv2 st N μ) : am_W Y Q k n pc lv (am_i z :: st) N μ := by
  intro p l e s m args below meth c bs D dA S H locs ls hP hz hS hl
  exact lv_istore_n S.1 S.2.1 hd hi hl hb (by subst h; rw [am_filter]; rfl) (fun ls2 hl2 => kk p l e s m args below meth c bs D dA S H locs ls2 hP hz hS hl2)
theorem ap_istore {i : Nat} {z : Int} {lv2 : List (Nat × Value)} (hd : decode (am_c Y) pc = .ok (.istore i, 2)) (hb : i < am_n Y) (h : am_s1 lv i (am_i z) = lv2) (kk : am_W Y Q k n (pc + 2) lv2 st N μ) : am_W Y Q k n pc lv (am_i z :: st) N μ := by
  intro p l e s m args below meth c bs D dA S H locs ls hP hz hS hl
  exact lv_istore S.1 S.2.1 hd hl hb (by subst h; rw [am_filter]; rfl) (fun ls2 hl2 => kk p l e s m args below meth c bs D dA S H locs ls2 hP hz hS hl2)
theorem ap_lstore_n {j : Fin 4} {i : Nat} {z : Int} {lv2 : List (Nat × Value)} (hd : decode (am_c Y) pc = .ok (.lstore_n j, 1)) (hi : (j : Nat) = i) (hb : i + 1 < am_n Y) (h : am_s2 lv i (am_l z) = lv2) (kk : am_W Y Q k n (pc + 1) lv2 st N μ) : am_W Y Q k n pc lv (am_l z :: st) N μ := by
  intro p l e s m args below meth c bs D dA S H locs ls hP hz hS hl
  exact lv_lstore_n S.1 S.2.1 hd hi hl hb (by subst h; rw [am_filter2]; rfl) (fun ls2 hl2 => kk p l e s m args below meth c bs D dA S H locs ls2 hP hz hS hl2)
theorem ap_lstore {i : Nat} {z : Int} {lv2 : List (Nat × Value)} (hd : decode (am_c Y) pc = .ok (.lstore i, 2)) (hb : i + 1 < am_n Y) (h : am_s2 lv i (am_l z) = lv2) (kk : am_W Y Q k n (pc + 2) lv2 st N μ) : am_W Y Q k n pc lv (am_l z :: st) N μ := by
  intro p l e s m args below meth c bs D dA S H locs ls hP hz hS hl
  exact lv_lstore S.1 S.2.1 hd hl hb (by subst h; rw [am_filter2]; rfl) (fun ls2 hl2 => kk p l e s m args below meth c bs D dA S H locs ls2 hP hz hS hl2)
theorem ap_astore_n {j : Fin 4} {i a : Nat} {lv2 : List (Nat × Value)} (hd : decode (am_c Y) pc = .ok (.astore_n j, 1)) (hi : (j : Nat) = i) (hb : i < am_n Y) (h : am_s1 lv i (.ref a) = lv2) (kk : am_W Y Q k n (pc + 1) lv2 st N μ) : am_W Y Q k n pc lv (.ref a :: st) N μ := by
  intro p l e s m args below meth c bs D dA S H locs ls hP hz hS hl
  exact lv_astore_n S.1 S.2.1 hd hi hl hb (by subst h; rw [am_filter]; rfl) (fun ls2 hl2 => kk p l e s m args below meth c bs D dA S H locs ls2 hP hz hS hl2)
theorem ap_astore {i a : Nat} {lv2 : List (Nat × Value)} (hd : decode (am_c Y) pc = .ok (.astore i, 2)) (hb : i < am_n Y) (h : am_s1 lv i (.ref a) = lv2) (kk : am_W Y Q k n (pc + 2) lv2 st N μ) : am_W Y Q k n pc lv (.ref a :: st) N μ := by
  intro p l e s m args below meth c bs D dA S H locs ls hP hz hS hl
  exact lv_astore S.1 S.2.1 hd hl hb (by subst h; rw [am_filter]; rfl) (fun ls2 hl2 => kk p l e s m args below meth c bs D dA S H locs ls2 hP hz hS hl2)
theorem ap_astore_nN {j : Fin 4} {i : Nat} {lv2 : List (Nat × Value)} (hd : decode (am_c Y) pc = .ok (.astore_n j, 1)) (hi : (j : Nat) = i) (hb : i < am_n Y) (h : am_s1 lv i (.null) = lv2) (kk : am_W Y Q k n (pc + 1) lv2 st N μ) : am_W Y Q k n pc lv (.null :: st) N μ := by
  intro p l e s m args below meth c bs D dA S H locs ls hP hz hS hl
  exact lv_astore_nN S.1 S.2.1 hd hi hl hb (by subst h; rw [am_filter]; rfl) (fun ls2 hl2 => kk p l e s m args below meth c bs D dA S H locs ls2 hP hz hS hl2)
theorem ap_astoreN {i : Nat} {lv2 : List (Nat × Value)} (hd : decode (am_c Y) pc = .ok (.astore i, 2)) (hb : i < am_n Y) (h : am_s1 lv i (.null) = lv2) (kk : am_W Y Q k n (pc + 2) lv2 st N μ) : am_W Y Q k n pc lv (.null :: st) N μ := by
  intro p l e s m args below meth c bs D dA S H locs ls hP hz hS hl
  exact lv_astoreN S.1 S.2.1 hd hl hb (by subst h; rw [am_filter]; rfl) (fun ls2 hl2 => kk p l e s m args below meth c bs D dA S H locs ls2 hP hz hS hl2)
theorem ap_iinc {i : Nat} {d z : Int} {lv2 : List (Nat × Value)} (hd : decode (am_c Y) pc = .ok (.iinc i d, 3)) (hk : am_lk lv i = some (am_i z)) (hb : i < am_n Y) (h : am_s1 lv i (am_i (z + d)) = lv2) (kk : am_W Y Q k n (pc + 3) lv2 st N μ) : am_W Y Q k n pc lv st N μ := by
  intro p l e s m args below meth c bs D dA S H locs ls hP hz hS hl
  obtain ⟨q, hq⟩ := List.getElem?_of_mem (List.mem_map.mpr ⟨_, am_lk_of hk, rfl⟩ : (am_q bs (i, am_i z)) ∈ lv.map (am_q bs))
  exact lv_iinc S.1 S.2.1 hd hl hq (by rw [← Int32.ofInt_add]) hb (by subst h; rw [am_filter]; rfl) (fun ls2 hl2 => kk p l e s m args below meth c bs D dA S H locs ls2 hP hz hS hl2)
theorem ap_iadd {a b : Int} (hd : decode (am_c Y) pc = .ok (.iadd, 1)) (kk : am_W Y Q k n (pc + 1) lv (am_i (a + b) :: st) N μ) : am_W Y Q k n pc lv (am_i b :: am_i a :: st) N μ := by
  intro p l e s m args below meth c bs D dA S H locs ls hP hz hS hl
  refine lv_iadd S.1 S.2.1 hd ?_
  rw [← Int32.ofInt_add]
  exact kk p l e s m args below meth c bs D dA S H locs ls hP hz hS hl
theorem ap_isub {a b : Int} (hd : decode (am_c Y) pc = .ok (.isub, 1)) (kk : am_W Y Q k n (pc + 1) lv (am_i (a - b) :: st) N μ) : am_W Y Q k n pc lv (am_i b :: am_i a :: st) N μ := by
  intro p l e s m args below meth c bs D dA S H locs ls hP hz hS hl
  refine lv_isub S.1 S.2.1 hd ?_
  rw [← Int32.ofInt_sub]
  exact kk p l e s m args below meth c bs D dA S H locs ls hP hz hS hl
theorem ap_imul {a b : Int} (hd : decode (am_c Y) pc = .ok (.imul, 1)) (kk : am_W Y Q k n (pc + 1) lv (am_i (a * b) :: st) N μ) : am_W Y Q k n pc lv (am_i b :: am_i a :: st) N μ := by
  intro p l e s m args below meth c bs D dA S H locs ls hP hz hS hl
  refine lv_imul S.1 S.2.1 hd ?_
  rw [← Int32.ofInt_mul]
  exact kk p l e s m args below meth c bs D dA S H locs ls hP hz hS hl
theorem ap_ladd {a b : Int} (hd : decode (am_c Y) pc = .ok (.ladd, 1)) (kk : am_W Y Q k n (pc + 1) lv (am_l (a + b) :: st) N μ) : am_W Y Q k n pc lv (am_l b :: am_l a :: st) N μ := by
  intro p l e s m args below meth c bs D dA S H locs ls hP hz hS hl
  refine lv_ladd S.1 S.2.1 hd ?_
  rw [← Int64.ofInt_add]
  exact kk p l e s m args below meth c bs D dA S H locs ls hP hz hS hl
theorem ap_lsub {a b : Int} (hd : decode (am_c Y) pc = .ok (.lsub, 1)) (kk : am_W Y Q k n (pc + 1) lv (am_l (a - b) :: st) N μ) : am_W Y Q k n pc lv (am_l b :: am_l a :: st) N μ := by
  intro p l e s m args below meth c bs D dA S H locs ls hP hz hS hl
  refine lv_lsub S.1 S.2.1 hd ?_
  rw [← Int64.ofInt_sub]
  exact kk p l e s m args below meth c bs D dA S H locs ls hP hz hS hl
theorem ap_lmul {a b : Int} (hd : decode (am_c Y) pc = .ok (.lmul, 1)) (kk : am_W Y Q k n (pc + 1) lv (am_l (a * b) :: st) N μ) : am_W Y Q k n pc lv (am_l b :: am_l a :: st) N μ := by
  intro p l e s m args below meth c bs D dA S H locs ls hP hz hS hl
  refine lv_lmul S.1 S.2.1 hd ?_
  rw [← Int64.ofInt_mul]
  exact kk p l e s m args below meth c bs D dA S H locs ls hP hz hS hl
theorem ap_ldiv {a b : Int} (hd : decode (am_c Y) pc = .ok (.ldiv, 1)) (h : (0 ≤ a ∧ a ≤ 9223372036854775807) ∧ (0 < b ∧ b ≤ 9223372036854775807)) (kk : am_W Y Q k n (pc + 1) lv (am_l (a / b) :: st) N μ) : am_W Y Q k n pc lv (am_l b :: am_l a :: st) N μ := by
  intro p l e s m args below meth c bs D dA S H locs ls hP hz hS hl
  refine lv_ldiv S.1 S.2.1 hd (fun q => ?_) ?_
  · have hq := congrArg Int64.toInt q
    rw [am_to6 (by have := h.2; omega)] at hq
    have h0 : (0 : Int64).toInt = 0 := rfl
    have := h.2
    omega
  · rw [am_ldiv h]
    exact kk p l e s m args below meth c bs D dA S H locs ls hP hz hS hl
theorem ap_lrem {a b : Int} (hd : decode (am_c Y) pc = .ok (.lrem, 1)) (h : (0 ≤ a ∧ a ≤ 9223372036854775807) ∧ (0 < b ∧ b ≤ 9223372036854775807)) (kk : am_W Y Q k n (pc + 1) lv (am_l (a % b) :: st) N μ) : am_W Y Q k n pc lv (am_l b :: am_l a :: st) N μ := by
  intro p l e s m args below meth c bs D dA S H locs ls hP hz hS hl
  refine lv_lrem S.1 S.2.1 hd (fun q => ?_) ?_
  · have hq := congrArg Int64.toInt q
    rw [am_to6 (by have := h.2; omega)] at hq
    have h0 : (0 : Int64).toInt = 0 := rfl
    have := h.2
    omega
  · rw [am_lrem h]
    exact kk p l e s m args below meth c bs D dA S H locs ls hP hz hS hl
theorem ap_lremS {a b : Int} (hd : decode (am_c Y) pc = .ok (.lrem, 1)) (h : (-9223372036854775808 ≤ a ∧ a ≤ 9223372036854775807) ∧ (0 < b ∧ b ≤ 9223372036854775807)) (kk : am_W Y Q k n (pc + 1) lv (am_l (a.tmod b) :: st) N μ) : am_W Y Q k n pc lv (am_l b :: am_l a :: st) N μ := by
  intro p l e s m args below meth c bs D dA S H locs ls hP hz hS hl
  refine lv_lrem S.1 S.2.1 hd (fun q => ?_) ?_
  · have hq := congrArg Int64.toInt q
    rw [am_to6 (by have := h.2; omega)] at hq
    have h0 : (0 : Int64).toInt = 0 := rfl
    have := h.2
    omega
  · rw [am_lremS h]
    exact kk p l e s m args below meth c bs D dA S H locs ls hP hz hS hl
theorem ap_irem {a b : Int} (hd : decode (am_c Y) pc = .ok (.irem, 1)) (h : (0 ≤ a ∧ a ≤ 2147483647) ∧ (0 < b ∧ b ≤ 2147483647)) (kk : am_W Y Q k n (pc + 1) lv (am_i (a % b) :: st) N μ) : am_W Y Q k n pc lv (am_i b :: am_i a :: st) N μ := by
  intro p l e s m args below meth c bs D dA S H locs ls hP hz hS hl
  refine lv_irem S.1 S.2.1 hd (fun q => ?_) ?_
  · have hq := congrArg Int32.toInt q
    rw [am_to3 (by have := h.2; omega)] at hq
    have h0 : (0 : Int32).toInt = 0 := rfl
    have := h.2
    omega
  · rw [am_irem h]
    exact kk p l e s m args below meth c bs D dA S H locs ls hP hz hS hl
theorem ap_i2l {a : Int} (hd : decode (am_c Y) pc = .ok (.i2l, 1)) (h : (-2147483648 ≤ a ∧ a ≤ 2147483647)) (kk : am_W Y Q k n (pc + 1) lv (am_l a :: st) N μ) : am_W Y Q k n pc lv (am_i a :: st) N μ := by
  intro p l e s m args below meth c bs D dA S H locs ls hP hz hS hl
  exact lv_i2l S.1 S.2.1 hd (am_i2l h) (kk p l e s m args below meth c bs D dA S H locs ls hP hz hS hl)
theorem ap_l2i {a : Int} (hd : decode (am_c Y) pc = .ok (.l2i, 1)) (kk : am_W Y Q k n (pc + 1) lv (am_i a :: st) N μ) : am_W Y Q k n pc lv (am_l a :: st) N μ := by
  intro p l e s m args below meth c bs D dA S H locs ls hP hz hS hl
  exact lv_l2i S.1 S.2.1 hd Int64.toInt32_ofInt (kk p l e s m args below meth c bs D dA S H locs ls hP hz hS hl)
theorem ap_i2c {a : Int} (hd : decode (am_c Y) pc = .ok (.i2c, 1)) (h : 0 ≤ a ∧ a ≤ 65535) (kk : am_W Y Q k n (pc + 1) lv (am_i a :: st) N μ) : am_W Y Q k n pc lv (am_i a :: st) N μ := by
  intro p l e s m args below meth c bs D dA S H locs ls hP hz hS hl
  exact lv_i2c S.1 S.2.1 hd (am_c3b h) (kk p l e s m args below meth c bs D dA S H locs ls hP hz hS hl)
theorem ap_iand {a b r : Int} (hd : decode (am_c Y) pc = .ok (.iand, 1)) (h : Int32.ofInt a &&& Int32.ofInt b = Int32.ofInt r) (kk : am_W Y Q k n (pc + 1) lv (am_i r :: st) N μ) : am_W Y Q k n pc lv (am_i b :: am_i a :: st) N μ := by
  intro p l e s m args below meth c bs D dA S H locs ls hP hz hS hl
  refine lv_iand S.1 S.2.1 hd ?_
  rw [h]
  exact kk p l e s m args below meth c bs D dA S H locs ls hP hz hS hl
theorem ap_ior {a b r : Int} (hd : decode (am_c Y) pc = .ok (.ior, 1)) (h : Int32.ofInt a ||| Int32.ofInt b = Int32.ofInt r) (kk : am_W Y Q k n (pc + 1) lv (am_i r :: st) N μ) : am_W Y Q k n pc lv (am_i b :: am_i a :: st) N μ := by
  intro p l e s m args below meth c bs D dA S H locs ls hP hz hS hl
  refine lv_ior S.1 S.2.1 hd ?_
  rw [h]
  exact kk p l e s m args below meth c bs D dA S H locs ls hP hz hS hl
theorem ap_ishl {a b r : Int} (hd : decode (am_c Y) pc = .ok (.ishl, 1)) (h : Int32.ofInt a <<< (Int32.ofInt b &&& 31) = Int32.ofInt r) (kk : am_W Y Q k n (pc + 1) lv (am_i r :: st) N μ) : am_W Y Q k n pc lv (am_i b :: am_i a :: st) N μ := by
  intro p l e s m args below meth c bs D dA S H locs ls hP hz hS hl
  refine lv_ishl S.1 S.2.1 hd ?_
  rw [h]
  exact kk p l e s m args below meth c bs D dA S H locs ls hP hz hS hl
theorem ap_ishr {a b r : Int} (hd : decode (am_c Y) pc = .ok (.ishr, 1)) (h : Int32.ofInt a >>> (Int32.ofInt b &&& 31) = Int32.ofInt r) (kk : am_W Y Q k n (pc + 1) lv (am_i r :: st) N μ) : am_W Y Q k n pc lv (am_i b :: am_i a :: st) N μ := by
  intro p l e s m args below meth c bs D dA S H locs ls hP hz hS hl
  refine lv_ishr S.1 S.2.1 hd ?_
  rw [h]
  exact kk p l e s m args below meth c bs D dA S H locs ls hP hz hS hl
theorem ap_lshl {a b r : Int} (hd : decode (am_c Y) pc = .ok (.lshl, 1)) (h : Int64.ofInt a <<< ((Int32.ofInt b).toInt64 &&& 63) = Int64.ofInt r) (kk : am_W Y Q k n (pc + 1) lv (am_l r :: st) N μ) : am_W Y Q k n pc lv (am_i b :: am_l a :: st) N μ := by
  intro p l e s m args below meth c bs D dA S H locs ls hP hz hS hl
  exact lv_lshl S.1 S.2.1 hd h (kk p l e s m args below meth c bs D dA S H locs ls hP hz hS hl)
theorem ap_lshr {a b r : Int} (hd : decode (am_c Y) pc = .ok (.lshr, 1)) (h : Int64.ofInt a >>> ((Int32.ofInt b).toInt64 &&& 63) = Int64.ofInt r) (kk : am_W Y Q k n (pc + 1) lv (am_l r :: st) N μ) : am_W Y Q k n pc lv (am_i b :: am_l a :: st) N μ := by
  intro p l e s m args below meth c bs D dA S H locs ls hP hz hS hl
  exact lv_lshr S.1 S.2.1 hd h (kk p l e s m args below meth c bs D dA S H locs ls hP hz hS hl)
theorem ap_dup {v : Value} (hd : decode (am_c Y) pc = .ok (.dup, 1)) (h : v.category = 1) (kk : am_W Y Q k n (pc + 1) lv (v :: v :: st) N μ) : am_W Y Q k n pc lv (v :: st) N μ := by
  intro p l e s m args below meth c bs D dA S H locs ls hP hz hS hl
  exact lv_dup S.1 S.2.1 hd (by rw [am_v_cat]; exact h) (kk p l e s m args below meth c bs D dA S H locs ls hP hz hS hl)
theorem ap_dup2 {v w : Value} (hd : decode (am_c Y) pc = .ok (.dup2, 1)) (h : v.category = 1) (h2 : w.category = 1) (kk : am_W Y Q k n (pc + 1) lv (v :: w :: v :: w :: st) N μ) : am_W Y Q k n pc lv (v :: w :: st) N μ := by
  intro p l e s m args below meth c bs D dA S H locs ls hP hz hS hl
  exact lv_dup2_11 S.1 S.2.1 hd (by rw [am_v_cat]; exact h) (by rw [am_v_cat]; exact h2) (kk p l e s m args below meth c bs D dA S H locs ls hP hz hS hl)
theorem ap_pop {v : Value} (hd : decode (am_c Y) pc = .ok (.pop, 1)) (h : v.category = 1) (kk : am_W Y Q k n (pc + 1) lv st N μ) : am_W Y Q k n pc lv (v :: st) N μ := by
  intro p l e s m args below meth c bs D dA S H locs ls hP hz hS hl
  exact lv_pop S.1 S.2.1 hd (by rw [am_v_cat]; exact h) (kk p l e s m args below meth c bs D dA S H locs ls hP hz hS hl)
theorem ap_icmp_eq {a b : Int} {off : Int} {tgt : Nat} (hd : decode (am_c Y) pc = .ok (.if_icmp .eq off, 3)) (ht : (pc : Int) + off = (tgt : Int)) (h : (-2147483648 ≤ a ∧ a ≤ 2147483647) ∧ (-2147483648 ≤ b ∧ b ≤ 2147483647)) (kt : (a = b) → am_W Y Q k n tgt lv st N μ) (kf : ¬ (a = b) → am_W Y Q k n (pc + 3) lv st N μ) : am_W Y Q k n pc lv (am_i b :: am_i a :: st) N μ := by
  intro p l e s m args below meth c bs D dA S H locs ls hP hz hS hl
  exact lv_icmp_eq S.1 S.2.1 hd ht (fun q => kt ((am_eq3 h).mp q) p l e s m args below meth c bs D dA S H locs ls hP hz hS hl) (fun q => kf (fun z => q ((am_eq3 h).mpr z)) p l e s m args below meth c bs D dA S H locs ls hP hz hS hl)
theorem ap_icmp_lt {a b : Int} {off : Int} {tgt : Nat} (hd : decode (am_c Y) pc = .ok (.if_icmp .lt off, 3)) (ht : (pc : Int) + off = (tgt : Int)) (h : (-2147483648 ≤ a ∧ a ≤ 2147483647) ∧ (-2147483648 ≤ b ∧ b ≤ 2147483647)) (kt : (a < b) → am_W Y Q k n tgt lv st N μ) (kf : ¬ (a < b) → am_W Y Q k n (pc + 3) lv st N μ) : am_W Y Q k n pc lv (am_i b :: am_i a :: st) N μ := by
  intro p l e s m args below meth c bs D dA S H locs ls hP hz hS hl
  exact lv_icmp_lt S.1 S.2.1 hd ht (fun q => kt ((am_lt3 h).mp q) p l e s m args below meth c bs D dA S H locs ls hP hz hS hl) (fun q => kf (fun z => q ((am_lt3 h).mpr z)) p l e s m args below meth c bs D dA S H locs ls hP hz hS hl)
theorem ap_icmp_le {a b : Int} {off : Int} {tgt : Nat} (hd : decode (am_c Y) pc = .ok (.if_icmp .le off, 3)) (ht : (pc : Int) + off = (tgt : Int)) (h : (-2147483648 ≤ a ∧ a ≤ 2147483647) ∧ (-2147483648 ≤ b ∧ b ≤ 2147483647)) (kt : (a ≤ b) → am_W Y Q k n tgt lv st N μ) (kf : ¬ (a ≤ b) → am_W Y Q k n (pc + 3) lv st N μ) : am_W Y Q k n pc lv (am_i b :: am_i a :: st) N μ := by
  intro p l e s m args below meth c bs D dA S H locs ls hP hz hS hl
  exact lv_icmp_le S.1 S.2.1 hd ht (fun q => kt ((am_le3 h).mp q) p l e s m args below meth c bs D dA S H locs ls hP hz hS hl) (fun q => kf (fun z => q ((am_le3 h).mpr z)) p l e s m args below meth c bs D dA S H locs ls hP hz hS hl)
theorem ap_icmp_ne {a b : Int} {off : Int} {tgt : Nat} (hd : decode (am_c Y) pc = .ok (.if_icmp .ne off, 3)) (ht : (pc : Int) + off = (tgt : Int)) (h : (-2147483648 ≤ a ∧ a ≤ 2147483647) ∧ (-2147483648 ≤ b ∧ b ≤ 2147483647)) (kt : ¬ (a = b) → am_W Y Q k n tgt lv st N μ) (kf : (a = b) → am_W Y Q k n (pc + 3) lv st N μ) : am_W Y Q k n pc lv (am_i b :: am_i a :: st) N μ := by
  intro p l e s m args below meth c bs D dA S H locs ls hP hz hS hl
  exact lv_icmp_ne S.1 S.2.1 hd ht (fun q => kt (fun z => q ((am_eq3 h).mpr z)) p l e s m args below meth c bs D dA S H locs ls hP hz hS hl) (fun q => kf ((am_eq3 h).mp q) p l e s m args below meth c bs D dA S H locs ls hP hz hS hl)
theorem ap_icmp_gt {a b : Int} {off : Int} {tgt : Nat} (hd : decode (am_c Y) pc = .ok (.if_icmp .gt off, 3)) (ht : (pc : Int) + off = (tgt : Int)) (h : (-2147483648 ≤ a ∧ a ≤ 2147483647) ∧ (-2147483648 ≤ b ∧ b ≤ 2147483647)) (kt : (b < a) → am_W Y Q k n tgt lv st N μ) (kf : ¬ (b < a) → am_W Y Q k n (pc + 3) lv st N μ) : am_W Y Q k n pc lv (am_i b :: am_i a :: st) N μ := by
  intro p l e s m args below meth c bs D dA S H locs ls hP hz hS hl
  exact lv_icmp_gt S.1 S.2.1 hd ht (fun q => kt ((am_lt3 ⟨h.2, h.1⟩).mp q) p l e s m args below meth c bs D dA S H locs ls hP hz hS hl) (fun q => kf (fun z => q ((am_lt3 ⟨h.2, h.1⟩).mpr z)) p l e s m args below meth c bs D dA S H locs ls hP hz hS hl)
theorem ap_icmp_ge {a b : Int} {off : Int} {tgt : Nat} (hd : decode (am_c Y) pc = .ok (.if_icmp .ge off, 3)) (ht : (pc : Int) + off = (tgt : Int)) (h : (-2147483648 ≤ a ∧ a ≤ 2147483647) ∧ (-2147483648 ≤ b ∧ b ≤ 2147483647)) (kt : (b ≤ a) → am_W Y Q k n tgt lv st N μ) (kf : ¬ (b ≤ a) → am_W Y Q k n (pc + 3) lv st N μ) : am_W Y Q k n pc lv (am_i b :: am_i a :: st) N μ := by
  intro p l e s m args below meth c bs D dA S H locs ls hP hz hS hl
  exact lv_icmp_ge S.1 S.2.1 hd ht (fun q => kt ((am_le3 ⟨h.2, h.1⟩).mp q) p l e s m args below meth c bs D dA S H locs ls hP hz hS hl) (fun q => kf (fun z => q ((am_le3 ⟨h.2, h.1⟩).mpr z)) p l e s m args below meth c bs D dA S H locs ls hP hz hS hl)
theorem ap_if_eq {a : Int} {off : Int} {tgt : Nat} (hd : decode (am_c Y) pc = .ok (.ifCond .eq off, 3)) (ht : (pc : Int) + off = (tgt : Int)) (h : (-2147483648 ≤ a ∧ a ≤ 2147483647)) (kt : (a = 0) → am_W Y Q k n tgt lv st N μ) (kf : ¬ (a = 0) → am_W Y Q k n (pc + 3) lv st N μ) : am_W Y Q k n pc lv (am_i a :: st) N μ := by
  intro p l e s m args below meth c bs D dA S H locs ls hP hz hS hl
  exact lv_if_eq S.1 S.2.1 hd ht (fun q => kt ((am_eq3 (b := 0) ⟨h, by decide, by decide⟩).mp q) p l e s m args below meth c bs D dA S H locs ls hP hz hS hl) (fun q => kf (fun z => q ((am_eq3 (b := 0) ⟨h, by decide, by decide⟩).mpr z)) p l e s m args below meth c bs D dA S H locs ls hP hz hS hl)
theorem ap_if_lt {a : Int} {off : Int} {tgt : Nat} (hd : decode (am_c Y) pc = .ok (.ifCond .lt off, 3)) (ht : (pc : Int) + off = (tgt : Int)) (h : (-2147483648 ≤ a ∧ a ≤ 2147483647)) (kt : (a < 0) → am_W Y Q k n tgt lv st N μ) (kf : ¬ (a < 0) → am_W Y Q k n (pc + 3) lv st N μ) : am_W Y Q k n pc lv (am_i a :: st) N μ := by
  intro p l e s m args below meth c bs D dA S H locs ls hP hz hS hl
  exact lv_if_lt S.1 S.2.1 hd ht (fun q => kt ((am_lt3 (b := 0) ⟨h, by decide, by decide⟩).mp q) p l e s m args below meth c bs D dA S H locs ls hP hz hS hl) (fun q => kf (fun z => q ((am_lt3 (b := 0) ⟨h, by decide, by decide⟩).mpr z)) p l e s m args below meth c bs D dA S H locs ls hP hz hS hl)
theorem ap_if_le {a : Int} {off : Int} {tgt : Nat} (hd : decode (am_c Y) pc = .ok (.ifCond .le off, 3)) (ht : (pc : Int) + off = (tgt : Int)) (h : (-2147483648 ≤ a ∧ a ≤ 2147483647)) (kt : (a ≤ 0) → am_W Y Q k n tgt lv st N μ) (kf : ¬ (a ≤ 0) → am_W Y Q k n (pc + 3) lv st N μ) : am_W Y Q k n pc lv (am_i a :: st) N μ := by
  intro p l e s m args below meth c bs D dA S H locs ls hP hz hS hl
  exact lv_if_le S.1 S.2.1 hd ht (fun q => kt ((am_le3 (b := 0) ⟨h, by decide, by decide⟩).mp q) p l e s m args below meth c bs D dA S H locs ls hP hz hS hl) (fun q => kf (fun z => q ((am_le3 (b := 0) ⟨h, by decide, by decide⟩).mpr z)) p l e s m args below meth c bs D dA S H locs ls hP hz hS hl)
theorem ap_if_ne {a : Int} {off : Int} {tgt : Nat} (hd : decode (am_c Y) pc = .ok (.ifCond .ne off, 3)) (ht : (pc : Int) + off = (tgt : Int)) (h : (-2147483648 ≤ a ∧ a ≤ 2147483647)) (kt : ¬ (a = 0) → am_W Y Q k n tgt lv st N μ) (kf : (a = 0) → am_W Y Q k n (pc + 3) lv st N μ) : am_W Y Q k n pc lv (am_i a :: st) N μ := by
  intro p l e s m args below meth c bs D dA S H locs ls hP hz hS hl
  exact lv_if_ne S.1 S.2.1 hd ht (fun q => kt (fun z => q ((am_eq3 (b := 0) ⟨h, by decide, by decide⟩).mpr z)) p l e s m args below meth c bs D dA S H locs ls hP hz hS hl) (fun q => kf ((am_eq3 (b := 0) ⟨h, by decide, by decide⟩).mp q) p l e s m args below meth c bs D dA S H locs ls hP hz hS hl)
theorem ap_if_gt {a : Int} {off : Int} {tgt : Nat} (hd : decode (am_c Y) pc = .ok (.ifCond .gt off, 3)) (ht : (pc : Int) + off = (tgt : Int)) (h : (-2147483648 ≤ a ∧ a ≤ 2147483647)) (kt : (0 < a) → am_W Y Q k n tgt lv st N μ) (kf : ¬ (0 < a) → am_W Y Q k n (pc + 3) lv st N μ) : am_W Y Q k n pc lv (am_i a :: st) N μ := by
  intro p l e s m args below meth c bs D dA S H locs ls hP hz hS hl
  exact lv_if_gt S.1 S.2.1 hd ht (fun q => kt ((am_lt3 (a := 0) ⟨⟨by decide, by decide⟩, h⟩).mp q) p l e s m args below meth c bs D dA S H locs ls hP hz hS hl) (fun q => kf (fun z => q ((am_lt3 (a := 0) ⟨⟨by decide, by decide⟩, h⟩).mpr z)) p l e s m args below meth c bs D dA S H locs ls hP hz hS hl)
theorem ap_if_ge {a : Int} {off : Int} {tgt : Nat} (hd : decode (am_c Y) pc = .ok (.ifCond .ge off, 3)) (ht : (pc : Int) + off = (tgt : Int)) (h : (-2147483648 ≤ a ∧ a ≤ 2147483647)) (kt : (0 ≤ a) → am_W Y Q k n tgt lv st N μ) (kf : ¬ (0 ≤ a) → am_W Y Q k n (pc + 3) lv st N μ) : am_W Y Q k n pc lv (am_i a :: st) N μ := by
  intro p l e s m args below meth c bs D dA S H locs ls hP hz hS hl
  exact lv_if_ge S.1 S.2.1 hd ht (fun q => kt ((am_le3 (a := 0) ⟨⟨by decide, by decide⟩, h⟩).mp q) p l e s m args below meth c bs D dA S H locs ls hP hz hS hl) (fun q => kf (fun z => q ((am_le3 (a := 0) ⟨⟨by decide, by decide⟩, h⟩).mpr z)) p l e s m args below meth c bs D dA S H locs ls hP hz hS hl)
theorem ap_lcmp_ne {a b : Int} {off : Int} {tgt : Nat} (hd : decode (am_c Y) pc = .ok (.lcmp, 1)) (hd2 : decode (am_c Y) (pc + 1) = .ok (.ifCond .ne off, 3)) (ht : ((pc + 1 : Nat) : Int) + off = (tgt : Int)) (h : (-9223372036854775808 ≤ a ∧ a ≤ 9223372036854775807) ∧ (-9223372036854775808 ≤ b ∧ b ≤ 9223372036854775807)) (kt : ¬ a = b → am_W Y Q k n tgt lv st N μ) (kf : a = b → am_W Y Q k n (pc + 4) lv st N μ) : am_W Y Q k n pc lv (am_l b :: am_l a :: st) N μ := by
  intro p l e s m args below meth c bs D dA S H locs ls hP hz hS hl
  refine W.lcmp S.1 S.2.1 hd ?_
  refine lv_if_ne S.1 S.2.1 hd2 ht (fun q => kt (fun z => q ?_) p l e s m args below meth c bs D dA S H locs ls hP hz hS hl) (fun q => kf ?_ p l e s m args below meth c bs D dA S H locs ls hP hz hS hl)
  · simp only [lg_cmp, gt_iff_lt, am_lt6 ⟨h.2, h.1⟩, am_eq6 h]; split <;> (try split) <;> first | omega | decide
  · revert q; simp only [lg_cmp, gt_iff_lt, am_lt6 ⟨h.2, h.1⟩, am_eq6 h]; split <;> (try split) <;> (intro q; first | omega | (exact absurd q (by decide)))
theorem ap_lcmp_eq {a b : Int} {off : Int} {tgt : Nat} (hd : decode (am_c Y) pc = .ok (.lcmp, 1)) (hd2 : decode (am_c Y) (pc + 1) = .ok (.ifCond .eq off, 3)) (ht : ((pc + 1 : Nat) : Int) + off = (tgt : Int)) (h : (-9223372036854775808 ≤ a ∧ a ≤ 9223372036854775807) ∧ (-9223372036854775808 ≤ b ∧ b ≤ 9223372036854775807)) (kt : (a = b) → am_W Y Q k n tgt lv st N μ) (kf : ¬ (a = b) → am_W Y Q k n (pc + 4) lv st N μ) : am_W Y Q k n pc lv (am_l b :: am_l a :: st) N μ := by
  intro p l e s m args below meth c bs D dA S H locs ls hP hz hS hl
  refine W.lcmp S.1 S.2.1 hd ?_
  refine lv_if_eq S.1 S.2.1 hd2 ht (fun q => kt ?_ p l e s m args below meth c bs D dA S H locs ls hP hz hS hl) (fun q => kf (fun z => q ?_) p l e s m args below meth c bs D dA S H locs ls hP hz hS hl)
  · revert q; simp only [lg_cmp, gt_iff_lt, am_lt6 ⟨h.2, h.1⟩, am_eq6 h]; split <;> (try split) <;> (intro q; first | omega | (exact absurd q (by decide)))
  · simp only [lg_cmp, gt_iff_lt, am_lt6 ⟨h.2, h.1⟩, am_eq6 h]; split <;> (try split) <;> first | omega | decide
theorem ap_lcmp_lt {a b : Int} {off : Int} {tgt : Nat} (hd : decode (am_c Y) pc = .ok (.lcmp, 1)) (hd2 : decode (am_c Y) (pc + 1) = .ok (.ifCond .lt off, 3)) (ht : ((pc + 1 : Nat) : Int) + off = (tgt : Int)) (h : (-9223372036854775808 ≤ a ∧ a ≤ 9223372036854775807) ∧ (-9223372036854775808 ≤ b ∧ b ≤ 9223372036854775807)) (kt : (a < b) → am_W Y Q k n tgt lv st N μ) (kf : ¬ (a < b) → am_W Y Q k n (pc + 4) lv st N μ) : am_W Y Q k n pc lv (am_l b :: am_l a :: st) N μ := by
  intro p l e s m args below meth c bs D dA S H locs ls hP hz hS hl
  refine W.lcmp S.1 S.2.1 hd ?_
  refine lv_if_lt S.1 S.2.1 hd2 ht (fun q => kt ?_ p l e s m args below meth c bs D dA S H locs ls hP hz hS hl) (fun q => kf (fun z => q ?_) p l e s m args below meth c bs D dA S H locs ls hP hz hS hl)
  · revert q; simp only [lg_cmp, gt_iff_lt, am_lt6 ⟨h.2, h.1⟩, am_eq6 h]; split <;> (try split) <;> (intro q; first | omega | (exact absurd q (by decide)))
  · simp only [lg_cmp, gt_iff_lt, am_lt6 ⟨h.2, h.1⟩, am_eq6 h]; split <;> (try split) <;> first | omega | decide
theorem ap_lcmp_ge {a b : Int} {off : Int} {tgt : Nat} (hd : decode (am_c Y) pc = .ok (.lcmp, 1)) (hd2 : decode (am_c Y) (pc + 1) = .ok (.ifCond .ge off, 3)) (ht : ((pc + 1 : Nat) : Int) + off = (tgt : Int)) (h : (-9223372036854775808 ≤ a ∧ a ≤ 9223372036854775807) ∧ (-9223372036854775808 ≤ b ∧ b ≤ 9223372036854775807)) (kt : (b ≤ a) → am_W Y Q k n tgt lv st N μ) (kf : ¬ (b ≤ a) → am_W Y Q k n (pc + 4) lv st N μ) : am_W Y Q k n pc lv (am_l b :: am_l a :: st) N μ := by
  intro p l e s m args below meth c bs D dA S H locs ls hP hz hS hl
  refine W.lcmp S.1 S.2.1 hd ?_
  refine lv_if_ge S.1 S.2.1 hd2 ht (fun q => kt ?_ p l e s m args below meth c bs D dA S H locs ls hP hz hS hl) (fun q => kf (fun z => q ?_) p l e s m args below meth c bs D dA S H locs ls hP hz hS hl)
  · revert q; simp only [lg_cmp, gt_iff_lt, am_lt6 ⟨h.2, h.1⟩, am_eq6 h]; split <;> (try split) <;> (intro q; first | omega | (exact absurd q (by decide)))
  · simp only [lg_cmp, gt_iff_lt, am_lt6 ⟨h.2, h.1⟩, am_eq6 h]; split <;> (try split) <;> first | omega | decide
theorem ap_lcmp_gt {a b : Int} {off : Int} {tgt : Nat} (hd : decode (am_c Y) pc = .ok (.lcmp, 1)) (hd2 : decode (am_c Y) (pc + 1) = .ok (.ifCond .gt off, 3)) (ht : ((pc + 1 : Nat) : Int) + off = (tgt : Int)) (h : (-9223372036854775808 ≤ a ∧ a ≤ 9223372036854775807) ∧ (-9223372036854775808 ≤ b ∧ b ≤ 9223372036854775807)) (kt : (b < a) → am_W Y Q k n tgt lv st N μ) (kf : ¬ (b < a) → am_W Y Q k n (pc + 4) lv st N μ) : am_W Y Q k n pc lv (am_l b :: am_l a :: st) N μ := by
  intro p l e s m args below meth c bs D dA S H locs ls hP hz hS hl
  refine W.lcmp S.1 S.2.1 hd ?_
  refine lv_if_gt S.1 S.2.1 hd2 ht (fun q => kt ?_ p l e s m args below meth c bs D dA S H locs ls hP hz hS hl) (fun q => kf (fun z => q ?_) p l e s m args below meth c bs D dA S H locs ls hP hz hS hl)
  · revert q; simp only [lg_cmp, gt_iff_lt, am_lt6 ⟨h.2, h.1⟩, am_eq6 h]; split <;> (try split) <;> (intro q; first | omega | (exact absurd q (by decide)))
  · simp only [lg_cmp, gt_iff_lt, am_lt6 ⟨h.2, h.1⟩, am_eq6 h]; split <;> (try split) <;> first | omega | decide
theorem ap_lcmp_le {a b : Int} {off : Int} {tgt : Nat} (hd : decode (am_c Y) pc = .ok (.lcmp, 1)) (hd2 : decode (am_c Y) (pc + 1) = .ok (.ifCond .le off, 3)) (ht : ((pc + 1 : Nat) : Int) + off = (tgt : Int)) (h : (-9223372036854775808 ≤ a ∧ a ≤ 9223372036854775807) ∧ (-9223372036854775808 ≤ b ∧ b ≤ 9223372036854775807)) (kt : (a ≤ b) → am_W Y Q k n tgt lv st N μ) (kf : ¬ (a ≤ b) → am_W Y Q k n (pc + 4) lv st N μ) : am_W Y Q k n pc lv (am_l b :: am_l a :: st) N μ := by
  intro p l e s m args below meth c bs D dA S H locs ls hP hz hS hl
  refine W.lcmp S.1 S.2.1 hd ?_
  refine lv_if_le S.1 S.2.1 hd2 ht (fun q => kt ?_ p l e s m args below meth c bs D dA S H locs ls hP hz hS hl) (fun q => kf (fun z => q ?_) p l e s m args below meth c bs D dA S H locs ls hP hz hS hl)
  · revert q; simp only [lg_cmp, gt_iff_lt, am_lt6 ⟨h.2, h.1⟩, am_eq6 h]; split <;> (try split) <;> (intro q; first | omega | (exact absurd q (by decide)))
  · simp only [lg_cmp, gt_iff_lt, am_lt6 ⟨h.2, h.1⟩, am_eq6 h]; split <;> (try split) <;> first | omega | decide
theorem ap_goto {off : Int} {tgt : Nat} (hd : decode (am_c Y) pc = .ok (.goto off, 3)) (ht : (pc : Int) + off = (tgt : Int)) (kk : am_W Y Q k n tgt lv st N μ) : am_W Y Q k n pc lv st N μ := by
  intro p l e s m args below meth c bs D dA S H locs ls hP hz hS hl
  exact lv_goto S.1 S.2.1 hd ht (kk p l e s m args below meth c bs D dA S H locs ls hP hz hS hl)
theorem ap_ifnonnull {off : Int} {tgt a : Nat} (hd : decode (am_c Y) pc = .ok (.ifnonnull off, 3)) (ht : (pc : Int) + off = (tgt : Int)) (kk : am_W Y Q k n tgt lv st N μ) : am_W Y Q k n pc lv (.ref a :: st) N μ := by
  intro p l e s m args below meth c bs D dA S H locs ls hP hz hS hl
  exact lv_ifnonnull S.1 S.2.1 hd ht (kk p l e s m args below meth c bs D dA S H locs ls hP hz hS hl)
theorem ap_ifnonnullN {off : Int} (hd : decode (am_c Y) pc = .ok (.ifnonnull off, 3)) (kk : am_W Y Q k n (pc + 3) lv st N μ) : am_W Y Q k n pc lv (.null :: st) N μ := by
  intro p l e s m args below meth c bs D dA S H locs ls hP hz hS hl
  exact lv_ifnonnullN S.1 S.2.1 hd (kk p l e s m args below meth c bs D dA S H locs ls hP hz hS hl)
theorem ap_ifnull {off : Int} {a : Nat} (hd : decode (am_c Y) pc = .ok (.ifnull off, 3)) (kk : am_W Y Q k n (pc + 3) lv st N μ) : am_W Y Q k n pc lv (.ref a :: st) N μ := by
  intro p l e s m args below meth c bs D dA S H locs ls hP hz hS hl
  exact lv_ifnull S.1 S.2.1 hd (kk p l e s m args below meth c bs D dA S H locs ls hP hz hS hl)
theorem ap_ifnullN {off : Int} {tgt : Nat} (hd : decode (am_c Y) pc = .ok (.ifnull off, 3)) (ht : (pc : Int) + off = (tgt : Int)) (kk : am_W Y Q k n tgt lv st N μ) : am_W Y Q k n pc lv (.null :: st) N μ := by
  intro p l e s m args below meth c bs D dA S H locs ls hP hz hS hl
  exact lv_ifnullN S.1 S.2.1 hd ht (kk p l e s m args below meth c bs D dA S H locs ls hP hz hS hl)
theorem ap_widen {k2 n2 : Nat} (h1 : k ≤ k2) (h2 : n ≤ n2) (kk : am_W Y Q k2 n2 pc lv st N μ) : am_W Y Q k n pc lv st N μ := by
  intro p l e s m args below meth c bs D dA S H locs ls hP hz hS hl
  exact W.widen h1 h2 (kk p l e s m args below meth c bs D dA S H locs ls hP hz hS hl)
theorem ap_lvs {lv2 : List (Nat × Value)} (h : ∀ q ∈ lv2, q ∈ lv) (kk : am_W Y Q k n pc lv2 st N μ) : am_W Y Q k n pc lv st N μ := by
  intro p l e s m args below meth c bs D dA S H locs ls hP hz hS hl
  refine kk p l e s m args below meth c bs D dA S H locs ls hP hz hS ⟨hl.1, hl.2.1, fun q hq => ?_⟩
  obtain ⟨x, hx, rfl⟩ := List.mem_map.mp hq
  exact hl.2.2 _ (List.mem_map.mpr ⟨x, h x hx, rfl⟩)
theorem ap_iret {a : Int} {ty : FieldType} (hd : decode (am_c Y) pc = .ok (.ireturn, 1)) (hr : am_t Y = some ty) (hn : narrow ty (.int (Int32.ofInt a)) = .int (Int32.ofInt a)) (hk : k ≤ (am_r Y).cells) (hs : n ≤ (am_r Y).slots) (hq : Q (some (am_i a)) N μ) : am_W Y Q k n pc lv [am_i a] N μ := by
  intro p l e s m args below meth c bs D dA S H locs ls hP hz hS hl
  refine W.widen hk hs ?_
  have hlocks : meth.locks = false := S.2.2.2.2.1
  exact W.zret S.1 S.2.1 (S.2.2.2.1.trans hr) hn (fun t ht hW => ⟨⟨some (am_i a), N, μ, rfl, hq, by rw [ht]; exact hP, by rw [ht]; exact hz⟩, hS.F ht⟩) hS.2.2 hd
theorem ap_lret {a : Int} (hd : decode (am_c Y) pc = .ok (.lreturn, 1)) (hr : am_t Y = some .long) (hk : k ≤ (am_r Y).cells) (hs : n ≤ (am_r Y).slots) (hq : Q (some (am_l a)) N μ) : am_W Y Q k n pc lv [am_l a] N μ := by
  intro p l e s m args below meth c bs D dA S H locs ls hP hz hS hl
  refine W.widen hk hs ?_
  have hlocks : meth.locks = false := S.2.2.2.2.1
  exact W.lret S.1 S.2.1 (S.2.2.2.1.trans hr) (fun t ht hW => ⟨⟨some (am_l a), N, μ, rfl, hq, by rw [ht]; exact hP, by rw [ht]; exact hz⟩, hS.F ht⟩) hS.2.2 hd
theorem ap_vret (hd : decode (am_c Y) pc = .ok (.return_, 1)) (hr : am_t Y = none) (hk : k ≤ (am_r Y).cells) (hs : n ≤ (am_r Y).slots) (hq : Q none N μ) : am_W Y Q k n pc lv [] N μ := by
  intro p l e s m args below meth c bs D dA S H locs ls hP hz hS hl
  refine W.widen hk hs ?_
  have hlocks : meth.locks = false := S.2.2.2.2.1
  exact W.vret S.1 S.2.1 (S.2.2.2.1.trans hr) (fun t ht hW => ⟨⟨none, N, μ, rfl, hq, by rw [ht]; exact hP, by rw [ht]; exact hz⟩, hS.F ht⟩) hS.2.2 hd
theorem ap_aret {v : Value} {rt : FieldType} (hd : decode (am_c Y) pc = .ok (.areturn, 1)) (hr : am_t Y = some rt) (hrt : (∃ n, rt = .object n) ∨ ∃ t, rt = .array t) (hv : v = .null ∨ ∃ a, v = .ref a) (hk : k ≤ (am_r Y).cells) (hs : n ≤ (am_r Y).slots) (hq : Q (some v) N μ) : am_W Y Q k n pc lv [v] N μ := by
  intro p l e s m args below meth c bs D dA S H locs ls hP hz hS hl
  refine W.widen hk hs ?_
  have hlocks : meth.locks = false := S.2.2.2.2.1
  refine W.aret S.1 S.2.1 (S.2.2.2.1.trans hr) hrt ?_ (fun t ht hW => ⟨⟨some v, N, μ, rfl, hq, by rw [ht]; exact hP, by rw [ht]; exact hz⟩, hS.F ht⟩) hS.2.2 hd
  rcases hv with rfl | ⟨a, rfl⟩
  · exact Or.inl rfl
  · exact Or.inr ⟨_, rfl⟩
theorem ap_tableOut {dflt lo hi : Int} {offs : Array Int} {len : Nat} {a : Int} {tgt : Nat} (hd : decode (am_c Y) pc = .ok (.tableswitch dflt lo hi offs, len)) (hr : (-2147483648 ≤ a ∧ a ≤ 2147483647)) (h : a < lo ∨ hi < a) (ht : (pc : Int) + dflt = (tgt : Int)) (kk : am_W Y Q k n tgt lv st N μ) : am_W Y Q k n pc lv (am_i a :: st) N μ := by
  intro p l e s m args below meth c bs D dA S H locs ls hP hz hS hl
  exact lv_tableOut S.1 S.2.1 hd (by rw [am_to3 hr]; exact h) ht (kk p l e s m args below meth c bs D dA S H locs ls hP hz hS hl)
theorem ap_tableIn {dflt lo hi : Int} {offs : Array Int} {len : Nat} {a off : Int} {tgt : Nat} (hd : decode (am_c Y) pc = .ok (.tableswitch dflt lo hi offs, len)) (hr : (-2147483648 ≤ a ∧ a ≤ 2147483647)) (h1 : lo ≤ a ∧ a ≤ hi) (ho : offs[(a - lo).toNat]? = some off) (ht : (pc : Int) + off = (tgt : Int)) (kk : am_W Y Q k n tgt lv st N μ) : am_W Y Q k n pc lv (am_i a :: st) N μ := by
  intro p l e s m args below meth c bs D dA S H locs ls hP hz hS hl
  exact lv_tableIn S.1 S.2.1 hd (by rw [am_to3 hr]; omega) (by rw [am_to3 hr]; omega) (by rw [am_to3 hr]; exact ho) ht (kk p l e s m args below meth c bs D dA S H locs ls hP hz hS hl)
theorem ap_lookup {dflt : Int} {ps : Array (Int × Int)} {len : Nat} {a off : Int} {tgt : Nat} (hd : decode (am_c Y) pc = .ok (.lookupswitch dflt ps, len)) (hr : (-2147483648 ≤ a ∧ a ≤ 2147483647)) (hp : (ps.toList.zip (ps.toList.drop 1)).all (fun (a, next) => a.1 < next.1) = true) (ho : Op.lookupswitch.offset ps.toList dflt a = off) (ht : (pc : Int) + off = (tgt : Int)) (kk : am_W Y Q k n tgt lv st N μ) : am_W Y Q k n pc lv (am_i a :: st) N μ := by
  intro p l e s m args below meth c bs D dA S H locs ls hP hz hS hl
  exact lv_lookup S.1 S.2.1 hd hp (by rw [am_to3 hr]; exact ho) ht (kk p l e s m args below meth c bs D dA S H locs ls hP hz hS hl)
end
end
section
/-! rows of the abstract layer that touch the memory, and calls -/
-- facts of a field, by the class whose instruction names it and its number in the constant pool
def am_ff (own : String) (idx ci j : Nat) : Prop := ∃ (C : String) (T : u_T) (M : Nat), (∀ w ∈ u_ws C T M, w ∈ am_tb) ∧ am_cl[ci]? = some (C, T, M) ∧ j < M ∧ Cond.fieldLink own idx (T j).1 (T j).2.1 (T j).2.2.1 ∈ am_tb
def am_fn (own : String) (idx ci j : Nat) : Prop := ∃ (C : String) (T : u_T) (M : Nat) (host : String), (∀ w ∈ u_ws C T M, w ∈ am_tb) ∧ am_cl[ci]? = some (C, T, M) ∧ j < M ∧ Cond.fieldLinkNest own idx (T j).1 (T j).2.1 (T j).2.2.1 host ∈ am_nw
-- facts of a class: field types, names apart
def am_fc (ci : Nat) (j : Nat) (fin : Bool) (ty : FieldType) : Prop := ∃ (C : String) (T : u_T) (M : Nat) (ty0 : Nat → FieldType), am_cl[ci]? = some (C, T, M) ∧ (∀ k, k < M → parseFieldDescriptor (T k).2.2.1 = some (ty0 k)) ∧ (∀ a, a < M → ∀ b, b < M → a ≠ b → (T a).2.1 ≠ (T b).2.1) ∧ (T j).2.2.2 = fin ∧ parseFieldDescriptor (T j).2.2.1 = some ty ∧ (T j).1 = C
def am_nc (own : String) (idx ci : Nat) (fs : List Value) : Prop := ∃ (C : String) (T : u_T) (M : Nat) (ty0 : Nat → FieldType), (∀ w ∈ u_ws C T M, w ∈ am_tb) ∧ am_cl[ci]? = some (C, T, M) ∧ (∀ k, k < M → parseFieldDescriptor (T k).2.2.1 = some (ty0 k)) ∧ (∀ j, j < M → ∀ bs : Nat, defaultValue (ty0 j) = vp_V (fs.map (am_v bs)) j) ∧ Cond.classLink own idx C ∈ am_tb ∧ Cond.instantiable C M ∈ am_tb ∧ Cond.initialized C ∈ am_tb ∧ M = fs.length
theorem am_ty {dA : Nat → ClassId} {t : Nat} (h : t < 7) : ∃ ty, (am_tys dA)[t]? = some (dA t, ty) := by
  match t, h with
  | 0, _ => exact ⟨_, rfl⟩
  | 1, _ => exact ⟨_, rfl⟩
  | 2, _ => exact ⟨_, rfl⟩
  | 3, _ => exact ⟨_, rfl⟩
  | 4, _ => exact ⟨_, rfl⟩
  | 5, _ => exact ⟨_, rfl⟩
  | 6, _ => exact ⟨_, rfl⟩
  | t + 7, h => omega
theorem am_up {α β : Type} {g : α → β} {f : Nat → α} {j : Nat} {x : α} : va_up (fun i => g (f i)) j (g x) = fun i => g (va_up f j x i) := by
  funext i
  by_cases h : i = j <;> simp [va_up, h]
theorem am_upd {f : Nat → Int} {j : Nat} {x : Int} : upd (fun i => Int32.ofInt (f i)) j (Int32.ofInt x) = fun i => Int32.ofInt (va_up f j x i) := by
  funext i
  by_cases h : i = j <;> simp [va_up, upd, h]
theorem am_updL {f : Nat → Int} {j : Nat} {x : Int} : vp_updL (fun i => Int64.ofInt (f i)) j (Int64.ofInt x) = fun i => Int64.ofInt (va_up f j x i) := by
  funext i
  by_cases h : i = j <;> simp [va_up, vp_updL, h]
theorem am_ueq {μ : am_M} {a : Nat} {e : am_E} : am_u μ a e a = e := by simp [am_u]
theorem am_une {μ : am_M} {a : Nat} {e : am_E} : ∀ b, b ≠ a → am_u μ a e b = μ b := fun b h => by simp [am_u, h]
theorem am_bool {z : Int} (h : z = 0 ∨ z = 1) : ∀ bs : Nat, narrow .boolean (am_v bs (am_i z)) = am_v bs (am_i z) ∧ fits .boolean (am_v bs (am_i z)) = true := by
  intro bs
  rcases h with rfl | rfl <;> exact ⟨rfl, rfl⟩
theorem am_nz {z : Int} (h : z = 0 ∨ z = 1) : narrow .boolean (.int (Int32.ofInt z)) = .int (Int32.ofInt z) := by
  rcases h with rfl | rfl <;> rfl
theorem am_narz {z : Int} (h : z = 0 ∨ z = 1) : vp_nar .boolean (Int32.ofInt z) = Int32.ofInt z := by
  rcases h with rfl | rfl <;> rfl
theorem am_fk {bs : Nat} {s U : State} {H : Heap} {locs : List Loc} (hF : am_F (am_A bs) s s.heap) (hS : va_S (am_A bs) s.heap H locs) (hU : U.heap = H) (hW : s.WarmedH U.vm) : am_F (am_A bs) U U.heap := by
  rw [hU]
  exact ((hF.warm hW).kept (H1 := H) (fun a h1 h2 => hS.2.1 a h1 h2))
theorem am_blind {bs : Nat} {D : va_G} {dA : Nat → ClassId} {N : Nat} {μ : am_M} {av : List Value} : FrameBlind (va_Pc av (am_pre bs D dA N μ)) := by
  intro a U g mk h
  obtain ⟨h0, h1, h2, h3, h4⟩ := h
  exact ⟨h0, h1, h2, va_K.moved (u := U) (U := U.calling g mk a) (Vm.Alike.refl U.vm) h3, am_F.same (s := U) (U := U.calling g mk a) rfl h4⟩
theorem am_good {w : Cond} (h : w ∈ am_tb) : GoodIn am_tb (w :: am_tb) := by
  intro x hx
  have hx' : x ∈ am_tb := by
    rcases List.mem_cons.mp hx with rfl | h2
    · exact h
    · exact h2
  exact ⟨hx', good_of_word (List.mem_filter.mp hx').2⟩
section
variable {p : Program} {l : Launch} {e : Env} {R : Room} {s : State} {m : MethodId} {args : Array Value} {below : List Frame} {meth : Method} {c : Code} {H : Heap} {locs : List Loc} {cells slots : Nat} {Qq : State → Prop}
theorem am_run {bs : Nat} {D : va_G} {dA : Nat → ClassId} {Q2 : Option Value → Nat → am_M → Prop} {pc mc ms : Nat} {ls : Array Slot} {st0 rest : List Value} {a : Array Value} (hr : va_Run p l e R s m args below meth c H locs cells slots mc ms (F0 m pc ls st0) rest (am_Qc Q2 bs D dA a) (am_A bs)) (hS : va_S (am_A bs) s.heap H locs)
    (kk : ∀ (r : Option Value) (N2 : Nat) (μ2 : am_M) (H1 : Heap) (locs1 : List Loc), Q2 r N2 μ2 → va_P D am_cl (am_w bs dA N2 μ2) H1 → H1.size = bs + N2 → va_S (am_A bs) s.heap H1 locs1 → W p l e R s m args below meth c H1 locs1 (cells + mc) (slots + ms) Qq (F0 m (pc + 3) ls ((r.map (am_v bs)).toList ++ rest))) : W p l e R s m args below meth c H locs cells slots Qq (F0 m pc ls st0) := by
  intro T hT X
  obtain ⟨v, st₀, t, T', L, h0, X', hL, e1, e2, ⟨⟨r, N2, μ2, hv, hq, hp, hsz⟩, hz, hk⟩, st⟩ := hr T hT X
  cases hv
  rw [h0] at hz hk
  obtain ⟨t2, a1, b1⟩ := kk r N2 μ2 T'.heap (locs ++ L) hq (by rw [e1]; exact hp) (by rw [e1]; exact hsz)
    ⟨Nat.le_trans hS.1 (by rw [e1]; exact hz), fun q h1 h2 => by rw [e1, hk q (Nat.lt_of_lt_of_le h1 hS.1) h2]; exact hS.2.1 q h1 h2, fun q hq => by
      rcases List.mem_append.mp hq with h | h
      · exact hS.2.2 q h
      · exact hL q h⟩ T' rfl X'
  exact ⟨t2, st t2 a1, b1⟩
end
section
variable {Y : am_Y} {Q : Option Value → Nat → am_M → Prop} {k n pc N : Nat} {lv : List (Nat × Value)} {st : List Value} {μ : am_M}
theorem ap_get {idx ci j a : Nat} {fs : List Value} {v : Value} (hf : am_ff Y.1.cls idx ci j) (hd : decode (am_c Y) pc = .ok (.getfield idx, 3)) (ha : a < N) (hm : μ a = am_O ci fs) (hv : fs[j]? = some v) (kk : am_W Y Q k n (pc + 3) lv (v :: st) N μ) : am_W Y Q k n pc lv (.ref a :: st) N μ := by
  intro p l e s m args below meth c bs D dA S H locs ls hP hz hS hl
  obtain ⟨C, T, M, f1, f2, f3, f4⟩ := hf
  exact va_get S.1 S.2.1 S.2.2.2.2.2.2.1 f1 S.2.2.2.2.2.1 S.2.2.2.2.2.2.2.1 hP a (fs := fs.map (am_v bs)) (by rw [am_w_get ha, hm]; rfl) f2 j f3 (S.2.2.2.2.2.2.1 _ f4) (fun _ h => h) (v := am_v bs v) (by rw [List.getElem?_map, hv]; rfl) hd (kk p l e s m args below meth c bs D dA S H locs ls hP hz hS hl)
theorem ap_getN {idx ci j a : Nat} {fs : List Value} {v : Value} (hf : am_fn Y.1.cls idx ci j) (hd : decode (am_c Y) pc = .ok (.getfield idx, 3)) (ha : a < N) (hm : μ a = am_O ci fs) (hv : fs[j]? = some v) (kk : am_W Y Q k n (pc + 3) lv (v :: st) N μ) : am_W Y Q k n pc lv (.ref a :: st) N μ := by
  intro p l e s m args below meth c bs D dA S H locs ls hP hz hS hl
  obtain ⟨C, T, M, host, f1, f2, f3, f4⟩ := hf
  exact va_getN S.1 S.2.1 S.2.2.2.2.2.2.1 f1 S.2.2.2.2.2.1 S.2.2.2.2.2.2.2.1 hP a (fs := fs.map (am_v bs)) (by rw [am_w_get ha, hm]; rfl) f2 j f3 (va_Nw.use rfl (S.2.2.2.2.2.2.2.2.2.2.1 _ f4)) (fun _ h => h) (v := am_v bs v) (by rw [List.getElem?_map, hv]; rfl) hd (kk p l e s m args below meth c bs D dA S H locs ls hP hz hS hl)
theorem ap_put {idx ci j a : Nat} {fs fs2 : List Value} {v : Value} {ty : FieldType} (hf : am_ff Y.1.cls idx ci j) (hc : am_fc ci j false ty) (hd : decode (am_c Y) pc = .ok (.putfield idx, 3)) (ha : a < N) (hm : μ a = am_O ci fs) (hn : ∀ bs : Nat, narrow ty (am_v bs v) = am_v bs v ∧ fits ty (am_v bs v) = true) (hl2 : j < fs.length) (h2 : fs.set j v = fs2) (kk : ∀ μ2 : am_M, μ2 a = am_O ci fs2 → (∀ b, b ≠ a → μ2 b = μ b) → am_W Y Q k n (pc + 3) lv st N μ2) : am_W Y Q k n pc lv (v :: .ref a :: st) N μ := by
  intro p l e s m args below meth c bs D dA S H locs ls hP hz hS hl
  obtain ⟨C, T, M, f1, f2, f3, f4⟩ := hf
  obtain ⟨C', T', M', ty0, g1, g2, g3, g4, g5, g6⟩ := hc
  cases f2.symm.trans g1
  have hts := S.2.2.2.2.2.2.1
  have hK := S.2.2.2.2.2.2.2.1
  have he : (am_w bs dA N μ)[a]? = some (bs + a, .inr (ci, fs.map (am_v bs))) := by rw [am_w_get ha, hm]; rfl
  have hap := va_apart (own := Y.1.cls) hts f1 ty0 g2 g3 hK f2
  obtain ⟨r, h1, cell, q1, q2, q3, q4⟩ := hP a _ he
  have hr : r = (C, T, M) := Option.some.inj (h1.symm.trans f2)
  subst hr
  obtain ⟨hSk, hfc, kC, hkC, hkind⟩ := hK.1 ci _ f2
  obtain ⟨cf, kf, fi, f, hi, hsl⟩ := hSk j f3
  have hlay := hts _ (f1 _ (u_in_lay f3))
  unfold u_lay at hlay
  rw [if_neg (by rw [g4]; decide)] at hlay
  have hst := (u_facts hfc hkC (u_lays hts f1 f3) hi).1
  have h6 := u_store hfc hkC hkind hlay hi g5 (hn bs).1 (hn bs).2
  refine W.putK S.1 S.2.1 (f := f) ⟨S.2.2.2.2.2.1, hts _ f4, ⟨_, _, _, hi⟩, hst⟩ (by rw [q2]; exact h6) q1 q3 (by rw [hsl]; exact k2_hasslot (q4 j f3)) rfl rfl hd fun H1 e1 z e3 => ?_
  rw [hsl] at e1 ⊢
  have hP1 := hP.set am_D he (e := .inr (ci, (fs.map (am_v bs)).set j (am_v bs v))) ⟨_, f2, t_OB.to (V := updV (vp_V (fs.map (am_v bs))) j (am_v bs v)) ⟨_, e1, q2, q3, t_set q4 hap f3 (am_v bs v)⟩ (fun j' _ => vp_updV_set (by rw [List.length_map]; exact hl2) (am_v bs v) j')⟩ e3
  rw [am_w_set (e := am_O ci fs2) (by subst h2; rw [← List.map_set]; rfl)] at hP1
  exact kk _ am_ueq am_une p l e s m args below meth c bs D dA S H1 _ ls hP1 (z.trans hz) (hS.put z e3 (am_D.2 a _ he)) hl
theorem ap_putN {idx ci j a : Nat} {fs fs2 : List Value} {v : Value} {ty : FieldType} (hf : am_fn Y.1.cls idx ci j) (hc : am_fc ci j false ty) (hd : decode (am_c Y) pc = .ok (.putfield idx, 3)) (ha : a < N) (hm : μ a = am_O ci fs) (hn : ∀ bs : Nat, narrow ty (am_v bs v) = am_v bs v ∧ fits ty (am_v bs v) = true) (hl2 : j < fs.length) (h2 : fs.set j v = fs2) (kk : ∀ μ2 : am_M, μ2 a = am_O ci fs2 → (∀ b, b ≠ a → μ2 b = μ b) → am_W Y Q k n (pc + 3) lv st N μ2) : am_W Y Q k n pc lv (v :: .ref a :: st) N μ := by
  intro p l e s m args below meth c bs D dA S H locs ls hP hz hS hl
  obtain ⟨C, T, M, host, f1, f2, f3, f4⟩ := hf
  obtain ⟨C', T', M', ty0, g1, g2, g3, g4, g5, g6⟩ := hc
  cases f2.symm.trans g1
  have hts := S.2.2.2.2.2.2.1
  have hK := S.2.2.2.2.2.2.2.1
  have he : (am_w bs dA N μ)[a]? = some (bs + a, .inr (ci, fs.map (am_v bs))) := by rw [am_w_get ha, hm]; rfl
  have hap := va_apart (own := Y.1.cls) hts f1 ty0 g2 g3 hK f2
  obtain ⟨r, h1, cell, q1, q2, q3, q4⟩ := hP a _ he
  have hr : r = (C, T, M) := Option.some.inj (h1.symm.trans f2)
  subst hr
  obtain ⟨hSk, hfc, kC, hkC, hkind⟩ := hK.1 ci _ f2
  obtain ⟨cf, kf, fi, f, hi, hsl⟩ := hSk j f3
  have hlay := hts _ (f1 _ (u_in_lay f3))
  unfold u_lay at hlay
  rw [if_neg (by rw [g4]; decide)] at hlay
  have hst := (u_facts hfc hkC (u_lays hts f1 f3) hi).1
  have h6 := u_store hfc hkC hkind hlay hi g5 (hn bs).1 (hn bs).2
  refine va_WputK S.1 S.2.1 (f := f) S.2.2.2.2.2.1 (va_Nw.use rfl (S.2.2.2.2.2.2.2.2.2.2.1 _ f4)) hi hst (by rw [q2]; exact h6) q1 q3 (by rw [hsl]; exact k2_hasslot (q4 j f3)) rfl rfl hd fun H1 e1 z e3 => ?_
  rw [hsl] at e1 ⊢
  have hP1 := hP.set am_D he (e := .inr (ci, (fs.map (am_v bs)).set j (am_v bs v))) ⟨_, f2, t_OB.to (V := updV (vp_V (fs.map (am_v bs))) j (am_v bs v)) ⟨_, e1, q2, q3, t_set q4 hap f3 (am_v bs v)⟩ (fun j' _ => vp_updV_set (by rw [List.length_map]; exact hl2) (am_v bs v) j')⟩ e3
  rw [am_w_set (e := am_O ci fs2) (by subst h2; rw [← List.map_set]; rfl)] at hP1
  exact kk _ am_ueq am_une p l e s m args below meth c bs D dA S H1 _ ls hP1 (z.trans hz) (hS.put z e3 (am_D.2 a _ he)) hl
theorem ap_putF {idx ci j a : Nat} {fs fs2 : List Value} {v : Value} {ty : FieldType} (hf : am_ff Y.1.cls idx ci j) (hc : am_fc ci j true ty) (hd : decode (am_c Y) pc = .ok (.putfield idx, 3)) (ha : a < N) (hm : μ a = am_O ci fs) (hn : ∀ bs : Nat, narrow ty (am_v bs v) = am_v bs v ∧ fits ty (am_v bs v) = true) (hl2 : j < fs.length) (h2 : fs.set j v = fs2) (hini : am_z Y = true) (ho : ∀ C T M, am_cl[ci]? = some (C, T, M) → C = Y.1.cls) (kk : ∀ μ2 : am_M, μ2 a = am_O ci fs2 → (∀ b, b ≠ a → μ2 b = μ b) → am_W Y Q k n (pc + 3) lv st N μ2) : am_W Y Q k n pc lv (v :: .ref a :: st) N μ := by
  intro p l e s m args below meth c bs D dA S H locs ls hP hz hS hl
  obtain ⟨C, T, M, f1, f2, f3, f4⟩ := hf
  obtain ⟨C', T', M', ty0, g1, g2, g3, g4, g5, g6⟩ := hc
  cases f2.symm.trans g1
  have hts := S.2.2.2.2.2.2.1
  have hK := S.2.2.2.2.2.2.2.1
  have he : (am_w bs dA N μ)[a]? = some (bs + a, .inr (ci, fs.map (am_v bs))) := by rw [am_w_get ha, hm]; rfl
  have hap := va_apart (own := Y.1.cls) hts f1 ty0 g2 g3 hK f2
  obtain ⟨r, h1, cell, q1, q2, q3, q4⟩ := hP a _ he
  have hr : r = (C, T, M) := Option.some.inj (h1.symm.trans f2)
  subst hr
  obtain ⟨hSk, hfc, kC, hkC, hkind⟩ := hK.1 ci _ f2
  obtain ⟨cf, kf, fi, f, hi, hsl⟩ := hSk j f3
  have hlay := hts _ (f1 _ (u_in_lay f3))
  unfold u_lay at hlay
  rw [if_pos g4] at hlay
  have hst := (u_facts hfc hkC (u_lays hts f1 f3) hi).1
  have hcf : m.cls = cf := by
    obtain ⟨_, _, c', _, _, _, -, -, hf', -, -, -, hown2, -⟩ := Cond.laysFinal_spec hlay
    have e1 : c' = cf := by have := hi.symm.trans hf'; simp at this; exact this.1.symm
    rw [g6, ho C T M f2] at hown2
    rw [← e1]; exact Option.some.inj (S.2.2.2.2.2.1.symm.trans hown2)
  have h6 := u_fits hfc hkC hkind (Or.inr hlay) hi g5 (hn bs).1 (hn bs).2
  refine W.putFinK S.1 S.2.1 S.2.2.2.2.2.1 (hts _ f4) hi hst hcf (S.2.2.2.2.2.2.2.2.2.1 hini) (by rw [q2]; exact h6) q1 q3 (by rw [hsl]; exact k2_hasslot (q4 j f3)) rfl rfl hd fun H1 e1 z e3 => ?_
  rw [hsl] at e1 ⊢
  have hP1 := hP.set am_D he (e := .inr (ci, (fs.map (am_v bs)).set j (am_v bs v))) ⟨_, f2, t_OB.to (V := updV (vp_V (fs.map (am_v bs))) j (am_v bs v)) ⟨_, e1, q2, q3, t_set q4 hap f3 (am_v bs v)⟩ (fun j' _ => vp_updV_set (by rw [List.length_map]; exact hl2) (am_v bs v) j')⟩ e3
  rw [am_w_set (e := am_O ci fs2) (by subst h2; rw [← List.map_set]; rfl)] at hP1
  exact kk _ am_ueq am_une p l e s m args below meth c bs D dA S H1 _ ls hP1 (z.trans hz) (hS.put z e3 (am_D.2 a _ he)) hl
theorem ap_iald {a j L : Nat} {z : Int} {f : Nat → Int} (hd : decode (am_c Y) pc = .ok (.iaload, 1)) (ha : a < N) (hm : μ a = am_I 0 L f) (hj : z = (j : Int) ∧ j < L) (hL : L < 2147483648) (kk : am_W Y Q k n (pc + 1) lv (am_i (f j) :: st) N μ) : am_W Y Q k n pc lv (am_i z :: .ref a :: st) N μ := by
  intro p l e s m args below meth c bs D dA S H locs ls hP hz hS hl
  obtain ⟨rfl, hj⟩ := hj
  refine va_iald S.1 S.2.1 S.2.2.2.2.2.2.2.1 hP a 0 (by rw [am_w_get ha, hm]; rfl) rfl (am_in3 rfl hj hL) hd ?_
  rw [am_tn3 (by omega)]
  exact kk p l e s m args below meth c bs D dA S H locs ls hP hz hS hl
theorem ap_cald {a j L : Nat} {z : Int} {f : Nat → Int} (hd : decode (am_c Y) pc = .ok (.caload, 1)) (ha : a < N) (hm : μ a = am_I 2 L f) (hj : z = (j : Int) ∧ j < L) (hL : L < 2147483648) (kk : am_W Y Q k n (pc + 1) lv (am_i (f j) :: st) N μ) : am_W Y Q k n pc lv (am_i z :: .ref a :: st) N μ := by
  intro p l e s m args below meth c bs D dA S H locs ls hP hz hS hl
  obtain ⟨rfl, hj⟩ := hj
  refine va_cald S.1 S.2.1 S.2.2.2.2.2.2.2.1 hP a 2 (by rw [am_w_get ha, hm]; rfl) rfl (am_in3 rfl hj hL) hd ?_
  rw [am_tn3 (by omega)]
  exact kk p l e s m args below meth c bs D dA S H locs ls hP hz hS hl
theorem ap_zald {a j L : Nat} {z : Int} {f : Nat → Int} (hd : decode (am_c Y) pc = .ok (.baload, 1)) (ha : a < N) (hm : μ a = am_I 3 L f) (hj : z = (j : Int) ∧ j < L) (hL : L < 2147483648) (kk : am_W Y Q k n (pc + 1) lv (am_i (f j) :: st) N μ) : am_W Y Q k n pc lv (am_i z :: .ref a :: st) N μ := by
  intro p l e s m args below meth c bs D dA S H locs ls hP hz hS hl
  obtain ⟨rfl, hj⟩ := hj
  refine va_zald S.1 S.2.1 S.2.2.2.2.2.2.2.1 hP a 3 (by rw [am_w_get ha, hm]; rfl) rfl (am_in3 rfl hj hL) hd ?_
  rw [am_tn3 (by omega)]
  exact kk p l e s m args below meth c bs D dA S H locs ls hP hz hS hl
theorem ap_lald {a j L : Nat} {z : Int} {f : Nat → Int} (hd : decode (am_c Y) pc = .ok (.laload, 1)) (ha : a < N) (hm : μ a = am_L L f) (hj : z = (j : Int) ∧ j < L) (hL : L < 2147483648) (kk : am_W Y Q k n (pc + 1) lv (am_l (f j) :: st) N μ) : am_W Y Q k n pc lv (am_i z :: .ref a :: st) N μ := by
  intro p l e s m args below meth c bs D dA S H locs ls hP hz hS hl
  obtain ⟨rfl, hj⟩ := hj
  refine va_lald S.1 S.2.1 S.2.2.2.2.2.2.2.1 hP a 1 (by rw [am_w_get ha, hm]; rfl) rfl (am_in3 rfl hj hL) hd ?_
  rw [am_tn3 (by omega)]
  exact kk p l e s m args below meth c bs D dA S H locs ls hP hz hS hl
theorem ap_aald4 {a j L r : Nat} {z : Int} {f : Nat → Option Nat} (hd : decode (am_c Y) pc = .ok (.aaload, 1)) (ha : a < N) (hm : μ a = am_R 4 L f) (hj : z = (j : Int) ∧ j < L) (hL : L < 2147483648) (hr : f j = some r) (kk : am_W Y Q k n (pc + 1) lv (.ref r :: st) N μ) : am_W Y Q k n pc lv (am_i z :: .ref a :: st) N μ := by
  intro p l e s m args below meth c bs D dA S H locs ls hP hz hS hl
  obtain ⟨rfl, hj⟩ := hj
  refine va_aldq S.1 S.2.1 S.2.2.2.2.2.2.2.1 hP a 4 (by rw [am_w_get ha, hm]; rfl) rfl (am_in3 rfl hj hL) hd ?_
  rw [am_tn3 (by omega), hr]
  exact kk p l e s m args below meth c bs D dA S H locs ls hP hz hS hl
theorem ap_aald5 {a j L r : Nat} {z : Int} {f : Nat → Option Nat} (hd : decode (am_c Y) pc = .ok (.aaload, 1)) (ha : a < N) (hm : μ a = am_R 5 L f) (hj : z = (j : Int) ∧ j < L) (hL : L < 2147483648) (hr : f j = some r) (kk : am_W Y Q k n (pc + 1) lv (.ref r :: st) N μ) : am_W Y Q k n pc lv (am_i z :: .ref a :: st) N μ := by
  intro p l e s m args below meth c bs D dA S H locs ls hP hz hS hl
  obtain ⟨rfl, hj⟩ := hj
  refine va_aldq S.1 S.2.1 S.2.2.2.2.2.2.2.1 hP a 5 (by rw [am_w_get ha, hm]; rfl) rfl (am_in3 rfl hj hL) hd ?_
  rw [am_tn3 (by omega), hr]
  exact kk p l e s m args below meth c bs D dA S H locs ls hP hz hS hl
theorem ap_aald6 {a j L r : Nat} {z : Int} {f : Nat → Option Nat} (hd : decode (am_c Y) pc = .ok (.aaload, 1)) (ha : a < N) (hm : μ a = am_R 6 L f) (hj : z = (j : Int) ∧ j < L) (hL : L < 2147483648) (hr : f j = some r) (kk : am_W Y Q k n (pc + 1) lv (.ref r :: st) N μ) : am_W Y Q k n pc lv (am_i z :: .ref a :: st) N μ := by
  intro p l e s m args below meth c bs D dA S H locs ls hP hz hS hl
  obtain ⟨rfl, hj⟩ := hj
  refine va_aldq S.1 S.2.1 S.2.2.2.2.2.2.2.1 hP a 6 (by rw [am_w_get ha, hm]; rfl) rfl (am_in3 rfl hj hL) hd ?_
  rw [am_tn3 (by omega), hr]
  exact kk p l e s m args below meth c bs D dA S H locs ls hP hz hS hl
theorem ap_iast {a j L : Nat} {z x : Int} {f : Nat → Int} (hd : decode (am_c Y) pc = .ok (.iastore, 1)) (ha : a < N) (hm : μ a = am_I 0 L f) (hj : z = (j : Int) ∧ j < L) (hL : L < 2147483648) (kk : ∀ μ2 : am_M, μ2 a = am_I 0 L (va_up f j x) → (∀ b, b ≠ a → μ2 b = μ b) → am_W Y Q k n (pc + 1) lv st N μ2) : am_W Y Q k n pc lv (am_i x :: am_i z :: .ref a :: st) N μ := by
  intro p l e s m args below meth c bs D dA S H locs ls hP hz hS hl
  obtain ⟨rfl, hj⟩ := hj
  have hK := S.2.2.2.2.2.2.2.1
  have he : (am_w bs dA N μ)[a]? = some (bs + a, .inl (dA 0, L, .inl (fun j => Int32.ofInt (f j)))) := by rw [am_w_get ha, hm]; rfl
  have hin : vp_in (Int32.ofInt (j : Int)) L := am_in3 rfl hj hL
  refine W.iast S.1 S.2.1 (hP a _ he) ((hK.2 0 _ rfl).1 L (fun j => .int (Int32.ofInt (f j)))) (fun q => by cases q) (by show ¬ (_ ∨ (arrV _ _ _).slots.size ≤ _); rw [arrV_size]; exact hin) rfl rfl hd fun H1 e1 z1 oq => ?_
  rw [am_tn3 (by omega)] at e1 ⊢
  have hP1 := hP.set am_D he (e := am_e bs dA (am_I 0 L (va_up f j x))) (by
    show H1[bs + a]? = some (vp_cell _ _)
    rw [e1]
    rw [vp_cell_i, vp_cell_i, arrV_store]
    congr 2
    funext q
    by_cases hq : q = j
    · subst hq
      simp [updV, va_up]
    · simp [updV, va_up, hq]) oq
  rw [am_w_set rfl] at hP1
  exact kk _ am_ueq am_une p l e s m args below meth c bs D dA S H1 _ ls hP1 (z1.trans hz) (hS.put z1 oq (am_D.2 a _ he)) hl
theorem ap_last {a j L : Nat} {z x : Int} {f : Nat → Int} (hd : decode (am_c Y) pc = .ok (.lastore, 1)) (ha : a < N) (hm : μ a = am_L L f) (hj : z = (j : Int) ∧ j < L) (hL : L < 2147483648) (kk : ∀ μ2 : am_M, μ2 a = am_L L (va_up f j x) → (∀ b, b ≠ a → μ2 b = μ b) → am_W Y Q k n (pc + 1) lv st N μ2) : am_W Y Q k n pc lv (am_l x :: am_i z :: .ref a :: st) N μ := by
  intro p l e s m args below meth c bs D dA S H locs ls hP hz hS hl
  obtain ⟨rfl, hj⟩ := hj
  have hK := S.2.2.2.2.2.2.2.1
  have he : (am_w bs dA N μ)[a]? = some (bs + a, .inl (dA 1, L, .inr (.inl (fun j => Int64.ofInt (f j))))) := by rw [am_w_get ha, hm]; rfl
  have hin : vp_in (Int32.ofInt (j : Int)) L := am_in3 rfl hj hL
  refine W.last S.1 S.2.1 (hP a _ he) ((hK.2 1 _ rfl).1 L (fun j => .long (Int64.ofInt (f j)))) (fun q => by cases q) (by show ¬ (_ ∨ (arrV _ _ _).slots.size ≤ _); rw [arrV_size]; exact hin) rfl rfl hd fun H1 e1 z1 oq => ?_
  rw [am_tn3 (by omega)] at e1 ⊢
  have hP1 := hP.set am_D he (e := am_e bs dA (am_L L (va_up f j x))) (by
    show H1[bs + a]? = some (vp_cell _ _)
    rw [e1]
    rw [vp_cell_l, vp_cell_l, arrV_store]
    congr 2
    funext q
    by_cases hq : q = j
    · subst hq
      simp [updV, va_up]
    · simp [updV, va_up, hq]) oq
  rw [am_w_set rfl] at hP1
  exact kk _ am_ueq am_une p l e s m args below meth c bs D dA S H1 _ ls hP1 (z1.trans hz) (hS.put z1 oq (am_D.2 a _ he)) hl
theorem ap_cast {a j L : Nat} {z x : Int} {f : Nat → Int} (hd : decode (am_c Y) pc = .ok (.castore, 1)) (ha : a < N) (hm : μ a = am_I 2 L f) (hj : z = (j : Int) ∧ j < L) (hL : L < 2147483648) (h : 0 ≤ x ∧ x ≤ 65535) (kk : ∀ μ2 : am_M, μ2 a = am_I 2 L (va_up f j x) → (∀ b, b ≠ a → μ2 b = μ b) → am_W Y Q k n (pc + 1) lv st N μ2) : am_W Y Q k n pc lv (am_i x :: am_i z :: .ref a :: st) N μ := by
  intro p l e s m args below meth c bs D dA S H locs ls hP hz hS hl
  obtain ⟨rfl, hj⟩ := hj
  have hK := S.2.2.2.2.2.2.2.1
  have he : (am_w bs dA N μ)[a]? = some (bs + a, .inl (dA 2, L, .inl (fun j => Int32.ofInt (f j)))) := by rw [am_w_get ha, hm]; rfl
  have hin : vp_in (Int32.ofInt (j : Int)) L := am_in3 rfl hj hL
  refine W.cast S.1 S.2.1 (hP a _ he) ((hK.2 2 _ rfl).1 L (fun j => .int (Int32.ofInt (f j)))) (fun q => by cases q) (by show ¬ (_ ∨ (arrV _ _ _).slots.size ≤ _); rw [arrV_size]; exact hin) rfl rfl hd fun H1 e1 z1 oq => ?_
  rw [am_tn3 (by omega)] at e1 ⊢
  have hP1 := hP.set am_D he (e := am_e bs dA (am_I 2 L (va_up f j x))) (by
    show H1[bs + a]? = some (vp_cell _ _)
    rw [e1]
    rw [vp_cell_i, vp_cell_i, arrV_store]
    congr 2
    funext q
    by_cases hq : q = j
    · subst hq
      simp [updV, va_up, narrow, am_c3b h]
    · simp [updV, va_up, hq]) oq
  rw [am_w_set rfl] at hP1
  exact kk _ am_ueq am_une p l e s m args below meth c bs D dA S H1 _ ls hP1 (z1.trans hz) (hS.put z1 oq (am_D.2 a _ he)) hl
theorem ap_zast {a j L : Nat} {z x : Int} {f : Nat → Int} (hd : decode (am_c Y) pc = .ok (.bastore, 1)) (ha : a < N) (hm : μ a = am_I 3 L f) (hj : z = (j : Int) ∧ j < L) (hL : L < 2147483648) (h : x = 0 ∨ x = 1) (kk : ∀ μ2 : am_M, μ2 a = am_I 3 L (va_up f j x) → (∀ b, b ≠ a → μ2 b = μ b) → am_W Y Q k n (pc + 1) lv st N μ2) : am_W Y Q k n pc lv (am_i x :: am_i z :: .ref a :: st) N μ := by
  intro p l e s m args below meth c bs D dA S H locs ls hP hz hS hl
  obtain ⟨rfl, hj⟩ := hj
  have hK := S.2.2.2.2.2.2.2.1
  have he : (am_w bs dA N μ)[a]? = some (bs + a, .inl (dA 3, L, .inl (fun j => Int32.ofInt (f j)))) := by rw [am_w_get ha, hm]; rfl
  have hin : vp_in (Int32.ofInt (j : Int)) L := am_in3 rfl hj hL
  refine W.zast S.1 S.2.1 (hP a _ he) ((hK.2 3 _ rfl).1 L (fun j => .int (Int32.ofInt (f j)))) (fun q => by cases q) (by show ¬ (_ ∨ (arrV _ _ _).slots.size ≤ _); rw [arrV_size]; exact hin) rfl rfl hd fun H1 e1 z1 oq => ?_
  rw [am_tn3 (by omega)] at e1 ⊢
  have hP1 := hP.set am_D he (e := am_e bs dA (am_I 3 L (va_up f j x))) (by
    show H1[bs + a]? = some (vp_cell _ _)
    rw [e1]
    rw [vp_cell_i, vp_cell_i, arrV_store]
    congr 2
    funext q
    by_cases hq : q = j
    · subst hq
      simp [updV, va_up, am_nz h]
    · simp [updV, va_up, hq]) oq
  rw [am_w_set rfl] at hP1
  exact kk _ am_ueq am_une p l e s m args below meth c bs D dA S H1 _ ls hP1 (z1.trans hz) (hS.put z1 oq (am_D.2 a _ he)) hl
theorem ap_aast4 {a j L r : Nat} {z : Int} {f : Nat → Option Nat} {vs : List Value} (hd : decode (am_c Y) pc = .ok (.aastore, 1)) (ha : a < N) (hm : μ a = am_R 4 L f) (hj : z = (j : Int) ∧ j < L) (hL : L < 2147483648) (hrN : r < N) (hr : μ r = am_O 3 vs) (kk : ∀ μ2 : am_M, μ2 a = am_R 4 L (va_up f j (some r)) → (∀ b, b ≠ a → μ2 b = μ b) → am_W Y Q k n (pc + 1) lv st N μ2) : am_W Y Q k n pc lv (.ref r :: am_i z :: .ref a :: st) N μ := by
  intro p l e s m args below meth c bs D dA S H locs ls hP hz hS hl
  obtain ⟨rfl, hj⟩ := hj
  have hK := S.2.2.2.2.2.2.2.1
  have he : (am_w bs dA N μ)[a]? = some (bs + a, .inl (dA 4, L, .inr (.inr (.inr (.inr (fun j => (f j).map (fun a => bs + a))))))) := by rw [am_w_get ha, hm]; rfl
  have hv : (am_w bs dA N μ)[r]? = some (bs + r, .inr (3, vs.map (am_v bs))) := by rw [am_w_get hrN, hr]; rfl
  have hin : vp_in (Int32.ofInt (j : Int)) L := am_in3 rfl hj hL
  have hlt : (Int32.ofInt (j : Int)).toNatClampNeg < L := Nat.not_le.mp fun q => hin (Or.inr q)
  have h0 : ¬ (Int32.ofInt (j : Int)) < 0 := fun q => hin (Or.inl q)
  obtain ⟨r', hr', cellV, g1, g2, g3, -⟩ := hP r _ hv
  have hcls := (hK.1 3 _ rfl).2
  obtain ⟨kA, comp, k1, k2, k3, -⟩ := (hK.2 4 _ rfl).2
  have hcomp : comp = D.1 3 := Option.some.inj (k3.symm.trans hcls.1)
  subst hcomp
  obtain ⟨kC, hkC, -⟩ := hcls.2
  refine W.aast S.1 S.2.1 (hP a _ he) (fun q h => by cases h) (fun h => by cases h) k1 k2 rfl hkC ⟨h0, by show _ < (arrV _ _ _).slots.size; rw [arrV_size]; exact hlt⟩ g1 (fun q h => by rw [g3] at h; cases h) (by rw [g2]; exact hkC) (by rw [g2]; exact va_assign hcls) rfl rfl hd fun H1 e1 z1 oq => ?_
  rw [am_tn3 (by omega)] at e1 ⊢
  have hP1 := hP.set am_D he (e := am_e bs dA (am_R 4 L (va_up f j (some r)))) (by
    show H1[bs + a]? = some (vp_cell _ _)
    rw [e1]
    rw [vp_cell_q, vp_cell_q, arrV_store]
    congr 2
    funext q
    by_cases hq : q = j
    · subst hq
      simp [updV, va_up, va_rf]
    · simp [updV, va_up, hq]) oq
  rw [am_w_set rfl] at hP1
  exact kk _ am_ueq am_une p l e s m args below meth c bs D dA S H1 _ ls hP1 (z1.trans hz) (hS.put z1 oq (am_D.2 a _ he)) hl
theorem ap_aast5 {a j L r : Nat} {z : Int} {f : Nat → Option Nat} {vs : List Value} (hd : decode (am_c Y) pc = .ok (.aastore, 1)) (ha : a < N) (hm : μ a = am_R 5 L f) (hj : z = (j : Int) ∧ j < L) (hL : L < 2147483648) (hrN : r < N) (hr : μ r = am_O 5 vs) (kk : ∀ μ2 : am_M, μ2 a = am_R 5 L (va_up f j (some r)) → (∀ b, b ≠ a → μ2 b = μ b) → am_W Y Q k n (pc + 1) lv st N μ2) : am_W Y Q k n pc lv (.ref r :: am_i z :: .ref a :: st) N μ := by
  intro p l e s m args below meth c bs D dA S H locs ls hP hz hS hl
  obtain ⟨rfl, hj⟩ := hj
  have hK := S.2.2.2.2.2.2.2.1
  have he : (am_w bs dA N μ)[a]? = some (bs + a, .inl (dA 5, L, .inr (.inr (.inr (.inr (fun j => (f j).map (fun a => bs + a))))))) := by rw [am_w_get ha, hm]; rfl
  have hv : (am_w bs dA N μ)[r]? = some (bs + r, .inr (5, vs.map (am_v bs))) := by rw [am_w_get hrN, hr]; rfl
  have hin : vp_in (Int32.ofInt (j : Int)) L := am_in3 rfl hj hL
  have hlt : (Int32.ofInt (j : Int)).toNatClampNeg < L := Nat.not_le.mp fun q => hin (Or.inr q)
  have h0 : ¬ (Int32.ofInt (j : Int)) < 0 := fun q => hin (Or.inl q)
  obtain ⟨r', hr', cellV, g1, g2, g3, -⟩ := hP r _ hv
  have hcls := (hK.1 5 _ rfl).2
  obtain ⟨kA, comp, k1, k2, k3, -⟩ := (hK.2 5 _ rfl).2
  have hcomp : comp = D.1 5 := Option.some.inj (k3.symm.trans hcls.1)
  subst hcomp
  obtain ⟨kC, hkC, -⟩ := hcls.2
  refine W.aast S.1 S.2.1 (hP a _ he) (fun q h => by cases h) (fun h => by cases h) k1 k2 rfl hkC ⟨h0, by show _ < (arrV _ _ _).slots.size; rw [arrV_size]; exact hlt⟩ g1 (fun q h => by rw [g3] at h; cases h) (by rw [g2]; exact hkC) (by rw [g2]; exact va_assign hcls) rfl rfl hd fun H1 e1 z1 oq => ?_
  rw [am_tn3 (by omega)] at e1 ⊢
  have hP1 := hP.set am_D he (e := am_e bs dA (am_R 5 L (va_up f j (some r)))) (by
    show H1[bs + a]? = some (vp_cell _ _)
    rw [e1]
    rw [vp_cell_q, vp_cell_q, arrV_store]
    congr 2
    funext q
    by_cases hq : q = j
    · subst hq
      simp [updV, va_up, va_rf]
    · simp [updV, va_up, hq]) oq
  rw [am_w_set rfl] at hP1
  exact kk _ am_ueq am_une p l e s m args below meth c bs D dA S H1 _ ls hP1 (z1.trans hz) (hS.put z1 oq (am_D.2 a _ he)) hl
theorem ap_aast6 {a j L r : Nat} {z : Int} {f : Nat → Option Nat} {vs : List Value} (hd : decode (am_c Y) pc = .ok (.aastore, 1)) (ha : a < N) (hm : μ a = am_R 6 L f) (hj : z = (j : Int) ∧ j < L) (hL : L < 2147483648) (hrN : r < N) (hr : μ r = am_O 6 vs) (kk : ∀ μ2 : am_M, μ2 a = am_R 6 L (va_up f j (some r)) → (∀ b, b ≠ a → μ2 b = μ b) → am_W Y Q k n (pc + 1) lv st N μ2) : am_W Y Q k n pc lv (.ref r :: am_i z :: .ref a :: st) N μ := by
  intro p l e s m args below meth c bs D dA S H locs ls hP hz hS hl
  obtain ⟨rfl, hj⟩ := hj
  have hK := S.2.2.2.2.2.2.2.1
  have he : (am_w bs dA N μ)[a]? = some (bs + a, .inl (dA 6, L, .inr (.inr (.inr (.inr (fun j => (f j).map (fun a => bs + a))))))) := by rw [am_w_get ha, hm]; rfl
  have hv : (am_w bs dA N μ)[r]? = some (bs + r, .inr (6, vs.map (am_v bs))) := by rw [am_w_get hrN, hr]; rfl
  have hin : vp_in (Int32.ofInt (j : Int)) L := am_in3 rfl hj hL
  have hlt : (Int32.ofInt (j : Int)).toNatClampNeg < L := Nat.not_le.mp fun q => hin (Or.inr q)
  have h0 : ¬ (Int32.ofInt (j : Int)) < 0 := fun q => hin (Or.inl q)
  obtain ⟨r', hr', cellV, g1, g2, g3, -⟩ := hP r _ hv
  have hcls := (hK.1 6 _ rfl).2
  obtain ⟨kA, comp, k1, k2, k3, -⟩ := (hK.2 6 _ rfl).2
  have hcomp : comp = D.1 6 := Option.some.inj (k3.symm.trans hcls.1)
  subst hcomp
  obtain ⟨kC, hkC, -⟩ := hcls.2
  refine W.aast S.1 S.2.1 (hP a _ he) (fun q h => by cases h) (fun h => by cases h) k1 k2 rfl hkC ⟨h0, by show _ < (arrV _ _ _).slots.size; rw [arrV_size]; exact hlt⟩ g1 (fun q h => by rw [g3] at h; cases h) (by rw [g2]; exact hkC) (by rw [g2]; exact va_assign hcls) rfl rfl hd fun H1 e1 z1 oq => ?_
  rw [am_tn3 (by omega)] at e1 ⊢
  have hP1 := hP.set am_D he (e := am_e bs dA (am_R 6 L (va_up f j (some r)))) (by
    show H1[bs + a]? = some (vp_cell _ _)
    rw [e1]
    rw [vp_cell_q, vp_cell_q, arrV_store]
    congr 2
    funext q
    by_cases hq : q = j
    · subst hq
      simp [updV, va_up, va_rf]
    · simp [updV, va_up, hq]) oq
  rw [am_w_set rfl] at hP1
  exact kk _ am_ueq am_une p l e s m args below meth c bs D dA S H1 _ ls hP1 (z1.trans hz) (hS.put z1 oq (am_D.2 a _ he)) hl
theorem ap_alen {a t L : Nat} {w : (Nat → Int) ⊕ (Nat → Int) ⊕ (Nat → Option Nat)} (hd : decode (am_c Y) pc = .ok (.arraylength, 1)) (ha : a < N) (hm : μ a = .inl (t, L, w)) (ht : t < 7) (kk : am_W Y Q k n (pc + 1) lv (am_i (L : Int) :: st) N μ) : am_W Y Q k n pc lv (.ref a :: st) N μ := by
  intro p l e s m args below meth c bs D dA S H locs ls hP hz hS hl
  obtain ⟨ty, hty⟩ := am_ty (dA := dA) ht
  have he : ∃ x : vp_A, (am_w bs dA N μ)[a]? = some (bs + a, .inl (dA t, x)) ∧ x.1 = L := by
    rw [am_w_get ha, hm]
    rcases w with f | f | f
    · exact ⟨_, rfl, rfl⟩
    · exact ⟨_, rfl, rfl⟩
    · exact ⟨_, rfl, rfl⟩
  obtain ⟨x, he, hx⟩ := he
  exact va_alen S.1 S.2.1 S.2.2.2.2.2.2.2.1 hP a t he hty (v := Int32.ofInt (L : Int)) (by rw [hx, Int32.ofInt_eq_ofNat]) hd (kk p l e s m args below meth c bs D dA S H locs ls hP hz hS hl)
end
end
section
/-! rows: new cells, calls, Math.max and min, Object's constructor, the one static array -/
theorem am_wp {bs N : Nat} {D : va_G} {dA : Nat → ClassId} {μ : am_M} {H H1 : Heap} {e : am_E} (hP : va_P D am_cl (am_w bs dA N μ) H) (hz : H.size = bs + N) (o1 : ∀ q, q < H.size → H1[q]? = H[q]?) (he : va_at D am_cl (bs + N, am_e bs dA e) H1) : va_P D am_cl (am_w bs dA (N + 1) (am_u μ N e)) H1 := by
  rw [← am_w_push rfl]
  have hk : ∀ (k : Nat) (x : Nat × va_E), (am_w bs dA N μ)[k]? = some x → H1[x.1]? = H[x.1]? := fun k x hx => o1 x.1 ((hP k x hx).lt)
  refine (hP.kept hk).app (fun k x hx => ?_)
  have hz : k < 1 := (List.getElem?_eq_some_iff.mp hx).1
  rw [show k = 0 by omega] at hx
  cases hx
  exact he
section
variable {Y : am_Y} {Q : Option Value → Nat → am_M → Prop} {k n pc N : Nat} {lv : List (Nat × Value)} {st : List Value} {μ : am_M}
theorem ap_new {idx ci : Nat} {fs : List Value} (hf : am_nc Y.1.cls idx ci fs) (hd : decode (am_c Y) pc = .ok (.new idx, 3)) (hk : k + 1 ≤ (am_r Y).cells) (hs : n + fs.length ≤ (am_r Y).slots) (kk : ∀ μ2 : am_M, μ2 N = am_O ci fs → (∀ b, b ≠ N → μ2 b = μ b) → am_W Y Q (k + 1) (n + fs.length) (pc + 3) lv (.ref N :: st) (N + 1) μ2) : am_W Y Q k n pc lv st N μ := by
  intro p l e s m args below meth c bs D dA S H locs ls hP hz hS hl
  obtain ⟨C, T, M, ty0, f1, f2, f3, f4, f5, f6, f7, f8⟩ := hf
  subst f8
  have hts := S.2.2.2.2.2.2.1
  have hKn := S.2.2.2.2.2.2.2.1.1 ci _ f2
  refine W.newcK S.1 S.2.1 S.2.2.2.2.2.1 (hts _ f5) (hts _ f6) (hts _ f7) rfl hd hk hs hKn.2.1 hz fun H1 kC hkC e1 z1 o1 => ?_
  have hP1 := am_wp (H1 := H1) (e := am_O ci fs) hP hz (by rw [hz]; exact o1) ⟨_, f2, (u_born ty0 hts f1 hKn hkC e1 f3).to (fun j hj => f4 j hj bs)⟩
  exact kk _ am_ueq am_une p l e s m args below meth c bs D dA S H1 locs ls hP1 (by rw [z1]; rfl) ⟨Nat.le_trans hS.1 (by omega), fun x h1 h2 => (o1 x (by have := hS.1; omega)).trans (hS.2.1 x h1 h2), hS.2.2⟩ hl
theorem ap_newa {t L : Nat} {z : Int} {atype : ArrayType} {ty : FieldType} {w : am_E} (hty : newarray.typeOf atype = ty) (hw : Cond.arrayClass ty ∈ am_tb) (hd : decode (am_c Y) pc = .ok (.newarray atype, 2)) (ht : ∀ dA : Nat → ClassId, (am_tys dA)[t]? = some (dA t, ty)) (hc : ∀ bs (dA : Nat → ClassId), ∃ a0 : vp_A, am_e bs dA w = .inl (dA t, a0) ∧ ∀ cA : ClassId, vp_cell cA a0 = arrV cA L (fun _ => defaultValue ty)) (hR : ∀ (U : State) (cA : ClassId), va_RA U cA ty → U.vm.findClass ("[" ++ ty.toString) = some cA) (hzL : z = (L : Int)) (hL : L < 2147483648) (hb : L * componentBytes ty ≤ 536870912) (hk : k + 1 ≤ (am_r Y).cells) (hs : n + L ≤ (am_r Y).slots) (kk : ∀ μ2 : am_M, μ2 N = w → (∀ b, b ≠ N → μ2 b = μ b) → am_W Y Q (k + 1) (n + L) (pc + 2) lv (.ref N :: st) (N + 1) μ2) : am_W Y Q k n pc lv (am_i z :: st) N μ := by
  intro p l e s m args below meth c bs D dA S H locs ls hP hz hS hl
  subst hzL
  subst hty
  have hts := S.2.2.2.2.2.2.1
  have hK := S.2.2.2.2.2.2.2.1
  refine va_newaK S.1 S.2.1 (hts _ hw) rfl hd rfl (fun h => by rw [Int32.ofInt_eq_ofNat] at h; exact nI_pos hL h) (am_tn3 hL) hb hk hs hz fun H1 cA e1 z1 o1 hAr hNm => ?_
  have hcA : cA = dA t := by
    have h1 := hR s (dA t) (hK.2 t _ (ht dA)).2
    exact Option.some.inj (hNm.symm.trans h1)
  subst hcA
  obtain ⟨a0, ha0, hcell⟩ := hc bs dA
  have hP1 := am_wp (H1 := H1) (e := w) hP hz (by rw [hz]; exact o1) (by rw [ha0]; show H1[bs + N]? = some (vp_cell _ _); rw [hcell]; exact e1)
  exact kk _ am_ueq am_une p l e s m args below meth c bs D dA S H1 locs ls hP1 (by rw [z1]; rfl) ⟨Nat.le_trans hS.1 (by omega), fun x h1 h2 => (o1 x (by have := hS.1; omega)).trans (hS.2.1 x h1 h2), hS.2.2⟩ hl
theorem ap_newi {L : Nat} {z : Int} (hd : decode (am_c Y) pc = .ok (.newarray .int, 2)) (hw : Cond.arrayClass .int ∈ am_tb) (hzL : z = (L : Int)) (hL : L < 100000) (hk : k + 1 ≤ (am_r Y).cells) (hs : n + L ≤ (am_r Y).slots) (kk : ∀ μ2 : am_M, μ2 N = am_I 0 L (fun _ => 0) → (∀ b, b ≠ N → μ2 b = μ b) → am_W Y Q (k + 1) (n + L) (pc + 2) lv (.ref N :: st) (N + 1) μ2) : am_W Y Q k n pc lv (am_i z :: st) N μ :=
  ap_newa (t := 0) (ty := .int) rfl hw hd (fun _ => rfl) (fun _ _ => ⟨_, rfl, fun _ => rfl⟩) (fun _ _ h => h) hzL (by omega) (by show L * 4 ≤ _; omega) hk hs kk
theorem ap_newl {L : Nat} {z : Int} (hd : decode (am_c Y) pc = .ok (.newarray .long, 2)) (hw : Cond.arrayClass .long ∈ am_tb) (hzL : z = (L : Int)) (hL : L < 100000) (hk : k + 1 ≤ (am_r Y).cells) (hs : n + L ≤ (am_r Y).slots) (kk : ∀ μ2 : am_M, μ2 N = am_L L (fun _ => 0) → (∀ b, b ≠ N → μ2 b = μ b) → am_W Y Q (k + 1) (n + L) (pc + 2) lv (.ref N :: st) (N + 1) μ2) : am_W Y Q k n pc lv (am_i z :: st) N μ :=
  ap_newa (t := 1) (ty := .long) rfl hw hd (fun _ => rfl) (fun _ _ => ⟨_, rfl, fun _ => rfl⟩) (fun _ _ h => h) hzL (by omega) (by show L * 8 ≤ _; omega) hk hs kk
theorem ap_newc {L : Nat} {z : Int} (hd : decode (am_c Y) pc = .ok (.newarray .char, 2)) (hw : Cond.arrayClass .char ∈ am_tb) (hzL : z = (L : Int)) (hL : L < 100000) (hk : k + 1 ≤ (am_r Y).cells) (hs : n + L ≤ (am_r Y).slots) (kk : ∀ μ2 : am_M, μ2 N = am_I 2 L (fun _ => 0) → (∀ b, b ≠ N → μ2 b = μ b) → am_W Y Q (k + 1) (n + L) (pc + 2) lv (.ref N :: st) (N + 1) μ2) : am_W Y Q k n pc lv (am_i z :: st) N μ :=
  ap_newa (t := 2) (ty := .char) rfl hw hd (fun _ => rfl) (fun _ _ => ⟨_, rfl, fun _ => rfl⟩) (fun _ _ h => h) hzL (by omega) (by show L * 2 ≤ _; omega) hk hs kk
theorem ap_newz {L : Nat} {z : Int} (hd : decode (am_c Y) pc = .ok (.newarray .boolean, 2)) (hw : Cond.arrayClass .boolean ∈ am_tb) (hzL : z = (L : Int)) (hL : L < 100000) (hk : k + 1 ≤ (am_r Y).cells) (hs : n + L ≤ (am_r Y).slots) (kk : ∀ μ2 : am_M, μ2 N = am_I 3 L (fun _ => 0) → (∀ b, b ≠ N → μ2 b = μ b) → am_W Y Q (k + 1) (n + L) (pc + 2) lv (.ref N :: st) (N + 1) μ2) : am_W Y Q k n pc lv (am_i z :: st) N μ :=
  ap_newa (t := 3) (ty := .boolean) rfl hw hd (fun _ => rfl) (fun _ _ => ⟨_, rfl, fun _ => rfl⟩) (fun _ _ h => h) hzL (by omega) (by show L * 1 ≤ _; omega) hk hs kk
theorem ap_anew {t L idx : Nat} {z : Int} {C : String} (hO : ∀ A U H, am_F A U H → va_AO C U) (ht : ∀ dA : Nat → ClassId, (am_tys dA)[t]? = some (dA t, .object C)) (hw : Cond.classLink Y.1.cls idx C ∈ am_tb) (hd : decode (am_c Y) pc = .ok (.anewarray idx, 3)) (hzL : z = (L : Int)) (hL : L < 100000) (hk : k + 1 ≤ (am_r Y).cells) (hs : n + L ≤ (am_r Y).slots) (kk : ∀ μ2 : am_M, μ2 N = am_R t L (fun _ => none) → (∀ b, b ≠ N → μ2 b = μ b) → am_W Y Q (k + 1) (n + L) (pc + 3) lv (.ref N :: st) (N + 1) μ2) : am_W Y Q k n pc lv (am_i z :: st) N μ := by
  intro p l e s m args below meth c bs D dA S H locs ls hP hz hS hl
  subst hzL
  have hts := S.2.2.2.2.2.2.1
  have hK := S.2.2.2.2.2.2.2.1
  have hN' : (Int32.ofInt (L : Int)).toNatClampNeg = L := am_tn3 (by omega)
  refine W.anew S.1 S.2.1 S.2.2.2.2.2.1 (hts _ hw) (va_AO.use (hO _ _ _ S.2.2.2.2.2.2.2.2.2.2)) rfl hd rfl (fun h => by rw [Int32.ofInt_eq_ofNat] at h; exact nI_pos (by omega) h) (by rw [hN']; omega) hk (by rw [hN']; exact hs) fun cA kA comp f1 f2 f3 f4 => ?_
  rw [hN']
  generalize hH1 : H.push ({ cls := cA, slots := Array.replicate L .null, vm := .none } : Cell) = H1
  have z1 : H1.size = H.size + 1 := by rw [← hH1, Array.size_push]
  have e1 : H1[H.size]? = some (arrV cA L (fun _ => .null)) := by rw [← hH1, Array.getElem?_push_size, ← arrV_new]
  have o1 : ∀ q : Nat, q < H.size → H1[q]? = H[q]? := fun q hq => by rw [← hH1, Array.getElem?_push, if_neg (Nat.ne_of_lt hq)]
  have hcA : cA = dA t := by
    obtain ⟨kA', comp', -, -, -, h1⟩ := (hK.2 t _ (ht dA)).2
    exact Option.some.inj (f1.symm.trans h1)
  subst hcA
  have hP1 := am_wp (H1 := H1) (e := am_R t L (fun _ => none)) hP hz o1 (by show H1[bs + N]? = some (vp_cell _ _); rw [vp_cell_q, ← hz]; exact e1)
  rw [hz] at z1
  have hgo := kk _ am_ueq am_une p l e s m args below meth c bs D dA S H1 locs ls hP1 z1 ⟨Nat.le_trans hS.1 (by omega), fun x h1 h2 => (o1 x (by have := hS.1; omega)).trans (hS.2.1 x h1 h2), hS.2.2⟩ hl
  rw [hz]
  exact hgo
-- calls
theorem ap_callS {Y2 : am_Y} {idx : Nat} {As rest st0 : List Value} {Q2 : Option Value → Nat → am_M → Prop} (hM : am_Met Y2 As N μ Q2) (hd : decode (am_c Y) pc = .ok (.invokestatic idx, 3)) (hw : Cond.methodLink Y.1.cls idx Y2.1 ∈ am_tb ∧ Cond.initialized Y2.1.cls ∈ am_tb ∧ Cond.code Y2.1 (am_c Y2) (am_n Y2) (am_t Y2) ∈ am_tb ∧ Cond.static Y2.1 ∈ am_tb) (hy : Y2.1.cls ≠ "java/lang/invoke/MethodHandle" ∧ Y2.1.cls ≠ "java/lang/invoke/VarHandle" ∧ (parseMethodDescriptor Y2.1.desc).map (fun d => d.parameters.length) = some As.length) (hst : st0 = As.reverse ++ rest) (hrest : (rest.map fun v => v.category).sum ≤ 8) (hR : (am_r Y2).frames + 1 ≤ (am_r Y).frames ∧ 8 + (am_n Y2 + 11) + (am_r Y2).locals ≤ (am_r Y).locals) (hk : k + (am_r Y2).cells ≤ (am_r Y).cells ∧ n + (am_r Y2).slots ≤ (am_r Y).slots)
    (kk : ∀ (r : Option Value) (N2 : Nat) (μ2 : am_M), Q2 r N2 μ2 → am_W Y Q (k + (am_r Y2).cells) (n + (am_r Y2).slots) (pc + 3) lv (r.toList ++ rest) N2 μ2) : am_W Y Q k n pc lv st0 N μ := by
  intro p l e s m args below meth c bs D dA S H locs ls hP hz hS hl
  subst hst
  have hts := S.2.2.2.2.2.2.1
  have hcb := callB_of (R := am_r Y) (own := Y.1.cls) (index := idx) (rm := am_r Y2) (mc := (am_r Y2).cells) (ms := (am_r Y2).slots) As.length hts (am_good hw.2.2.1) rfl rfl rfl (hts _ hw.2.1) (hts _ hw.1) hy hR
  have hrun := va_runS (p := p) (l := l) (e := e) (below := below) (meth := meth) (locs := locs) (cells := k) (slots := n) (g := F0 m pc ls ((As.reverse ++ rest).map (am_v bs))) (rest := rest.map (am_v bs)) (As := As.map (am_v bs)) (cc := am_c Y) (nL := am_n Y) ⟨S.1, S.2.1, S.2.2.1, S.2.2.2.2.2.1, hts⟩ (hM l bs D dA) ⟨hcb, hts _ hw.2.2.2⟩ ⟨am_blind, fun U hU hW => ⟨rfl, by rw [hU]; exact hz, by rw [hU]; exact hP, va_K.moved hW.alike S.2.2.2.2.2.2.2.1, am_fk S.2.2.2.2.2.2.2.2.2.2 hS hU hW⟩⟩ rfl (by rw [List.length_map]) hl.1 (by rw [List.map_append, List.map_reverse]) (lv_room (by rw [List.map_map]; simpa [Function.comp_def, am_v_cat] using hrest)) hd hk
  refine am_run hrun hS (fun r N2 μ2 H1 locs1 hq hP1 hz1 hS1 => ?_)
  have hgo := kk r N2 μ2 hq p l e s m args below meth c bs D dA S H1 locs1 ls hP1 hz1 hS1 hl
  rw [List.map_append] at hgo
  cases r <;> exact hgo
theorem ap_callV {Y2 : am_Y} {idx b ci : Nat} {fs : List Value} {As rest st0 : List Value} {Q2 : Option Value → Nat → am_M → Prop} (hM : am_Met Y2 (.ref b :: As) N μ Q2) (hd : decode (am_c Y) pc = .ok (.invokevirtual idx, 3)) (hw : Cond.methodLink Y.1.cls idx Y2.1 ∈ am_tb ∧ Cond.initialized Y2.1.cls ∈ am_tb ∧ Cond.code Y2.1 (am_c Y2) (am_n Y2) (am_t Y2) ∈ am_tb ∧ Cond.instanceMethod Y2.1 ∈ am_tb ∧ Cond.selects Y2.1.cls Y2.1 Y2.1 ∈ am_tb) (hy : Y2.1.cls ≠ "java/lang/invoke/MethodHandle" ∧ Y2.1.cls ≠ "java/lang/invoke/VarHandle" ∧ (parseMethodDescriptor Y2.1.desc).map (fun d => d.parameters.length) = some As.length) (hst : st0 = As.reverse ++ .ref b :: rest) (hb : b < N) (hm : μ b = am_O ci fs) (hC : ∃ T M, am_cl[ci]? = some (Y2.1.cls, T, M)) (hrest : (rest.map fun v => v.category).sum ≤ 8) (hR : (am_r Y2).frames + 1 ≤ (am_r Y).frames ∧ 8 + (am_n Y2 + 11) + (am_r Y2).locals ≤ (am_r Y).locals) (hk : k + (am_r Y2).cells ≤ (am_r Y).cells ∧ n + (am_r Y2).slots ≤ (am_r Y).slots)
    (kk : ∀ (r : Option Value) (N2 : Nat) (μ2 : am_M), Q2 r N2 μ2 → am_W Y Q (k + (am_r Y2).cells) (n + (am_r Y2).slots) (pc + 3) lv (r.toList ++ rest) N2 μ2) : am_W Y Q k n pc lv st0 N μ := by
  intro p l e s m args below meth c bs D dA S H locs ls hP hz hS hl
  subst hst
  have hts := S.2.2.2.2.2.2.1
  have hK := S.2.2.2.2.2.2.2.1
  obtain ⟨T, M, hC⟩ := hC
  have he : (am_w bs dA N μ)[b]? = some (bs + b, .inr (ci, fs.map (am_v bs))) := by rw [am_w_get hb, hm]; rfl
  have hcb := callB_of (R := am_r Y) (own := Y.1.cls) (index := idx) (rm := am_r Y2) (mc := (am_r Y2).cells) (ms := (am_r Y2).slots) As.length hts (am_good hw.2.2.1) rfl rfl rfl (hts _ hw.2.1) (hts _ hw.1) hy hR
  have hrun := va_runV (p := p) (l := l) (e := e) (below := below) (meth := meth) (locs := locs) (cells := k) (slots := n) (g := F0 m pc ls ((As.reverse ++ .ref b :: rest).map (am_v bs))) (rest := rest.map (am_v bs)) (As := As.map (am_v bs)) (b := bs + b) (cc := am_c Y) (nL := am_n Y) ⟨S.1, S.2.1, S.2.2.1, S.2.2.2.2.2.1, hts⟩ (hM l bs D dA) ⟨hcb, hts _ hw.2.2.2.1, hts _ hw.2.2.2.2⟩ ⟨am_blind, va_recv hK hP hC he, fun U hU hW => ⟨rfl, by rw [hU]; exact hz, by rw [hU]; exact hP, va_K.moved hW.alike hK, am_fk S.2.2.2.2.2.2.2.2.2.2 hS hU hW⟩⟩ rfl (by rw [List.length_map]) hl.1 (by rw [List.map_append, List.map_reverse]; rfl) (lv_room (by rw [List.map_map]; simpa [Function.comp_def, am_v_cat] using hrest)) hd hk
  refine am_run hrun hS (fun r N2 μ2 H1 locs1 hq hP1 hz1 hS1 => ?_)
  have hgo := kk r N2 μ2 hq p l e s m args below meth c bs D dA S H1 locs1 ls hP1 hz1 hS1 hl
  rw [List.map_append] at hgo
  cases r <;> exact hgo
theorem ap_callI {Y2 : am_Y} {idx b : Nat} {As rest st0 : List Value} {Q2 : Option Value → Nat → am_M → Prop} (hM : am_Met Y2 (.ref b :: As) N μ Q2) (hd : decode (am_c Y) pc = .ok (.invokespecial idx, 3)) (hw : Cond.methodLink Y.1.cls idx Y2.1 ∈ am_tb ∧ Cond.initialized Y2.1.cls ∈ am_tb ∧ Cond.code Y2.1 (am_c Y2) (am_n Y2) none ∈ am_tb ∧ Cond.instanceMethod Y2.1 ∈ am_tb) (ht2 : am_t Y2 = none) (hi : Y2.1.name = "<init>") (hy : Y2.1.cls ≠ "java/lang/invoke/MethodHandle" ∧ Y2.1.cls ≠ "java/lang/invoke/VarHandle" ∧ (parseMethodDescriptor Y2.1.desc).map (fun d => d.parameters.length) = some As.length) (hst : st0 = As.reverse ++ .ref b :: rest) (hrest : (rest.map fun v => v.category).sum ≤ 8) (hR : (am_r Y2).frames + 1 ≤ (am_r Y).frames ∧ 8 + (am_n Y2 + 11) + (am_r Y2).locals ≤ (am_r Y).locals) (hk : k + (am_r Y2).cells ≤ (am_r Y).cells ∧ n + (am_r Y2).slots ≤ (am_r Y).slots)
    (kk : ∀ (r : Option Value) (N2 : Nat) (μ2 : am_M), Q2 r N2 μ2 → am_W Y Q (k + (am_r Y2).cells) (n + (am_r Y2).slots) (pc + 3) lv (r.toList ++ rest) N2 μ2) : am_W Y Q k n pc lv st0 N μ := by
  intro p l e s m args below meth c bs D dA S H locs ls hP hz hS hl
  subst hst
  have hts := S.2.2.2.2.2.2.1
  have hM2 := hM l bs D dA
  rw [ht2] at hM2
  have hcb := callB_of (R := am_r Y) (own := Y.1.cls) (index := idx) (rm := am_r Y2) (mc := (am_r Y2).cells) (ms := (am_r Y2).slots) As.length hts (am_good hw.2.2.1) rfl rfl rfl (hts _ hw.2.1) (hts _ hw.1) hy hR
  have hrun := va_runI (p := p) (l := l) (e := e) (below := below) (meth := meth) (locs := locs) (cells := k) (slots := n) (g := F0 m pc ls ((As.reverse ++ .ref b :: rest).map (am_v bs))) (rest := rest.map (am_v bs)) (As := As.map (am_v bs)) (b := bs + b) (cc := am_c Y) (nL := am_n Y) ⟨S.1, S.2.1, S.2.2.1, S.2.2.2.2.2.1, hts⟩ hM2 ⟨hcb, hi, hts _ hw.2.2.2⟩ ⟨am_blind, fun U hU hW => ⟨rfl, by rw [hU]; exact hz, by rw [hU]; exact hP, va_K.moved hW.alike S.2.2.2.2.2.2.2.1, am_fk S.2.2.2.2.2.2.2.2.2.2 hS hU hW⟩⟩ rfl (by rw [List.length_map]) hl.1 (by rw [List.map_append, List.map_reverse]; rfl) (lv_room (by rw [List.map_map]; simpa [Function.comp_def, am_v_cat] using hrest)) hd hk
  refine am_run hrun hS (fun r N2 μ2 H1 locs1 hq hP1 hz1 hS1 => ?_)
  have hgo := kk r N2 μ2 hq p l e s m args below meth c bs D dA S H1 locs1 ls hP1 hz1 hS1 hl
  rw [List.map_append] at hgo
  cases r <;> exact hgo
theorem ap_callIN {Y2 : am_Y} {idx b : Nat} {host : String} {As rest st0 : List Value} {Q2 : Option Value → Nat → am_M → Prop} (hM : am_Met Y2 (.ref b :: As) N μ Q2) (hd : decode (am_c Y) pc = .ok (.invokespecial idx, 3)) (hw : Cond.methodLinkNest Y.1.cls idx Y2.1 host ∈ am_nw ∧ Cond.initialized Y2.1.cls ∈ am_tb ∧ Cond.code Y2.1 (am_c Y2) (am_n Y2) none ∈ am_tb ∧ Cond.instanceMethod Y2.1 ∈ am_tb) (ht2 : am_t Y2 = none) (hi : Y2.1.name = "<init>") (hy : Y2.1.cls ≠ "java/lang/invoke/MethodHandle" ∧ Y2.1.cls ≠ "java/lang/invoke/VarHandle" ∧ (parseMethodDescriptor Y2.1.desc).map (fun d => d.parameters.length) = some As.length) (hst : st0 = As.reverse ++ .ref b :: rest) (hrest : (rest.map fun v => v.category).sum ≤ 8) (hR : (am_r Y2).frames + 1 ≤ (am_r Y).frames ∧ 8 + (am_n Y2 + 11) + (am_r Y2).locals ≤ (am_r Y).locals) (hk : k + (am_r Y2).cells ≤ (am_r Y).cells ∧ n + (am_r Y2).slots ≤ (am_r Y).slots)
    (kk : ∀ (r : Option Value) (N2 : Nat) (μ2 : am_M), Q2 r N2 μ2 → am_W Y Q (k + (am_r Y2).cells) (n + (am_r Y2).slots) (pc + 3) lv (r.toList ++ rest) N2 μ2) : am_W Y Q k n pc lv st0 N μ := by
  intro p l e s m args below meth c bs D dA S H locs ls hP hz hS hl
  subst hst
  have hts := S.2.2.2.2.2.2.1
  have hM2 := hM l bs D dA
  rw [ht2] at hM2
  have hcb := va_cnB (args := args) (s := s) (R := am_r Y) (own := Y.1.cls) (index := idx) (rm := am_r Y2) (mc := (am_r Y2).cells) (ms := (am_r Y2).slots) As.length hts (am_good hw.2.2.1) rfl rfl rfl (S.2.2.2.2.2.2.2.2.2.2.1 _ hw.1) (hts _ hw.2.1) hy hR
  have hrun := va_runIN (p := p) (l := l) (e := e) (below := below) (meth := meth) (locs := locs) (cells := k) (slots := n) (g := F0 m pc ls ((As.reverse ++ .ref b :: rest).map (am_v bs))) (rest := rest.map (am_v bs)) (As := As.map (am_v bs)) (b := bs + b) (cc := am_c Y) (nL := am_n Y) ⟨S.1, S.2.1, S.2.2.1, S.2.2.2.2.2.1, hts⟩ hM2 ⟨hcb, hi, hts _ hw.2.2.2⟩ ⟨am_blind, fun U hU hW => ⟨rfl, by rw [hU]; exact hz, by rw [hU]; exact hP, va_K.moved hW.alike S.2.2.2.2.2.2.2.1, am_fk S.2.2.2.2.2.2.2.2.2.2 hS hU hW⟩⟩ rfl (by rw [List.length_map]) hl.1 (by rw [List.map_append, List.map_reverse]; rfl) (lv_room (by rw [List.map_map]; simpa [Function.comp_def, am_v_cat] using hrest)) hd hk
  refine am_run hrun hS (fun r N2 μ2 H1 locs1 hq hP1 hz1 hS1 => ?_)
  have hgo := kk r N2 μ2 hq p l e s m args below meth c bs D dA S H1 locs1 ls hP1 hz1 hS1 hl
  rw [List.map_append] at hgo
  cases r <;> exact hgo
theorem ap_obj {idx a : Nat} (hd : decode (am_c Y) pc = .ok (.invokespecial idx, 3)) (hw : Cond.methodLink Y.1.cls idx Lib.objectInit ∈ am_tb ∧ Cond.instanceMethod Lib.objectInit ∈ am_tb ∧ Cond.code Lib.objectInit ⟨#[0xb1]⟩ 1 none ∈ am_tb) (hr : 1 ≤ (am_r Y).frames ∧ (st.map fun v => v.category).sum + 12 ≤ (am_r Y).locals) (kk : am_W Y Q k n (pc + 3) lv st N μ) : am_W Y Q k n pc lv (.ref a :: st) N μ := by
  intro p l e s m args below meth c bs D dA S H locs ls hP hz hS hl
  have hts := S.2.2.2.2.2.2.1
  refine W.objInit S.1 S.2.1 S.2.2.2.2.2.1 (hts _ hw.1) (hts _ hw.2.1) (hts _ hw.2.2) rfl (by rw [S.2.2.1]; exact hl.1) rfl hd hr.1 ?_ (kk p l e s m args below meth c bs D dA S H locs ls hP hz hS hl)
  have h2 := hr.2
  rw [List.map_map]
  simp only [Function.comp_def, am_v_cat]
  simpa [JFrame.monitorRoom] using h2
theorem ap_max {idx : Nat} {a b : Int} (hd : decode (am_c Y) pc = .ok (.invokestatic idx, 3)) (hw : Cond.methodLink Y.1.cls idx Lib.Math.max.name ∈ am_tb ∧ Cond.static Lib.Math.max.name ∈ am_tb ∧ Cond.initialized "java/lang/Math" ∈ am_tb ∧ Cond.code Lib.Math.max.name Lib.Math.max.code 2 (some .int) ∈ am_tb) (hr : 1 ≤ (am_r Y).frames ∧ (st.map fun v => v.category).sum + 13 ≤ (am_r Y).locals) (hk : k ≤ (am_r Y).cells ∧ n ≤ (am_r Y).slots) (h : (-2147483648 ≤ a ∧ a ≤ 2147483647) ∧ (-2147483648 ≤ b ∧ b ≤ 2147483647)) (kk : am_W Y Q k n (pc + 3) lv (am_i (if a < b then b else a) :: st) N μ) : am_W Y Q k n pc lv (am_i b :: am_i a :: st) N μ := by
  intro p l e s m args below meth c bs D dA S H locs ls hP hz hS hl
  have hts := S.2.2.2.2.2.2.1
  refine va_mmax S.1 S.2.1 (by rw [S.2.2.1]; exact hl.1.symm) S.2.2.2.2.2.1 (hts _ hw.1) (hts _ hw.2.1) (hts _ hw.2.2.1) (hts _ hw.2.2.2) hr.1 (by rw [List.map_map]; simpa [Function.comp_def, am_v_cat] using hr.2) hk.1 hk.2 hd ?_
  have hgo := kk p l e s m args below meth c bs D dA S H locs ls hP hz hS hl
  by_cases hc : a < b
  · rw [if_pos ((am_lt3 h).mpr hc)]
    rw [if_pos hc] at hgo
    exact hgo
  · rw [if_neg (fun q => hc ((am_lt3 h).mp q))]
    rw [if_neg hc] at hgo
    exact hgo
theorem ap_min {idx : Nat} {a b : Int} (hd : decode (am_c Y) pc = .ok (.invokestatic idx, 3)) (hw : Cond.methodLink Y.1.cls idx Lib.Math.min.name ∈ am_tb ∧ Cond.static Lib.Math.min.name ∈ am_tb ∧ Cond.initialized "java/lang/Math" ∈ am_tb ∧ Cond.code Lib.Math.min.name Lib.Math.min.code 2 (some .int) ∈ am_tb) (hr : 1 ≤ (am_r Y).frames ∧ (st.map fun v => v.category).sum + 13 ≤ (am_r Y).locals) (hk : k ≤ (am_r Y).cells ∧ n ≤ (am_r Y).slots) (h : (-2147483648 ≤ a ∧ a ≤ 2147483647) ∧ (-2147483648 ≤ b ∧ b ≤ 2147483647)) (kk : am_W Y Q k n (pc + 3) lv (am_i (if b < a then b else a) :: st) N μ) : am_W Y Q k n pc lv (am_i b :: am_i a :: st) N μ := by
  intro p l e s m args below meth c bs D dA S H locs ls hP hz hS hl
  have hts := S.2.2.2.2.2.2.1
  refine va_mmin S.1 S.2.1 (by rw [S.2.2.1]; exact hl.1.symm) S.2.2.2.2.2.1 (hts _ hw.1) (hts _ hw.2.1) (hts _ hw.2.2.1) (hts _ hw.2.2.2) hr.1 (by rw [List.map_map]; simpa [Function.comp_def, am_v_cat] using hr.2) hk.1 hk.2 hd ?_
  have hgo := kk p l e s m args below meth c bs D dA S H locs ls hP hz hS hl
  by_cases hc : b < a
  · rw [if_pos ((am_lt3 ⟨h.2, h.1⟩).mpr hc)]
    rw [if_pos hc] at hgo
    exact hgo
  · rw [if_neg (fun q => hc ((am_lt3 ⟨h.2, h.1⟩).mp q))]
    rw [if_neg hc] at hgo
    exact hgo
end
end
