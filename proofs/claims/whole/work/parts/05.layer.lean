theorem am_t1 : goodWord (Cond.privateMethod ⟨"RhythmBench", "partAt", "(I)LRhythmBench$Part;"⟩) = true := by decide +kernel
theorem am_t2 : goodWord (Cond.soleField "RhythmBench$Text" "codes") = true := by decide +kernel
theorem am_t3 : goodWord (Cond.arrayOver (Jvm.ClassFile.FieldType.object "RhythmBench$Part")) = true := by decide +kernel
theorem am_t4 : goodWord (Cond.fieldLinkNest "RhythmBench" 109 "RhythmBench$Part" "text" "LRhythmBench$Text;" "RhythmBench") = true := by decide +kernel
theorem am_t5 : goodWord (Cond.methodLinkNest "RhythmBench" 23 ⟨"RhythmBench$Grammar","<init>","()V"⟩ "RhythmBench") = true := by decide +kernel
theorem am_t6 : goodWord (Cond.stringRef "RhythmBench$Notation" 9 "whqest") = true := by decide +kernel
theorem am_t7 : goodWord (Cond.laysStatic "RhythmBench$Score" "DOTTED_QUARTERS" "[I") = true := by decide +kernel
theorem am_t8 : goodWord (Cond.superclass "RhythmBench$Score" "java/lang/Object") = true := by decide +kernel
theorem am_t9 : goodWord (Cond.constant "RhythmBench$Score" 3 4) = true := by decide +kernel
theorem am_t10 : goodWord (Cond.arrayClass .char) = true := by decide +kernel
theorem am_t11 : goodWord (Cond.instantiable "a" 3) = true := by decide +kernel
theorem am_t12 : goodWord (Cond.lays "a" "a" "b" "I") = true := by decide +kernel
theorem am_t13 : goodWord (Cond.selects "a" ⟨"RhythmBench$Grammar","<init>","()V"⟩ ⟨"RhythmBench$Grammar","<init>","()V"⟩) = true := by decide +kernel
theorem am_t14 : goodWord (Cond.classLink "a" 4 "a") = true := by decide +kernel
theorem am_t15 : goodWord (Cond.constantLong "a" 4 4) = true := by decide +kernel
theorem am_t16 : (lw_tbl.filter (fun w => !goodWord w)).length = 0 := by decide +kernel
