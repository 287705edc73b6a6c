theorem itX0 : ∀ w ∈ u_ws RX0 TX0 6, w ∈ am_tb := fun w h => am_tb_in (inX0 w h) (List.all_eq_true.mp (by decide +kernel : (u_ws RX0 TX0 6).all goodWord = true) w h)
theorem itX1 : ∀ w ∈ u_ws RX1 TX1 0, w ∈ am_tb := fun w h => am_tb_in (inX1 w h) (List.all_eq_true.mp (by decide +kernel : (u_ws RX1 TX1 0).all goodWord = true) w h)
theorem itX2 : ∀ w ∈ u_ws RX2 TX2 3, w ∈ am_tb := fun w h => am_tb_in (inX2 w h) (List.all_eq_true.mp (by decide +kernel : (u_ws RX2 TX2 3).all goodWord = true) w h)
theorem itX3 : ∀ w ∈ u_ws RX3 TX3 3, w ∈ am_tb := fun w h => am_tb_in (inX3 w h) (List.all_eq_true.mp (by decide +kernel : (u_ws RX3 TX3 3).all goodWord = true) w h)
theorem itX4 : ∀ w ∈ u_ws RX4 TX4 11, w ∈ am_tb := fun w h => am_tb_in (inX4 w h) (List.all_eq_true.mp (by decide +kernel : (u_ws RX4 TX4 11).all goodWord = true) w h)
theorem itX5 : ∀ w ∈ u_ws RX5 TX5 5, w ∈ am_tb := fun w h => am_tb_in (inX5 w h) (List.all_eq_true.mp (by decide +kernel : (u_ws RX5 TX5 5).all goodWord = true) w h)
theorem itX6 : ∀ w ∈ u_ws RX6 TX6 2, w ∈ am_tb := fun w h => am_tb_in (inX6 w h) (List.all_eq_true.mp (by decide +kernel : (u_ws RX6 TX6 2).all goodWord = true) w h)
theorem itX7 : ∀ w ∈ u_ws RX7 TX7 3, w ∈ am_tb := fun w h => am_tb_in (inX7 w h) (List.all_eq_true.mp (by decide +kernel : (u_ws RX7 TX7 3).all goodWord = true) w h)
theorem itX8 : ∀ w ∈ u_ws RX8 TX8 0, w ∈ am_tb := fun w h => am_tb_in (inX8 w h) (List.all_eq_true.mp (by decide +kernel : (u_ws RX8 TX8 0).all goodWord = true) w h)
theorem itX9 : ∀ w ∈ u_ws RX9 TX9 11, w ∈ am_tb := fun w h => am_tb_in (inX9 w h) (List.all_eq_true.mp (by decide +kernel : (u_ws RX9 TX9 11).all goodWord = true) w h)
theorem itX10 : ∀ w ∈ u_ws RX10 TX10 29, w ∈ am_tb := fun w h => am_tb_in (inX10 w h) (List.all_eq_true.mp (by decide +kernel : (u_ws RX10 TX10 29).all goodWord = true) w h)
theorem tw_84 : Cond.fieldLink "RhythmBench$Text" 15 "RhythmBench$Text" "codes" "[C" ∈ am_tb := am_tb_in (List.mem_of_getElem? (i := 84) (by decide +kernel)) (by decide +kernel)
theorem ff_X6_15 : am_ff RX6 15 6 0 := ⟨RX6, TX6, 2, itX6, rfl, by decide, tw_84⟩
theorem tw_85 : Cond.fieldLink "RhythmBench$Text" 21 "RhythmBench$Text" "size" "I" ∈ am_tb := am_tb_in (List.mem_of_getElem? (i := 85) (by decide +kernel)) (by decide +kernel)
theorem ff_X6_21 : am_ff RX6 21 6 1 := ⟨RX6, TX6, 2, itX6, rfl, by decide, tw_85⟩
theorem tw_98 : Cond.fieldLink "RhythmBench$Grammar" 28 "RhythmBench$Grammar" "state" "I" ∈ am_tb := am_tb_in (List.mem_of_getElem? (i := 98) (by decide +kernel)) (by decide +kernel)
theorem ff_X0_28 : am_ff RX0 28 0 0 := ⟨RX0, TX0, 6, itX0, rfl, by decide, tw_98⟩
theorem tw_99 : Cond.fieldLink "RhythmBench$Grammar" 32 "RhythmBench$Grammar" "depth" "I" ∈ am_tb := am_tb_in (List.mem_of_getElem? (i := 99) (by decide +kernel)) (by decide +kernel)
theorem ff_X0_32 : am_ff RX0 32 0 1 := ⟨RX0, TX0, 6, itX0, rfl, by decide, tw_99⟩
theorem tw_100 : Cond.fieldLink "RhythmBench$Grammar" 39 "RhythmBench$Grammar" "isFilled" "Z" ∈ am_tb := am_tb_in (List.mem_of_getElem? (i := 100) (by decide +kernel)) (by decide +kernel)
theorem ff_X0_39 : am_ff RX0 39 0 2 := ⟨RX0, TX0, 6, itX0, rfl, by decide, tw_100⟩
theorem tw_101 : Cond.fieldLink "RhythmBench$Grammar" 35 "RhythmBench$Grammar" "isInRepeat" "Z" ∈ am_tb := am_tb_in (List.mem_of_getElem? (i := 101) (by decide +kernel)) (by decide +kernel)
theorem ff_X0_35 : am_ff RX0 35 0 3 := ⟨RX0, TX0, 6, itX0, rfl, by decide, tw_101⟩
theorem tw_102 : Cond.fieldLink "RhythmBench$Grammar" 83 "RhythmBench$Grammar" "dotsLeft" "I" ∈ am_tb := am_tb_in (List.mem_of_getElem? (i := 102) (by decide +kernel)) (by decide +kernel)
theorem ff_X0_83 : am_ff RX0 83 0 4 := ⟨RX0, TX0, 6, itX0, rfl, by decide, tw_102⟩
theorem tw_103 : Cond.fieldLink "RhythmBench$Grammar" 86 "RhythmBench$Grammar" "canTie" "Z" ∈ am_tb := am_tb_in (List.mem_of_getElem? (i := 103) (by decide +kernel)) (by decide +kernel)
theorem ff_X0_86 : am_ff RX0 86 0 5 := ⟨RX0, TX0, 6, itX0, rfl, by decide, tw_103⟩
theorem tw_138 : Cond.fieldLink "RhythmBench$TupletScale" 9 "RhythmBench$TupletScale" "ups" "[J" ∈ am_tb := am_tb_in (List.mem_of_getElem? (i := 138) (by decide +kernel)) (by decide +kernel)
theorem ff_X7_9 : am_ff RX7 9 7 0 := ⟨RX7, TX7, 3, itX7, rfl, by decide, tw_138⟩
theorem tw_139 : Cond.fieldLink "RhythmBench$TupletScale" 15 "RhythmBench$TupletScale" "downs" "[J" ∈ am_tb := am_tb_in (List.mem_of_getElem? (i := 139) (by decide +kernel)) (by decide +kernel)
theorem ff_X7_15 : am_ff RX7 15 7 1 := ⟨RX7, TX7, 3, itX7, rfl, by decide, tw_139⟩
theorem tw_140 : Cond.fieldLink "RhythmBench$TupletScale" 18 "RhythmBench$TupletScale" "depth" "I" ∈ am_tb := am_tb_in (List.mem_of_getElem? (i := 140) (by decide +kernel)) (by decide +kernel)
theorem ff_X7_18 : am_ff RX7 18 7 2 := ⟨RX7, TX7, 3, itX7, rfl, by decide, tw_140⟩
theorem tw_159 : Cond.fieldLink "RhythmBench$Score" 9 "RhythmBench$Score" "begins" "[J" ∈ am_tb := am_tb_in (List.mem_of_getElem? (i := 159) (by decide +kernel)) (by decide +kernel)
theorem ff_X4_9 : am_ff RX4 9 4 0 := ⟨RX4, TX4, 11, itX4, rfl, by decide, tw_159⟩
theorem tw_160 : Cond.fieldLink "RhythmBench$Score" 15 "RhythmBench$Score" "ends" "[J" ∈ am_tb := am_tb_in (List.mem_of_getElem? (i := 160) (by decide +kernel)) (by decide +kernel)
theorem ff_X4_15 : am_ff RX4 15 4 1 := ⟨RX4, TX4, 11, itX4, rfl, by decide, tw_160⟩
theorem tw_161 : Cond.fieldLink "RhythmBench$Score" 18 "RhythmBench$Score" "noteCounts" "[I" ∈ am_tb := am_tb_in (List.mem_of_getElem? (i := 161) (by decide +kernel)) (by decide +kernel)
theorem ff_X4_18 : am_ff RX4 18 4 2 := ⟨RX4, TX4, 11, itX4, rfl, by decide, tw_161⟩
theorem tw_162 : Cond.fieldLink "RhythmBench$Score" 22 "RhythmBench$Score" "barNumbers" "[I" ∈ am_tb := am_tb_in (List.mem_of_getElem? (i := 162) (by decide +kernel)) (by decide +kernel)
theorem ff_X4_22 : am_ff RX4 22 4 3 := ⟨RX4, TX4, 11, itX4, rfl, by decide, tw_162⟩
theorem tw_163 : Cond.fieldLink "RhythmBench$Score" 25 "RhythmBench$Score" "accents" "[Z" ∈ am_tb := am_tb_in (List.mem_of_getElem? (i := 163) (by decide +kernel)) (by decide +kernel)
theorem ff_X4_25 : am_ff RX4 25 4 4 := ⟨RX4, TX4, 11, itX4, rfl, by decide, tw_163⟩
theorem tw_164 : Cond.fieldLink "RhythmBench$Score" 29 "RhythmBench$Score" "barLengths" "[J" ∈ am_tb := am_tb_in (List.mem_of_getElem? (i := 164) (by decide +kernel)) (by decide +kernel)
theorem ff_X4_29 : am_ff RX4 29 4 5 := ⟨RX4, TX4, 11, itX4, rfl, by decide, tw_164⟩
theorem tw_165 : Cond.fieldLink "RhythmBench$Score" 35 "RhythmBench$Score" "scale" "LRhythmBench$TupletScale;" ∈ am_tb := am_tb_in (List.mem_of_getElem? (i := 165) (by decide +kernel)) (by decide +kernel)
theorem ff_X4_35 : am_ff RX4 35 4 6 := ⟨RX4, TX4, 11, itX4, rfl, by decide, tw_165⟩
theorem tw_166 : Cond.fieldLink "RhythmBench$Score" 42 "RhythmBench$Score" "count" "I" ∈ am_tb := am_tb_in (List.mem_of_getElem? (i := 166) (by decide +kernel)) (by decide +kernel)
theorem ff_X4_42 : am_ff RX4 42 4 7 := ⟨RX4, TX4, 11, itX4, rfl, by decide, tw_166⟩
theorem tw_167 : Cond.fieldLink "RhythmBench$Score" 46 "RhythmBench$Score" "barCount" "I" ∈ am_tb := am_tb_in (List.mem_of_getElem? (i := 167) (by decide +kernel)) (by decide +kernel)
theorem ff_X4_46 : am_ff RX4 46 4 8 := ⟨RX4, TX4, 11, itX4, rfl, by decide, tw_167⟩
theorem tw_168 : Cond.fieldLink "RhythmBench$Score" 49 "RhythmBench$Score" "total" "J" ∈ am_tb := am_tb_in (List.mem_of_getElem? (i := 168) (by decide +kernel)) (by decide +kernel)
theorem ff_X4_49 : am_ff RX4 49 4 9 := ⟨RX4, TX4, 11, itX4, rfl, by decide, tw_168⟩
theorem tw_169 : Cond.fieldLink "RhythmBench$Score" 92 "RhythmBench$Score" "isTied" "Z" ∈ am_tb := am_tb_in (List.mem_of_getElem? (i := 169) (by decide +kernel)) (by decide +kernel)
theorem ff_X4_92 : am_ff RX4 92 4 10 := ⟨RX4, TX4, 11, itX4, rfl, by decide, tw_169⟩
theorem tw_193 : Cond.fieldLink "RhythmBench$Part" 14 "RhythmBench$Part" "text" "LRhythmBench$Text;" ∈ am_tb := am_tb_in (List.mem_of_getElem? (i := 193) (by decide +kernel)) (by decide +kernel)
theorem ff_X3_14 : am_ff RX3 14 3 0 := ⟨RX3, TX3, 3, itX3, rfl, by decide, tw_193⟩
theorem tw_195 : Cond.fieldLink "RhythmBench$Part" 20 "RhythmBench$Part" "unfoldedText" "LRhythmBench$Text;" ∈ am_tb := am_tb_in (List.mem_of_getElem? (i := 195) (by decide +kernel)) (by decide +kernel)
theorem ff_X3_20 : am_ff RX3 20 3 1 := ⟨RX3, TX3, 3, itX3, rfl, by decide, tw_195⟩
theorem tw_197 : Cond.fieldLink "RhythmBench$Part" 26 "RhythmBench$Part" "score" "LRhythmBench$Score;" ∈ am_tb := am_tb_in (List.mem_of_getElem? (i := 197) (by decide +kernel)) (by decide +kernel)
theorem ff_X3_26 : am_ff RX3 26 3 2 := ⟨RX3, TX3, 3, itX3, rfl, by decide, tw_197⟩
theorem tw_217 : Cond.fieldLink "RhythmBench$State" 11 "RhythmBench$State" "texts" "[LRhythmBench$Text;" ∈ am_tb := am_tb_in (List.mem_of_getElem? (i := 217) (by decide +kernel)) (by decide +kernel)
theorem ff_X5_11 : am_ff RX5 11 5 0 := ⟨RX5, TX5, 5, itX5, rfl, by decide, tw_217⟩
theorem tw_240 : Cond.fieldLink "RhythmBench$Overlay" 9 "RhythmBench$Overlay" "ahead" "[I" ∈ am_tb := am_tb_in (List.mem_of_getElem? (i := 240) (by decide +kernel)) (by decide +kernel)
theorem ff_X2_9 : am_ff RX2 9 2 0 := ⟨RX2, TX2, 3, itX2, rfl, by decide, tw_240⟩
theorem tw_241 : Cond.fieldLink "RhythmBench$Overlay" 15 "RhythmBench$Overlay" "now" "J" ∈ am_tb := am_tb_in (List.mem_of_getElem? (i := 241) (by decide +kernel)) (by decide +kernel)
theorem ff_X2_15 : am_ff RX2 15 2 1 := ⟨RX2, TX2, 3, itX2, rfl, by decide, tw_241⟩
theorem tw_242 : Cond.fieldLink "RhythmBench$Overlay" 19 "RhythmBench$Overlay" "set" "I" ∈ am_tb := am_tb_in (List.mem_of_getElem? (i := 242) (by decide +kernel)) (by decide +kernel)
theorem ff_X2_19 : am_ff RX2 19 2 2 := ⟨RX2, TX2, 3, itX2, rfl, by decide, tw_242⟩
theorem tw_250 : Cond.fieldLink "RhythmBench" 14 "RhythmBench" "buffer" "LRhythmBench$Text;" ∈ am_tb := am_tb_in (List.mem_of_getElem? (i := 250) (by decide +kernel)) (by decide +kernel)
theorem ff_X9_14 : am_ff RX9 14 9 0 := ⟨RX9, TX9, 11, itX9, rfl, by decide, tw_250⟩
theorem tw_251 : Cond.fieldLink "RhythmBench" 18 "RhythmBench" "draft" "LRhythmBench$Text;" ∈ am_tb := am_tb_in (List.mem_of_getElem? (i := 251) (by decide +kernel)) (by decide +kernel)
theorem ff_X9_18 : am_ff RX9 18 9 1 := ⟨RX9, TX9, 11, itX9, rfl, by decide, tw_251⟩
theorem tw_252 : Cond.fieldLink "RhythmBench" 24 "RhythmBench" "grammar" "LRhythmBench$Grammar;" ∈ am_tb := am_tb_in (List.mem_of_getElem? (i := 252) (by decide +kernel)) (by decide +kernel)
theorem ff_X9_24 : am_ff RX9 24 9 2 := ⟨RX9, TX9, 11, itX9, rfl, by decide, tw_252⟩
theorem tw_253 : Cond.fieldLink "RhythmBench" 30 "RhythmBench" "parts" "[LRhythmBench$Part;" ∈ am_tb := am_tb_in (List.mem_of_getElem? (i := 253) (by decide +kernel)) (by decide +kernel)
theorem ff_X9_30 : am_ff RX9 30 9 3 := ⟨RX9, TX9, 11, itX9, rfl, by decide, tw_253⟩
theorem tw_254 : Cond.fieldLink "RhythmBench" 37 "RhythmBench" "history" "[LRhythmBench$State;" ∈ am_tb := am_tb_in (List.mem_of_getElem? (i := 254) (by decide +kernel)) (by decide +kernel)
theorem ff_X9_37 : am_ff RX9 37 9 4 := ⟨RX9, TX9, 11, itX9, rfl, by decide, tw_254⟩
theorem tw_255 : Cond.fieldLink "RhythmBench" 45 "RhythmBench" "overlay" "LRhythmBench$Overlay;" ∈ am_tb := am_tb_in (List.mem_of_getElem? (i := 255) (by decide +kernel)) (by decide +kernel)
theorem ff_X9_45 : am_ff RX9 45 9 5 := ⟨RX9, TX9, 11, itX9, rfl, by decide, tw_255⟩
theorem tw_256 : Cond.fieldLink "RhythmBench" 212 "RhythmBench" "remembered" "I" ∈ am_tb := am_tb_in (List.mem_of_getElem? (i := 256) (by decide +kernel)) (by decide +kernel)
theorem ff_X9_212 : am_ff RX9 212 9 6 := ⟨RX9, TX9, 11, itX9, rfl, by decide, tw_256⟩
theorem tw_257 : Cond.fieldLink "RhythmBench" 49 "RhythmBench" "beats" "I" ∈ am_tb := am_tb_in (List.mem_of_getElem? (i := 257) (by decide +kernel)) (by decide +kernel)
theorem ff_X9_49 : am_ff RX9 49 9 7 := ⟨RX9, TX9, 11, itX9, rfl, by decide, tw_257⟩
theorem tw_258 : Cond.fieldLink "RhythmBench" 53 "RhythmBench" "value" "I" ∈ am_tb := am_tb_in (List.mem_of_getElem? (i := 258) (by decide +kernel)) (by decide +kernel)
theorem ff_X9_53 : am_ff RX9 53 9 8 := ⟨RX9, TX9, 11, itX9, rfl, by decide, tw_258⟩
theorem tw_259 : Cond.fieldLink "RhythmBench" 56 "RhythmBench" "swingA" "I" ∈ am_tb := am_tb_in (List.mem_of_getElem? (i := 259) (by decide +kernel)) (by decide +kernel)
theorem ff_X9_56 : am_ff RX9 56 9 9 := ⟨RX9, TX9, 11, itX9, rfl, by decide, tw_259⟩
theorem tw_260 : Cond.fieldLink "RhythmBench" 59 "RhythmBench" "swingB" "I" ∈ am_tb := am_tb_in (List.mem_of_getElem? (i := 260) (by decide +kernel)) (by decide +kernel)
theorem ff_X9_59 : am_ff RX9 59 9 10 := ⟨RX9, TX9, 11, itX9, rfl, by decide, tw_260⟩
theorem tw_773 : Cond.fieldLink "RhythmBenchModel" 7 "RhythmBenchModel" "v" "[I" ∈ am_tb := am_tb_in (List.mem_of_getElem? (i := 773) (by decide +kernel)) (by decide +kernel)
theorem ff_X10_7 : am_ff RX10 7 10 0 := ⟨RX10, TX10, 29, itX10, rfl, by decide, tw_773⟩
theorem tw_774 : Cond.fieldLink "RhythmBenchModel" 13 "RhythmBenchModel" "past" "[I" ∈ am_tb := am_tb_in (List.mem_of_getElem? (i := 774) (by decide +kernel)) (by decide +kernel)
theorem ff_X10_13 : am_ff RX10 13 10 1 := ⟨RX10, TX10, 29, itX10, rfl, by decide, tw_774⟩
theorem tw_775 : Cond.fieldLink "RhythmBenchModel" 72 "RhythmBenchModel" "pastMany" "I" ∈ am_tb := am_tb_in (List.mem_of_getElem? (i := 775) (by decide +kernel)) (by decide +kernel)
theorem ff_X10_72 : am_ff RX10 72 10 2 := ⟨RX10, TX10, 29, itX10, rfl, by decide, tw_775⟩
theorem tw_776 : Cond.fieldLink "RhythmBenchModel" 16 "RhythmBenchModel" "typed" "[I" ∈ am_tb := am_tb_in (List.mem_of_getElem? (i := 776) (by decide +kernel)) (by decide +kernel)
theorem ff_X10_16 : am_ff RX10 16 10 3 := ⟨RX10, TX10, 29, itX10, rfl, by decide, tw_776⟩
theorem tw_777 : Cond.fieldLink "RhythmBenchModel" 114 "RhythmBenchModel" "typedMany" "I" ∈ am_tb := am_tb_in (List.mem_of_getElem? (i := 777) (by decide +kernel)) (by decide +kernel)
theorem ff_X10_114 : am_ff RX10 114 10 4 := ⟨RX10, TX10, 29, itX10, rfl, by decide, tw_777⟩
theorem tw_778 : Cond.fieldLink "RhythmBenchModel" 80 "RhythmBenchModel" "must" "I" ∈ am_tb := am_tb_in (List.mem_of_getElem? (i := 778) (by decide +kernel)) (by decide +kernel)
theorem ff_X10_80 : am_ff RX10 80 10 5 := ⟨RX10, TX10, 29, itX10, rfl, by decide, tw_778⟩
theorem tw_779 : Cond.fieldLink "RhythmBenchModel" 87 "RhythmBenchModel" "dots" "I" ∈ am_tb := am_tb_in (List.mem_of_getElem? (i := 779) (by decide +kernel)) (by decide +kernel)
theorem ff_X10_87 : am_ff RX10 87 10 6 := ⟨RX10, TX10, 29, itX10, rfl, by decide, tw_779⟩
theorem tw_780 : Cond.fieldLink "RhythmBenchModel" 90 "RhythmBenchModel" "deep" "I" ∈ am_tb := am_tb_in (List.mem_of_getElem? (i := 780) (by decide +kernel)) (by decide +kernel)
theorem ff_X10_90 : am_ff RX10 90 10 7 := ⟨RX10, TX10, 29, itX10, rfl, by decide, tw_780⟩
theorem tw_781 : Cond.fieldLink "RhythmBenchModel" 97 "RhythmBenchModel" "isRepeat" "Z" ∈ am_tb := am_tb_in (List.mem_of_getElem? (i := 781) (by decide +kernel)) (by decide +kernel)
theorem ff_X10_97 : am_ff RX10 97 10 8 := ⟨RX10, TX10, 29, itX10, rfl, by decide, tw_781⟩
theorem tw_782 : Cond.fieldLink "RhythmBenchModel" 19 "RhythmBenchModel" "items" "[I" ∈ am_tb := am_tb_in (List.mem_of_getElem? (i := 782) (by decide +kernel)) (by decide +kernel)
theorem ff_X10_19 : am_ff RX10 19 10 9 := ⟨RX10, TX10, 29, itX10, rfl, by decide, tw_782⟩
theorem tw_783 : Cond.fieldLink "RhythmBenchModel" 22 "RhythmBenchModel" "un" "[I" ∈ am_tb := am_tb_in (List.mem_of_getElem? (i := 783) (by decide +kernel)) (by decide +kernel)
theorem ff_X10_22 : am_ff RX10 22 10 10 := ⟨RX10, TX10, 29, itX10, rfl, by decide, tw_783⟩
theorem tw_784 : Cond.fieldLink "RhythmBenchModel" 124 "RhythmBenchModel" "unMany" "I" ∈ am_tb := am_tb_in (List.mem_of_getElem? (i := 784) (by decide +kernel)) (by decide +kernel)
theorem ff_X10_124 : am_ff RX10 124 10 11 := ⟨RX10, TX10, 29, itX10, rfl, by decide, tw_784⟩
theorem tw_785 : Cond.fieldLink "RhythmBenchModel" 25 "RhythmBenchModel" "onsets" "[J" ∈ am_tb := am_tb_in (List.mem_of_getElem? (i := 785) (by decide +kernel)) (by decide +kernel)
theorem ff_X10_25 : am_ff RX10 25 10 12 := ⟨RX10, TX10, 29, itX10, rfl, by decide, tw_785⟩
theorem tw_786 : Cond.fieldLink "RhythmBenchModel" 29 "RhythmBenchModel" "spans" "[J" ∈ am_tb := am_tb_in (List.mem_of_getElem? (i := 786) (by decide +kernel)) (by decide +kernel)
theorem ff_X10_29 : am_ff RX10 29 10 13 := ⟨RX10, TX10, 29, itX10, rfl, by decide, tw_786⟩
theorem tw_787 : Cond.fieldLink "RhythmBenchModel" 32 "RhythmBenchModel" "accents" "[I" ∈ am_tb := am_tb_in (List.mem_of_getElem? (i := 787) (by decide +kernel)) (by decide +kernel)
theorem ff_X10_32 : am_ff RX10 32 10 14 := ⟨RX10, TX10, 29, itX10, rfl, by decide, tw_787⟩
theorem tw_788 : Cond.fieldLink "RhythmBenchModel" 35 "RhythmBenchModel" "barOf" "[I" ∈ am_tb := am_tb_in (List.mem_of_getElem? (i := 788) (by decide +kernel)) (by decide +kernel)
theorem ff_X10_35 : am_ff RX10 35 10 15 := ⟨RX10, TX10, 29, itX10, rfl, by decide, tw_788⟩
theorem tw_789 : Cond.fieldLink "RhythmBenchModel" 38 "RhythmBenchModel" "notes" "[I" ∈ am_tb := am_tb_in (List.mem_of_getElem? (i := 789) (by decide +kernel)) (by decide +kernel)
theorem ff_X10_38 : am_ff RX10 38 10 16 := ⟨RX10, TX10, 29, itX10, rfl, by decide, tw_789⟩
theorem tw_790 : Cond.fieldLink "RhythmBenchModel" 41 "RhythmBenchModel" "many" "[I" ∈ am_tb := am_tb_in (List.mem_of_getElem? (i := 790) (by decide +kernel)) (by decide +kernel)
theorem ff_X10_41 : am_ff RX10 41 10 17 := ⟨RX10, TX10, 29, itX10, rfl, by decide, tw_790⟩
theorem tw_791 : Cond.fieldLink "RhythmBenchModel" 44 "RhythmBenchModel" "lengths" "[J" ∈ am_tb := am_tb_in (List.mem_of_getElem? (i := 791) (by decide +kernel)) (by decide +kernel)
theorem ff_X10_44 : am_ff RX10 44 10 18 := ⟨RX10, TX10, 29, itX10, rfl, by decide, tw_791⟩
theorem tw_792 : Cond.fieldLink "RhythmBenchModel" 47 "RhythmBenchModel" "barMany" "[I" ∈ am_tb := am_tb_in (List.mem_of_getElem? (i := 792) (by decide +kernel)) (by decide +kernel)
theorem ff_X10_47 : am_ff RX10 47 10 19 := ⟨RX10, TX10, 29, itX10, rfl, by decide, tw_792⟩
theorem tw_793 : Cond.fieldLink "RhythmBenchModel" 50 "RhythmBenchModel" "barLengths" "[J" ∈ am_tb := am_tb_in (List.mem_of_getElem? (i := 793) (by decide +kernel)) (by decide +kernel)
theorem ff_X10_50 : am_ff RX10 50 10 20 := ⟨RX10, TX10, 29, itX10, rfl, by decide, tw_793⟩
theorem tw_794 : Cond.fieldLink "RhythmBenchModel" 53 "RhythmBenchModel" "isBarEmpty" "[Z" ∈ am_tb := am_tb_in (List.mem_of_getElem? (i := 794) (by decide +kernel)) (by decide +kernel)
theorem ff_X10_53 : am_ff RX10 53 10 21 := ⟨RX10, TX10, 29, itX10, rfl, by decide, tw_794⟩
theorem tw_795 : Cond.fieldLink "RhythmBenchModel" 152 "RhythmBenchModel" "counted" "I" ∈ am_tb := am_tb_in (List.mem_of_getElem? (i := 795) (by decide +kernel)) (by decide +kernel)
theorem ff_X10_152 : am_ff RX10 152 10 22 := ⟨RX10, TX10, 29, itX10, rfl, by decide, tw_795⟩
theorem tw_796 : Cond.fieldLink "RhythmBenchModel" 57 "RhythmBenchModel" "upper" "[I" ∈ am_tb := am_tb_in (List.mem_of_getElem? (i := 796) (by decide +kernel)) (by decide +kernel)
theorem ff_X10_57 : am_ff RX10 57 10 23 := ⟨RX10, TX10, 29, itX10, rfl, by decide, tw_796⟩
theorem tw_797 : Cond.fieldLink "RhythmBenchModel" 60 "RhythmBenchModel" "lower" "[I" ∈ am_tb := am_tb_in (List.mem_of_getElem? (i := 797) (by decide +kernel)) (by decide +kernel)
theorem ff_X10_60 : am_ff RX10 60 10 24 := ⟨RX10, TX10, 29, itX10, rfl, by decide, tw_797⟩
theorem tw_798 : Cond.fieldLink "RhythmBenchModel" 63 "RhythmBenchModel" "had" "[I" ∈ am_tb := am_tb_in (List.mem_of_getElem? (i := 798) (by decide +kernel)) (by decide +kernel)
theorem ff_X10_63 : am_ff RX10 63 10 25 := ⟨RX10, TX10, 29, itX10, rfl, by decide, tw_798⟩
theorem tw_799 : Cond.fieldLink "RhythmBenchModel" 66 "RhythmBenchModel" "made" "[I" ∈ am_tb := am_tb_in (List.mem_of_getElem? (i := 799) (by decide +kernel)) (by decide +kernel)
theorem ff_X10_66 : am_ff RX10 66 10 26 := ⟨RX10, TX10, 29, itX10, rfl, by decide, tw_799⟩
theorem tw_800 : Cond.fieldLink "RhythmBenchModel" 69 "RhythmBenchModel" "next" "[I" ∈ am_tb := am_tb_in (List.mem_of_getElem? (i := 800) (by decide +kernel)) (by decide +kernel)
theorem ff_X10_69 : am_ff RX10 69 10 27 := ⟨RX10, TX10, 29, itX10, rfl, by decide, tw_800⟩
theorem tw_801 : Cond.fieldLink "RhythmBenchModel" 214 "RhythmBenchModel" "together" "I" ∈ am_tb := am_tb_in (List.mem_of_getElem? (i := 801) (by decide +kernel)) (by decide +kernel)
theorem ff_X10_214 : am_ff RX10 214 10 28 := ⟨RX10, TX10, 29, itX10, rfl, by decide, tw_801⟩
theorem tn_194 : Cond.fieldLinkNest "RhythmBench" 109 "RhythmBench$Part" "text" "LRhythmBench$Text;" "RhythmBench" ∈ am_nw := List.mem_filter.mpr ⟨List.mem_of_getElem? (i := 194) (by decide +kernel), rfl⟩
theorem ff_X9_109 : am_fn RX9 109 3 0 := ⟨RX3, TX3, 3, "RhythmBench", itX3, rfl, by decide, tn_194⟩
theorem tn_196 : Cond.fieldLinkNest "RhythmBench" 121 "RhythmBench$Part" "unfoldedText" "LRhythmBench$Text;" "RhythmBench" ∈ am_nw := List.mem_filter.mpr ⟨List.mem_of_getElem? (i := 196) (by decide +kernel), rfl⟩
theorem ff_X9_121 : am_fn RX9 121 3 1 := ⟨RX3, TX3, 3, "RhythmBench", itX3, rfl, by decide, tn_196⟩
theorem tn_198 : Cond.fieldLinkNest "RhythmBench" 100 "RhythmBench$Part" "score" "LRhythmBench$Score;" "RhythmBench" ∈ am_nw := List.mem_filter.mpr ⟨List.mem_of_getElem? (i := 198) (by decide +kernel), rfl⟩
theorem ff_X9_100 : am_fn RX9 100 3 2 := ⟨RX3, TX3, 3, "RhythmBench", itX3, rfl, by decide, tn_198⟩
theorem tn_199 : Cond.fieldLinkNest "RhythmBench$Overlay" 23 "RhythmBench$Part" "score" "LRhythmBench$Score;" "RhythmBench" ∈ am_nw := List.mem_filter.mpr ⟨List.mem_of_getElem? (i := 199) (by decide +kernel), rfl⟩
theorem ff_X2_23 : am_fn RX2 23 3 2 := ⟨RX3, TX3, 3, "RhythmBench", itX3, rfl, by decide, tn_199⟩
theorem tn_218 : Cond.fieldLinkNest "RhythmBench" 215 "RhythmBench$State" "texts" "[LRhythmBench$Text;" "RhythmBench" ∈ am_nw := List.mem_filter.mpr ⟨List.mem_of_getElem? (i := 218) (by decide +kernel), rfl⟩
theorem ff_X9_215 : am_fn RX9 215 5 0 := ⟨RX5, TX5, 5, "RhythmBench", itX5, rfl, by decide, tn_218⟩
theorem tn_219 : Cond.fieldLinkNest "RhythmBench" 219 "RhythmBench$State" "beats" "I" "RhythmBench" ∈ am_nw := List.mem_filter.mpr ⟨List.mem_of_getElem? (i := 219) (by decide +kernel), rfl⟩
theorem ff_X9_219 : am_fn RX9 219 5 1 := ⟨RX5, TX5, 5, "RhythmBench", itX5, rfl, by decide, tn_219⟩
theorem tn_220 : Cond.fieldLinkNest "RhythmBench" 220 "RhythmBench$State" "value" "I" "RhythmBench" ∈ am_nw := List.mem_filter.mpr ⟨List.mem_of_getElem? (i := 220) (by decide +kernel), rfl⟩
theorem ff_X9_220 : am_fn RX9 220 5 2 := ⟨RX5, TX5, 5, "RhythmBench", itX5, rfl, by decide, tn_220⟩
theorem tn_221 : Cond.fieldLinkNest "RhythmBench" 221 "RhythmBench$State" "swingA" "I" "RhythmBench" ∈ am_nw := List.mem_filter.mpr ⟨List.mem_of_getElem? (i := 221) (by decide +kernel), rfl⟩
theorem ff_X9_221 : am_fn RX9 221 5 3 := ⟨RX5, TX5, 5, "RhythmBench", itX5, rfl, by decide, tn_221⟩
theorem tn_222 : Cond.fieldLinkNest "RhythmBench" 222 "RhythmBench$State" "swingB" "I" "RhythmBench" ∈ am_nw := List.mem_filter.mpr ⟨List.mem_of_getElem? (i := 222) (by decide +kernel), rfl⟩
theorem ff_X9_222 : am_fn RX9 222 5 4 := ⟨RX5, TX5, 5, "RhythmBench", itX5, rfl, by decide, tn_222⟩
theorem fc_X0_0 : am_fc 0 0 false .int := ⟨RX0, TX0, 6, tyX0, rfl, tyX0_ok, nmX0, rfl, by decide +kernel, rfl⟩
theorem fc_X0_1 : am_fc 0 1 false .int := ⟨RX0, TX0, 6, tyX0, rfl, tyX0_ok, nmX0, rfl, by decide +kernel, rfl⟩
theorem fc_X0_2 : am_fc 0 2 false .boolean := ⟨RX0, TX0, 6, tyX0, rfl, tyX0_ok, nmX0, rfl, by decide +kernel, rfl⟩
theorem fc_X0_3 : am_fc 0 3 false .boolean := ⟨RX0, TX0, 6, tyX0, rfl, tyX0_ok, nmX0, rfl, by decide +kernel, rfl⟩
theorem fc_X0_4 : am_fc 0 4 false .int := ⟨RX0, TX0, 6, tyX0, rfl, tyX0_ok, nmX0, rfl, by decide +kernel, rfl⟩
theorem fc_X0_5 : am_fc 0 5 false .boolean := ⟨RX0, TX0, 6, tyX0, rfl, tyX0_ok, nmX0, rfl, by decide +kernel, rfl⟩
theorem fc_X2_0 : am_fc 2 0 true (.array .int) := ⟨RX2, TX2, 3, tyX2, rfl, tyX2_ok, nmX2, rfl, by decide +kernel, rfl⟩
theorem fc_X2_1 : am_fc 2 1 false .long := ⟨RX2, TX2, 3, tyX2, rfl, tyX2_ok, nmX2, rfl, by decide +kernel, rfl⟩
theorem fc_X2_2 : am_fc 2 2 false .int := ⟨RX2, TX2, 3, tyX2, rfl, tyX2_ok, nmX2, rfl, by decide +kernel, rfl⟩
theorem fc_X3_0 : am_fc 3 0 true (.object "RhythmBench$Text") := ⟨RX3, TX3, 3, tyX3, rfl, tyX3_ok, nmX3, rfl, by decide +kernel, rfl⟩
theorem fc_X3_1 : am_fc 3 1 true (.object "RhythmBench$Text") := ⟨RX3, TX3, 3, tyX3, rfl, tyX3_ok, nmX3, rfl, by decide +kernel, rfl⟩
theorem fc_X3_2 : am_fc 3 2 true (.object "RhythmBench$Score") := ⟨RX3, TX3, 3, tyX3, rfl, tyX3_ok, nmX3, rfl, by decide +kernel, rfl⟩
theorem fc_X4_0 : am_fc 4 0 true (.array .long) := ⟨RX4, TX4, 11, tyX4, rfl, tyX4_ok, nmX4, rfl, by decide +kernel, rfl⟩
theorem fc_X4_1 : am_fc 4 1 true (.array .long) := ⟨RX4, TX4, 11, tyX4, rfl, tyX4_ok, nmX4, rfl, by decide +kernel, rfl⟩
theorem fc_X4_2 : am_fc 4 2 true (.array .int) := ⟨RX4, TX4, 11, tyX4, rfl, tyX4_ok, nmX4, rfl, by decide +kernel, rfl⟩
theorem fc_X4_3 : am_fc 4 3 true (.array .int) := ⟨RX4, TX4, 11, tyX4, rfl, tyX4_ok, nmX4, rfl, by decide +kernel, rfl⟩
theorem fc_X4_4 : am_fc 4 4 true (.array .boolean) := ⟨RX4, TX4, 11, tyX4, rfl, tyX4_ok, nmX4, rfl, by decide +kernel, rfl⟩
theorem fc_X4_5 : am_fc 4 5 true (.array .long) := ⟨RX4, TX4, 11, tyX4, rfl, tyX4_ok, nmX4, rfl, by decide +kernel, rfl⟩
theorem fc_X4_6 : am_fc 4 6 true (.object "RhythmBench$TupletScale") := ⟨RX4, TX4, 11, tyX4, rfl, tyX4_ok, nmX4, rfl, by decide +kernel, rfl⟩
theorem fc_X4_7 : am_fc 4 7 false .int := ⟨RX4, TX4, 11, tyX4, rfl, tyX4_ok, nmX4, rfl, by decide +kernel, rfl⟩
theorem fc_X4_8 : am_fc 4 8 false .int := ⟨RX4, TX4, 11, tyX4, rfl, tyX4_ok, nmX4, rfl, by decide +kernel, rfl⟩
theorem fc_X4_9 : am_fc 4 9 false .long := ⟨RX4, TX4, 11, tyX4, rfl, tyX4_ok, nmX4, rfl, by decide +kernel, rfl⟩
theorem fc_X4_10 : am_fc 4 10 false .boolean := ⟨RX4, TX4, 11, tyX4, rfl, tyX4_ok, nmX4, rfl, by decide +kernel, rfl⟩
theorem fc_X5_0 : am_fc 5 0 true (.array (.object "RhythmBench$Text")) := ⟨RX5, TX5, 5, tyX5, rfl, tyX5_ok, nmX5, rfl, by decide +kernel, rfl⟩
theorem fc_X5_1 : am_fc 5 1 false .int := ⟨RX5, TX5, 5, tyX5, rfl, tyX5_ok, nmX5, rfl, by decide +kernel, rfl⟩
theorem fc_X5_2 : am_fc 5 2 false .int := ⟨RX5, TX5, 5, tyX5, rfl, tyX5_ok, nmX5, rfl, by decide +kernel, rfl⟩
theorem fc_X5_3 : am_fc 5 3 false .int := ⟨RX5, TX5, 5, tyX5, rfl, tyX5_ok, nmX5, rfl, by decide +kernel, rfl⟩
theorem fc_X5_4 : am_fc 5 4 false .int := ⟨RX5, TX5, 5, tyX5, rfl, tyX5_ok, nmX5, rfl, by decide +kernel, rfl⟩
theorem fc_X6_0 : am_fc 6 0 true (.array .char) := ⟨RX6, TX6, 2, tyX6, rfl, tyX6_ok, nmX6, rfl, by decide +kernel, rfl⟩
theorem fc_X6_1 : am_fc 6 1 false .int := ⟨RX6, TX6, 2, tyX6, rfl, tyX6_ok, nmX6, rfl, by decide +kernel, rfl⟩
theorem fc_X7_0 : am_fc 7 0 true (.array .long) := ⟨RX7, TX7, 3, tyX7, rfl, tyX7_ok, nmX7, rfl, by decide +kernel, rfl⟩
theorem fc_X7_1 : am_fc 7 1 true (.array .long) := ⟨RX7, TX7, 3, tyX7, rfl, tyX7_ok, nmX7, rfl, by decide +kernel, rfl⟩
theorem fc_X7_2 : am_fc 7 2 false .int := ⟨RX7, TX7, 3, tyX7, rfl, tyX7_ok, nmX7, rfl, by decide +kernel, rfl⟩
theorem fc_X9_0 : am_fc 9 0 true (.object "RhythmBench$Text") := ⟨RX9, TX9, 11, tyX9, rfl, tyX9_ok, nmX9, rfl, by decide +kernel, rfl⟩
theorem fc_X9_1 : am_fc 9 1 true (.object "RhythmBench$Text") := ⟨RX9, TX9, 11, tyX9, rfl, tyX9_ok, nmX9, rfl, by decide +kernel, rfl⟩
theorem fc_X9_2 : am_fc 9 2 true (.object "RhythmBench$Grammar") := ⟨RX9, TX9, 11, tyX9, rfl, tyX9_ok, nmX9, rfl, by decide +kernel, rfl⟩
theorem fc_X9_3 : am_fc 9 3 true (.array (.object "RhythmBench$Part")) := ⟨RX9, TX9, 11, tyX9, rfl, tyX9_ok, nmX9, rfl, by decide +kernel, rfl⟩
theorem fc_X9_4 : am_fc 9 4 true (.array (.object "RhythmBench$State")) := ⟨RX9, TX9, 11, tyX9, rfl, tyX9_ok, nmX9, rfl, by decide +kernel, rfl⟩
theorem fc_X9_5 : am_fc 9 5 true (.object "RhythmBench$Overlay") := ⟨RX9, TX9, 11, tyX9, rfl, tyX9_ok, nmX9, rfl, by decide +kernel, rfl⟩
theorem fc_X9_6 : am_fc 9 6 false .int := ⟨RX9, TX9, 11, tyX9, rfl, tyX9_ok, nmX9, rfl, by decide +kernel, rfl⟩
theorem fc_X9_7 : am_fc 9 7 false .int := ⟨RX9, TX9, 11, tyX9, rfl, tyX9_ok, nmX9, rfl, by decide +kernel, rfl⟩
theorem fc_X9_8 : am_fc 9 8 false .int := ⟨RX9, TX9, 11, tyX9, rfl, tyX9_ok, nmX9, rfl, by decide +kernel, rfl⟩
theorem fc_X9_9 : am_fc 9 9 false .int := ⟨RX9, TX9, 11, tyX9, rfl, tyX9_ok, nmX9, rfl, by decide +kernel, rfl⟩
theorem fc_X9_10 : am_fc 9 10 false .int := ⟨RX9, TX9, 11, tyX9, rfl, tyX9_ok, nmX9, rfl, by decide +kernel, rfl⟩
theorem fc_X10_0 : am_fc 10 0 true (.array .int) := ⟨RX10, TX10, 29, tyX10, rfl, tyX10_ok, nmX10, rfl, by decide +kernel, rfl⟩
theorem fc_X10_1 : am_fc 10 1 true (.array .int) := ⟨RX10, TX10, 29, tyX10, rfl, tyX10_ok, nmX10, rfl, by decide +kernel, rfl⟩
theorem fc_X10_2 : am_fc 10 2 false .int := ⟨RX10, TX10, 29, tyX10, rfl, tyX10_ok, nmX10, rfl, by decide +kernel, rfl⟩
theorem fc_X10_3 : am_fc 10 3 true (.array .int) := ⟨RX10, TX10, 29, tyX10, rfl, tyX10_ok, nmX10, rfl, by decide +kernel, rfl⟩
theorem fc_X10_4 : am_fc 10 4 false .int := ⟨RX10, TX10, 29, tyX10, rfl, tyX10_ok, nmX10, rfl, by decide +kernel, rfl⟩
theorem fc_X10_5 : am_fc 10 5 false .int := ⟨RX10, TX10, 29, tyX10, rfl, tyX10_ok, nmX10, rfl, by decide +kernel, rfl⟩
theorem fc_X10_6 : am_fc 10 6 false .int := ⟨RX10, TX10, 29, tyX10, rfl, tyX10_ok, nmX10, rfl, by decide +kernel, rfl⟩
theorem fc_X10_7 : am_fc 10 7 false .int := ⟨RX10, TX10, 29, tyX10, rfl, tyX10_ok, nmX10, rfl, by decide +kernel, rfl⟩
theorem fc_X10_8 : am_fc 10 8 false .boolean := ⟨RX10, TX10, 29, tyX10, rfl, tyX10_ok, nmX10, rfl, by decide +kernel, rfl⟩
theorem fc_X10_9 : am_fc 10 9 true (.array .int) := ⟨RX10, TX10, 29, tyX10, rfl, tyX10_ok, nmX10, rfl, by decide +kernel, rfl⟩
theorem fc_X10_10 : am_fc 10 10 true (.array .int) := ⟨RX10, TX10, 29, tyX10, rfl, tyX10_ok, nmX10, rfl, by decide +kernel, rfl⟩
theorem fc_X10_11 : am_fc 10 11 false .int := ⟨RX10, TX10, 29, tyX10, rfl, tyX10_ok, nmX10, rfl, by decide +kernel, rfl⟩
theorem fc_X10_12 : am_fc 10 12 true (.array .long) := ⟨RX10, TX10, 29, tyX10, rfl, tyX10_ok, nmX10, rfl, by decide +kernel, rfl⟩
theorem fc_X10_13 : am_fc 10 13 true (.array .long) := ⟨RX10, TX10, 29, tyX10, rfl, tyX10_ok, nmX10, rfl, by decide +kernel, rfl⟩
theorem fc_X10_14 : am_fc 10 14 true (.array .int) := ⟨RX10, TX10, 29, tyX10, rfl, tyX10_ok, nmX10, rfl, by decide +kernel, rfl⟩
theorem fc_X10_15 : am_fc 10 15 true (.array .int) := ⟨RX10, TX10, 29, tyX10, rfl, tyX10_ok, nmX10, rfl, by decide +kernel, rfl⟩
theorem fc_X10_16 : am_fc 10 16 true (.array .int) := ⟨RX10, TX10, 29, tyX10, rfl, tyX10_ok, nmX10, rfl, by decide +kernel, rfl⟩
theorem fc_X10_17 : am_fc 10 17 true (.array .int) := ⟨RX10, TX10, 29, tyX10, rfl, tyX10_ok, nmX10, rfl, by decide +kernel, rfl⟩
theorem fc_X10_18 : am_fc 10 18 true (.array .long) := ⟨RX10, TX10, 29, tyX10, rfl, tyX10_ok, nmX10, rfl, by decide +kernel, rfl⟩
theorem fc_X10_19 : am_fc 10 19 true (.array .int) := ⟨RX10, TX10, 29, tyX10, rfl, tyX10_ok, nmX10, rfl, by decide +kernel, rfl⟩
theorem fc_X10_20 : am_fc 10 20 true (.array .long) := ⟨RX10, TX10, 29, tyX10, rfl, tyX10_ok, nmX10, rfl, by decide +kernel, rfl⟩
theorem fc_X10_21 : am_fc 10 21 true (.array .boolean) := ⟨RX10, TX10, 29, tyX10, rfl, tyX10_ok, nmX10, rfl, by decide +kernel, rfl⟩
theorem fc_X10_22 : am_fc 10 22 false .int := ⟨RX10, TX10, 29, tyX10, rfl, tyX10_ok, nmX10, rfl, by decide +kernel, rfl⟩
theorem fc_X10_23 : am_fc 10 23 true (.array .int) := ⟨RX10, TX10, 29, tyX10, rfl, tyX10_ok, nmX10, rfl, by decide +kernel, rfl⟩
theorem fc_X10_24 : am_fc 10 24 true (.array .int) := ⟨RX10, TX10, 29, tyX10, rfl, tyX10_ok, nmX10, rfl, by decide +kernel, rfl⟩
theorem fc_X10_25 : am_fc 10 25 true (.array .int) := ⟨RX10, TX10, 29, tyX10, rfl, tyX10_ok, nmX10, rfl, by decide +kernel, rfl⟩
theorem fc_X10_26 : am_fc 10 26 true (.array .int) := ⟨RX10, TX10, 29, tyX10, rfl, tyX10_ok, nmX10, rfl, by decide +kernel, rfl⟩
theorem fc_X10_27 : am_fc 10 27 true (.array .int) := ⟨RX10, TX10, 29, tyX10, rfl, tyX10_ok, nmX10, rfl, by decide +kernel, rfl⟩
theorem fc_X10_28 : am_fc 10 28 false .int := ⟨RX10, TX10, 29, tyX10, rfl, tyX10_ok, nmX10, rfl, by decide +kernel, rfl⟩
theorem tw_67 : Cond.classLink "RhythmBenchLaw" 7 "RhythmBench" ∈ am_tb := am_tb_in (List.mem_of_getElem? (i := 67) (by decide +kernel)) (by decide +kernel)
theorem tw_68 : Cond.instantiable "RhythmBench" 11 ∈ am_tb := am_tb_in (List.mem_of_getElem? (i := 68) (by decide +kernel)) (by decide +kernel)
theorem tw_50 : Cond.initialized "RhythmBench" ∈ am_tb := am_tb_in (List.mem_of_getElem? (i := 50) (by decide +kernel)) (by decide +kernel)
theorem nc_L_7 : am_nc RL 7 9 [.null, .null, .null, .null, .null, .null, am_i 0, am_i 0, am_i 0, am_i 0, am_i 0] := ⟨RX9, TX9, 11, tyX9, itX9, rfl, tyX9_ok, fun j hj bs => by rcases (show j = 0 ∨ j = 1 ∨ j = 2 ∨ j = 3 ∨ j = 4 ∨ j = 5 ∨ j = 6 ∨ j = 7 ∨ j = 8 ∨ j = 9 ∨ j = 10 by omega) with rfl | rfl | rfl | rfl | rfl | rfl | rfl | rfl | rfl | rfl | rfl <;> rfl, tw_67, tw_68, tw_50, rfl⟩
theorem tw_75 : Cond.classLink "RhythmBench" 9 "RhythmBench$Text" ∈ am_tb := am_tb_in (List.mem_of_getElem? (i := 75) (by decide +kernel)) (by decide +kernel)
theorem tw_76 : Cond.instantiable "RhythmBench$Text" 2 ∈ am_tb := am_tb_in (List.mem_of_getElem? (i := 76) (by decide +kernel)) (by decide +kernel)
theorem tw_51 : Cond.initialized "RhythmBench$Text" ∈ am_tb := am_tb_in (List.mem_of_getElem? (i := 51) (by decide +kernel)) (by decide +kernel)
theorem nc_X9_9 : am_nc RX9 9 6 [.null, am_i 0] := ⟨RX6, TX6, 2, tyX6, itX6, rfl, tyX6_ok, fun j hj bs => by rcases (show j = 0 ∨ j = 1 by omega) with rfl | rfl <;> rfl, tw_75, tw_76, tw_51, rfl⟩
theorem tw_92 : Cond.classLink "RhythmBench" 21 "RhythmBench$Grammar" ∈ am_tb := am_tb_in (List.mem_of_getElem? (i := 92) (by decide +kernel)) (by decide +kernel)
theorem tw_93 : Cond.instantiable "RhythmBench$Grammar" 6 ∈ am_tb := am_tb_in (List.mem_of_getElem? (i := 93) (by decide +kernel)) (by decide +kernel)
theorem tw_53 : Cond.initialized "RhythmBench$Grammar" ∈ am_tb := am_tb_in (List.mem_of_getElem? (i := 53) (by decide +kernel)) (by decide +kernel)
theorem nc_X9_21 : am_nc RX9 21 0 [am_i 0, am_i 0, am_i 0, am_i 0, am_i 0, am_i 0] := ⟨RX0, TX0, 6, tyX0, itX0, rfl, tyX0_ok, fun j hj bs => by rcases (show j = 0 ∨ j = 1 ∨ j = 2 ∨ j = 3 ∨ j = 4 ∨ j = 5 by omega) with rfl | rfl | rfl | rfl | rfl | rfl <;> rfl, tw_92, tw_93, tw_53, rfl⟩
theorem tw_117 : Cond.classLink "RhythmBench" 28 "RhythmBench$Part" ∈ am_tb := am_tb_in (List.mem_of_getElem? (i := 117) (by decide +kernel)) (by decide +kernel)
theorem tw_119 : Cond.instantiable "RhythmBench$Part" 3 ∈ am_tb := am_tb_in (List.mem_of_getElem? (i := 119) (by decide +kernel)) (by decide +kernel)
theorem tw_54 : Cond.initialized "RhythmBench$Part" ∈ am_tb := am_tb_in (List.mem_of_getElem? (i := 54) (by decide +kernel)) (by decide +kernel)
theorem nc_X9_28 : am_nc RX9 28 3 [.null, .null, .null] := ⟨RX3, TX3, 3, tyX3, itX3, rfl, tyX3_ok, fun j hj bs => by rcases (show j = 0 ∨ j = 1 ∨ j = 2 by omega) with rfl | rfl | rfl <;> rfl, tw_117, tw_119, tw_54, rfl⟩
theorem tw_124 : Cond.classLink "RhythmBench$Part" 9 "RhythmBench$Text" ∈ am_tb := am_tb_in (List.mem_of_getElem? (i := 124) (by decide +kernel)) (by decide +kernel)
theorem nc_X3_9 : am_nc RX3 9 6 [.null, am_i 0] := ⟨RX6, TX6, 2, tyX6, itX6, rfl, tyX6_ok, fun j hj bs => by rcases (show j = 0 ∨ j = 1 by omega) with rfl | rfl <;> rfl, tw_124, tw_76, tw_51, rfl⟩
theorem tw_126 : Cond.classLink "RhythmBench$Part" 23 "RhythmBench$Score" ∈ am_tb := am_tb_in (List.mem_of_getElem? (i := 126) (by decide +kernel)) (by decide +kernel)
theorem tw_127 : Cond.instantiable "RhythmBench$Score" 11 ∈ am_tb := am_tb_in (List.mem_of_getElem? (i := 127) (by decide +kernel)) (by decide +kernel)
theorem tw_55 : Cond.initialized "RhythmBench$Score" ∈ am_tb := am_tb_in (List.mem_of_getElem? (i := 55) (by decide +kernel)) (by decide +kernel)
theorem nc_X3_23 : am_nc RX3 23 4 [.null, .null, .null, .null, .null, .null, .null, am_i 0, am_i 0, am_l 0, am_i 0] := ⟨RX4, TX4, 11, tyX4, itX4, rfl, tyX4_ok, fun j hj bs => by rcases (show j = 0 ∨ j = 1 ∨ j = 2 ∨ j = 3 ∨ j = 4 ∨ j = 5 ∨ j = 6 ∨ j = 7 ∨ j = 8 ∨ j = 9 ∨ j = 10 by omega) with rfl | rfl | rfl | rfl | rfl | rfl | rfl | rfl | rfl | rfl | rfl <;> rfl, tw_126, tw_127, tw_55, rfl⟩
theorem tw_132 : Cond.classLink "RhythmBench$Score" 32 "RhythmBench$TupletScale" ∈ am_tb := am_tb_in (List.mem_of_getElem? (i := 132) (by decide +kernel)) (by decide +kernel)
theorem tw_133 : Cond.instantiable "RhythmBench$TupletScale" 3 ∈ am_tb := am_tb_in (List.mem_of_getElem? (i := 133) (by decide +kernel)) (by decide +kernel)
theorem tw_56 : Cond.initialized "RhythmBench$TupletScale" ∈ am_tb := am_tb_in (List.mem_of_getElem? (i := 56) (by decide +kernel)) (by decide +kernel)
theorem nc_X4_32 : am_nc RX4 32 7 [.null, .null, am_i 0] := ⟨RX7, TX7, 3, tyX7, itX7, rfl, tyX7_ok, fun j hj bs => by rcases (show j = 0 ∨ j = 1 ∨ j = 2 by omega) with rfl | rfl | rfl <;> rfl, tw_132, tw_133, tw_56, rfl⟩
theorem tw_207 : Cond.classLink "RhythmBench" 35 "RhythmBench$State" ∈ am_tb := am_tb_in (List.mem_of_getElem? (i := 207) (by decide +kernel)) (by decide +kernel)
theorem tw_209 : Cond.instantiable "RhythmBench$State" 5 ∈ am_tb := am_tb_in (List.mem_of_getElem? (i := 209) (by decide +kernel)) (by decide +kernel)
theorem tw_57 : Cond.initialized "RhythmBench$State" ∈ am_tb := am_tb_in (List.mem_of_getElem? (i := 57) (by decide +kernel)) (by decide +kernel)
theorem nc_X9_35 : am_nc RX9 35 5 [.null, am_i 0, am_i 0, am_i 0, am_i 0] := ⟨RX5, TX5, 5, tyX5, itX5, rfl, tyX5_ok, fun j hj bs => by rcases (show j = 0 ∨ j = 1 ∨ j = 2 ∨ j = 3 ∨ j = 4 by omega) with rfl | rfl | rfl | rfl | rfl <;> rfl, tw_207, tw_209, tw_57, rfl⟩
theorem tw_214 : Cond.classLink "RhythmBench$State" 9 "RhythmBench$Text" ∈ am_tb := am_tb_in (List.mem_of_getElem? (i := 214) (by decide +kernel)) (by decide +kernel)
theorem nc_X5_9 : am_nc RX5 9 6 [.null, am_i 0] := ⟨RX6, TX6, 2, tyX6, itX6, rfl, tyX6_ok, fun j hj bs => by rcases (show j = 0 ∨ j = 1 by omega) with rfl | rfl <;> rfl, tw_214, tw_76, tw_51, rfl⟩
theorem tw_234 : Cond.classLink "RhythmBench" 42 "RhythmBench$Overlay" ∈ am_tb := am_tb_in (List.mem_of_getElem? (i := 234) (by decide +kernel)) (by decide +kernel)
theorem tw_235 : Cond.instantiable "RhythmBench$Overlay" 3 ∈ am_tb := am_tb_in (List.mem_of_getElem? (i := 235) (by decide +kernel)) (by decide +kernel)
theorem tw_58 : Cond.initialized "RhythmBench$Overlay" ∈ am_tb := am_tb_in (List.mem_of_getElem? (i := 58) (by decide +kernel)) (by decide +kernel)
theorem nc_X9_42 : am_nc RX9 42 2 [.null, am_l 0, am_i 0] := ⟨RX2, TX2, 3, tyX2, itX2, rfl, tyX2_ok, fun j hj bs => by rcases (show j = 0 ∨ j = 1 ∨ j = 2 by omega) with rfl | rfl | rfl <;> rfl, tw_234, tw_235, tw_58, rfl⟩
theorem tw_767 : Cond.classLink "RhythmBenchLaw" 10 "RhythmBenchModel" ∈ am_tb := am_tb_in (List.mem_of_getElem? (i := 767) (by decide +kernel)) (by decide +kernel)
theorem tw_768 : Cond.instantiable "RhythmBenchModel" 29 ∈ am_tb := am_tb_in (List.mem_of_getElem? (i := 768) (by decide +kernel)) (by decide +kernel)
theorem tw_59 : Cond.initialized "RhythmBenchModel" ∈ am_tb := am_tb_in (List.mem_of_getElem? (i := 59) (by decide +kernel)) (by decide +kernel)
theorem nc_L_10 : am_nc RL 10 10 [.null, .null, am_i 0, .null, am_i 0, am_i 0, am_i 0, am_i 0, am_i 0, .null, .null, am_i 0, .null, .null, .null, .null, .null, .null, .null, .null, .null, .null, am_i 0, .null, .null, .null, .null, .null, am_i 0] := ⟨RX10, TX10, 29, tyX10, itX10, rfl, tyX10_ok, fun j hj bs => by rcases (show j = 0 ∨ j = 1 ∨ j = 2 ∨ j = 3 ∨ j = 4 ∨ j = 5 ∨ j = 6 ∨ j = 7 ∨ j = 8 ∨ j = 9 ∨ j = 10 ∨ j = 11 ∨ j = 12 ∨ j = 13 ∨ j = 14 ∨ j = 15 ∨ j = 16 ∨ j = 17 ∨ j = 18 ∨ j = 19 ∨ j = 20 ∨ j = 21 ∨ j = 22 ∨ j = 23 ∨ j = 24 ∨ j = 25 ∨ j = 26 ∨ j = 27 ∨ j = 28 by omega) with rfl | rfl | rfl | rfl | rfl | rfl | rfl | rfl | rfl | rfl | rfl | rfl | rfl | rfl | rfl | rfl | rfl | rfl | rfl | rfl | rfl | rfl | rfl | rfl | rfl | rfl | rfl | rfl | rfl <;> rfl, tw_767, tw_768, tw_59, rfl⟩
abbrev am_rm (f l c s : Nat) : Room := { frames := f, cells := c, slots := s, locals := l }
def YX0_init : am_Y := (yX0_init, cX0_init, 1, none, true, am_rm 1 21 0 0)
def YX0_wrongPlace : am_Y := (yX0_wrongPlace, cX0_wrongPlace, 3, (some .int), false, am_rm 8 176 0 0)
def YX0_start : am_Y := (yX0_start, cX0_start, 1, none, false, am_rm 1 20 0 0)
def YX0_accepts : am_Y := (yX0_accepts, cX0_accepts, 3, (some .boolean), false, am_rm 7 154 0 0)
def YX0_goesOn : am_Y := (yX0_goesOn, cX0_goesOn, 3, (some .boolean), false, am_rm 0 0 0 0)
def YX0_acceptsItem : am_Y := (yX0_acceptsItem, cX0_acceptsItem, 2, (some .boolean), false, am_rm 6 133 0 0)
def YX0_beginsSound : am_Y := (yX0_beginsSound, cX0_beginsSound, 3, (some .boolean), false, am_rm 5 111 0 0)
def YX0_endSound : am_Y := (yX0_endSound, cX0_endSound, 1, none, false, am_rm 0 0 0 0)
def YX0_addsDot : am_Y := (yX0_addsDot, cX0_addsDot, 1, (some .boolean), false, am_rm 0 0 0 0)
def YX0_addsTie : am_Y := (yX0_addsTie, cX0_addsTie, 2, (some .boolean), false, am_rm 1 20 0 0)
def YX0_opensTuplet : am_Y := (yX0_opensTuplet, cX0_opensTuplet, 1, (some .boolean), false, am_rm 1 22 0 0)
def YX0_closesTuplet : am_Y := (yX0_closesTuplet, cX0_closesTuplet, 1, (some .boolean), false, am_rm 0 0 0 0)
def YX0_opensRepeat : am_Y := (yX0_opensRepeat, cX0_opensRepeat, 1, (some .boolean), false, am_rm 0 0 0 0)
def YX0_closesRepeat : am_Y := (yX0_closesRepeat, cX0_closesRepeat, 1, (some .boolean), false, am_rm 1 22 0 0)
def YX1_halvings : am_Y := (yX1_halvings, cX1_halvings, 1, (some .int), false, am_rm 4 91 0 0)
def YX1_digit : am_Y := (yX1_digit, cX1_digit, 1, (some .int), false, am_rm 0 0 0 0)
def YX2_init : am_Y := (yX2_init, cX2_init, 1, none, true, am_rm 1 21 1 4)
def YX2_now : am_Y := (yX2_now, cX2_now, 1, (some .long), false, am_rm 0 0 0 0)
def YX2_set : am_Y := (yX2_set, cX2_set, 1, (some .int), false, am_rm 0 0 0 0)
def YX2_start : am_Y := (yX2_start, cX2_start, 2, none, false, am_rm 0 0 0 0)
def YX2_advance : am_Y := (yX2_advance, cX2_advance, 4, (some .boolean), false, am_rm 2 42 0 0)
def YX2_offer : am_Y := (yX2_offer, cX2_offer, 4, none, false, am_rm 0 0 0 0)
def YX3_init : am_Y := (yX3_init, cX3_init, 1, none, true, am_rm 3 61 14 3425)
def YX3_take : am_Y := (yX3_take, cX3_take, 2, none, false, am_rm 7 159 0 0)
def YX4_init : am_Y := (yX4_init, cX4_init, 1, none, true, am_rm 2 41 9 2410)
def YX4_count : am_Y := (yX4_count, cX4_count, 1, (some .int), false, am_rm 0 0 0 0)
def YX4_barCount : am_Y := (yX4_barCount, cX4_barCount, 1, (some .int), false, am_rm 0 0 0 0)
def YX4_total : am_Y := (yX4_total, cX4_total, 1, (some .long), false, am_rm 0 0 0 0)
def YX4_hasEvent : am_Y := (yX4_hasEvent, cX4_hasEvent, 2, (some .boolean), false, am_rm 0 0 0 0)
def YX4_hasBar : am_Y := (yX4_hasBar, cX4_hasBar, 2, (some .boolean), false, am_rm 0 0 0 0)
def YX4_begin : am_Y := (yX4_begin, cX4_begin, 2, (some .long), false, am_rm 1 21 0 0)
def YX4_end : am_Y := (yX4_end, cX4_end, 2, (some .long), false, am_rm 1 21 0 0)
def YX4_notesOf : am_Y := (yX4_notesOf, cX4_notesOf, 2, (some .int), false, am_rm 1 21 0 0)
def YX4_barOf : am_Y := (yX4_barOf, cX4_barOf, 2, (some .int), false, am_rm 1 21 0 0)
def YX4_isAccented : am_Y := (yX4_isAccented, cX4_isAccented, 2, (some .boolean), false, am_rm 1 21 0 0)
def YX4_barLength : am_Y := (yX4_barLength, cX4_barLength, 2, (some .long), false, am_rm 1 21 0 0)
def YX4_build : am_Y := (yX4_build, cX4_build, 4, none, false, am_rm 6 136 0 0)
def YX4_start : am_Y := (yX4_start, cX4_start, 1, none, false, am_rm 1 20 0 0)
def YX4_beginBar : am_Y := (yX4_beginBar, cX4_beginBar, 1, none, false, am_rm 0 0 0 0)
def YX4_addSound : am_Y := (yX4_addSound, cX4_addSound, 6, none, false, am_rm 5 111 0 0)
def YX4_addNote : am_Y := (yX4_addNote, cX4_addNote, 4, none, false, am_rm 1 21 0 0)
def YX5_init : am_Y := (yX5_init, cX5_init, 2, none, true, am_rm 2 42 9 412)
def YX6_init (L : Nat) : am_Y := (yX6_init, cX6_init, 2, none, true, am_rm 1 21 1 L)
def YX6_size : am_Y := (yX6_size, cX6_size, 1, (some .int), false, am_rm 0 0 0 0)
def YX6_isFull : am_Y := (yX6_isFull, cX6_isFull, 1, (some .boolean), false, am_rm 0 0 0 0)
def YX6_at : am_Y := (yX6_at, cX6_at, 2, (some .int), false, am_rm 0 0 0 0)
def YX6_makeEmpty : am_Y := (yX6_makeEmpty, cX6_makeEmpty, 1, none, false, am_rm 0 0 0 0)
def YX6_append : am_Y := (yX6_append, cX6_append, 2, none, false, am_rm 0 0 0 0)
def YX6_appendPiece : am_Y := (yX6_appendPiece, cX6_appendPiece, 6, none, false, am_rm 1 21 0 0)
def YX6_become : am_Y := (yX6_become, cX6_become, 4, none, false, am_rm 1 21 0 0)
def YX6_seek : am_Y := (yX6_seek, cX6_seek, 5, (some .int), false, am_rm 0 0 0 0)
def YX7_init : am_Y := (yX7_init, cX7_init, 1, none, true, am_rm 1 21 2 6)
def YX7_start : am_Y := (yX7_start, cX7_start, 1, none, false, am_rm 0 0 0 0)
def YX7_open : am_Y := (yX7_open, cX7_open, 3, none, false, am_rm 0 0 0 0)
def YX7_close : am_Y := (yX7_close, cX7_close, 1, none, false, am_rm 0 0 0 0)
def YX7_apply : am_Y := (yX7_apply, cX7_apply, 7, (some .long), false, am_rm 0 0 0 0)
def YX8_unfold : am_Y := (yX8_unfold, cX8_unfold, 5, none, false, am_rm 4 100 0 0)
def YX8_appendPasses : am_Y := (yX8_appendPasses, cX8_appendPasses, 7, none, false, am_rm 3 74 0 0)
def YX8_appendEnding : am_Y := (yX8_appendEnding, cX8_appendEnding, 7, none, false, am_rm 2 48 0 0)
def YX8_isEndingOf : am_Y := (yX8_isEndingOf, cX8_isEndingOf, 5, (some .boolean), false, am_rm 1 24 0 0)
def YX8_sounds : am_Y := (yX8_sounds, cX8_sounds, 3, (some .int), false, am_rm 5 111 0 0)
def YX9_init : am_Y := (yX9_init, cX9_init, 2, none, true, am_rm 4 81 118 16823)
def YX9_type : am_Y := (yX9_type, cX9_type, 2, (some .int), false, am_rm 1 21 0 0)
def YX9_clear : am_Y := (yX9_clear, cX9_clear, 2, (some .int), false, am_rm 1 20 0 0)
def YX9_read : am_Y := (yX9_read, cX9_read, 4, (some .int), false, am_rm 9 198 0 0)
def YX9_copy : am_Y := (yX9_copy, cX9_copy, 5, (some .int), false, am_rm 8 180 0 0)
def YX9_spread : am_Y := (yX9_spread, cX9_spread, 7, (some .int), false, am_rm 8 180 0 0)
def YX9_textOf : am_Y := (yX9_textOf, cX9_textOf, 4, (some .int), false, am_rm 1 21 0 0)
def YX9_unfolded : am_Y := (yX9_unfolded, cX9_unfolded, 4, (some .int), false, am_rm 1 21 0 0)
def YX9_setMeter : am_Y := (yX9_setMeter, cX9_setMeter, 4, (some .int), false, am_rm 3 66 0 0)
def YX9_setSwing : am_Y := (yX9_setSwing, cX9_setSwing, 4, (some .int), false, am_rm 3 66 0 0)
def YX9_events : am_Y := (yX9_events, cX9_events, 3, (some .int), false, am_rm 1 21 0 0)
def YX9_length : am_Y := (yX9_length, cX9_length, 4, (some .long), false, am_rm 2 56 0 0)
def YX9_onset : am_Y := (yX9_onset, cX9_onset, 5, (some .long), false, am_rm 2 56 0 0)
def YX9_lasts : am_Y := (yX9_lasts, cX9_lasts, 5, (some .long), false, am_rm 2 56 0 0)
def YX9_swung : am_Y := (yX9_swung, cX9_swung, 5, (some .long), false, am_rm 2 56 0 0)
def YX9_event : am_Y := (yX9_event, cX9_event, 5, (some .int), false, am_rm 3 73 0 0)
def YX9_bars : am_Y := (yX9_bars, cX9_bars, 3, (some .int), false, am_rm 1 21 0 0)
def YX9_bar : am_Y := (yX9_bar, cX9_bar, 5, (some .long), false, am_rm 2 56 0 0)
def YX9_wrongBar : am_Y := (yX9_wrongBar, cX9_wrongBar, 10, (some .int), false, am_rm 2 42 0 0)
def YX9_syncopation : am_Y := (yX9_syncopation, cX9_syncopation, 6, (some .int), false, am_rm 3 73 0 0)
def YX9_offGrid : am_Y := (yX9_offGrid, cX9_offGrid, 7, (some .int), false, am_rm 2 42 0 0)
def YX9_leastGrid : am_Y := (yX9_leastGrid, cX9_leastGrid, 8, (some .int), false, am_rm 2 42 0 0)
def YX9_times : am_Y := (yX9_times, cX9_times, 2, (some .int), false, am_rm 3 65 0 0)
def YX9_time : am_Y := (yX9_time, cX9_time, 4, (some .long), false, am_rm 3 65 0 0)
def YX9_cycle : am_Y := (yX9_cycle, cX9_cycle, 8, (some .long), false, am_rm 2 57 0 0)
def YX9_meets : am_Y := (yX9_meets, cX9_meets, 7, (some .int), false, am_rm 3 72 0 0)
def YX9_undo : am_Y := (yX9_undo, cX9_undo, 3, (some .int), false, am_rm 8 180 0 0)
def YX9_fingerprint : am_Y := (yX9_fingerprint, cX9_fingerprint, 6, (some .long), false, am_rm 1 21 0 0)
def YX9_partAt : am_Y := (yX9_partAt, cX9_partAt, 2, (some (.object "RhythmBench$Part")), false, am_rm 0 0 0 0)
def YX9_remember : am_Y := (yX9_remember, cX9_remember, 3, none, false, am_rm 2 44 0 0)
def YX9_dropOldest : am_Y := (yX9_dropOldest, cX9_dropOldest, 3, none, false, am_rm 0 0 0 0)
def YX9_isMeterValue : am_Y := (yX9_isMeterValue, cX9_isMeterValue, 1, (some .boolean), false, am_rm 0 0 0 0)
def YX9_meterLength : am_Y := (yX9_meterLength, cX9_meterLength, 1, (some .long), false, am_rm 0 0 0 0)
def YX9_level : am_Y := (yX9_level, cX9_level, 6, (some .int), false, am_rm 1 20 0 0)
def YX9_leastLevelBetween : am_Y := (yX9_leastLevelBetween, cX9_leastLevelBetween, 10, (some .int), false, am_rm 1 20 0 0)
def YX9_syncopationOf : am_Y := (yX9_syncopationOf, cX9_syncopationOf, 5, (some .int), false, am_rm 2 49 0 0)
def YX9_swing : am_Y := (yX9_swing, cX9_swing, 11, (some .long), false, am_rm 0 0 0 0)
def YX9_isSide : am_Y := (yX9_isSide, cX9_isSide, 1, (some .boolean), false, am_rm 0 0 0 0)
def YX9_side : am_Y := (yX9_side, cX9_side, 7, (some .long), false, am_rm 1 30 0 0)
def YX9_commonDivisor : am_Y := (yX9_commonDivisor, cX9_commonDivisor, 11, (some .long), false, am_rm 0 0 0 0)
def YX9_commonCycle : am_Y := (yX9_commonCycle, cX9_commonCycle, 8, (some .long), false, am_rm 1 30 0 0)
def YX9_meetings : am_Y := (yX9_meetings, cX9_meetings, 11, (some .int), false, am_rm 2 42 0 0)
def YX10_init : am_Y := (yX10_init, cX10_init, 1, none, true, am_rm 1 21 20 16000)
def YX10_in : am_Y := (yX10_in, cX10_in, 3, (some .boolean), false, am_rm 0 0 0 0)
def YX10_act : am_Y := (yX10_act, cX10_act, 2, none, false, am_rm 0 0 0 0)
def YX10_isPart : am_Y := (yX10_isPart, cX10_isPart, 1, (some .boolean), false, am_rm 1 22 0 0)
def YX10_halvings : am_Y := (yX10_halvings, cX10_halvings, 1, (some .int), false, am_rm 0 0 0 0)
def YX10_isDigit : am_Y := (yX10_isDigit, cX10_isDigit, 2, (some .boolean), false, am_rm 1 22 0 0)
def YX10_begins : am_Y := (yX10_begins, cX10_begins, 2, (some .boolean), false, am_rm 1 21 0 0)
def YX10_outside : am_Y := (yX10_outside, cX10_outside, 2, (some .boolean), false, am_rm 0 0 0 0)
def YX10_dotted : am_Y := (yX10_dotted, cX10_dotted, 2, (some .boolean), false, am_rm 2 42 0 0)
def YX10_numbered : am_Y := (yX10_numbered, cX10_numbered, 2, (some .boolean), false, am_rm 2 43 0 0)
def YX10_may : am_Y := (yX10_may, cX10_may, 2, (some .boolean), false, am_rm 3 64 0 0)
def YX10_wrongAt : am_Y := (yX10_wrongAt, cX10_wrongAt, 2, (some .int), false, am_rm 4 85 0 0)
def YX10_at : am_Y := (yX10_at, cX10_at, 3, (some .int), false, am_rm 0 0 0 0)
def YX10_lays : am_Y := (yX10_lays, cX10_lays, 5, (some .int), false, am_rm 1 22 0 0)
def YX10_closing : am_Y := (yX10_closing, cX10_closing, 4, (some .int), false, am_rm 1 22 0 0)
def YX10_passes : am_Y := (yX10_passes, cX10_passes, 7, none, false, am_rm 2 46 0 0)
def YX10_unfolds : am_Y := (yX10_unfolds, cX10_unfolds, 5, none, false, am_rm 3 72 0 0)
def YX10_lengthAt : am_Y := (yX10_lengthAt, cX10_lengthAt, 7, (some .long), false, am_rm 1 20 0 0)
def YX10_addsEvent : am_Y := (yX10_addsEvent, cX10_addsEvent, 10, none, false, am_rm 0 0 0 0)
def YX10_works : am_Y := (yX10_works, cX10_works, 14, none, false, am_rm 4 96 0 0)
def YX10_type : am_Y := (yX10_type, cX10_type, 2, (some .int), false, am_rm 1 22 0 0)
def YX10_clear : am_Y := (yX10_clear, cX10_clear, 2, (some .int), false, am_rm 0 0 0 0)
def YX10_takes : am_Y := (yX10_takes, cX10_takes, 5, none, false, am_rm 0 0 0 0)
def YX10_read : am_Y := (yX10_read, cX10_read, 5, (some .int), false, am_rm 5 129 0 0)
def YX10_copy : am_Y := (yX10_copy, cX10_copy, 4, (some .int), false, am_rm 5 129 0 0)
def YX10_spread : am_Y := (yX10_spread, cX10_spread, 7, (some .int), false, am_rm 5 129 0 0)
def YX10_textOf : am_Y := (yX10_textOf, cX10_textOf, 3, (some .int), false, am_rm 2 42 0 0)
def YX10_unfolded : am_Y := (yX10_unfolded, cX10_unfolded, 3, (some .int), false, am_rm 4 96 0 0)
def YX10_setMeter : am_Y := (yX10_setMeter, cX10_setMeter, 5, (some .int), false, am_rm 1 22 0 0)
def YX10_setSwing : am_Y := (yX10_setSwing, cX10_setSwing, 4, (some .int), false, am_rm 1 22 0 0)
def YX10_divisor : am_Y := (yX10_divisor, cX10_divisor, 10, (some .long), false, am_rm 0 0 0 0)
def YX10_told : am_Y := (yX10_told, cX10_told, 7, (some .long), false, am_rm 1 29 0 0)
def YX10_events : am_Y := (yX10_events, cX10_events, 2, (some .int), false, am_rm 5 129 0 0)
def YX10_length : am_Y := (yX10_length, cX10_length, 3, (some .long), false, am_rm 5 129 0 0)
def YX10_isEvent : am_Y := (yX10_isEvent, cX10_isEvent, 3, (some .boolean), false, am_rm 5 129 0 0)
def YX10_onset : am_Y := (yX10_onset, cX10_onset, 4, (some .long), false, am_rm 6 151 0 0)
def YX10_lasts : am_Y := (yX10_lasts, cX10_lasts, 4, (some .long), false, am_rm 6 151 0 0)
def YX10_swungOf : am_Y := (yX10_swungOf, cX10_swungOf, 9, (some .long), false, am_rm 0 0 0 0)
def YX10_swung : am_Y := (yX10_swung, cX10_swung, 4, (some .long), false, am_rm 6 151 0 0)
def YX10_meter : am_Y := (yX10_meter, cX10_meter, 1, (some .long), false, am_rm 0 0 0 0)
def YX10_levelOf : am_Y := (yX10_levelOf, cX10_levelOf, 4, (some .int), false, am_rm 1 20 0 0)
def YX10_syncopationOf : am_Y := (yX10_syncopationOf, cX10_syncopationOf, 10, (some .int), false, am_rm 2 43 0 0)
def YX10_event : am_Y := (yX10_event, cX10_event, 5, (some .int), false, am_rm 6 151 0 0)
def YX10_bars : am_Y := (yX10_bars, cX10_bars, 2, (some .int), false, am_rm 5 129 0 0)
def YX10_bar : am_Y := (yX10_bar, cX10_bar, 4, (some .long), false, am_rm 5 129 0 0)
def YX10_wrongBar : am_Y := (yX10_wrongBar, cX10_wrongBar, 4, (some .int), false, am_rm 5 129 0 0)
def YX10_syncopation : am_Y := (yX10_syncopation, cX10_syncopation, 4, (some .int), false, am_rm 5 129 0 0)
def YX10_offGrid : am_Y := (yX10_offGrid, cX10_offGrid, 5, (some .int), false, am_rm 5 129 0 0)
def YX10_leastGrid : am_Y := (yX10_leastGrid, cX10_leastGrid, 7, (some .int), false, am_rm 5 129 0 0)
def YX10_startsAll : am_Y := (yX10_startsAll, cX10_startsAll, 2, none, false, am_rm 5 129 0 0)
def YX10_nextTime : am_Y := (yX10_nextTime, cX10_nextTime, 6, (some .long), false, am_rm 0 0 0 0)
def YX10_times : am_Y := (yX10_times, cX10_times, 2, (some .int), false, am_rm 6 150 0 0)
def YX10_time : am_Y := (yX10_time, cX10_time, 6, (some .long), false, am_rm 6 150 0 0)
def YX10_cycleOf : am_Y := (yX10_cycleOf, cX10_cycleOf, 5, (some .long), false, am_rm 5 129 0 0)
def YX10_cycle : am_Y := (yX10_cycle, cX10_cycle, 6, (some .long), false, am_rm 6 153 0 0)
def YX10_meets : am_Y := (yX10_meets, cX10_meets, 16, (some .int), false, am_rm 6 153 0 0)
def YX10_undo : am_Y := (yX10_undo, cX10_undo, 2, (some .int), false, am_rm 0 0 0 0)
def YX10_fingerprint : am_Y := (yX10_fingerprint, cX10_fingerprint, 5, (some .long), false, am_rm 0 0 0 0)
theorem tw_97 : Cond.methodLink "RhythmBench$Grammar" 3 ⟨"java/lang/Object","<init>","()V"⟩ ∈ am_tb := am_tb_in (List.mem_of_getElem? (i := 97) (by decide +kernel)) (by decide +kernel)
theorem tw_73 : Cond.instanceMethod ⟨"java/lang/Object","<init>","()V"⟩ ∈ am_tb := am_tb_in (List.mem_of_getElem? (i := 73) (by decide +kernel)) (by decide +kernel)
theorem tw_74 : Cond.code ⟨"java/lang/Object","<init>","()V"⟩ object_method_1_code 1 (Option.none : Option FieldType) ∈ am_tb := am_tb_in (List.mem_of_getElem? (i := 74) (by decide +kernel)) (by decide +kernel)
theorem lk_X0_3 : Cond.methodLink RX0 3 Lib.objectInit ∈ am_tb ∧ Cond.instanceMethod Lib.objectInit ∈ am_tb ∧ Cond.code Lib.objectInit ⟨#[0xb1]⟩ 1 none ∈ am_tb := ⟨tw_97, tw_73, tw_74⟩
theorem tw_320 : Cond.methodLink "RhythmBench$Grammar" 9 ⟨"RhythmBench$Grammar","start","()V"⟩ ∈ am_tb := am_tb_in (List.mem_of_getElem? (i := 320) (by decide +kernel)) (by decide +kernel)
theorem tw_323 : Cond.code ⟨"RhythmBench$Grammar","start","()V"⟩ prog_2_method_3_code 1 (Option.none : Option FieldType) ∈ am_tb := am_tb_in (List.mem_of_getElem? (i := 323) (by decide +kernel)) (by decide +kernel)
theorem tw_322 : Cond.instanceMethod ⟨"RhythmBench$Grammar","start","()V"⟩ ∈ am_tb := am_tb_in (List.mem_of_getElem? (i := 322) (by decide +kernel)) (by decide +kernel)
theorem tw_2 : Cond.selects "RhythmBench$Grammar" ⟨"RhythmBench$Grammar","start","()V"⟩ ⟨"RhythmBench$Grammar","start","()V"⟩ ∈ am_tb := am_tb_in (List.mem_of_getElem? (i := 2) (by decide +kernel)) (by decide +kernel)
theorem lk_X0_9 : Cond.methodLink RX0 9 yX0_start ∈ am_tb ∧ Cond.initialized yX0_start.cls ∈ am_tb ∧ Cond.code yX0_start cX0_start 1 none ∈ am_tb ∧ Cond.instanceMethod yX0_start ∈ am_tb ∧ Cond.selects yX0_start.cls yX0_start yX0_start ∈ am_tb := ⟨tw_320, tw_53, tw_323, tw_322, tw_2⟩
theorem tw_328 : Cond.methodLink "RhythmBench$Grammar" 14 ⟨"RhythmBench$Text","size","()I"⟩ ∈ am_tb := am_tb_in (List.mem_of_getElem? (i := 328) (by decide +kernel)) (by decide +kernel)
theorem tw_299 : Cond.code ⟨"RhythmBench$Text","size","()I"⟩ prog_8_method_2_code 1 (Option.some FieldType.int) ∈ am_tb := am_tb_in (List.mem_of_getElem? (i := 299) (by decide +kernel)) (by decide +kernel)
theorem tw_297 : Cond.instanceMethod ⟨"RhythmBench$Text","size","()I"⟩ ∈ am_tb := am_tb_in (List.mem_of_getElem? (i := 297) (by decide +kernel)) (by decide +kernel)
theorem tw_298 : Cond.selects "RhythmBench$Text" ⟨"RhythmBench$Text","size","()I"⟩ ⟨"RhythmBench$Text","size","()I"⟩ ∈ am_tb := am_tb_in (List.mem_of_getElem? (i := 298) (by decide +kernel)) (by decide +kernel)
theorem lk_X0_14 : Cond.methodLink RX0 14 yX6_size ∈ am_tb ∧ Cond.initialized yX6_size.cls ∈ am_tb ∧ Cond.code yX6_size cX6_size 1 (some .int) ∈ am_tb ∧ Cond.instanceMethod yX6_size ∈ am_tb ∧ Cond.selects yX6_size.cls yX6_size yX6_size ∈ am_tb := ⟨tw_328, tw_51, tw_299, tw_297, tw_298⟩
theorem tw_329 : Cond.methodLink "RhythmBench$Grammar" 20 ⟨"RhythmBench$Text","at","(I)I"⟩ ∈ am_tb := am_tb_in (List.mem_of_getElem? (i := 329) (by decide +kernel)) (by decide +kernel)
theorem tw_332 : Cond.code ⟨"RhythmBench$Text","at","(I)I"⟩ prog_8_method_4_code 2 (Option.some FieldType.int) ∈ am_tb := am_tb_in (List.mem_of_getElem? (i := 332) (by decide +kernel)) (by decide +kernel)
theorem tw_330 : Cond.instanceMethod ⟨"RhythmBench$Text","at","(I)I"⟩ ∈ am_tb := am_tb_in (List.mem_of_getElem? (i := 330) (by decide +kernel)) (by decide +kernel)
theorem tw_331 : Cond.selects "RhythmBench$Text" ⟨"RhythmBench$Text","at","(I)I"⟩ ⟨"RhythmBench$Text","at","(I)I"⟩ ∈ am_tb := am_tb_in (List.mem_of_getElem? (i := 331) (by decide +kernel)) (by decide +kernel)
theorem lk_X0_20 : Cond.methodLink RX0 20 yX6_at ∈ am_tb ∧ Cond.initialized yX6_at.cls ∈ am_tb ∧ Cond.code yX6_at cX6_at 2 (some .int) ∈ am_tb ∧ Cond.instanceMethod yX6_at ∈ am_tb ∧ Cond.selects yX6_at.cls yX6_at yX6_at ∈ am_tb := ⟨tw_329, tw_51, tw_332, tw_330, tw_331⟩
theorem tw_333 : Cond.methodLink "RhythmBench$Grammar" 24 ⟨"RhythmBench$Grammar","accepts","(I)Z"⟩ ∈ am_tb := am_tb_in (List.mem_of_getElem? (i := 333) (by decide +kernel)) (by decide +kernel)
theorem tw_336 : Cond.code ⟨"RhythmBench$Grammar","accepts","(I)Z"⟩ prog_2_method_4_code 3 (Option.some FieldType.boolean) ∈ am_tb := am_tb_in (List.mem_of_getElem? (i := 336) (by decide +kernel)) (by decide +kernel)
theorem tw_335 : Cond.instanceMethod ⟨"RhythmBench$Grammar","accepts","(I)Z"⟩ ∈ am_tb := am_tb_in (List.mem_of_getElem? (i := 335) (by decide +kernel)) (by decide +kernel)
theorem tw_4 : Cond.selects "RhythmBench$Grammar" ⟨"RhythmBench$Grammar","accepts","(I)Z"⟩ ⟨"RhythmBench$Grammar","accepts","(I)Z"⟩ ∈ am_tb := am_tb_in (List.mem_of_getElem? (i := 4) (by decide +kernel)) (by decide +kernel)
theorem lk_X0_24 : Cond.methodLink RX0 24 yX0_accepts ∈ am_tb ∧ Cond.initialized yX0_accepts.cls ∈ am_tb ∧ Cond.code yX0_accepts cX0_accepts 3 (some .boolean) ∈ am_tb ∧ Cond.instanceMethod yX0_accepts ∈ am_tb ∧ Cond.selects yX0_accepts.cls yX0_accepts yX0_accepts ∈ am_tb := ⟨tw_333, tw_53, tw_336, tw_335, tw_4⟩
theorem tw_324 : Cond.methodLink "RhythmBench$Grammar" 42 ⟨"RhythmBench$Grammar","endSound","()V"⟩ ∈ am_tb := am_tb_in (List.mem_of_getElem? (i := 324) (by decide +kernel)) (by decide +kernel)
theorem tw_327 : Cond.code ⟨"RhythmBench$Grammar","endSound","()V"⟩ prog_2_method_8_code 1 (Option.none : Option FieldType) ∈ am_tb := am_tb_in (List.mem_of_getElem? (i := 327) (by decide +kernel)) (by decide +kernel)
theorem tw_326 : Cond.instanceMethod ⟨"RhythmBench$Grammar","endSound","()V"⟩ ∈ am_tb := am_tb_in (List.mem_of_getElem? (i := 326) (by decide +kernel)) (by decide +kernel)
theorem tw_3 : Cond.selects "RhythmBench$Grammar" ⟨"RhythmBench$Grammar","endSound","()V"⟩ ⟨"RhythmBench$Grammar","endSound","()V"⟩ ∈ am_tb := am_tb_in (List.mem_of_getElem? (i := 3) (by decide +kernel)) (by decide +kernel)
theorem lk_X0_42 : Cond.methodLink RX0 42 yX0_endSound ∈ am_tb ∧ Cond.initialized yX0_endSound.cls ∈ am_tb ∧ Cond.code yX0_endSound cX0_endSound 1 none ∈ am_tb ∧ Cond.instanceMethod yX0_endSound ∈ am_tb ∧ Cond.selects yX0_endSound.cls yX0_endSound yX0_endSound ∈ am_tb := ⟨tw_324, tw_53, tw_327, tw_326, tw_3⟩
theorem tw_337 : Cond.methodLink "RhythmBench$Grammar" 45 ⟨"RhythmBench$Notation","digit","(I)I"⟩ ∈ am_tb := am_tb_in (List.mem_of_getElem? (i := 337) (by decide +kernel)) (by decide +kernel)
theorem tw_60 : Cond.initialized "RhythmBench$Notation" ∈ am_tb := am_tb_in (List.mem_of_getElem? (i := 60) (by decide +kernel)) (by decide +kernel)
theorem tw_339 : Cond.code ⟨"RhythmBench$Notation","digit","(I)I"⟩ prog_3_method_3_code 1 (Option.some FieldType.int) ∈ am_tb := am_tb_in (List.mem_of_getElem? (i := 339) (by decide +kernel)) (by decide +kernel)
theorem tw_338 : Cond.static ⟨"RhythmBench$Notation","digit","(I)I"⟩ ∈ am_tb := am_tb_in (List.mem_of_getElem? (i := 338) (by decide +kernel)) (by decide +kernel)
theorem lk_X0_45 : Cond.methodLink RX0 45 yX1_digit ∈ am_tb ∧ Cond.initialized yX1_digit.cls ∈ am_tb ∧ Cond.code yX1_digit cX1_digit 1 (some .int) ∈ am_tb ∧ Cond.static yX1_digit ∈ am_tb := ⟨tw_337, tw_60, tw_339, tw_338⟩
theorem tw_340 : Cond.methodLink "RhythmBench$Grammar" 50 ⟨"RhythmBench$Grammar","beginsSound","(IZ)Z"⟩ ∈ am_tb := am_tb_in (List.mem_of_getElem? (i := 340) (by decide +kernel)) (by decide +kernel)
theorem tw_343 : Cond.code ⟨"RhythmBench$Grammar","beginsSound","(IZ)Z"⟩ prog_2_method_7_code 3 (Option.some FieldType.boolean) ∈ am_tb := am_tb_in (List.mem_of_getElem? (i := 343) (by decide +kernel)) (by decide +kernel)
theorem tw_342 : Cond.instanceMethod ⟨"RhythmBench$Grammar","beginsSound","(IZ)Z"⟩ ∈ am_tb := am_tb_in (List.mem_of_getElem? (i := 342) (by decide +kernel)) (by decide +kernel)
theorem tw_5 : Cond.selects "RhythmBench$Grammar" ⟨"RhythmBench$Grammar","beginsSound","(IZ)Z"⟩ ⟨"RhythmBench$Grammar","beginsSound","(IZ)Z"⟩ ∈ am_tb := am_tb_in (List.mem_of_getElem? (i := 5) (by decide +kernel)) (by decide +kernel)
theorem lk_X0_50 : Cond.methodLink RX0 50 yX0_beginsSound ∈ am_tb ∧ Cond.initialized yX0_beginsSound.cls ∈ am_tb ∧ Cond.code yX0_beginsSound cX0_beginsSound 3 (some .boolean) ∈ am_tb ∧ Cond.instanceMethod yX0_beginsSound ∈ am_tb ∧ Cond.selects yX0_beginsSound.cls yX0_beginsSound yX0_beginsSound ∈ am_tb := ⟨tw_340, tw_53, tw_343, tw_342, tw_5⟩
theorem tw_432 : Cond.methodLink "RhythmBench$Grammar" 54 ⟨"RhythmBench$Grammar","goesOn","(ZI)Z"⟩ ∈ am_tb := am_tb_in (List.mem_of_getElem? (i := 432) (by decide +kernel)) (by decide +kernel)
theorem tw_435 : Cond.code ⟨"RhythmBench$Grammar","goesOn","(ZI)Z"⟩ prog_2_method_5_code 3 (Option.some FieldType.boolean) ∈ am_tb := am_tb_in (List.mem_of_getElem? (i := 435) (by decide +kernel)) (by decide +kernel)
theorem tw_434 : Cond.instanceMethod ⟨"RhythmBench$Grammar","goesOn","(ZI)Z"⟩ ∈ am_tb := am_tb_in (List.mem_of_getElem? (i := 434) (by decide +kernel)) (by decide +kernel)
theorem tw_6 : Cond.selects "RhythmBench$Grammar" ⟨"RhythmBench$Grammar","goesOn","(ZI)Z"⟩ ⟨"RhythmBench$Grammar","goesOn","(ZI)Z"⟩ ∈ am_tb := am_tb_in (List.mem_of_getElem? (i := 6) (by decide +kernel)) (by decide +kernel)
theorem lk_X0_54 : Cond.methodLink RX0 54 yX0_goesOn ∈ am_tb ∧ Cond.initialized yX0_goesOn.cls ∈ am_tb ∧ Cond.code yX0_goesOn cX0_goesOn 3 (some .boolean) ∈ am_tb ∧ Cond.instanceMethod yX0_goesOn ∈ am_tb ∧ Cond.selects yX0_goesOn.cls yX0_goesOn yX0_goesOn ∈ am_tb := ⟨tw_432, tw_53, tw_435, tw_434, tw_6⟩
theorem tw_436 : Cond.methodLink "RhythmBench$Grammar" 58 ⟨"RhythmBench$Grammar","acceptsItem","(I)Z"⟩ ∈ am_tb := am_tb_in (List.mem_of_getElem? (i := 436) (by decide +kernel)) (by decide +kernel)
theorem tw_439 : Cond.code ⟨"RhythmBench$Grammar","acceptsItem","(I)Z"⟩ prog_2_method_6_code 2 (Option.some FieldType.boolean) ∈ am_tb := am_tb_in (List.mem_of_getElem? (i := 439) (by decide +kernel)) (by decide +kernel)
theorem tw_438 : Cond.instanceMethod ⟨"RhythmBench$Grammar","acceptsItem","(I)Z"⟩ ∈ am_tb := am_tb_in (List.mem_of_getElem? (i := 438) (by decide +kernel)) (by decide +kernel)
theorem tw_7 : Cond.selects "RhythmBench$Grammar" ⟨"RhythmBench$Grammar","acceptsItem","(I)Z"⟩ ⟨"RhythmBench$Grammar","acceptsItem","(I)Z"⟩ ∈ am_tb := am_tb_in (List.mem_of_getElem? (i := 7) (by decide +kernel)) (by decide +kernel)
theorem lk_X0_58 : Cond.methodLink RX0 58 yX0_acceptsItem ∈ am_tb ∧ Cond.initialized yX0_acceptsItem.cls ∈ am_tb ∧ Cond.code yX0_acceptsItem cX0_acceptsItem 2 (some .boolean) ∈ am_tb ∧ Cond.instanceMethod yX0_acceptsItem ∈ am_tb ∧ Cond.selects yX0_acceptsItem.cls yX0_acceptsItem yX0_acceptsItem ∈ am_tb := ⟨tw_436, tw_53, tw_439, tw_438, tw_7⟩
theorem tw_440 : Cond.methodLink "RhythmBench$Grammar" 61 ⟨"RhythmBench$Grammar","addsDot","()Z"⟩ ∈ am_tb := am_tb_in (List.mem_of_getElem? (i := 440) (by decide +kernel)) (by decide +kernel)
theorem tw_443 : Cond.code ⟨"RhythmBench$Grammar","addsDot","()Z"⟩ prog_2_method_9_code 1 (Option.some FieldType.boolean) ∈ am_tb := am_tb_in (List.mem_of_getElem? (i := 443) (by decide +kernel)) (by decide +kernel)
theorem tw_442 : Cond.instanceMethod ⟨"RhythmBench$Grammar","addsDot","()Z"⟩ ∈ am_tb := am_tb_in (List.mem_of_getElem? (i := 442) (by decide +kernel)) (by decide +kernel)
theorem tw_8 : Cond.selects "RhythmBench$Grammar" ⟨"RhythmBench$Grammar","addsDot","()Z"⟩ ⟨"RhythmBench$Grammar","addsDot","()Z"⟩ ∈ am_tb := am_tb_in (List.mem_of_getElem? (i := 8) (by decide +kernel)) (by decide +kernel)
theorem lk_X0_61 : Cond.methodLink RX0 61 yX0_addsDot ∈ am_tb ∧ Cond.initialized yX0_addsDot.cls ∈ am_tb ∧ Cond.code yX0_addsDot cX0_addsDot 1 (some .boolean) ∈ am_tb ∧ Cond.instanceMethod yX0_addsDot ∈ am_tb ∧ Cond.selects yX0_addsDot.cls yX0_addsDot yX0_addsDot ∈ am_tb := ⟨tw_440, tw_53, tw_443, tw_442, tw_8⟩
theorem tw_444 : Cond.methodLink "RhythmBench$Grammar" 65 ⟨"RhythmBench$Grammar","addsTie","()Z"⟩ ∈ am_tb := am_tb_in (List.mem_of_getElem? (i := 444) (by decide +kernel)) (by decide +kernel)
theorem tw_447 : Cond.code ⟨"RhythmBench$Grammar","addsTie","()Z"⟩ prog_2_method_10_code 2 (Option.some FieldType.boolean) ∈ am_tb := am_tb_in (List.mem_of_getElem? (i := 447) (by decide +kernel)) (by decide +kernel)
theorem tw_446 : Cond.instanceMethod ⟨"RhythmBench$Grammar","addsTie","()Z"⟩ ∈ am_tb := am_tb_in (List.mem_of_getElem? (i := 446) (by decide +kernel)) (by decide +kernel)
theorem tw_9 : Cond.selects "RhythmBench$Grammar" ⟨"RhythmBench$Grammar","addsTie","()Z"⟩ ⟨"RhythmBench$Grammar","addsTie","()Z"⟩ ∈ am_tb := am_tb_in (List.mem_of_getElem? (i := 9) (by decide +kernel)) (by decide +kernel)
theorem lk_X0_65 : Cond.methodLink RX0 65 yX0_addsTie ∈ am_tb ∧ Cond.initialized yX0_addsTie.cls ∈ am_tb ∧ Cond.code yX0_addsTie cX0_addsTie 2 (some .boolean) ∈ am_tb ∧ Cond.instanceMethod yX0_addsTie ∈ am_tb ∧ Cond.selects yX0_addsTie.cls yX0_addsTie yX0_addsTie ∈ am_tb := ⟨tw_444, tw_53, tw_447, tw_446, tw_9⟩
theorem tw_448 : Cond.methodLink "RhythmBench$Grammar" 68 ⟨"RhythmBench$Grammar","opensTuplet","()Z"⟩ ∈ am_tb := am_tb_in (List.mem_of_getElem? (i := 448) (by decide +kernel)) (by decide +kernel)
theorem tw_451 : Cond.code ⟨"RhythmBench$Grammar","opensTuplet","()Z"⟩ prog_2_method_11_code 1 (Option.some FieldType.boolean) ∈ am_tb := am_tb_in (List.mem_of_getElem? (i := 451) (by decide +kernel)) (by decide +kernel)
theorem tw_450 : Cond.instanceMethod ⟨"RhythmBench$Grammar","opensTuplet","()Z"⟩ ∈ am_tb := am_tb_in (List.mem_of_getElem? (i := 450) (by decide +kernel)) (by decide +kernel)
theorem tw_10 : Cond.selects "RhythmBench$Grammar" ⟨"RhythmBench$Grammar","opensTuplet","()Z"⟩ ⟨"RhythmBench$Grammar","opensTuplet","()Z"⟩ ∈ am_tb := am_tb_in (List.mem_of_getElem? (i := 10) (by decide +kernel)) (by decide +kernel)
theorem lk_X0_68 : Cond.methodLink RX0 68 yX0_opensTuplet ∈ am_tb ∧ Cond.initialized yX0_opensTuplet.cls ∈ am_tb ∧ Cond.code yX0_opensTuplet cX0_opensTuplet 1 (some .boolean) ∈ am_tb ∧ Cond.instanceMethod yX0_opensTuplet ∈ am_tb ∧ Cond.selects yX0_opensTuplet.cls yX0_opensTuplet yX0_opensTuplet ∈ am_tb := ⟨tw_448, tw_53, tw_451, tw_450, tw_10⟩
theorem tw_452 : Cond.methodLink "RhythmBench$Grammar" 71 ⟨"RhythmBench$Grammar","closesTuplet","()Z"⟩ ∈ am_tb := am_tb_in (List.mem_of_getElem? (i := 452) (by decide +kernel)) (by decide +kernel)
theorem tw_455 : Cond.code ⟨"RhythmBench$Grammar","closesTuplet","()Z"⟩ prog_2_method_12_code 1 (Option.some FieldType.boolean) ∈ am_tb := am_tb_in (List.mem_of_getElem? (i := 455) (by decide +kernel)) (by decide +kernel)
theorem tw_454 : Cond.instanceMethod ⟨"RhythmBench$Grammar","closesTuplet","()Z"⟩ ∈ am_tb := am_tb_in (List.mem_of_getElem? (i := 454) (by decide +kernel)) (by decide +kernel)
theorem tw_11 : Cond.selects "RhythmBench$Grammar" ⟨"RhythmBench$Grammar","closesTuplet","()Z"⟩ ⟨"RhythmBench$Grammar","closesTuplet","()Z"⟩ ∈ am_tb := am_tb_in (List.mem_of_getElem? (i := 11) (by decide +kernel)) (by decide +kernel)
theorem lk_X0_71 : Cond.methodLink RX0 71 yX0_closesTuplet ∈ am_tb ∧ Cond.initialized yX0_closesTuplet.cls ∈ am_tb ∧ Cond.code yX0_closesTuplet cX0_closesTuplet 1 (some .boolean) ∈ am_tb ∧ Cond.instanceMethod yX0_closesTuplet ∈ am_tb ∧ Cond.selects yX0_closesTuplet.cls yX0_closesTuplet yX0_closesTuplet ∈ am_tb := ⟨tw_452, tw_53, tw_455, tw_454, tw_11⟩
theorem tw_456 : Cond.methodLink "RhythmBench$Grammar" 74 ⟨"RhythmBench$Grammar","opensRepeat","()Z"⟩ ∈ am_tb := am_tb_in (List.mem_of_getElem? (i := 456) (by decide +kernel)) (by decide +kernel)
theorem tw_459 : Cond.code ⟨"RhythmBench$Grammar","opensRepeat","()Z"⟩ prog_2_method_13_code 1 (Option.some FieldType.boolean) ∈ am_tb := am_tb_in (List.mem_of_getElem? (i := 459) (by decide +kernel)) (by decide +kernel)
theorem tw_458 : Cond.instanceMethod ⟨"RhythmBench$Grammar","opensRepeat","()Z"⟩ ∈ am_tb := am_tb_in (List.mem_of_getElem? (i := 458) (by decide +kernel)) (by decide +kernel)
theorem tw_12 : Cond.selects "RhythmBench$Grammar" ⟨"RhythmBench$Grammar","opensRepeat","()Z"⟩ ⟨"RhythmBench$Grammar","opensRepeat","()Z"⟩ ∈ am_tb := am_tb_in (List.mem_of_getElem? (i := 12) (by decide +kernel)) (by decide +kernel)
theorem lk_X0_74 : Cond.methodLink RX0 74 yX0_opensRepeat ∈ am_tb ∧ Cond.initialized yX0_opensRepeat.cls ∈ am_tb ∧ Cond.code yX0_opensRepeat cX0_opensRepeat 1 (some .boolean) ∈ am_tb ∧ Cond.instanceMethod yX0_opensRepeat ∈ am_tb ∧ Cond.selects yX0_opensRepeat.cls yX0_opensRepeat yX0_opensRepeat ∈ am_tb := ⟨tw_456, tw_53, tw_459, tw_458, tw_12⟩
theorem tw_460 : Cond.methodLink "RhythmBench$Grammar" 77 ⟨"RhythmBench$Grammar","closesRepeat","()Z"⟩ ∈ am_tb := am_tb_in (List.mem_of_getElem? (i := 460) (by decide +kernel)) (by decide +kernel)
theorem tw_463 : Cond.code ⟨"RhythmBench$Grammar","closesRepeat","()Z"⟩ prog_2_method_14_code 1 (Option.some FieldType.boolean) ∈ am_tb := am_tb_in (List.mem_of_getElem? (i := 463) (by decide +kernel)) (by decide +kernel)
theorem tw_462 : Cond.instanceMethod ⟨"RhythmBench$Grammar","closesRepeat","()Z"⟩ ∈ am_tb := am_tb_in (List.mem_of_getElem? (i := 462) (by decide +kernel)) (by decide +kernel)
theorem tw_13 : Cond.selects "RhythmBench$Grammar" ⟨"RhythmBench$Grammar","closesRepeat","()Z"⟩ ⟨"RhythmBench$Grammar","closesRepeat","()Z"⟩ ∈ am_tb := am_tb_in (List.mem_of_getElem? (i := 13) (by decide +kernel)) (by decide +kernel)
theorem lk_X0_77 : Cond.methodLink RX0 77 yX0_closesRepeat ∈ am_tb ∧ Cond.initialized yX0_closesRepeat.cls ∈ am_tb ∧ Cond.code yX0_closesRepeat cX0_closesRepeat 1 (some .boolean) ∈ am_tb ∧ Cond.instanceMethod yX0_closesRepeat ∈ am_tb ∧ Cond.selects yX0_closesRepeat.cls yX0_closesRepeat yX0_closesRepeat ∈ am_tb := ⟨tw_460, tw_53, tw_463, tw_462, tw_13⟩
theorem tw_344 : Cond.methodLink "RhythmBench$Grammar" 80 ⟨"RhythmBench$Notation","halvings","(I)I"⟩ ∈ am_tb := am_tb_in (List.mem_of_getElem? (i := 344) (by decide +kernel)) (by decide +kernel)
theorem tw_346 : Cond.code ⟨"RhythmBench$Notation","halvings","(I)I"⟩ prog_3_method_2_code 1 (Option.some FieldType.int) ∈ am_tb := am_tb_in (List.mem_of_getElem? (i := 346) (by decide +kernel)) (by decide +kernel)
theorem tw_345 : Cond.static ⟨"RhythmBench$Notation","halvings","(I)I"⟩ ∈ am_tb := am_tb_in (List.mem_of_getElem? (i := 345) (by decide +kernel)) (by decide +kernel)
theorem lk_X0_80 : Cond.methodLink RX0 80 yX1_halvings ∈ am_tb ∧ Cond.initialized yX1_halvings.cls ∈ am_tb ∧ Cond.code yX1_halvings cX1_halvings 1 (some .int) ∈ am_tb ∧ Cond.static yX1_halvings ∈ am_tb := ⟨tw_344, tw_60, tw_346, tw_345⟩
theorem tw_239 : Cond.methodLink "RhythmBench$Overlay" 3 ⟨"java/lang/Object","<init>","()V"⟩ ∈ am_tb := am_tb_in (List.mem_of_getElem? (i := 239) (by decide +kernel)) (by decide +kernel)
theorem lk_X2_3 : Cond.methodLink RX2 3 Lib.objectInit ∈ am_tb ∧ Cond.instanceMethod Lib.objectInit ∈ am_tb ∧ Cond.code Lib.objectInit ⟨#[0xb1]⟩ 1 none ∈ am_tb := ⟨tw_239, tw_73, tw_74⟩
theorem tw_722 : Cond.methodLink "RhythmBench$Overlay" 29 ⟨"RhythmBench$Score","hasEvent","(I)Z"⟩ ∈ am_tb := am_tb_in (List.mem_of_getElem? (i := 722) (by decide +kernel)) (by decide +kernel)
theorem tw_553 : Cond.code ⟨"RhythmBench$Score","hasEvent","(I)Z"⟩ prog_6_method_5_code 2 (Option.some FieldType.boolean) ∈ am_tb := am_tb_in (List.mem_of_getElem? (i := 553) (by decide +kernel)) (by decide +kernel)
theorem tw_551 : Cond.instanceMethod ⟨"RhythmBench$Score","hasEvent","(I)Z"⟩ ∈ am_tb := am_tb_in (List.mem_of_getElem? (i := 551) (by decide +kernel)) (by decide +kernel)
theorem tw_552 : Cond.selects "RhythmBench$Score" ⟨"RhythmBench$Score","hasEvent","(I)Z"⟩ ⟨"RhythmBench$Score","hasEvent","(I)Z"⟩ ∈ am_tb := am_tb_in (List.mem_of_getElem? (i := 552) (by decide +kernel)) (by decide +kernel)
theorem lk_X2_29 : Cond.methodLink RX2 29 yX4_hasEvent ∈ am_tb ∧ Cond.initialized yX4_hasEvent.cls ∈ am_tb ∧ Cond.code yX4_hasEvent cX4_hasEvent 2 (some .boolean) ∈ am_tb ∧ Cond.instanceMethod yX4_hasEvent ∈ am_tb ∧ Cond.selects yX4_hasEvent.cls yX4_hasEvent yX4_hasEvent ∈ am_tb := ⟨tw_722, tw_55, tw_553, tw_551, tw_552⟩
theorem tw_723 : Cond.methodLink "RhythmBench$Overlay" 35 ⟨"RhythmBench$Score","begin","(I)J"⟩ ∈ am_tb := am_tb_in (List.mem_of_getElem? (i := 723) (by decide +kernel)) (by decide +kernel)
theorem tw_623 : Cond.code ⟨"RhythmBench$Score","begin","(I)J"⟩ prog_6_method_7_code 2 (Option.some FieldType.long) ∈ am_tb := am_tb_in (List.mem_of_getElem? (i := 623) (by decide +kernel)) (by decide +kernel)
theorem tw_621 : Cond.instanceMethod ⟨"RhythmBench$Score","begin","(I)J"⟩ ∈ am_tb := am_tb_in (List.mem_of_getElem? (i := 621) (by decide +kernel)) (by decide +kernel)
theorem tw_622 : Cond.selects "RhythmBench$Score" ⟨"RhythmBench$Score","begin","(I)J"⟩ ⟨"RhythmBench$Score","begin","(I)J"⟩ ∈ am_tb := am_tb_in (List.mem_of_getElem? (i := 622) (by decide +kernel)) (by decide +kernel)
theorem lk_X2_35 : Cond.methodLink RX2 35 yX4_begin ∈ am_tb ∧ Cond.initialized yX4_begin.cls ∈ am_tb ∧ Cond.code yX4_begin cX4_begin 2 (some .long) ∈ am_tb ∧ Cond.instanceMethod yX4_begin ∈ am_tb ∧ Cond.selects yX4_begin.cls yX4_begin yX4_begin ∈ am_tb := ⟨tw_723, tw_55, tw_623, tw_621, tw_622⟩
theorem tw_724 : Cond.methodLink "RhythmBench$Overlay" 39 ⟨"RhythmBench$Overlay","offer","(IJ)V"⟩ ∈ am_tb := am_tb_in (List.mem_of_getElem? (i := 724) (by decide +kernel)) (by decide +kernel)
theorem tw_727 : Cond.code ⟨"RhythmBench$Overlay","offer","(IJ)V"⟩ prog_4_method_6_code 4 (Option.none : Option FieldType) ∈ am_tb := am_tb_in (List.mem_of_getElem? (i := 727) (by decide +kernel)) (by decide +kernel)
theorem tw_726 : Cond.instanceMethod ⟨"RhythmBench$Overlay","offer","(IJ)V"⟩ ∈ am_tb := am_tb_in (List.mem_of_getElem? (i := 726) (by decide +kernel)) (by decide +kernel)
theorem tw_24 : Cond.selects "RhythmBench$Overlay" ⟨"RhythmBench$Overlay","offer","(IJ)V"⟩ ⟨"RhythmBench$Overlay","offer","(IJ)V"⟩ ∈ am_tb := am_tb_in (List.mem_of_getElem? (i := 24) (by decide +kernel)) (by decide +kernel)
theorem lk_X2_39 : Cond.methodLink RX2 39 yX2_offer ∈ am_tb ∧ Cond.initialized yX2_offer.cls ∈ am_tb ∧ Cond.code yX2_offer cX2_offer 4 none ∈ am_tb ∧ Cond.instanceMethod yX2_offer ∈ am_tb ∧ Cond.selects yX2_offer.cls yX2_offer yX2_offer ∈ am_tb := ⟨tw_724, tw_58, tw_727, tw_726, tw_24⟩
theorem tw_123 : Cond.methodLink "RhythmBench$Part" 3 ⟨"java/lang/Object","<init>","()V"⟩ ∈ am_tb := am_tb_in (List.mem_of_getElem? (i := 123) (by decide +kernel)) (by decide +kernel)
theorem lk_X3_3 : Cond.methodLink RX3 3 Lib.objectInit ∈ am_tb ∧ Cond.instanceMethod Lib.objectInit ∈ am_tb ∧ Cond.code Lib.objectInit ⟨#[0xb1]⟩ 1 none ∈ am_tb := ⟨tw_123, tw_73, tw_74⟩
theorem tw_125 : Cond.methodLink "RhythmBench$Part" 11 ⟨"RhythmBench$Text","<init>","(I)V"⟩ ∈ am_tb := am_tb_in (List.mem_of_getElem? (i := 125) (by decide +kernel)) (by decide +kernel)
theorem tw_79 : Cond.code ⟨"RhythmBench$Text","<init>","(I)V"⟩ prog_8_method_1_code 2 (Option.none : Option FieldType) ∈ am_tb := am_tb_in (List.mem_of_getElem? (i := 79) (by decide +kernel)) (by decide +kernel)
theorem tw_78 : Cond.instanceMethod ⟨"RhythmBench$Text","<init>","(I)V"⟩ ∈ am_tb := am_tb_in (List.mem_of_getElem? (i := 78) (by decide +kernel)) (by decide +kernel)
theorem lk_X3_11 : Cond.methodLink RX3 11 yX6_init ∈ am_tb ∧ Cond.initialized yX6_init.cls ∈ am_tb ∧ Cond.code yX6_init cX6_init 2 none ∈ am_tb ∧ Cond.instanceMethod yX6_init ∈ am_tb := ⟨tw_125, tw_51, tw_79, tw_78⟩
theorem tw_128 : Cond.methodLink "RhythmBench$Part" 25 ⟨"RhythmBench$Score","<init>","()V"⟩ ∈ am_tb := am_tb_in (List.mem_of_getElem? (i := 128) (by decide +kernel)) (by decide +kernel)
theorem tw_130 : Cond.code ⟨"RhythmBench$Score","<init>","()V"⟩ prog_6_method_1_code 1 (Option.none : Option FieldType) ∈ am_tb := am_tb_in (List.mem_of_getElem? (i := 130) (by decide +kernel)) (by decide +kernel)
theorem tw_129 : Cond.instanceMethod ⟨"RhythmBench$Score","<init>","()V"⟩ ∈ am_tb := am_tb_in (List.mem_of_getElem? (i := 129) (by decide +kernel)) (by decide +kernel)
theorem lk_X3_25 : Cond.methodLink RX3 25 yX4_init ∈ am_tb ∧ Cond.initialized yX4_init.cls ∈ am_tb ∧ Cond.code yX4_init cX4_init 1 none ∈ am_tb ∧ Cond.instanceMethod yX4_init ∈ am_tb := ⟨tw_128, tw_55, tw_130, tw_129⟩
theorem tw_512 : Cond.methodLink "RhythmBench$Part" 30 ⟨"RhythmBench$Text","become","(LRhythmBench$Text;)V"⟩ ∈ am_tb := am_tb_in (List.mem_of_getElem? (i := 512) (by decide +kernel)) (by decide +kernel)
theorem tw_507 : Cond.code ⟨"RhythmBench$Text","become","(LRhythmBench$Text;)V"⟩ prog_8_method_8_code 4 (Option.none : Option FieldType) ∈ am_tb := am_tb_in (List.mem_of_getElem? (i := 507) (by decide +kernel)) (by decide +kernel)
theorem tw_505 : Cond.instanceMethod ⟨"RhythmBench$Text","become","(LRhythmBench$Text;)V"⟩ ∈ am_tb := am_tb_in (List.mem_of_getElem? (i := 505) (by decide +kernel)) (by decide +kernel)
theorem tw_506 : Cond.selects "RhythmBench$Text" ⟨"RhythmBench$Text","become","(LRhythmBench$Text;)V"⟩ ⟨"RhythmBench$Text","become","(LRhythmBench$Text;)V"⟩ ∈ am_tb := am_tb_in (List.mem_of_getElem? (i := 506) (by decide +kernel)) (by decide +kernel)
theorem lk_X3_30 : Cond.methodLink RX3 30 yX6_become ∈ am_tb ∧ Cond.initialized yX6_become.cls ∈ am_tb ∧ Cond.code yX6_become cX6_become 4 none ∈ am_tb ∧ Cond.instanceMethod yX6_become ∈ am_tb ∧ Cond.selects yX6_become.cls yX6_become yX6_become ∈ am_tb := ⟨tw_512, tw_51, tw_507, tw_505, tw_506⟩
theorem tw_513 : Cond.methodLink "RhythmBench$Part" 34 ⟨"RhythmBench$Unfolding","unfold","(LRhythmBench$Text;LRhythmBench$Text;)V"⟩ ∈ am_tb := am_tb_in (List.mem_of_getElem? (i := 513) (by decide +kernel)) (by decide +kernel)
theorem tw_66 : Cond.initialized "RhythmBench$Unfolding" ∈ am_tb := am_tb_in (List.mem_of_getElem? (i := 66) (by decide +kernel)) (by decide +kernel)
theorem tw_466 : Cond.code ⟨"RhythmBench$Unfolding","unfold","(LRhythmBench$Text;LRhythmBench$Text;)V"⟩ prog_10_method_2_code 5 (Option.none : Option FieldType) ∈ am_tb := am_tb_in (List.mem_of_getElem? (i := 466) (by decide +kernel)) (by decide +kernel)
theorem tw_465 : Cond.static ⟨"RhythmBench$Unfolding","unfold","(LRhythmBench$Text;LRhythmBench$Text;)V"⟩ ∈ am_tb := am_tb_in (List.mem_of_getElem? (i := 465) (by decide +kernel)) (by decide +kernel)
theorem lk_X3_34 : Cond.methodLink RX3 34 yX8_unfold ∈ am_tb ∧ Cond.initialized yX8_unfold.cls ∈ am_tb ∧ Cond.code yX8_unfold cX8_unfold 5 none ∈ am_tb ∧ Cond.static yX8_unfold ∈ am_tb := ⟨tw_513, tw_66, tw_466, tw_465⟩
theorem tw_514 : Cond.methodLink "RhythmBench$Part" 40 ⟨"RhythmBench$Score","build","(LRhythmBench$Text;)V"⟩ ∈ am_tb := am_tb_in (List.mem_of_getElem? (i := 514) (by decide +kernel)) (by decide +kernel)
theorem tw_517 : Cond.code ⟨"RhythmBench$Score","build","(LRhythmBench$Text;)V"⟩ prog_6_method_13_code 4 (Option.none : Option FieldType) ∈ am_tb := am_tb_in (List.mem_of_getElem? (i := 517) (by decide +kernel)) (by decide +kernel)
theorem tw_515 : Cond.instanceMethod ⟨"RhythmBench$Score","build","(LRhythmBench$Text;)V"⟩ ∈ am_tb := am_tb_in (List.mem_of_getElem? (i := 515) (by decide +kernel)) (by decide +kernel)
theorem tw_516 : Cond.selects "RhythmBench$Score" ⟨"RhythmBench$Score","build","(LRhythmBench$Text;)V"⟩ ⟨"RhythmBench$Score","build","(LRhythmBench$Text;)V"⟩ ∈ am_tb := am_tb_in (List.mem_of_getElem? (i := 516) (by decide +kernel)) (by decide +kernel)
theorem lk_X3_40 : Cond.methodLink RX3 40 yX4_build ∈ am_tb ∧ Cond.initialized yX4_build.cls ∈ am_tb ∧ Cond.code yX4_build cX4_build 4 none ∈ am_tb ∧ Cond.instanceMethod yX4_build ∈ am_tb ∧ Cond.selects yX4_build.cls yX4_build yX4_build ∈ am_tb := ⟨tw_514, tw_55, tw_517, tw_515, tw_516⟩
theorem tw_131 : Cond.methodLink "RhythmBench$Score" 3 ⟨"java/lang/Object","<init>","()V"⟩ ∈ am_tb := am_tb_in (List.mem_of_getElem? (i := 131) (by decide +kernel)) (by decide +kernel)
theorem lk_X4_3 : Cond.methodLink RX4 3 Lib.objectInit ∈ am_tb ∧ Cond.instanceMethod Lib.objectInit ∈ am_tb ∧ Cond.code Lib.objectInit ⟨#[0xb1]⟩ 1 none ∈ am_tb := ⟨tw_131, tw_73, tw_74⟩
theorem tw_134 : Cond.methodLink "RhythmBench$Score" 34 ⟨"RhythmBench$TupletScale","<init>","()V"⟩ ∈ am_tb := am_tb_in (List.mem_of_getElem? (i := 134) (by decide +kernel)) (by decide +kernel)
theorem tw_136 : Cond.code ⟨"RhythmBench$TupletScale","<init>","()V"⟩ prog_9_method_1_code 1 (Option.none : Option FieldType) ∈ am_tb := am_tb_in (List.mem_of_getElem? (i := 136) (by decide +kernel)) (by decide +kernel)
theorem tw_135 : Cond.instanceMethod ⟨"RhythmBench$TupletScale","<init>","()V"⟩ ∈ am_tb := am_tb_in (List.mem_of_getElem? (i := 135) (by decide +kernel)) (by decide +kernel)
theorem lk_X4_34 : Cond.methodLink RX4 34 yX7_init ∈ am_tb ∧ Cond.initialized yX7_init.cls ∈ am_tb ∧ Cond.code yX7_init cX7_init 1 none ∈ am_tb ∧ Cond.instanceMethod yX7_init ∈ am_tb := ⟨tw_134, tw_56, tw_136, tw_135⟩
theorem tw_151 : Cond.methodLink "RhythmBench$Score" 39 ⟨"RhythmBench$Score","start","()V"⟩ ∈ am_tb := am_tb_in (List.mem_of_getElem? (i := 151) (by decide +kernel)) (by decide +kernel)
theorem tw_154 : Cond.code ⟨"RhythmBench$Score","start","()V"⟩ prog_6_method_14_code 1 (Option.none : Option FieldType) ∈ am_tb := am_tb_in (List.mem_of_getElem? (i := 154) (by decide +kernel)) (by decide +kernel)
theorem tw_153 : Cond.instanceMethod ⟨"RhythmBench$Score","start","()V"⟩ ∈ am_tb := am_tb_in (List.mem_of_getElem? (i := 153) (by decide +kernel)) (by decide +kernel)
theorem tw_0 : Cond.selects "RhythmBench$Score" ⟨"RhythmBench$Score","start","()V"⟩ ⟨"RhythmBench$Score","start","()V"⟩ ∈ am_tb := am_tb_in (List.mem_of_getElem? (i := 0) (by decide +kernel)) (by decide +kernel)
theorem lk_X4_39 : Cond.methodLink RX4 39 yX4_start ∈ am_tb ∧ Cond.initialized yX4_start.cls ∈ am_tb ∧ Cond.code yX4_start cX4_start 1 none ∈ am_tb ∧ Cond.instanceMethod yX4_start ∈ am_tb ∧ Cond.selects yX4_start.cls yX4_start yX4_start ∈ am_tb := ⟨tw_151, tw_55, tw_154, tw_153, tw_0⟩
theorem tw_550 : Cond.methodLink "RhythmBench$Score" 53 ⟨"RhythmBench$Score","hasEvent","(I)Z"⟩ ∈ am_tb := am_tb_in (List.mem_of_getElem? (i := 550) (by decide +kernel)) (by decide +kernel)
theorem lk_X4_53 : Cond.methodLink RX4 53 yX4_hasEvent ∈ am_tb ∧ Cond.initialized yX4_hasEvent.cls ∈ am_tb ∧ Cond.code yX4_hasEvent cX4_hasEvent 2 (some .boolean) ∈ am_tb ∧ Cond.instanceMethod yX4_hasEvent ∈ am_tb ∧ Cond.selects yX4_hasEvent.cls yX4_hasEvent yX4_hasEvent ∈ am_tb := ⟨tw_550, tw_55, tw_553, tw_551, tw_552⟩
theorem tw_554 : Cond.methodLink "RhythmBench$Score" 57 ⟨"RhythmBench$Score","hasBar","(I)Z"⟩ ∈ am_tb := am_tb_in (List.mem_of_getElem? (i := 554) (by decide +kernel)) (by decide +kernel)
theorem tw_557 : Cond.code ⟨"RhythmBench$Score","hasBar","(I)Z"⟩ prog_6_method_6_code 2 (Option.some FieldType.boolean) ∈ am_tb := am_tb_in (List.mem_of_getElem? (i := 557) (by decide +kernel)) (by decide +kernel)
theorem tw_555 : Cond.instanceMethod ⟨"RhythmBench$Score","hasBar","(I)Z"⟩ ∈ am_tb := am_tb_in (List.mem_of_getElem? (i := 555) (by decide +kernel)) (by decide +kernel)
theorem tw_556 : Cond.selects "RhythmBench$Score" ⟨"RhythmBench$Score","hasBar","(I)Z"⟩ ⟨"RhythmBench$Score","hasBar","(I)Z"⟩ ∈ am_tb := am_tb_in (List.mem_of_getElem? (i := 556) (by decide +kernel)) (by decide +kernel)
theorem lk_X4_57 : Cond.methodLink RX4 57 yX4_hasBar ∈ am_tb ∧ Cond.initialized yX4_hasBar.cls ∈ am_tb ∧ Cond.code yX4_hasBar cX4_hasBar 2 (some .boolean) ∈ am_tb ∧ Cond.instanceMethod yX4_hasBar ∈ am_tb ∧ Cond.selects yX4_hasBar.cls yX4_hasBar yX4_hasBar ∈ am_tb := ⟨tw_554, tw_55, tw_557, tw_555, tw_556⟩
theorem tw_518 : Cond.methodLink "RhythmBench$Score" 60 ⟨"RhythmBench$Text","size","()I"⟩ ∈ am_tb := am_tb_in (List.mem_of_getElem? (i := 518) (by decide +kernel)) (by decide +kernel)
theorem lk_X4_60 : Cond.methodLink RX4 60 yX6_size ∈ am_tb ∧ Cond.initialized yX6_size.cls ∈ am_tb ∧ Cond.code yX6_size cX6_size 1 (some .int) ∈ am_tb ∧ Cond.instanceMethod yX6_size ∈ am_tb ∧ Cond.selects yX6_size.cls yX6_size yX6_size ∈ am_tb := ⟨tw_518, tw_51, tw_299, tw_297, tw_298⟩
theorem tw_519 : Cond.methodLink "RhythmBench$Score" 66 ⟨"RhythmBench$Text","at","(I)I"⟩ ∈ am_tb := am_tb_in (List.mem_of_getElem? (i := 519) (by decide +kernel)) (by decide +kernel)
theorem lk_X4_66 : Cond.methodLink RX4 66 yX6_at ∈ am_tb ∧ Cond.initialized yX6_at.cls ∈ am_tb ∧ Cond.code yX6_at cX6_at 2 (some .int) ∈ am_tb ∧ Cond.instanceMethod yX6_at ∈ am_tb ∧ Cond.selects yX6_at.cls yX6_at yX6_at ∈ am_tb := ⟨tw_519, tw_51, tw_332, tw_330, tw_331⟩
theorem tw_520 : Cond.methodLink "RhythmBench$Score" 70 ⟨"RhythmBench$Score","beginBar","()V"⟩ ∈ am_tb := am_tb_in (List.mem_of_getElem? (i := 520) (by decide +kernel)) (by decide +kernel)
theorem tw_523 : Cond.code ⟨"RhythmBench$Score","beginBar","()V"⟩ prog_6_method_15_code 1 (Option.none : Option FieldType) ∈ am_tb := am_tb_in (List.mem_of_getElem? (i := 523) (by decide +kernel)) (by decide +kernel)
theorem tw_522 : Cond.instanceMethod ⟨"RhythmBench$Score","beginBar","()V"⟩ ∈ am_tb := am_tb_in (List.mem_of_getElem? (i := 522) (by decide +kernel)) (by decide +kernel)
theorem tw_16 : Cond.selects "RhythmBench$Score" ⟨"RhythmBench$Score","beginBar","()V"⟩ ⟨"RhythmBench$Score","beginBar","()V"⟩ ∈ am_tb := am_tb_in (List.mem_of_getElem? (i := 16) (by decide +kernel)) (by decide +kernel)
theorem lk_X4_70 : Cond.methodLink RX4 70 yX4_beginBar ∈ am_tb ∧ Cond.initialized yX4_beginBar.cls ∈ am_tb ∧ Cond.code yX4_beginBar cX4_beginBar 1 none ∈ am_tb ∧ Cond.instanceMethod yX4_beginBar ∈ am_tb ∧ Cond.selects yX4_beginBar.cls yX4_beginBar yX4_beginBar ∈ am_tb := ⟨tw_520, tw_55, tw_523, tw_522, tw_16⟩
theorem tw_524 : Cond.methodLink "RhythmBench$Score" 73 ⟨"RhythmBench$Notation","digit","(I)I"⟩ ∈ am_tb := am_tb_in (List.mem_of_getElem? (i := 524) (by decide +kernel)) (by decide +kernel)
theorem lk_X4_73 : Cond.methodLink RX4 73 yX1_digit ∈ am_tb ∧ Cond.initialized yX1_digit.cls ∈ am_tb ∧ Cond.code yX1_digit cX1_digit 1 (some .int) ∈ am_tb ∧ Cond.static yX1_digit ∈ am_tb := ⟨tw_524, tw_60, tw_339, tw_338⟩
theorem tw_525 : Cond.methodLink "RhythmBench$Score" 78 ⟨"RhythmBench$TupletScale","open","(II)V"⟩ ∈ am_tb := am_tb_in (List.mem_of_getElem? (i := 525) (by decide +kernel)) (by decide +kernel)
theorem tw_528 : Cond.code ⟨"RhythmBench$TupletScale","open","(II)V"⟩ prog_9_method_3_code 3 (Option.none : Option FieldType) ∈ am_tb := am_tb_in (List.mem_of_getElem? (i := 528) (by decide +kernel)) (by decide +kernel)
theorem tw_526 : Cond.instanceMethod ⟨"RhythmBench$TupletScale","open","(II)V"⟩ ∈ am_tb := am_tb_in (List.mem_of_getElem? (i := 526) (by decide +kernel)) (by decide +kernel)
theorem tw_527 : Cond.selects "RhythmBench$TupletScale" ⟨"RhythmBench$TupletScale","open","(II)V"⟩ ⟨"RhythmBench$TupletScale","open","(II)V"⟩ ∈ am_tb := am_tb_in (List.mem_of_getElem? (i := 527) (by decide +kernel)) (by decide +kernel)
theorem lk_X4_78 : Cond.methodLink RX4 78 yX7_open ∈ am_tb ∧ Cond.initialized yX7_open.cls ∈ am_tb ∧ Cond.code yX7_open cX7_open 3 none ∈ am_tb ∧ Cond.instanceMethod yX7_open ∈ am_tb ∧ Cond.selects yX7_open.cls yX7_open yX7_open ∈ am_tb := ⟨tw_525, tw_56, tw_528, tw_526, tw_527⟩
theorem tw_529 : Cond.methodLink "RhythmBench$Score" 82 ⟨"RhythmBench$TupletScale","close","()V"⟩ ∈ am_tb := am_tb_in (List.mem_of_getElem? (i := 529) (by decide +kernel)) (by decide +kernel)
theorem tw_532 : Cond.code ⟨"RhythmBench$TupletScale","close","()V"⟩ prog_9_method_4_code 1 (Option.none : Option FieldType) ∈ am_tb := am_tb_in (List.mem_of_getElem? (i := 532) (by decide +kernel)) (by decide +kernel)
theorem tw_530 : Cond.instanceMethod ⟨"RhythmBench$TupletScale","close","()V"⟩ ∈ am_tb := am_tb_in (List.mem_of_getElem? (i := 530) (by decide +kernel)) (by decide +kernel)
theorem tw_531 : Cond.selects "RhythmBench$TupletScale" ⟨"RhythmBench$TupletScale","close","()V"⟩ ⟨"RhythmBench$TupletScale","close","()V"⟩ ∈ am_tb := am_tb_in (List.mem_of_getElem? (i := 531) (by decide +kernel)) (by decide +kernel)
theorem lk_X4_82 : Cond.methodLink RX4 82 yX7_close ∈ am_tb ∧ Cond.initialized yX7_close.cls ∈ am_tb ∧ Cond.code yX7_close cX7_close 1 none ∈ am_tb ∧ Cond.instanceMethod yX7_close ∈ am_tb ∧ Cond.selects yX7_close.cls yX7_close yX7_close ∈ am_tb := ⟨tw_529, tw_56, tw_532, tw_530, tw_531⟩
theorem tw_533 : Cond.methodLink "RhythmBench$Score" 85 ⟨"RhythmBench$Notation","halvings","(I)I"⟩ ∈ am_tb := am_tb_in (List.mem_of_getElem? (i := 533) (by decide +kernel)) (by decide +kernel)
theorem lk_X4_85 : Cond.methodLink RX4 85 yX1_halvings ∈ am_tb ∧ Cond.initialized yX1_halvings.cls ∈ am_tb ∧ Cond.code yX1_halvings cX1_halvings 1 (some .int) ∈ am_tb ∧ Cond.static yX1_halvings ∈ am_tb := ⟨tw_533, tw_60, tw_346, tw_345⟩
theorem tw_534 : Cond.methodLink "RhythmBench$Score" 88 ⟨"RhythmBench$Score","addSound","(LRhythmBench$Text;I)V"⟩ ∈ am_tb := am_tb_in (List.mem_of_getElem? (i := 534) (by decide +kernel)) (by decide +kernel)
theorem tw_537 : Cond.code ⟨"RhythmBench$Score","addSound","(LRhythmBench$Text;I)V"⟩ prog_6_method_16_code 6 (Option.none : Option FieldType) ∈ am_tb := am_tb_in (List.mem_of_getElem? (i := 537) (by decide +kernel)) (by decide +kernel)
theorem tw_536 : Cond.instanceMethod ⟨"RhythmBench$Score","addSound","(LRhythmBench$Text;I)V"⟩ ∈ am_tb := am_tb_in (List.mem_of_getElem? (i := 536) (by decide +kernel)) (by decide +kernel)
theorem tw_17 : Cond.selects "RhythmBench$Score" ⟨"RhythmBench$Score","addSound","(LRhythmBench$Text;I)V"⟩ ⟨"RhythmBench$Score","addSound","(LRhythmBench$Text;I)V"⟩ ∈ am_tb := am_tb_in (List.mem_of_getElem? (i := 17) (by decide +kernel)) (by decide +kernel)
theorem lk_X4_88 : Cond.methodLink RX4 88 yX4_addSound ∈ am_tb ∧ Cond.initialized yX4_addSound.cls ∈ am_tb ∧ Cond.code yX4_addSound cX4_addSound 6 none ∈ am_tb ∧ Cond.instanceMethod yX4_addSound ∈ am_tb ∧ Cond.selects yX4_addSound.cls yX4_addSound yX4_addSound ∈ am_tb := ⟨tw_534, tw_55, tw_537, tw_536, tw_17⟩
theorem tw_155 : Cond.methodLink "RhythmBench$Score" 96 ⟨"RhythmBench$TupletScale","start","()V"⟩ ∈ am_tb := am_tb_in (List.mem_of_getElem? (i := 155) (by decide +kernel)) (by decide +kernel)
theorem tw_158 : Cond.code ⟨"RhythmBench$TupletScale","start","()V"⟩ prog_9_method_2_code 1 (Option.none : Option FieldType) ∈ am_tb := am_tb_in (List.mem_of_getElem? (i := 158) (by decide +kernel)) (by decide +kernel)
theorem tw_156 : Cond.instanceMethod ⟨"RhythmBench$TupletScale","start","()V"⟩ ∈ am_tb := am_tb_in (List.mem_of_getElem? (i := 156) (by decide +kernel)) (by decide +kernel)
theorem tw_157 : Cond.selects "RhythmBench$TupletScale" ⟨"RhythmBench$TupletScale","start","()V"⟩ ⟨"RhythmBench$TupletScale","start","()V"⟩ ∈ am_tb := am_tb_in (List.mem_of_getElem? (i := 157) (by decide +kernel)) (by decide +kernel)
theorem lk_X4_96 : Cond.methodLink RX4 96 yX7_start ∈ am_tb ∧ Cond.initialized yX7_start.cls ∈ am_tb ∧ Cond.code yX7_start cX7_start 1 none ∈ am_tb ∧ Cond.instanceMethod yX7_start ∈ am_tb ∧ Cond.selects yX7_start.cls yX7_start yX7_start ∈ am_tb := ⟨tw_155, tw_56, tw_158, tw_156, tw_157⟩
theorem tw_542 : Cond.methodLink "RhythmBench$Score" 104 ⟨"RhythmBench$TupletScale","apply","(JJ)J"⟩ ∈ am_tb := am_tb_in (List.mem_of_getElem? (i := 542) (by decide +kernel)) (by decide +kernel)
theorem tw_545 : Cond.code ⟨"RhythmBench$TupletScale","apply","(JJ)J"⟩ prog_9_method_5_code 7 (Option.some FieldType.long) ∈ am_tb := am_tb_in (List.mem_of_getElem? (i := 545) (by decide +kernel)) (by decide +kernel)
theorem tw_543 : Cond.instanceMethod ⟨"RhythmBench$TupletScale","apply","(JJ)J"⟩ ∈ am_tb := am_tb_in (List.mem_of_getElem? (i := 543) (by decide +kernel)) (by decide +kernel)
theorem tw_544 : Cond.selects "RhythmBench$TupletScale" ⟨"RhythmBench$TupletScale","apply","(JJ)J"⟩ ⟨"RhythmBench$TupletScale","apply","(JJ)J"⟩ ∈ am_tb := am_tb_in (List.mem_of_getElem? (i := 544) (by decide +kernel)) (by decide +kernel)
theorem lk_X4_104 : Cond.methodLink RX4 104 yX7_apply ∈ am_tb ∧ Cond.initialized yX7_apply.cls ∈ am_tb ∧ Cond.code yX7_apply cX7_apply 7 (some .long) ∈ am_tb ∧ Cond.instanceMethod yX7_apply ∈ am_tb ∧ Cond.selects yX7_apply.cls yX7_apply yX7_apply ∈ am_tb := ⟨tw_542, tw_56, tw_545, tw_543, tw_544⟩
theorem tw_546 : Cond.methodLink "RhythmBench$Score" 108 ⟨"RhythmBench$Score","addNote","(JZ)V"⟩ ∈ am_tb := am_tb_in (List.mem_of_getElem? (i := 546) (by decide +kernel)) (by decide +kernel)
theorem tw_549 : Cond.code ⟨"RhythmBench$Score","addNote","(JZ)V"⟩ prog_6_method_17_code 4 (Option.none : Option FieldType) ∈ am_tb := am_tb_in (List.mem_of_getElem? (i := 549) (by decide +kernel)) (by decide +kernel)
theorem tw_548 : Cond.instanceMethod ⟨"RhythmBench$Score","addNote","(JZ)V"⟩ ∈ am_tb := am_tb_in (List.mem_of_getElem? (i := 548) (by decide +kernel)) (by decide +kernel)
theorem tw_18 : Cond.selects "RhythmBench$Score" ⟨"RhythmBench$Score","addNote","(JZ)V"⟩ ⟨"RhythmBench$Score","addNote","(JZ)V"⟩ ∈ am_tb := am_tb_in (List.mem_of_getElem? (i := 18) (by decide +kernel)) (by decide +kernel)
theorem lk_X4_108 : Cond.methodLink RX4 108 yX4_addNote ∈ am_tb ∧ Cond.initialized yX4_addNote.cls ∈ am_tb ∧ Cond.code yX4_addNote cX4_addNote 4 none ∈ am_tb ∧ Cond.instanceMethod yX4_addNote ∈ am_tb ∧ Cond.selects yX4_addNote.cls yX4_addNote yX4_addNote ∈ am_tb := ⟨tw_546, tw_55, tw_549, tw_548, tw_18⟩
theorem tw_213 : Cond.methodLink "RhythmBench$State" 3 ⟨"java/lang/Object","<init>","()V"⟩ ∈ am_tb := am_tb_in (List.mem_of_getElem? (i := 213) (by decide +kernel)) (by decide +kernel)
theorem lk_X5_3 : Cond.methodLink RX5 3 Lib.objectInit ∈ am_tb ∧ Cond.instanceMethod Lib.objectInit ∈ am_tb ∧ Cond.code Lib.objectInit ⟨#[0xb1]⟩ 1 none ∈ am_tb := ⟨tw_213, tw_73, tw_74⟩
theorem tw_216 : Cond.methodLink "RhythmBench$State" 17 ⟨"RhythmBench$Text","<init>","(I)V"⟩ ∈ am_tb := am_tb_in (List.mem_of_getElem? (i := 216) (by decide +kernel)) (by decide +kernel)
theorem lk_X5_17 : Cond.methodLink RX5 17 yX6_init ∈ am_tb ∧ Cond.initialized yX6_init.cls ∈ am_tb ∧ Cond.code yX6_init cX6_init 2 none ∈ am_tb ∧ Cond.instanceMethod yX6_init ∈ am_tb := ⟨tw_216, tw_51, tw_79, tw_78⟩
theorem tw_80 : Cond.methodLink "RhythmBench$Text" 3 ⟨"java/lang/Object","<init>","()V"⟩ ∈ am_tb := am_tb_in (List.mem_of_getElem? (i := 80) (by decide +kernel)) (by decide +kernel)
theorem lk_X6_3 : Cond.methodLink RX6 3 Lib.objectInit ∈ am_tb ∧ Cond.instanceMethod Lib.objectInit ∈ am_tb ∧ Cond.code Lib.objectInit ⟨#[0xb1]⟩ 1 none ∈ am_tb := ⟨tw_80, tw_73, tw_74⟩
theorem tw_81 : Cond.methodLink "RhythmBench$Text" 9 ⟨"java/lang/Math","max","(II)I"⟩ ∈ am_tb := am_tb_in (List.mem_of_getElem? (i := 81) (by decide +kernel)) (by decide +kernel)
theorem tw_82 : Cond.static ⟨"java/lang/Math","max","(II)I"⟩ ∈ am_tb := am_tb_in (List.mem_of_getElem? (i := 82) (by decide +kernel)) (by decide +kernel)
theorem tw_52 : Cond.initialized "java/lang/Math" ∈ am_tb := am_tb_in (List.mem_of_getElem? (i := 52) (by decide +kernel)) (by decide +kernel)
theorem tw_83 : Cond.code ⟨"java/lang/Math","max","(II)I"⟩ prog_14_method_65_code 2 (Option.some FieldType.int) ∈ am_tb := am_tb_in (List.mem_of_getElem? (i := 83) (by decide +kernel)) (by decide +kernel)
theorem lk_X6_9 : Cond.methodLink RX6 9 Lib.Math.max.name ∈ am_tb ∧ Cond.static Lib.Math.max.name ∈ am_tb ∧ Cond.initialized "java/lang/Math" ∈ am_tb ∧ Cond.code Lib.Math.max.name Lib.Math.max.code 2 (some .int) ∈ am_tb := ⟨tw_81, tw_82, tw_52, tw_83⟩
theorem tw_482 : Cond.methodLink "RhythmBench$Text" 25 ⟨"java/lang/Math","min","(II)I"⟩ ∈ am_tb := am_tb_in (List.mem_of_getElem? (i := 482) (by decide +kernel)) (by decide +kernel)
theorem tw_378 : Cond.static ⟨"java/lang/Math","min","(II)I"⟩ ∈ am_tb := am_tb_in (List.mem_of_getElem? (i := 378) (by decide +kernel)) (by decide +kernel)
theorem tw_379 : Cond.code ⟨"java/lang/Math","min","(II)I"⟩ prog_14_method_69_code 2 (Option.some FieldType.int) ∈ am_tb := am_tb_in (List.mem_of_getElem? (i := 379) (by decide +kernel)) (by decide +kernel)
theorem lk_X6_25 : Cond.methodLink RX6 25 Lib.Math.min.name ∈ am_tb ∧ Cond.static Lib.Math.min.name ∈ am_tb ∧ Cond.initialized "java/lang/Math" ∈ am_tb ∧ Cond.code Lib.Math.min.name Lib.Math.min.code 2 (some .int) ∈ am_tb := ⟨tw_482, tw_378, tw_52, tw_379⟩
theorem tw_483 : Cond.methodLink "RhythmBench$Text" 28 ⟨"RhythmBench$Text","append","(I)V"⟩ ∈ am_tb := am_tb_in (List.mem_of_getElem? (i := 483) (by decide +kernel)) (by decide +kernel)
theorem tw_295 : Cond.code ⟨"RhythmBench$Text","append","(I)V"⟩ prog_8_method_6_code 2 (Option.none : Option FieldType) ∈ am_tb := am_tb_in (List.mem_of_getElem? (i := 295) (by decide +kernel)) (by decide +kernel)
theorem tw_293 : Cond.instanceMethod ⟨"RhythmBench$Text","append","(I)V"⟩ ∈ am_tb := am_tb_in (List.mem_of_getElem? (i := 293) (by decide +kernel)) (by decide +kernel)
theorem tw_294 : Cond.selects "RhythmBench$Text" ⟨"RhythmBench$Text","append","(I)V"⟩ ⟨"RhythmBench$Text","append","(I)V"⟩ ∈ am_tb := am_tb_in (List.mem_of_getElem? (i := 294) (by decide +kernel)) (by decide +kernel)
theorem lk_X6_28 : Cond.methodLink RX6 28 yX6_append ∈ am_tb ∧ Cond.initialized yX6_append.cls ∈ am_tb ∧ Cond.code yX6_append cX6_append 2 none ∈ am_tb ∧ Cond.instanceMethod yX6_append ∈ am_tb ∧ Cond.selects yX6_append.cls yX6_append yX6_append ∈ am_tb := ⟨tw_483, tw_51, tw_295, tw_293, tw_294⟩
theorem tw_137 : Cond.methodLink "RhythmBench$TupletScale" 1 ⟨"java/lang/Object","<init>","()V"⟩ ∈ am_tb := am_tb_in (List.mem_of_getElem? (i := 137) (by decide +kernel)) (by decide +kernel)
theorem lk_X7_1 : Cond.methodLink RX7 1 Lib.objectInit ∈ am_tb ∧ Cond.instanceMethod Lib.objectInit ∈ am_tb ∧ Cond.code Lib.objectInit ⟨#[0xb1]⟩ 1 none ∈ am_tb := ⟨tw_137, tw_73, tw_74⟩
theorem tw_467 : Cond.methodLink "RhythmBench$Unfolding" 7 ⟨"RhythmBench$Text","makeEmpty","()V"⟩ ∈ am_tb := am_tb_in (List.mem_of_getElem? (i := 467) (by decide +kernel)) (by decide +kernel)
theorem tw_307 : Cond.code ⟨"RhythmBench$Text","makeEmpty","()V"⟩ prog_8_method_5_code 1 (Option.none : Option FieldType) ∈ am_tb := am_tb_in (List.mem_of_getElem? (i := 307) (by decide +kernel)) (by decide +kernel)
theorem tw_305 : Cond.instanceMethod ⟨"RhythmBench$Text","makeEmpty","()V"⟩ ∈ am_tb := am_tb_in (List.mem_of_getElem? (i := 305) (by decide +kernel)) (by decide +kernel)
theorem tw_306 : Cond.selects "RhythmBench$Text" ⟨"RhythmBench$Text","makeEmpty","()V"⟩ ⟨"RhythmBench$Text","makeEmpty","()V"⟩ ∈ am_tb := am_tb_in (List.mem_of_getElem? (i := 306) (by decide +kernel)) (by decide +kernel)
theorem lk_X8_7 : Cond.methodLink RX8 7 yX6_makeEmpty ∈ am_tb ∧ Cond.initialized yX6_makeEmpty.cls ∈ am_tb ∧ Cond.code yX6_makeEmpty cX6_makeEmpty 1 none ∈ am_tb ∧ Cond.instanceMethod yX6_makeEmpty ∈ am_tb ∧ Cond.selects yX6_makeEmpty.cls yX6_makeEmpty yX6_makeEmpty ∈ am_tb := ⟨tw_467, tw_51, tw_307, tw_305, tw_306⟩
theorem tw_468 : Cond.methodLink "RhythmBench$Unfolding" 12 ⟨"RhythmBench$Text","size","()I"⟩ ∈ am_tb := am_tb_in (List.mem_of_getElem? (i := 468) (by decide +kernel)) (by decide +kernel)
theorem lk_X8_12 : Cond.methodLink RX8 12 yX6_size ∈ am_tb ∧ Cond.initialized yX6_size.cls ∈ am_tb ∧ Cond.code yX6_size cX6_size 1 (some .int) ∈ am_tb ∧ Cond.instanceMethod yX6_size ∈ am_tb ∧ Cond.selects yX6_size.cls yX6_size yX6_size ∈ am_tb := ⟨tw_468, tw_51, tw_299, tw_297, tw_298⟩
theorem tw_469 : Cond.methodLink "RhythmBench$Unfolding" 16 ⟨"RhythmBench$Text","at","(I)I"⟩ ∈ am_tb := am_tb_in (List.mem_of_getElem? (i := 469) (by decide +kernel)) (by decide +kernel)
theorem lk_X8_16 : Cond.methodLink RX8 16 yX6_at ∈ am_tb ∧ Cond.initialized yX6_at.cls ∈ am_tb ∧ Cond.code yX6_at cX6_at 2 (some .int) ∈ am_tb ∧ Cond.instanceMethod yX6_at ∈ am_tb ∧ Cond.selects yX6_at.cls yX6_at yX6_at ∈ am_tb := ⟨tw_469, tw_51, tw_332, tw_330, tw_331⟩
theorem tw_470 : Cond.methodLink "RhythmBench$Unfolding" 20 ⟨"RhythmBench$Text","seek","(III)I"⟩ ∈ am_tb := am_tb_in (List.mem_of_getElem? (i := 470) (by decide +kernel)) (by decide +kernel)
theorem tw_473 : Cond.code ⟨"RhythmBench$Text","seek","(III)I"⟩ prog_8_method_9_code 5 (Option.some FieldType.int) ∈ am_tb := am_tb_in (List.mem_of_getElem? (i := 473) (by decide +kernel)) (by decide +kernel)
theorem tw_471 : Cond.instanceMethod ⟨"RhythmBench$Text","seek","(III)I"⟩ ∈ am_tb := am_tb_in (List.mem_of_getElem? (i := 471) (by decide +kernel)) (by decide +kernel)
theorem tw_472 : Cond.selects "RhythmBench$Text" ⟨"RhythmBench$Text","seek","(III)I"⟩ ⟨"RhythmBench$Text","seek","(III)I"⟩ ∈ am_tb := am_tb_in (List.mem_of_getElem? (i := 472) (by decide +kernel)) (by decide +kernel)
theorem lk_X8_20 : Cond.methodLink RX8 20 yX6_seek ∈ am_tb ∧ Cond.initialized yX6_seek.cls ∈ am_tb ∧ Cond.code yX6_seek cX6_seek 5 (some .int) ∈ am_tb ∧ Cond.instanceMethod yX6_seek ∈ am_tb ∧ Cond.selects yX6_seek.cls yX6_seek yX6_seek ∈ am_tb := ⟨tw_470, tw_51, tw_473, tw_471, tw_472⟩
theorem tw_474 : Cond.methodLink "RhythmBench$Unfolding" 24 ⟨"RhythmBench$Unfolding","appendPasses","(LRhythmBench$Text;IILRhythmBench$Text;)V"⟩ ∈ am_tb := am_tb_in (List.mem_of_getElem? (i := 474) (by decide +kernel)) (by decide +kernel)
theorem tw_476 : Cond.code ⟨"RhythmBench$Unfolding","appendPasses","(LRhythmBench$Text;IILRhythmBench$Text;)V"⟩ prog_10_method_3_code 7 (Option.none : Option FieldType) ∈ am_tb := am_tb_in (List.mem_of_getElem? (i := 476) (by decide +kernel)) (by decide +kernel)
theorem tw_475 : Cond.static ⟨"RhythmBench$Unfolding","appendPasses","(LRhythmBench$Text;IILRhythmBench$Text;)V"⟩ ∈ am_tb := am_tb_in (List.mem_of_getElem? (i := 475) (by decide +kernel)) (by decide +kernel)
theorem lk_X8_24 : Cond.methodLink RX8 24 yX8_appendPasses ∈ am_tb ∧ Cond.initialized yX8_appendPasses.cls ∈ am_tb ∧ Cond.code yX8_appendPasses cX8_appendPasses 7 none ∈ am_tb ∧ Cond.static yX8_appendPasses ∈ am_tb := ⟨tw_474, tw_66, tw_476, tw_475⟩
theorem tw_490 : Cond.methodLink "RhythmBench$Unfolding" 30 ⟨"java/lang/Math","max","(II)I"⟩ ∈ am_tb := am_tb_in (List.mem_of_getElem? (i := 490) (by decide +kernel)) (by decide +kernel)
theorem lk_X8_30 : Cond.methodLink RX8 30 Lib.Math.max.name ∈ am_tb ∧ Cond.static Lib.Math.max.name ∈ am_tb ∧ Cond.initialized "java/lang/Math" ∈ am_tb ∧ Cond.code Lib.Math.max.name Lib.Math.max.code 2 (some .int) ∈ am_tb := ⟨tw_490, tw_82, tw_52, tw_83⟩
theorem tw_491 : Cond.methodLink "RhythmBench$Unfolding" 36 ⟨"RhythmBench$Text","append","(I)V"⟩ ∈ am_tb := am_tb_in (List.mem_of_getElem? (i := 491) (by decide +kernel)) (by decide +kernel)
theorem lk_X8_36 : Cond.methodLink RX8 36 yX6_append ∈ am_tb ∧ Cond.initialized yX6_append.cls ∈ am_tb ∧ Cond.code yX6_append cX6_append 2 none ∈ am_tb ∧ Cond.instanceMethod yX6_append ∈ am_tb ∧ Cond.selects yX6_append.cls yX6_append yX6_append ∈ am_tb := ⟨tw_491, tw_51, tw_295, tw_293, tw_294⟩
theorem tw_477 : Cond.methodLink "RhythmBench$Unfolding" 40 ⟨"RhythmBench$Notation","digit","(I)I"⟩ ∈ am_tb := am_tb_in (List.mem_of_getElem? (i := 477) (by decide +kernel)) (by decide +kernel)
theorem lk_X8_40 : Cond.methodLink RX8 40 yX1_digit ∈ am_tb ∧ Cond.initialized yX1_digit.cls ∈ am_tb ∧ Cond.code yX1_digit cX1_digit 1 (some .int) ∈ am_tb ∧ Cond.static yX1_digit ∈ am_tb := ⟨tw_477, tw_60, tw_339, tw_338⟩
theorem tw_478 : Cond.methodLink "RhythmBench$Unfolding" 45 ⟨"RhythmBench$Text","appendPiece","(LRhythmBench$Text;II)V"⟩ ∈ am_tb := am_tb_in (List.mem_of_getElem? (i := 478) (by decide +kernel)) (by decide +kernel)
theorem tw_481 : Cond.code ⟨"RhythmBench$Text","appendPiece","(LRhythmBench$Text;II)V"⟩ prog_8_method_7_code 6 (Option.none : Option FieldType) ∈ am_tb := am_tb_in (List.mem_of_getElem? (i := 481) (by decide +kernel)) (by decide +kernel)
theorem tw_479 : Cond.instanceMethod ⟨"RhythmBench$Text","appendPiece","(LRhythmBench$Text;II)V"⟩ ∈ am_tb := am_tb_in (List.mem_of_getElem? (i := 479) (by decide +kernel)) (by decide +kernel)
theorem tw_480 : Cond.selects "RhythmBench$Text" ⟨"RhythmBench$Text","appendPiece","(LRhythmBench$Text;II)V"⟩ ⟨"RhythmBench$Text","appendPiece","(LRhythmBench$Text;II)V"⟩ ∈ am_tb := am_tb_in (List.mem_of_getElem? (i := 480) (by decide +kernel)) (by decide +kernel)
theorem lk_X8_45 : Cond.methodLink RX8 45 yX6_appendPiece ∈ am_tb ∧ Cond.initialized yX6_appendPiece.cls ∈ am_tb ∧ Cond.code yX6_appendPiece cX6_appendPiece 6 none ∈ am_tb ∧ Cond.instanceMethod yX6_appendPiece ∈ am_tb ∧ Cond.selects yX6_appendPiece.cls yX6_appendPiece yX6_appendPiece ∈ am_tb := ⟨tw_478, tw_51, tw_481, tw_479, tw_480⟩
theorem tw_484 : Cond.methodLink "RhythmBench$Unfolding" 49 ⟨"RhythmBench$Unfolding","appendEnding","(LRhythmBench$Text;IIILRhythmBench$Text;)V"⟩ ∈ am_tb := am_tb_in (List.mem_of_getElem? (i := 484) (by decide +kernel)) (by decide +kernel)
theorem tw_486 : Cond.code ⟨"RhythmBench$Unfolding","appendEnding","(LRhythmBench$Text;IIILRhythmBench$Text;)V"⟩ prog_10_method_4_code 7 (Option.none : Option FieldType) ∈ am_tb := am_tb_in (List.mem_of_getElem? (i := 486) (by decide +kernel)) (by decide +kernel)
theorem tw_485 : Cond.static ⟨"RhythmBench$Unfolding","appendEnding","(LRhythmBench$Text;IIILRhythmBench$Text;)V"⟩ ∈ am_tb := am_tb_in (List.mem_of_getElem? (i := 485) (by decide +kernel)) (by decide +kernel)
theorem lk_X8_49 : Cond.methodLink RX8 49 yX8_appendEnding ∈ am_tb ∧ Cond.initialized yX8_appendEnding.cls ∈ am_tb ∧ Cond.code yX8_appendEnding cX8_appendEnding 7 none ∈ am_tb ∧ Cond.static yX8_appendEnding ∈ am_tb := ⟨tw_484, tw_66, tw_486, tw_485⟩
theorem tw_487 : Cond.methodLink "RhythmBench$Unfolding" 53 ⟨"RhythmBench$Unfolding","isEndingOf","(LRhythmBench$Text;II)Z"⟩ ∈ am_tb := am_tb_in (List.mem_of_getElem? (i := 487) (by decide +kernel)) (by decide +kernel)
theorem tw_489 : Cond.code ⟨"RhythmBench$Unfolding","isEndingOf","(LRhythmBench$Text;II)Z"⟩ prog_10_method_5_code 5 (Option.some FieldType.boolean) ∈ am_tb := am_tb_in (List.mem_of_getElem? (i := 489) (by decide +kernel)) (by decide +kernel)
theorem tw_488 : Cond.static ⟨"RhythmBench$Unfolding","isEndingOf","(LRhythmBench$Text;II)Z"⟩ ∈ am_tb := am_tb_in (List.mem_of_getElem? (i := 488) (by decide +kernel)) (by decide +kernel)
theorem lk_X8_53 : Cond.methodLink RX8 53 yX8_isEndingOf ∈ am_tb ∧ Cond.initialized yX8_isEndingOf.cls ∈ am_tb ∧ Cond.code yX8_isEndingOf cX8_isEndingOf 5 (some .boolean) ∈ am_tb ∧ Cond.static yX8_isEndingOf ∈ am_tb := ⟨tw_487, tw_66, tw_489, tw_488⟩
theorem tw_495 : Cond.methodLink "RhythmBench$Unfolding" 57 ⟨"RhythmBench$Notation","halvings","(I)I"⟩ ∈ am_tb := am_tb_in (List.mem_of_getElem? (i := 495) (by decide +kernel)) (by decide +kernel)
theorem lk_X8_57 : Cond.methodLink RX8 57 yX1_halvings ∈ am_tb ∧ Cond.initialized yX1_halvings.cls ∈ am_tb ∧ Cond.code yX1_halvings cX1_halvings 1 (some .int) ∈ am_tb ∧ Cond.static yX1_halvings ∈ am_tb := ⟨tw_495, tw_60, tw_346, tw_345⟩
theorem tw_72 : Cond.methodLink "RhythmBench" 3 ⟨"java/lang/Object","<init>","()V"⟩ ∈ am_tb := am_tb_in (List.mem_of_getElem? (i := 72) (by decide +kernel)) (by decide +kernel)
theorem lk_X9_3 : Cond.methodLink RX9 3 Lib.objectInit ∈ am_tb ∧ Cond.instanceMethod Lib.objectInit ∈ am_tb ∧ Cond.code Lib.objectInit ⟨#[0xb1]⟩ 1 none ∈ am_tb := ⟨tw_72, tw_73, tw_74⟩
theorem tw_77 : Cond.methodLink "RhythmBench" 11 ⟨"RhythmBench$Text","<init>","(I)V"⟩ ∈ am_tb := am_tb_in (List.mem_of_getElem? (i := 77) (by decide +kernel)) (by decide +kernel)
theorem lk_X9_11 : Cond.methodLink RX9 11 yX6_init ∈ am_tb ∧ Cond.initialized yX6_init.cls ∈ am_tb ∧ Cond.code yX6_init cX6_init 2 none ∈ am_tb ∧ Cond.instanceMethod yX6_init ∈ am_tb := ⟨tw_77, tw_51, tw_79, tw_78⟩
theorem tn_94 : Cond.methodLinkNest "RhythmBench" 23 ⟨"RhythmBench$Grammar","<init>","()V"⟩ "RhythmBench" ∈ am_nw := List.mem_filter.mpr ⟨List.mem_of_getElem? (i := 94) (by decide +kernel), rfl⟩
theorem tw_96 : Cond.code ⟨"RhythmBench$Grammar","<init>","()V"⟩ prog_2_method_1_code 1 (Option.none : Option FieldType) ∈ am_tb := am_tb_in (List.mem_of_getElem? (i := 96) (by decide +kernel)) (by decide +kernel)
theorem tw_95 : Cond.instanceMethod ⟨"RhythmBench$Grammar","<init>","()V"⟩ ∈ am_tb := am_tb_in (List.mem_of_getElem? (i := 95) (by decide +kernel)) (by decide +kernel)
theorem lk_X9_23 : Cond.methodLinkNest RX9 23 yX0_init "RhythmBench" ∈ am_nw ∧ Cond.initialized yX0_init.cls ∈ am_tb ∧ Cond.code yX0_init cX0_init 1 none ∈ am_tb ∧ Cond.instanceMethod yX0_init ∈ am_tb := ⟨tn_94, tw_53, tw_96, tw_95⟩
theorem tn_120 : Cond.methodLinkNest "RhythmBench" 34 ⟨"RhythmBench$Part","<init>","()V"⟩ "RhythmBench" ∈ am_nw := List.mem_filter.mpr ⟨List.mem_of_getElem? (i := 120) (by decide +kernel), rfl⟩
theorem tw_122 : Cond.code ⟨"RhythmBench$Part","<init>","()V"⟩ prog_5_method_1_code 1 (Option.none : Option FieldType) ∈ am_tb := am_tb_in (List.mem_of_getElem? (i := 122) (by decide +kernel)) (by decide +kernel)
theorem tw_121 : Cond.instanceMethod ⟨"RhythmBench$Part","<init>","()V"⟩ ∈ am_tb := am_tb_in (List.mem_of_getElem? (i := 121) (by decide +kernel)) (by decide +kernel)
theorem lk_X9_34 : Cond.methodLinkNest RX9 34 yX3_init "RhythmBench" ∈ am_nw ∧ Cond.initialized yX3_init.cls ∈ am_tb ∧ Cond.code yX3_init cX3_init 1 none ∈ am_tb ∧ Cond.instanceMethod yX3_init ∈ am_tb := ⟨tn_120, tw_54, tw_122, tw_121⟩
theorem tw_210 : Cond.methodLink "RhythmBench" 41 ⟨"RhythmBench$State","<init>","()V"⟩ ∈ am_tb := am_tb_in (List.mem_of_getElem? (i := 210) (by decide +kernel)) (by decide +kernel)
theorem tw_212 : Cond.code ⟨"RhythmBench$State","<init>","()V"⟩ prog_7_method_1_code 2 (Option.none : Option FieldType) ∈ am_tb := am_tb_in (List.mem_of_getElem? (i := 212) (by decide +kernel)) (by decide +kernel)
theorem tw_211 : Cond.instanceMethod ⟨"RhythmBench$State","<init>","()V"⟩ ∈ am_tb := am_tb_in (List.mem_of_getElem? (i := 211) (by decide +kernel)) (by decide +kernel)
theorem lk_X9_41 : Cond.methodLink RX9 41 yX5_init ∈ am_tb ∧ Cond.initialized yX5_init.cls ∈ am_tb ∧ Cond.code yX5_init cX5_init 2 none ∈ am_tb ∧ Cond.instanceMethod yX5_init ∈ am_tb := ⟨tw_210, tw_57, tw_212, tw_211⟩
theorem tn_236 : Cond.methodLinkNest "RhythmBench" 44 ⟨"RhythmBench$Overlay","<init>","()V"⟩ "RhythmBench" ∈ am_nw := List.mem_filter.mpr ⟨List.mem_of_getElem? (i := 236) (by decide +kernel), rfl⟩
theorem tw_238 : Cond.code ⟨"RhythmBench$Overlay","<init>","()V"⟩ prog_4_method_1_code 1 (Option.none : Option FieldType) ∈ am_tb := am_tb_in (List.mem_of_getElem? (i := 238) (by decide +kernel)) (by decide +kernel)
theorem tw_237 : Cond.instanceMethod ⟨"RhythmBench$Overlay","<init>","()V"⟩ ∈ am_tb := am_tb_in (List.mem_of_getElem? (i := 237) (by decide +kernel)) (by decide +kernel)
theorem lk_X9_44 : Cond.methodLinkNest RX9 44 yX2_init "RhythmBench" ∈ am_nw ∧ Cond.initialized yX2_init.cls ∈ am_tb ∧ Cond.code yX2_init cX2_init 1 none ∈ am_tb ∧ Cond.instanceMethod yX2_init ∈ am_tb := ⟨tn_236, tw_58, tw_238, tw_237⟩
theorem tw_288 : Cond.methodLink "RhythmBench" 62 ⟨"RhythmBench$Text","isFull","()Z"⟩ ∈ am_tb := am_tb_in (List.mem_of_getElem? (i := 288) (by decide +kernel)) (by decide +kernel)
theorem tw_291 : Cond.code ⟨"RhythmBench$Text","isFull","()Z"⟩ prog_8_method_3_code 1 (Option.some FieldType.boolean) ∈ am_tb := am_tb_in (List.mem_of_getElem? (i := 291) (by decide +kernel)) (by decide +kernel)
theorem tw_289 : Cond.instanceMethod ⟨"RhythmBench$Text","isFull","()Z"⟩ ∈ am_tb := am_tb_in (List.mem_of_getElem? (i := 289) (by decide +kernel)) (by decide +kernel)
theorem tw_290 : Cond.selects "RhythmBench$Text" ⟨"RhythmBench$Text","isFull","()Z"⟩ ⟨"RhythmBench$Text","isFull","()Z"⟩ ∈ am_tb := am_tb_in (List.mem_of_getElem? (i := 290) (by decide +kernel)) (by decide +kernel)
theorem lk_X9_62 : Cond.methodLink RX9 62 yX6_isFull ∈ am_tb ∧ Cond.initialized yX6_isFull.cls ∈ am_tb ∧ Cond.code yX6_isFull cX6_isFull 1 (some .boolean) ∈ am_tb ∧ Cond.instanceMethod yX6_isFull ∈ am_tb ∧ Cond.selects yX6_isFull.cls yX6_isFull yX6_isFull ∈ am_tb := ⟨tw_288, tw_51, tw_291, tw_289, tw_290⟩
theorem tw_292 : Cond.methodLink "RhythmBench" 66 ⟨"RhythmBench$Text","append","(I)V"⟩ ∈ am_tb := am_tb_in (List.mem_of_getElem? (i := 292) (by decide +kernel)) (by decide +kernel)
theorem lk_X9_66 : Cond.methodLink RX9 66 yX6_append ∈ am_tb ∧ Cond.initialized yX6_append.cls ∈ am_tb ∧ Cond.code yX6_append cX6_append 2 none ∈ am_tb ∧ Cond.instanceMethod yX6_append ∈ am_tb ∧ Cond.selects yX6_append.cls yX6_append yX6_append ∈ am_tb := ⟨tw_292, tw_51, tw_295, tw_293, tw_294⟩
theorem tw_296 : Cond.methodLink "RhythmBench" 69 ⟨"RhythmBench$Text","size","()I"⟩ ∈ am_tb := am_tb_in (List.mem_of_getElem? (i := 296) (by decide +kernel)) (by decide +kernel)
theorem lk_X9_69 : Cond.methodLink RX9 69 yX6_size ∈ am_tb ∧ Cond.initialized yX6_size.cls ∈ am_tb ∧ Cond.code yX6_size cX6_size 1 (some .int) ∈ am_tb ∧ Cond.instanceMethod yX6_size ∈ am_tb ∧ Cond.selects yX6_size.cls yX6_size yX6_size ∈ am_tb := ⟨tw_296, tw_51, tw_299, tw_297, tw_298⟩
theorem tw_304 : Cond.methodLink "RhythmBench" 73 ⟨"RhythmBench$Text","makeEmpty","()V"⟩ ∈ am_tb := am_tb_in (List.mem_of_getElem? (i := 304) (by decide +kernel)) (by decide +kernel)
theorem lk_X9_73 : Cond.methodLink RX9 73 yX6_makeEmpty ∈ am_tb ∧ Cond.initialized yX6_makeEmpty.cls ∈ am_tb ∧ Cond.code yX6_makeEmpty cX6_makeEmpty 1 none ∈ am_tb ∧ Cond.instanceMethod yX6_makeEmpty ∈ am_tb ∧ Cond.selects yX6_makeEmpty.cls yX6_makeEmpty yX6_makeEmpty ∈ am_tb := ⟨tw_304, tw_51, tw_307, tw_305, tw_306⟩
theorem tw_312 : Cond.methodLink "RhythmBench" 76 ⟨"RhythmBench","partAt","(I)LRhythmBench$Part;"⟩ ∈ am_tb := am_tb_in (List.mem_of_getElem? (i := 312) (by decide +kernel)) (by decide +kernel)
theorem tw_315 : Cond.code ⟨"RhythmBench","partAt","(I)LRhythmBench$Part;"⟩ prog_1_method_29_code 2 (Option.some (FieldType.object "RhythmBench$Part")) ∈ am_tb := am_tb_in (List.mem_of_getElem? (i := 315) (by decide +kernel)) (by decide +kernel)
theorem tw_314 : Cond.instanceMethod ⟨"RhythmBench","partAt","(I)LRhythmBench$Part;"⟩ ∈ am_tb := am_tb_in (List.mem_of_getElem? (i := 314) (by decide +kernel)) (by decide +kernel)
theorem tw_1 : Cond.selects "RhythmBench" ⟨"RhythmBench","partAt","(I)LRhythmBench$Part;"⟩ ⟨"RhythmBench","partAt","(I)LRhythmBench$Part;"⟩ ∈ am_tb := am_tb_in (List.mem_of_getElem? (i := 1) (by decide +kernel)) (by decide +kernel)
theorem lk_X9_76 : Cond.methodLink RX9 76 yX9_partAt ∈ am_tb ∧ Cond.initialized yX9_partAt.cls ∈ am_tb ∧ Cond.code yX9_partAt cX9_partAt 2 (some (.object "RhythmBench$Part")) ∈ am_tb ∧ Cond.instanceMethod yX9_partAt ∈ am_tb ∧ Cond.selects yX9_partAt.cls yX9_partAt yX9_partAt ∈ am_tb := ⟨tw_312, tw_50, tw_315, tw_314, tw_1⟩
theorem tw_316 : Cond.methodLink "RhythmBench" 80 ⟨"RhythmBench$Grammar","wrongPlace","(LRhythmBench$Text;)I"⟩ ∈ am_tb := am_tb_in (List.mem_of_getElem? (i := 316) (by decide +kernel)) (by decide +kernel)
theorem tw_319 : Cond.code ⟨"RhythmBench$Grammar","wrongPlace","(LRhythmBench$Text;)I"⟩ prog_2_method_2_code 3 (Option.some FieldType.int) ∈ am_tb := am_tb_in (List.mem_of_getElem? (i := 319) (by decide +kernel)) (by decide +kernel)
theorem tw_317 : Cond.instanceMethod ⟨"RhythmBench$Grammar","wrongPlace","(LRhythmBench$Text;)I"⟩ ∈ am_tb := am_tb_in (List.mem_of_getElem? (i := 317) (by decide +kernel)) (by decide +kernel)
theorem tw_318 : Cond.selects "RhythmBench$Grammar" ⟨"RhythmBench$Grammar","wrongPlace","(LRhythmBench$Text;)I"⟩ ⟨"RhythmBench$Grammar","wrongPlace","(LRhythmBench$Text;)I"⟩ ∈ am_tb := am_tb_in (List.mem_of_getElem? (i := 318) (by decide +kernel)) (by decide +kernel)
theorem lk_X9_80 : Cond.methodLink RX9 80 yX0_wrongPlace ∈ am_tb ∧ Cond.initialized yX0_wrongPlace.cls ∈ am_tb ∧ Cond.code yX0_wrongPlace cX0_wrongPlace 3 (some .int) ∈ am_tb ∧ Cond.instanceMethod yX0_wrongPlace ∈ am_tb ∧ Cond.selects yX0_wrongPlace.cls yX0_wrongPlace yX0_wrongPlace ∈ am_tb := ⟨tw_316, tw_53, tw_319, tw_317, tw_318⟩
theorem tw_464 : Cond.methodLink "RhythmBench" 84 ⟨"RhythmBench$Unfolding","unfold","(LRhythmBench$Text;LRhythmBench$Text;)V"⟩ ∈ am_tb := am_tb_in (List.mem_of_getElem? (i := 464) (by decide +kernel)) (by decide +kernel)
theorem lk_X9_84 : Cond.methodLink RX9 84 yX8_unfold ∈ am_tb ∧ Cond.initialized yX8_unfold.cls ∈ am_tb ∧ Cond.code yX8_unfold cX8_unfold 5 none ∈ am_tb ∧ Cond.static yX8_unfold ∈ am_tb := ⟨tw_464, tw_66, tw_466, tw_465⟩
theorem tw_492 : Cond.methodLink "RhythmBench" 90 ⟨"RhythmBench$Unfolding","sounds","(LRhythmBench$Text;)I"⟩ ∈ am_tb := am_tb_in (List.mem_of_getElem? (i := 492) (by decide +kernel)) (by decide +kernel)
theorem tw_494 : Cond.code ⟨"RhythmBench$Unfolding","sounds","(LRhythmBench$Text;)I"⟩ prog_10_method_6_code 3 (Option.some FieldType.int) ∈ am_tb := am_tb_in (List.mem_of_getElem? (i := 494) (by decide +kernel)) (by decide +kernel)
theorem tw_493 : Cond.static ⟨"RhythmBench$Unfolding","sounds","(LRhythmBench$Text;)I"⟩ ∈ am_tb := am_tb_in (List.mem_of_getElem? (i := 493) (by decide +kernel)) (by decide +kernel)
theorem lk_X9_90 : Cond.methodLink RX9 90 yX8_sounds ∈ am_tb ∧ Cond.initialized yX8_sounds.cls ∈ am_tb ∧ Cond.code yX8_sounds cX8_sounds 3 (some .int) ∈ am_tb ∧ Cond.static yX8_sounds ∈ am_tb := ⟨tw_492, tw_66, tw_494, tw_493⟩
theorem tw_496 : Cond.methodLink "RhythmBench" 93 ⟨"RhythmBench","remember","()V"⟩ ∈ am_tb := am_tb_in (List.mem_of_getElem? (i := 496) (by decide +kernel)) (by decide +kernel)
theorem tw_499 : Cond.code ⟨"RhythmBench","remember","()V"⟩ prog_1_method_30_code 3 (Option.none : Option FieldType) ∈ am_tb := am_tb_in (List.mem_of_getElem? (i := 499) (by decide +kernel)) (by decide +kernel)
theorem tw_498 : Cond.instanceMethod ⟨"RhythmBench","remember","()V"⟩ ∈ am_tb := am_tb_in (List.mem_of_getElem? (i := 498) (by decide +kernel)) (by decide +kernel)
theorem tw_14 : Cond.selects "RhythmBench" ⟨"RhythmBench","remember","()V"⟩ ⟨"RhythmBench","remember","()V"⟩ ∈ am_tb := am_tb_in (List.mem_of_getElem? (i := 14) (by decide +kernel)) (by decide +kernel)
theorem lk_X9_93 : Cond.methodLink RX9 93 yX9_remember ∈ am_tb ∧ Cond.initialized yX9_remember.cls ∈ am_tb ∧ Cond.code yX9_remember cX9_remember 3 none ∈ am_tb ∧ Cond.instanceMethod yX9_remember ∈ am_tb ∧ Cond.selects yX9_remember.cls yX9_remember yX9_remember ∈ am_tb := ⟨tw_496, tw_50, tw_499, tw_498, tw_14⟩
theorem tw_508 : Cond.methodLink "RhythmBench" 96 ⟨"RhythmBench$Part","take","(LRhythmBench$Text;)V"⟩ ∈ am_tb := am_tb_in (List.mem_of_getElem? (i := 508) (by decide +kernel)) (by decide +kernel)
theorem tw_511 : Cond.code ⟨"RhythmBench$Part","take","(LRhythmBench$Text;)V"⟩ prog_5_method_2_code 2 (Option.none : Option FieldType) ∈ am_tb := am_tb_in (List.mem_of_getElem? (i := 511) (by decide +kernel)) (by decide +kernel)
theorem tw_509 : Cond.instanceMethod ⟨"RhythmBench$Part","take","(LRhythmBench$Text;)V"⟩ ∈ am_tb := am_tb_in (List.mem_of_getElem? (i := 509) (by decide +kernel)) (by decide +kernel)
theorem tw_510 : Cond.selects "RhythmBench$Part" ⟨"RhythmBench$Part","take","(LRhythmBench$Text;)V"⟩ ⟨"RhythmBench$Part","take","(LRhythmBench$Text;)V"⟩ ∈ am_tb := am_tb_in (List.mem_of_getElem? (i := 510) (by decide +kernel)) (by decide +kernel)
theorem lk_X9_96 : Cond.methodLink RX9 96 yX3_take ∈ am_tb ∧ Cond.initialized yX3_take.cls ∈ am_tb ∧ Cond.code yX3_take cX3_take 2 none ∈ am_tb ∧ Cond.instanceMethod yX3_take ∈ am_tb ∧ Cond.selects yX3_take.cls yX3_take yX3_take ∈ am_tb := ⟨tw_508, tw_54, tw_511, tw_509, tw_510⟩
theorem tw_558 : Cond.methodLink "RhythmBench" 104 ⟨"RhythmBench$Score","count","()I"⟩ ∈ am_tb := am_tb_in (List.mem_of_getElem? (i := 558) (by decide +kernel)) (by decide +kernel)
theorem tw_561 : Cond.code ⟨"RhythmBench$Score","count","()I"⟩ prog_6_method_2_code 1 (Option.some FieldType.int) ∈ am_tb := am_tb_in (List.mem_of_getElem? (i := 561) (by decide +kernel)) (by decide +kernel)
theorem tw_559 : Cond.instanceMethod ⟨"RhythmBench$Score","count","()I"⟩ ∈ am_tb := am_tb_in (List.mem_of_getElem? (i := 559) (by decide +kernel)) (by decide +kernel)
theorem tw_560 : Cond.selects "RhythmBench$Score" ⟨"RhythmBench$Score","count","()I"⟩ ⟨"RhythmBench$Score","count","()I"⟩ ∈ am_tb := am_tb_in (List.mem_of_getElem? (i := 560) (by decide +kernel)) (by decide +kernel)
theorem lk_X9_104 : Cond.methodLink RX9 104 yX4_count ∈ am_tb ∧ Cond.initialized yX4_count.cls ∈ am_tb ∧ Cond.code yX4_count cX4_count 1 (some .int) ∈ am_tb ∧ Cond.instanceMethod yX4_count ∈ am_tb ∧ Cond.selects yX4_count.cls yX4_count yX4_count ∈ am_tb := ⟨tw_558, tw_55, tw_561, tw_559, tw_560⟩
theorem tw_571 : Cond.methodLink "RhythmBench" 112 ⟨"RhythmBench$Notation","halvings","(I)I"⟩ ∈ am_tb := am_tb_in (List.mem_of_getElem? (i := 571) (by decide +kernel)) (by decide +kernel)
theorem lk_X9_112 : Cond.methodLink RX9 112 yX1_halvings ∈ am_tb ∧ Cond.initialized yX1_halvings.cls ∈ am_tb ∧ Cond.code yX1_halvings cX1_halvings 1 (some .int) ∈ am_tb ∧ Cond.static yX1_halvings ∈ am_tb := ⟨tw_571, tw_60, tw_346, tw_345⟩
theorem tw_576 : Cond.methodLink "RhythmBench" 118 ⟨"RhythmBench$Text","at","(I)I"⟩ ∈ am_tb := am_tb_in (List.mem_of_getElem? (i := 576) (by decide +kernel)) (by decide +kernel)
theorem lk_X9_118 : Cond.methodLink RX9 118 yX6_at ∈ am_tb ∧ Cond.initialized yX6_at.cls ∈ am_tb ∧ Cond.code yX6_at cX6_at 2 (some .int) ∈ am_tb ∧ Cond.instanceMethod yX6_at ∈ am_tb ∧ Cond.selects yX6_at.cls yX6_at yX6_at ∈ am_tb := ⟨tw_576, tw_51, tw_332, tw_330, tw_331⟩
theorem tw_585 : Cond.methodLink "RhythmBench" 124 ⟨"RhythmBench","isMeterValue","(I)Z"⟩ ∈ am_tb := am_tb_in (List.mem_of_getElem? (i := 585) (by decide +kernel)) (by decide +kernel)
theorem tw_587 : Cond.code ⟨"RhythmBench","isMeterValue","(I)Z"⟩ prog_1_method_32_code 1 (Option.some FieldType.boolean) ∈ am_tb := am_tb_in (List.mem_of_getElem? (i := 587) (by decide +kernel)) (by decide +kernel)
theorem tw_586 : Cond.static ⟨"RhythmBench","isMeterValue","(I)Z"⟩ ∈ am_tb := am_tb_in (List.mem_of_getElem? (i := 586) (by decide +kernel)) (by decide +kernel)
theorem lk_X9_124 : Cond.methodLink RX9 124 yX9_isMeterValue ∈ am_tb ∧ Cond.initialized yX9_isMeterValue.cls ∈ am_tb ∧ Cond.code yX9_isMeterValue cX9_isMeterValue 1 (some .boolean) ∈ am_tb ∧ Cond.static yX9_isMeterValue ∈ am_tb := ⟨tw_585, tw_50, tw_587, tw_586⟩
theorem tw_600 : Cond.methodLink "RhythmBench" 128 ⟨"RhythmBench","isSide","(I)Z"⟩ ∈ am_tb := am_tb_in (List.mem_of_getElem? (i := 600) (by decide +kernel)) (by decide +kernel)
theorem tw_602 : Cond.code ⟨"RhythmBench","isSide","(I)Z"⟩ prog_1_method_38_code 1 (Option.some FieldType.boolean) ∈ am_tb := am_tb_in (List.mem_of_getElem? (i := 602) (by decide +kernel)) (by decide +kernel)
theorem tw_601 : Cond.static ⟨"RhythmBench","isSide","(I)Z"⟩ ∈ am_tb := am_tb_in (List.mem_of_getElem? (i := 601) (by decide +kernel)) (by decide +kernel)
theorem lk_X9_128 : Cond.methodLink RX9 128 yX9_isSide ∈ am_tb ∧ Cond.initialized yX9_isSide.cls ∈ am_tb ∧ Cond.code yX9_isSide cX9_isSide 1 (some .boolean) ∈ am_tb ∧ Cond.static yX9_isSide ∈ am_tb := ⟨tw_600, tw_50, tw_602, tw_601⟩
theorem tw_604 : Cond.methodLink "RhythmBench" 133 ⟨"RhythmBench$Score","total","()J"⟩ ∈ am_tb := am_tb_in (List.mem_of_getElem? (i := 604) (by decide +kernel)) (by decide +kernel)
theorem tw_607 : Cond.code ⟨"RhythmBench$Score","total","()J"⟩ prog_6_method_4_code 1 (Option.some FieldType.long) ∈ am_tb := am_tb_in (List.mem_of_getElem? (i := 607) (by decide +kernel)) (by decide +kernel)
theorem tw_605 : Cond.instanceMethod ⟨"RhythmBench$Score","total","()J"⟩ ∈ am_tb := am_tb_in (List.mem_of_getElem? (i := 605) (by decide +kernel)) (by decide +kernel)
theorem tw_606 : Cond.selects "RhythmBench$Score" ⟨"RhythmBench$Score","total","()J"⟩ ⟨"RhythmBench$Score","total","()J"⟩ ∈ am_tb := am_tb_in (List.mem_of_getElem? (i := 606) (by decide +kernel)) (by decide +kernel)
theorem lk_X9_133 : Cond.methodLink RX9 133 yX4_total ∈ am_tb ∧ Cond.initialized yX4_total.cls ∈ am_tb ∧ Cond.code yX4_total cX4_total 1 (some .long) ∈ am_tb ∧ Cond.instanceMethod yX4_total ∈ am_tb ∧ Cond.selects yX4_total.cls yX4_total yX4_total ∈ am_tb := ⟨tw_604, tw_55, tw_607, tw_605, tw_606⟩
theorem tw_609 : Cond.methodLink "RhythmBench" 139 ⟨"RhythmBench","side","(JJI)J"⟩ ∈ am_tb := am_tb_in (List.mem_of_getElem? (i := 609) (by decide +kernel)) (by decide +kernel)
theorem tw_611 : Cond.code ⟨"RhythmBench","side","(JJI)J"⟩ prog_1_method_39_code 7 (Option.some FieldType.long) ∈ am_tb := am_tb_in (List.mem_of_getElem? (i := 611) (by decide +kernel)) (by decide +kernel)
theorem tw_610 : Cond.static ⟨"RhythmBench","side","(JJI)J"⟩ ∈ am_tb := am_tb_in (List.mem_of_getElem? (i := 610) (by decide +kernel)) (by decide +kernel)
theorem lk_X9_139 : Cond.methodLink RX9 139 yX9_side ∈ am_tb ∧ Cond.initialized yX9_side.cls ∈ am_tb ∧ Cond.code yX9_side cX9_side 7 (some .long) ∈ am_tb ∧ Cond.static yX9_side ∈ am_tb := ⟨tw_609, tw_50, tw_611, tw_610⟩
theorem tw_619 : Cond.methodLink "RhythmBench" 143 ⟨"RhythmBench$Score","hasEvent","(I)Z"⟩ ∈ am_tb := am_tb_in (List.mem_of_getElem? (i := 619) (by decide +kernel)) (by decide +kernel)
theorem lk_X9_143 : Cond.methodLink RX9 143 yX4_hasEvent ∈ am_tb ∧ Cond.initialized yX4_hasEvent.cls ∈ am_tb ∧ Cond.code yX4_hasEvent cX4_hasEvent 2 (some .boolean) ∈ am_tb ∧ Cond.instanceMethod yX4_hasEvent ∈ am_tb ∧ Cond.selects yX4_hasEvent.cls yX4_hasEvent yX4_hasEvent ∈ am_tb := ⟨tw_619, tw_55, tw_553, tw_551, tw_552⟩
theorem tw_620 : Cond.methodLink "RhythmBench" 146 ⟨"RhythmBench$Score","begin","(I)J"⟩ ∈ am_tb := am_tb_in (List.mem_of_getElem? (i := 620) (by decide +kernel)) (by decide +kernel)
theorem lk_X9_146 : Cond.methodLink RX9 146 yX4_begin ∈ am_tb ∧ Cond.initialized yX4_begin.cls ∈ am_tb ∧ Cond.code yX4_begin cX4_begin 2 (some .long) ∈ am_tb ∧ Cond.instanceMethod yX4_begin ∈ am_tb ∧ Cond.selects yX4_begin.cls yX4_begin yX4_begin ∈ am_tb := ⟨tw_620, tw_55, tw_623, tw_621, tw_622⟩
theorem tw_628 : Cond.methodLink "RhythmBench" 150 ⟨"RhythmBench$Score","end","(I)J"⟩ ∈ am_tb := am_tb_in (List.mem_of_getElem? (i := 628) (by decide +kernel)) (by decide +kernel)
theorem tw_631 : Cond.code ⟨"RhythmBench$Score","end","(I)J"⟩ prog_6_method_8_code 2 (Option.some FieldType.long) ∈ am_tb := am_tb_in (List.mem_of_getElem? (i := 631) (by decide +kernel)) (by decide +kernel)
theorem tw_629 : Cond.instanceMethod ⟨"RhythmBench$Score","end","(I)J"⟩ ∈ am_tb := am_tb_in (List.mem_of_getElem? (i := 629) (by decide +kernel)) (by decide +kernel)
theorem tw_630 : Cond.selects "RhythmBench$Score" ⟨"RhythmBench$Score","end","(I)J"⟩ ⟨"RhythmBench$Score","end","(I)J"⟩ ∈ am_tb := am_tb_in (List.mem_of_getElem? (i := 630) (by decide +kernel)) (by decide +kernel)
theorem lk_X9_150 : Cond.methodLink RX9 150 yX4_end ∈ am_tb ∧ Cond.initialized yX4_end.cls ∈ am_tb ∧ Cond.code yX4_end cX4_end 2 (some .long) ∈ am_tb ∧ Cond.instanceMethod yX4_end ∈ am_tb ∧ Cond.selects yX4_end.cls yX4_end yX4_end ∈ am_tb := ⟨tw_628, tw_55, tw_631, tw_629, tw_630⟩
theorem tw_636 : Cond.methodLink "RhythmBench" 153 ⟨"RhythmBench","swing","(J)J"⟩ ∈ am_tb := am_tb_in (List.mem_of_getElem? (i := 636) (by decide +kernel)) (by decide +kernel)
theorem tw_639 : Cond.code ⟨"RhythmBench","swing","(J)J"⟩ prog_1_method_37_code 11 (Option.some FieldType.long) ∈ am_tb := am_tb_in (List.mem_of_getElem? (i := 639) (by decide +kernel)) (by decide +kernel)
theorem tw_638 : Cond.instanceMethod ⟨"RhythmBench","swing","(J)J"⟩ ∈ am_tb := am_tb_in (List.mem_of_getElem? (i := 638) (by decide +kernel)) (by decide +kernel)
theorem tw_19 : Cond.selects "RhythmBench" ⟨"RhythmBench","swing","(J)J"⟩ ⟨"RhythmBench","swing","(J)J"⟩ ∈ am_tb := am_tb_in (List.mem_of_getElem? (i := 19) (by decide +kernel)) (by decide +kernel)
theorem lk_X9_153 : Cond.methodLink RX9 153 yX9_swing ∈ am_tb ∧ Cond.initialized yX9_swing.cls ∈ am_tb ∧ Cond.code yX9_swing cX9_swing 11 (some .long) ∈ am_tb ∧ Cond.instanceMethod yX9_swing ∈ am_tb ∧ Cond.selects yX9_swing.cls yX9_swing yX9_swing ∈ am_tb := ⟨tw_636, tw_50, tw_639, tw_638, tw_19⟩
theorem tw_647 : Cond.methodLink "RhythmBench" 157 ⟨"RhythmBench$Score","isAccented","(I)Z"⟩ ∈ am_tb := am_tb_in (List.mem_of_getElem? (i := 647) (by decide +kernel)) (by decide +kernel)
theorem tw_650 : Cond.code ⟨"RhythmBench$Score","isAccented","(I)Z"⟩ prog_6_method_11_code 2 (Option.some FieldType.boolean) ∈ am_tb := am_tb_in (List.mem_of_getElem? (i := 650) (by decide +kernel)) (by decide +kernel)
theorem tw_648 : Cond.instanceMethod ⟨"RhythmBench$Score","isAccented","(I)Z"⟩ ∈ am_tb := am_tb_in (List.mem_of_getElem? (i := 648) (by decide +kernel)) (by decide +kernel)
theorem tw_649 : Cond.selects "RhythmBench$Score" ⟨"RhythmBench$Score","isAccented","(I)Z"⟩ ⟨"RhythmBench$Score","isAccented","(I)Z"⟩ ∈ am_tb := am_tb_in (List.mem_of_getElem? (i := 649) (by decide +kernel)) (by decide +kernel)
theorem lk_X9_157 : Cond.methodLink RX9 157 yX4_isAccented ∈ am_tb ∧ Cond.initialized yX4_isAccented.cls ∈ am_tb ∧ Cond.code yX4_isAccented cX4_isAccented 2 (some .boolean) ∈ am_tb ∧ Cond.instanceMethod yX4_isAccented ∈ am_tb ∧ Cond.selects yX4_isAccented.cls yX4_isAccented yX4_isAccented ∈ am_tb := ⟨tw_647, tw_55, tw_650, tw_648, tw_649⟩
theorem tw_651 : Cond.methodLink "RhythmBench" 160 ⟨"RhythmBench$Score","barOf","(I)I"⟩ ∈ am_tb := am_tb_in (List.mem_of_getElem? (i := 651) (by decide +kernel)) (by decide +kernel)
theorem tw_654 : Cond.code ⟨"RhythmBench$Score","barOf","(I)I"⟩ prog_6_method_10_code 2 (Option.some FieldType.int) ∈ am_tb := am_tb_in (List.mem_of_getElem? (i := 654) (by decide +kernel)) (by decide +kernel)
theorem tw_652 : Cond.instanceMethod ⟨"RhythmBench$Score","barOf","(I)I"⟩ ∈ am_tb := am_tb_in (List.mem_of_getElem? (i := 652) (by decide +kernel)) (by decide +kernel)
theorem tw_653 : Cond.selects "RhythmBench$Score" ⟨"RhythmBench$Score","barOf","(I)I"⟩ ⟨"RhythmBench$Score","barOf","(I)I"⟩ ∈ am_tb := am_tb_in (List.mem_of_getElem? (i := 653) (by decide +kernel)) (by decide +kernel)
theorem lk_X9_160 : Cond.methodLink RX9 160 yX4_barOf ∈ am_tb ∧ Cond.initialized yX4_barOf.cls ∈ am_tb ∧ Cond.code yX4_barOf cX4_barOf 2 (some .int) ∈ am_tb ∧ Cond.instanceMethod yX4_barOf ∈ am_tb ∧ Cond.selects yX4_barOf.cls yX4_barOf yX4_barOf ∈ am_tb := ⟨tw_651, tw_55, tw_654, tw_652, tw_653⟩
theorem tw_655 : Cond.methodLink "RhythmBench" 163 ⟨"RhythmBench$Score","notesOf","(I)I"⟩ ∈ am_tb := am_tb_in (List.mem_of_getElem? (i := 655) (by decide +kernel)) (by decide +kernel)
theorem tw_658 : Cond.code ⟨"RhythmBench$Score","notesOf","(I)I"⟩ prog_6_method_9_code 2 (Option.some FieldType.int) ∈ am_tb := am_tb_in (List.mem_of_getElem? (i := 658) (by decide +kernel)) (by decide +kernel)
theorem tw_656 : Cond.instanceMethod ⟨"RhythmBench$Score","notesOf","(I)I"⟩ ∈ am_tb := am_tb_in (List.mem_of_getElem? (i := 656) (by decide +kernel)) (by decide +kernel)
theorem tw_657 : Cond.selects "RhythmBench$Score" ⟨"RhythmBench$Score","notesOf","(I)I"⟩ ⟨"RhythmBench$Score","notesOf","(I)I"⟩ ∈ am_tb := am_tb_in (List.mem_of_getElem? (i := 657) (by decide +kernel)) (by decide +kernel)
theorem lk_X9_163 : Cond.methodLink RX9 163 yX4_notesOf ∈ am_tb ∧ Cond.initialized yX4_notesOf.cls ∈ am_tb ∧ Cond.code yX4_notesOf cX4_notesOf 2 (some .int) ∈ am_tb ∧ Cond.instanceMethod yX4_notesOf ∈ am_tb ∧ Cond.selects yX4_notesOf.cls yX4_notesOf yX4_notesOf ∈ am_tb := ⟨tw_655, tw_55, tw_658, tw_656, tw_657⟩
theorem tw_659 : Cond.methodLink "RhythmBench" 166 ⟨"RhythmBench","level","(J)I"⟩ ∈ am_tb := am_tb_in (List.mem_of_getElem? (i := 659) (by decide +kernel)) (by decide +kernel)
theorem tw_662 : Cond.code ⟨"RhythmBench","level","(J)I"⟩ prog_1_method_34_code 6 (Option.some FieldType.int) ∈ am_tb := am_tb_in (List.mem_of_getElem? (i := 662) (by decide +kernel)) (by decide +kernel)
theorem tw_661 : Cond.instanceMethod ⟨"RhythmBench","level","(J)I"⟩ ∈ am_tb := am_tb_in (List.mem_of_getElem? (i := 661) (by decide +kernel)) (by decide +kernel)
theorem tw_20 : Cond.selects "RhythmBench" ⟨"RhythmBench","level","(J)I"⟩ ⟨"RhythmBench","level","(J)I"⟩ ∈ am_tb := am_tb_in (List.mem_of_getElem? (i := 20) (by decide +kernel)) (by decide +kernel)
theorem lk_X9_166 : Cond.methodLink RX9 166 yX9_level ∈ am_tb ∧ Cond.initialized yX9_level.cls ∈ am_tb ∧ Cond.code yX9_level cX9_level 6 (some .int) ∈ am_tb ∧ Cond.instanceMethod yX9_level ∈ am_tb ∧ Cond.selects yX9_level.cls yX9_level yX9_level ∈ am_tb := ⟨tw_659, tw_50, tw_662, tw_661, tw_20⟩
theorem tw_667 : Cond.methodLink "RhythmBench" 170 ⟨"RhythmBench","syncopationOf","(LRhythmBench$Score;I)I"⟩ ∈ am_tb := am_tb_in (List.mem_of_getElem? (i := 667) (by decide +kernel)) (by decide +kernel)
theorem tw_670 : Cond.code ⟨"RhythmBench","syncopationOf","(LRhythmBench$Score;I)I"⟩ prog_1_method_36_code 5 (Option.some FieldType.int) ∈ am_tb := am_tb_in (List.mem_of_getElem? (i := 670) (by decide +kernel)) (by decide +kernel)
theorem tw_669 : Cond.instanceMethod ⟨"RhythmBench","syncopationOf","(LRhythmBench$Score;I)I"⟩ ∈ am_tb := am_tb_in (List.mem_of_getElem? (i := 669) (by decide +kernel)) (by decide +kernel)
theorem tw_22 : Cond.selects "RhythmBench" ⟨"RhythmBench","syncopationOf","(LRhythmBench$Score;I)I"⟩ ⟨"RhythmBench","syncopationOf","(LRhythmBench$Score;I)I"⟩ ∈ am_tb := am_tb_in (List.mem_of_getElem? (i := 22) (by decide +kernel)) (by decide +kernel)
theorem lk_X9_170 : Cond.methodLink RX9 170 yX9_syncopationOf ∈ am_tb ∧ Cond.initialized yX9_syncopationOf.cls ∈ am_tb ∧ Cond.code yX9_syncopationOf cX9_syncopationOf 5 (some .int) ∈ am_tb ∧ Cond.instanceMethod yX9_syncopationOf ∈ am_tb ∧ Cond.selects yX9_syncopationOf.cls yX9_syncopationOf yX9_syncopationOf ∈ am_tb := ⟨tw_667, tw_50, tw_670, tw_669, tw_22⟩
theorem tw_680 : Cond.methodLink "RhythmBench" 174 ⟨"RhythmBench$Score","barCount","()I"⟩ ∈ am_tb := am_tb_in (List.mem_of_getElem? (i := 680) (by decide +kernel)) (by decide +kernel)
theorem tw_683 : Cond.code ⟨"RhythmBench$Score","barCount","()I"⟩ prog_6_method_3_code 1 (Option.some FieldType.int) ∈ am_tb := am_tb_in (List.mem_of_getElem? (i := 683) (by decide +kernel)) (by decide +kernel)
theorem tw_681 : Cond.instanceMethod ⟨"RhythmBench$Score","barCount","()I"⟩ ∈ am_tb := am_tb_in (List.mem_of_getElem? (i := 681) (by decide +kernel)) (by decide +kernel)
theorem tw_682 : Cond.selects "RhythmBench$Score" ⟨"RhythmBench$Score","barCount","()I"⟩ ⟨"RhythmBench$Score","barCount","()I"⟩ ∈ am_tb := am_tb_in (List.mem_of_getElem? (i := 682) (by decide +kernel)) (by decide +kernel)
theorem lk_X9_174 : Cond.methodLink RX9 174 yX4_barCount ∈ am_tb ∧ Cond.initialized yX4_barCount.cls ∈ am_tb ∧ Cond.code yX4_barCount cX4_barCount 1 (some .int) ∈ am_tb ∧ Cond.instanceMethod yX4_barCount ∈ am_tb ∧ Cond.selects yX4_barCount.cls yX4_barCount yX4_barCount ∈ am_tb := ⟨tw_680, tw_55, tw_683, tw_681, tw_682⟩
theorem tw_688 : Cond.methodLink "RhythmBench" 177 ⟨"RhythmBench$Score","hasBar","(I)Z"⟩ ∈ am_tb := am_tb_in (List.mem_of_getElem? (i := 688) (by decide +kernel)) (by decide +kernel)
theorem lk_X9_177 : Cond.methodLink RX9 177 yX4_hasBar ∈ am_tb ∧ Cond.initialized yX4_hasBar.cls ∈ am_tb ∧ Cond.code yX4_hasBar cX4_hasBar 2 (some .boolean) ∈ am_tb ∧ Cond.instanceMethod yX4_hasBar ∈ am_tb ∧ Cond.selects yX4_hasBar.cls yX4_hasBar yX4_hasBar ∈ am_tb := ⟨tw_688, tw_55, tw_557, tw_555, tw_556⟩
theorem tw_689 : Cond.methodLink "RhythmBench" 180 ⟨"RhythmBench$Score","barLength","(I)J"⟩ ∈ am_tb := am_tb_in (List.mem_of_getElem? (i := 689) (by decide +kernel)) (by decide +kernel)
theorem tw_692 : Cond.code ⟨"RhythmBench$Score","barLength","(I)J"⟩ prog_6_method_12_code 2 (Option.some FieldType.long) ∈ am_tb := am_tb_in (List.mem_of_getElem? (i := 692) (by decide +kernel)) (by decide +kernel)
theorem tw_690 : Cond.instanceMethod ⟨"RhythmBench$Score","barLength","(I)J"⟩ ∈ am_tb := am_tb_in (List.mem_of_getElem? (i := 690) (by decide +kernel)) (by decide +kernel)
theorem tw_691 : Cond.selects "RhythmBench$Score" ⟨"RhythmBench$Score","barLength","(I)J"⟩ ⟨"RhythmBench$Score","barLength","(I)J"⟩ ∈ am_tb := am_tb_in (List.mem_of_getElem? (i := 691) (by decide +kernel)) (by decide +kernel)
theorem lk_X9_180 : Cond.methodLink RX9 180 yX4_barLength ∈ am_tb ∧ Cond.initialized yX4_barLength.cls ∈ am_tb ∧ Cond.code yX4_barLength cX4_barLength 2 (some .long) ∈ am_tb ∧ Cond.instanceMethod yX4_barLength ∈ am_tb ∧ Cond.selects yX4_barLength.cls yX4_barLength yX4_barLength ∈ am_tb := ⟨tw_689, tw_55, tw_692, tw_690, tw_691⟩
theorem tw_663 : Cond.methodLink "RhythmBench" 183 ⟨"RhythmBench","meterLength","()J"⟩ ∈ am_tb := am_tb_in (List.mem_of_getElem? (i := 663) (by decide +kernel)) (by decide +kernel)
theorem tw_666 : Cond.code ⟨"RhythmBench","meterLength","()J"⟩ prog_1_method_33_code 1 (Option.some FieldType.long) ∈ am_tb := am_tb_in (List.mem_of_getElem? (i := 666) (by decide +kernel)) (by decide +kernel)
theorem tw_665 : Cond.instanceMethod ⟨"RhythmBench","meterLength","()J"⟩ ∈ am_tb := am_tb_in (List.mem_of_getElem? (i := 665) (by decide +kernel)) (by decide +kernel)
theorem tw_21 : Cond.selects "RhythmBench" ⟨"RhythmBench","meterLength","()J"⟩ ⟨"RhythmBench","meterLength","()J"⟩ ∈ am_tb := am_tb_in (List.mem_of_getElem? (i := 21) (by decide +kernel)) (by decide +kernel)
theorem lk_X9_183 : Cond.methodLink RX9 183 yX9_meterLength ∈ am_tb ∧ Cond.initialized yX9_meterLength.cls ∈ am_tb ∧ Cond.code yX9_meterLength cX9_meterLength 1 (some .long) ∈ am_tb ∧ Cond.instanceMethod yX9_meterLength ∈ am_tb ∧ Cond.selects yX9_meterLength.cls yX9_meterLength yX9_meterLength ∈ am_tb := ⟨tw_663, tw_50, tw_666, tw_665, tw_21⟩
theorem tw_612 : Cond.methodLink "RhythmBench" 186 ⟨"RhythmBench","commonDivisor","(JJ)J"⟩ ∈ am_tb := am_tb_in (List.mem_of_getElem? (i := 612) (by decide +kernel)) (by decide +kernel)
theorem tw_614 : Cond.code ⟨"RhythmBench","commonDivisor","(JJ)J"⟩ prog_1_method_40_code 11 (Option.some FieldType.long) ∈ am_tb := am_tb_in (List.mem_of_getElem? (i := 614) (by decide +kernel)) (by decide +kernel)
theorem tw_613 : Cond.static ⟨"RhythmBench","commonDivisor","(JJ)J"⟩ ∈ am_tb := am_tb_in (List.mem_of_getElem? (i := 613) (by decide +kernel)) (by decide +kernel)
theorem lk_X9_186 : Cond.methodLink RX9 186 yX9_commonDivisor ∈ am_tb ∧ Cond.initialized yX9_commonDivisor.cls ∈ am_tb ∧ Cond.code yX9_commonDivisor cX9_commonDivisor 11 (some .long) ∈ am_tb ∧ Cond.static yX9_commonDivisor ∈ am_tb := ⟨tw_612, tw_50, tw_614, tw_613⟩
theorem tw_714 : Cond.methodLink "RhythmBench" 192 ⟨"RhythmBench$Overlay","start","()V"⟩ ∈ am_tb := am_tb_in (List.mem_of_getElem? (i := 714) (by decide +kernel)) (by decide +kernel)
theorem tw_717 : Cond.code ⟨"RhythmBench$Overlay","start","()V"⟩ prog_4_method_4_code 2 (Option.none : Option FieldType) ∈ am_tb := am_tb_in (List.mem_of_getElem? (i := 717) (by decide +kernel)) (by decide +kernel)
theorem tw_715 : Cond.instanceMethod ⟨"RhythmBench$Overlay","start","()V"⟩ ∈ am_tb := am_tb_in (List.mem_of_getElem? (i := 715) (by decide +kernel)) (by decide +kernel)
theorem tw_716 : Cond.selects "RhythmBench$Overlay" ⟨"RhythmBench$Overlay","start","()V"⟩ ⟨"RhythmBench$Overlay","start","()V"⟩ ∈ am_tb := am_tb_in (List.mem_of_getElem? (i := 716) (by decide +kernel)) (by decide +kernel)
theorem lk_X9_192 : Cond.methodLink RX9 192 yX2_start ∈ am_tb ∧ Cond.initialized yX2_start.cls ∈ am_tb ∧ Cond.code yX2_start cX2_start 2 none ∈ am_tb ∧ Cond.instanceMethod yX2_start ∈ am_tb ∧ Cond.selects yX2_start.cls yX2_start yX2_start ∈ am_tb := ⟨tw_714, tw_58, tw_717, tw_715, tw_716⟩
theorem tw_718 : Cond.methodLink "RhythmBench" 195 ⟨"RhythmBench$Overlay","advance","([LRhythmBench$Part;)Z"⟩ ∈ am_tb := am_tb_in (List.mem_of_getElem? (i := 718) (by decide +kernel)) (by decide +kernel)
theorem tw_721 : Cond.code ⟨"RhythmBench$Overlay","advance","([LRhythmBench$Part;)Z"⟩ prog_4_method_5_code 4 (Option.some FieldType.boolean) ∈ am_tb := am_tb_in (List.mem_of_getElem? (i := 721) (by decide +kernel)) (by decide +kernel)
theorem tw_719 : Cond.instanceMethod ⟨"RhythmBench$Overlay","advance","([LRhythmBench$Part;)Z"⟩ ∈ am_tb := am_tb_in (List.mem_of_getElem? (i := 719) (by decide +kernel)) (by decide +kernel)
theorem tw_720 : Cond.selects "RhythmBench$Overlay" ⟨"RhythmBench$Overlay","advance","([LRhythmBench$Part;)Z"⟩ ⟨"RhythmBench$Overlay","advance","([LRhythmBench$Part;)Z"⟩ ∈ am_tb := am_tb_in (List.mem_of_getElem? (i := 720) (by decide +kernel)) (by decide +kernel)
theorem lk_X9_195 : Cond.methodLink RX9 195 yX2_advance ∈ am_tb ∧ Cond.initialized yX2_advance.cls ∈ am_tb ∧ Cond.code yX2_advance cX2_advance 4 (some .boolean) ∈ am_tb ∧ Cond.instanceMethod yX2_advance ∈ am_tb ∧ Cond.selects yX2_advance.cls yX2_advance yX2_advance ∈ am_tb := ⟨tw_718, tw_58, tw_721, tw_719, tw_720⟩
theorem tw_732 : Cond.methodLink "RhythmBench" 199 ⟨"RhythmBench$Overlay","set","()I"⟩ ∈ am_tb := am_tb_in (List.mem_of_getElem? (i := 732) (by decide +kernel)) (by decide +kernel)
theorem tw_735 : Cond.code ⟨"RhythmBench$Overlay","set","()I"⟩ prog_4_method_3_code 1 (Option.some FieldType.int) ∈ am_tb := am_tb_in (List.mem_of_getElem? (i := 735) (by decide +kernel)) (by decide +kernel)
theorem tw_733 : Cond.instanceMethod ⟨"RhythmBench$Overlay","set","()I"⟩ ∈ am_tb := am_tb_in (List.mem_of_getElem? (i := 733) (by decide +kernel)) (by decide +kernel)
theorem tw_734 : Cond.selects "RhythmBench$Overlay" ⟨"RhythmBench$Overlay","set","()I"⟩ ⟨"RhythmBench$Overlay","set","()I"⟩ ∈ am_tb := am_tb_in (List.mem_of_getElem? (i := 734) (by decide +kernel)) (by decide +kernel)
theorem lk_X9_199 : Cond.methodLink RX9 199 yX2_set ∈ am_tb ∧ Cond.initialized yX2_set.cls ∈ am_tb ∧ Cond.code yX2_set cX2_set 1 (some .int) ∈ am_tb ∧ Cond.instanceMethod yX2_set ∈ am_tb ∧ Cond.selects yX2_set.cls yX2_set yX2_set ∈ am_tb := ⟨tw_732, tw_58, tw_735, tw_733, tw_734⟩
theorem tw_736 : Cond.methodLink "RhythmBench" 202 ⟨"RhythmBench$Overlay","now","()J"⟩ ∈ am_tb := am_tb_in (List.mem_of_getElem? (i := 736) (by decide +kernel)) (by decide +kernel)
theorem tw_739 : Cond.code ⟨"RhythmBench$Overlay","now","()J"⟩ prog_4_method_2_code 1 (Option.some FieldType.long) ∈ am_tb := am_tb_in (List.mem_of_getElem? (i := 739) (by decide +kernel)) (by decide +kernel)
theorem tw_737 : Cond.instanceMethod ⟨"RhythmBench$Overlay","now","()J"⟩ ∈ am_tb := am_tb_in (List.mem_of_getElem? (i := 737) (by decide +kernel)) (by decide +kernel)
theorem tw_738 : Cond.selects "RhythmBench$Overlay" ⟨"RhythmBench$Overlay","now","()J"⟩ ⟨"RhythmBench$Overlay","now","()J"⟩ ∈ am_tb := am_tb_in (List.mem_of_getElem? (i := 738) (by decide +kernel)) (by decide +kernel)
theorem lk_X9_202 : Cond.methodLink RX9 202 yX2_now ∈ am_tb ∧ Cond.initialized yX2_now.cls ∈ am_tb ∧ Cond.code yX2_now cX2_now 1 (some .long) ∈ am_tb ∧ Cond.instanceMethod yX2_now ∈ am_tb ∧ Cond.selects yX2_now.cls yX2_now yX2_now ∈ am_tb := ⟨tw_736, tw_58, tw_739, tw_737, tw_738⟩
theorem tw_744 : Cond.methodLink "RhythmBench" 205 ⟨"RhythmBench","commonCycle","(JJ)J"⟩ ∈ am_tb := am_tb_in (List.mem_of_getElem? (i := 744) (by decide +kernel)) (by decide +kernel)
theorem tw_746 : Cond.code ⟨"RhythmBench","commonCycle","(JJ)J"⟩ prog_1_method_41_code 8 (Option.some FieldType.long) ∈ am_tb := am_tb_in (List.mem_of_getElem? (i := 746) (by decide +kernel)) (by decide +kernel)
theorem tw_745 : Cond.static ⟨"RhythmBench","commonCycle","(JJ)J"⟩ ∈ am_tb := am_tb_in (List.mem_of_getElem? (i := 745) (by decide +kernel)) (by decide +kernel)
theorem lk_X9_205 : Cond.methodLink RX9 205 yX9_commonCycle ∈ am_tb ∧ Cond.initialized yX9_commonCycle.cls ∈ am_tb ∧ Cond.code yX9_commonCycle cX9_commonCycle 8 (some .long) ∈ am_tb ∧ Cond.static yX9_commonCycle ∈ am_tb := ⟨tw_744, tw_50, tw_746, tw_745⟩
theorem tw_754 : Cond.methodLink "RhythmBench" 208 ⟨"RhythmBench","meetings","(LRhythmBench$Score;LRhythmBench$Score;)I"⟩ ∈ am_tb := am_tb_in (List.mem_of_getElem? (i := 754) (by decide +kernel)) (by decide +kernel)
theorem tw_756 : Cond.code ⟨"RhythmBench","meetings","(LRhythmBench$Score;LRhythmBench$Score;)I"⟩ prog_1_method_42_code 11 (Option.some FieldType.int) ∈ am_tb := am_tb_in (List.mem_of_getElem? (i := 756) (by decide +kernel)) (by decide +kernel)
theorem tw_755 : Cond.static ⟨"RhythmBench","meetings","(LRhythmBench$Score;LRhythmBench$Score;)I"⟩ ∈ am_tb := am_tb_in (List.mem_of_getElem? (i := 755) (by decide +kernel)) (by decide +kernel)
theorem lk_X9_208 : Cond.methodLink RX9 208 yX9_meetings ∈ am_tb ∧ Cond.initialized yX9_meetings.cls ∈ am_tb ∧ Cond.code yX9_meetings cX9_meetings 11 (some .int) ∈ am_tb ∧ Cond.static yX9_meetings ∈ am_tb := ⟨tw_754, tw_50, tw_756, tw_755⟩
theorem tw_500 : Cond.methodLink "RhythmBench" 227 ⟨"RhythmBench","dropOldest","()V"⟩ ∈ am_tb := am_tb_in (List.mem_of_getElem? (i := 500) (by decide +kernel)) (by decide +kernel)
theorem tw_503 : Cond.code ⟨"RhythmBench","dropOldest","()V"⟩ prog_1_method_31_code 3 (Option.none : Option FieldType) ∈ am_tb := am_tb_in (List.mem_of_getElem? (i := 503) (by decide +kernel)) (by decide +kernel)
theorem tw_502 : Cond.instanceMethod ⟨"RhythmBench","dropOldest","()V"⟩ ∈ am_tb := am_tb_in (List.mem_of_getElem? (i := 502) (by decide +kernel)) (by decide +kernel)
theorem tw_15 : Cond.selects "RhythmBench" ⟨"RhythmBench","dropOldest","()V"⟩ ⟨"RhythmBench","dropOldest","()V"⟩ ∈ am_tb := am_tb_in (List.mem_of_getElem? (i := 15) (by decide +kernel)) (by decide +kernel)
theorem lk_X9_227 : Cond.methodLink RX9 227 yX9_dropOldest ∈ am_tb ∧ Cond.initialized yX9_dropOldest.cls ∈ am_tb ∧ Cond.code yX9_dropOldest cX9_dropOldest 3 none ∈ am_tb ∧ Cond.instanceMethod yX9_dropOldest ∈ am_tb ∧ Cond.selects yX9_dropOldest.cls yX9_dropOldest yX9_dropOldest ∈ am_tb := ⟨tw_500, tw_50, tw_503, tw_502, tw_15⟩
theorem tw_504 : Cond.methodLink "RhythmBench" 230 ⟨"RhythmBench$Text","become","(LRhythmBench$Text;)V"⟩ ∈ am_tb := am_tb_in (List.mem_of_getElem? (i := 504) (by decide +kernel)) (by decide +kernel)
theorem lk_X9_230 : Cond.methodLink RX9 230 yX6_become ∈ am_tb ∧ Cond.initialized yX6_become.cls ∈ am_tb ∧ Cond.code yX6_become cX6_become 4 none ∈ am_tb ∧ Cond.instanceMethod yX6_become ∈ am_tb ∧ Cond.selects yX6_become.cls yX6_become yX6_become ∈ am_tb := ⟨tw_504, tw_51, tw_507, tw_505, tw_506⟩
theorem tw_671 : Cond.methodLink "RhythmBench" 233 ⟨"RhythmBench","leastLevelBetween","(JJ)I"⟩ ∈ am_tb := am_tb_in (List.mem_of_getElem? (i := 671) (by decide +kernel)) (by decide +kernel)
theorem tw_674 : Cond.code ⟨"RhythmBench","leastLevelBetween","(JJ)I"⟩ prog_1_method_35_code 10 (Option.some FieldType.int) ∈ am_tb := am_tb_in (List.mem_of_getElem? (i := 674) (by decide +kernel)) (by decide +kernel)
theorem tw_673 : Cond.instanceMethod ⟨"RhythmBench","leastLevelBetween","(JJ)I"⟩ ∈ am_tb := am_tb_in (List.mem_of_getElem? (i := 673) (by decide +kernel)) (by decide +kernel)
theorem tw_23 : Cond.selects "RhythmBench" ⟨"RhythmBench","leastLevelBetween","(JJ)I"⟩ ⟨"RhythmBench","leastLevelBetween","(JJ)I"⟩ ∈ am_tb := am_tb_in (List.mem_of_getElem? (i := 23) (by decide +kernel)) (by decide +kernel)
theorem lk_X9_233 : Cond.methodLink RX9 233 yX9_leastLevelBetween ∈ am_tb ∧ Cond.initialized yX9_leastLevelBetween.cls ∈ am_tb ∧ Cond.code yX9_leastLevelBetween cX9_leastLevelBetween 10 (some .int) ∈ am_tb ∧ Cond.instanceMethod yX9_leastLevelBetween ∈ am_tb ∧ Cond.selects yX9_leastLevelBetween.cls yX9_leastLevelBetween yX9_leastLevelBetween ∈ am_tb := ⟨tw_671, tw_50, tw_674, tw_673, tw_23⟩
theorem tw_675 : Cond.methodLink "RhythmBench" 237 ⟨"java/lang/Math","max","(II)I"⟩ ∈ am_tb := am_tb_in (List.mem_of_getElem? (i := 675) (by decide +kernel)) (by decide +kernel)
theorem lk_X9_237 : Cond.methodLink RX9 237 Lib.Math.max.name ∈ am_tb ∧ Cond.static Lib.Math.max.name ∈ am_tb ∧ Cond.initialized "java/lang/Math" ∈ am_tb ∧ Cond.code Lib.Math.max.name Lib.Math.max.code 2 (some .int) ∈ am_tb := ⟨tw_675, tw_82, tw_52, tw_83⟩
theorem tw_772 : Cond.methodLink "RhythmBenchModel" 1 ⟨"java/lang/Object","<init>","()V"⟩ ∈ am_tb := am_tb_in (List.mem_of_getElem? (i := 772) (by decide +kernel)) (by decide +kernel)
theorem lk_X10_1 : Cond.methodLink RX10 1 Lib.objectInit ∈ am_tb ∧ Cond.instanceMethod Lib.objectInit ∈ am_tb ∧ Cond.code Lib.objectInit ⟨#[0xb1]⟩ 1 none ∈ am_tb := ⟨tw_772, tw_73, tw_74⟩
theorem tw_865 : Cond.methodLink "RhythmBenchModel" 76 ⟨"RhythmBenchModel","in","(III)Z"⟩ ∈ am_tb := am_tb_in (List.mem_of_getElem? (i := 865) (by decide +kernel)) (by decide +kernel)
theorem tw_867 : Cond.code ⟨"RhythmBenchModel","in","(III)Z"⟩ prog_12_method_2_code 3 (Option.some FieldType.boolean) ∈ am_tb := am_tb_in (List.mem_of_getElem? (i := 867) (by decide +kernel)) (by decide +kernel)
theorem tw_866 : Cond.static ⟨"RhythmBenchModel","in","(III)Z"⟩ ∈ am_tb := am_tb_in (List.mem_of_getElem? (i := 866) (by decide +kernel)) (by decide +kernel)
theorem lk_X10_76 : Cond.methodLink RX10 76 yX10_in ∈ am_tb ∧ Cond.initialized yX10_in.cls ∈ am_tb ∧ Cond.code yX10_in cX10_in 3 (some .boolean) ∈ am_tb ∧ Cond.static yX10_in ∈ am_tb := ⟨tw_865, tw_59, tw_867, tw_866⟩
theorem tw_891 : Cond.methodLink "RhythmBenchModel" 83 ⟨"RhythmBenchModel","halvings","(I)I"⟩ ∈ am_tb := am_tb_in (List.mem_of_getElem? (i := 891) (by decide +kernel)) (by decide +kernel)
theorem tw_893 : Cond.code ⟨"RhythmBenchModel","halvings","(I)I"⟩ prog_12_method_5_code 1 (Option.some FieldType.int) ∈ am_tb := am_tb_in (List.mem_of_getElem? (i := 893) (by decide +kernel)) (by decide +kernel)
theorem tw_892 : Cond.static ⟨"RhythmBenchModel","halvings","(I)I"⟩ ∈ am_tb := am_tb_in (List.mem_of_getElem? (i := 892) (by decide +kernel)) (by decide +kernel)
theorem lk_X10_83 : Cond.methodLink RX10 83 yX10_halvings ∈ am_tb ∧ Cond.initialized yX10_halvings.cls ∈ am_tb ∧ Cond.code yX10_halvings cX10_halvings 1 (some .int) ∈ am_tb ∧ Cond.static yX10_halvings ∈ am_tb := ⟨tw_891, tw_59, tw_893, tw_892⟩
theorem tw_894 : Cond.methodLink "RhythmBenchModel" 93 ⟨"RhythmBenchModel","outside","(I)Z"⟩ ∈ am_tb := am_tb_in (List.mem_of_getElem? (i := 894) (by decide +kernel)) (by decide +kernel)
theorem tw_897 : Cond.code ⟨"RhythmBenchModel","outside","(I)Z"⟩ prog_12_method_8_code 2 (Option.some FieldType.boolean) ∈ am_tb := am_tb_in (List.mem_of_getElem? (i := 897) (by decide +kernel)) (by decide +kernel)
theorem tw_896 : Cond.instanceMethod ⟨"RhythmBenchModel","outside","(I)Z"⟩ ∈ am_tb := am_tb_in (List.mem_of_getElem? (i := 896) (by decide +kernel)) (by decide +kernel)
theorem tw_28 : Cond.selects "RhythmBenchModel" ⟨"RhythmBenchModel","outside","(I)Z"⟩ ⟨"RhythmBenchModel","outside","(I)Z"⟩ ∈ am_tb := am_tb_in (List.mem_of_getElem? (i := 28) (by decide +kernel)) (by decide +kernel)
theorem lk_X10_93 : Cond.methodLink RX10 93 yX10_outside ∈ am_tb ∧ Cond.initialized yX10_outside.cls ∈ am_tb ∧ Cond.code yX10_outside cX10_outside 2 (some .boolean) ∈ am_tb ∧ Cond.instanceMethod yX10_outside ∈ am_tb ∧ Cond.selects yX10_outside.cls yX10_outside yX10_outside ∈ am_tb := ⟨tw_894, tw_59, tw_897, tw_896, tw_28⟩
theorem tw_887 : Cond.methodLink "RhythmBenchModel" 101 ⟨"RhythmBenchModel","begins","(I)Z"⟩ ∈ am_tb := am_tb_in (List.mem_of_getElem? (i := 887) (by decide +kernel)) (by decide +kernel)
theorem tw_890 : Cond.code ⟨"RhythmBenchModel","begins","(I)Z"⟩ prog_12_method_7_code 2 (Option.some FieldType.boolean) ∈ am_tb := am_tb_in (List.mem_of_getElem? (i := 890) (by decide +kernel)) (by decide +kernel)
theorem tw_889 : Cond.instanceMethod ⟨"RhythmBenchModel","begins","(I)Z"⟩ ∈ am_tb := am_tb_in (List.mem_of_getElem? (i := 889) (by decide +kernel)) (by decide +kernel)
theorem tw_27 : Cond.selects "RhythmBenchModel" ⟨"RhythmBenchModel","begins","(I)Z"⟩ ⟨"RhythmBenchModel","begins","(I)Z"⟩ ∈ am_tb := am_tb_in (List.mem_of_getElem? (i := 27) (by decide +kernel)) (by decide +kernel)
theorem lk_X10_101 : Cond.methodLink RX10 101 yX10_begins ∈ am_tb ∧ Cond.initialized yX10_begins.cls ∈ am_tb ∧ Cond.code yX10_begins cX10_begins 2 (some .boolean) ∈ am_tb ∧ Cond.instanceMethod yX10_begins ∈ am_tb ∧ Cond.selects yX10_begins.cls yX10_begins yX10_begins ∈ am_tb := ⟨tw_887, tw_59, tw_890, tw_889, tw_27⟩
theorem tw_906 : Cond.methodLink "RhythmBenchModel" 104 ⟨"RhythmBenchModel","isDigit","(II)Z"⟩ ∈ am_tb := am_tb_in (List.mem_of_getElem? (i := 906) (by decide +kernel)) (by decide +kernel)
theorem tw_908 : Cond.code ⟨"RhythmBenchModel","isDigit","(II)Z"⟩ prog_12_method_6_code 2 (Option.some FieldType.boolean) ∈ am_tb := am_tb_in (List.mem_of_getElem? (i := 908) (by decide +kernel)) (by decide +kernel)
theorem tw_907 : Cond.static ⟨"RhythmBenchModel","isDigit","(II)Z"⟩ ∈ am_tb := am_tb_in (List.mem_of_getElem? (i := 907) (by decide +kernel)) (by decide +kernel)
theorem lk_X10_104 : Cond.methodLink RX10 104 yX10_isDigit ∈ am_tb ∧ Cond.initialized yX10_isDigit.cls ∈ am_tb ∧ Cond.code yX10_isDigit cX10_isDigit 2 (some .boolean) ∈ am_tb ∧ Cond.static yX10_isDigit ∈ am_tb := ⟨tw_906, tw_59, tw_908, tw_907⟩
theorem tw_898 : Cond.methodLink "RhythmBenchModel" 108 ⟨"RhythmBenchModel","dotted","(I)Z"⟩ ∈ am_tb := am_tb_in (List.mem_of_getElem? (i := 898) (by decide +kernel)) (by decide +kernel)
theorem tw_901 : Cond.code ⟨"RhythmBenchModel","dotted","(I)Z"⟩ prog_12_method_9_code 2 (Option.some FieldType.boolean) ∈ am_tb := am_tb_in (List.mem_of_getElem? (i := 901) (by decide +kernel)) (by decide +kernel)
theorem tw_900 : Cond.instanceMethod ⟨"RhythmBenchModel","dotted","(I)Z"⟩ ∈ am_tb := am_tb_in (List.mem_of_getElem? (i := 900) (by decide +kernel)) (by decide +kernel)
theorem tw_29 : Cond.selects "RhythmBenchModel" ⟨"RhythmBenchModel","dotted","(I)Z"⟩ ⟨"RhythmBenchModel","dotted","(I)Z"⟩ ∈ am_tb := am_tb_in (List.mem_of_getElem? (i := 29) (by decide +kernel)) (by decide +kernel)
theorem lk_X10_108 : Cond.methodLink RX10 108 yX10_dotted ∈ am_tb ∧ Cond.initialized yX10_dotted.cls ∈ am_tb ∧ Cond.code yX10_dotted cX10_dotted 2 (some .boolean) ∈ am_tb ∧ Cond.instanceMethod yX10_dotted ∈ am_tb ∧ Cond.selects yX10_dotted.cls yX10_dotted yX10_dotted ∈ am_tb := ⟨tw_898, tw_59, tw_901, tw_900, tw_29⟩
theorem tw_902 : Cond.methodLink "RhythmBenchModel" 111 ⟨"RhythmBenchModel","numbered","(I)Z"⟩ ∈ am_tb := am_tb_in (List.mem_of_getElem? (i := 902) (by decide +kernel)) (by decide +kernel)
theorem tw_905 : Cond.code ⟨"RhythmBenchModel","numbered","(I)Z"⟩ prog_12_method_10_code 2 (Option.some FieldType.boolean) ∈ am_tb := am_tb_in (List.mem_of_getElem? (i := 905) (by decide +kernel)) (by decide +kernel)
theorem tw_904 : Cond.instanceMethod ⟨"RhythmBenchModel","numbered","(I)Z"⟩ ∈ am_tb := am_tb_in (List.mem_of_getElem? (i := 904) (by decide +kernel)) (by decide +kernel)
theorem tw_30 : Cond.selects "RhythmBenchModel" ⟨"RhythmBenchModel","numbered","(I)Z"⟩ ⟨"RhythmBenchModel","numbered","(I)Z"⟩ ∈ am_tb := am_tb_in (List.mem_of_getElem? (i := 30) (by decide +kernel)) (by decide +kernel)
theorem lk_X10_111 : Cond.methodLink RX10 111 yX10_numbered ∈ am_tb ∧ Cond.initialized yX10_numbered.cls ∈ am_tb ∧ Cond.code yX10_numbered cX10_numbered 2 (some .boolean) ∈ am_tb ∧ Cond.instanceMethod yX10_numbered ∈ am_tb ∧ Cond.selects yX10_numbered.cls yX10_numbered yX10_numbered ∈ am_tb := ⟨tw_902, tw_59, tw_905, tw_904, tw_30⟩
theorem tw_883 : Cond.methodLink "RhythmBenchModel" 117 ⟨"RhythmBenchModel","may","(I)Z"⟩ ∈ am_tb := am_tb_in (List.mem_of_getElem? (i := 883) (by decide +kernel)) (by decide +kernel)
theorem tw_886 : Cond.code ⟨"RhythmBenchModel","may","(I)Z"⟩ prog_12_method_11_code 2 (Option.some FieldType.boolean) ∈ am_tb := am_tb_in (List.mem_of_getElem? (i := 886) (by decide +kernel)) (by decide +kernel)
theorem tw_885 : Cond.instanceMethod ⟨"RhythmBenchModel","may","(I)Z"⟩ ∈ am_tb := am_tb_in (List.mem_of_getElem? (i := 885) (by decide +kernel)) (by decide +kernel)
theorem tw_26 : Cond.selects "RhythmBenchModel" ⟨"RhythmBenchModel","may","(I)Z"⟩ ⟨"RhythmBenchModel","may","(I)Z"⟩ ∈ am_tb := am_tb_in (List.mem_of_getElem? (i := 26) (by decide +kernel)) (by decide +kernel)
theorem lk_X10_117 : Cond.methodLink RX10 117 yX10_may ∈ am_tb ∧ Cond.initialized yX10_may.cls ∈ am_tb ∧ Cond.code yX10_may cX10_may 2 (some .boolean) ∈ am_tb ∧ Cond.instanceMethod yX10_may ∈ am_tb ∧ Cond.selects yX10_may.cls yX10_may yX10_may ∈ am_tb := ⟨tw_883, tw_59, tw_886, tw_885, tw_26⟩
theorem tw_921 : Cond.methodLink "RhythmBenchModel" 120 ⟨"RhythmBenchModel","at","(II)I"⟩ ∈ am_tb := am_tb_in (List.mem_of_getElem? (i := 921) (by decide +kernel)) (by decide +kernel)
theorem tw_924 : Cond.code ⟨"RhythmBenchModel","at","(II)I"⟩ prog_12_method_13_code 3 (Option.some FieldType.int) ∈ am_tb := am_tb_in (List.mem_of_getElem? (i := 924) (by decide +kernel)) (by decide +kernel)
theorem tw_923 : Cond.instanceMethod ⟨"RhythmBenchModel","at","(II)I"⟩ ∈ am_tb := am_tb_in (List.mem_of_getElem? (i := 923) (by decide +kernel)) (by decide +kernel)
theorem tw_34 : Cond.selects "RhythmBenchModel" ⟨"RhythmBenchModel","at","(II)I"⟩ ⟨"RhythmBenchModel","at","(II)I"⟩ ∈ am_tb := am_tb_in (List.mem_of_getElem? (i := 34) (by decide +kernel)) (by decide +kernel)
theorem lk_X10_120 : Cond.methodLink RX10 120 yX10_at ∈ am_tb ∧ Cond.initialized yX10_at.cls ∈ am_tb ∧ Cond.code yX10_at cX10_at 3 (some .int) ∈ am_tb ∧ Cond.instanceMethod yX10_at ∈ am_tb ∧ Cond.selects yX10_at.cls yX10_at yX10_at ∈ am_tb := ⟨tw_921, tw_59, tw_924, tw_923, tw_34⟩
theorem tw_933 : Cond.methodLink "RhythmBenchModel" 127 ⟨"RhythmBenchModel","lays","(IIZ)I"⟩ ∈ am_tb := am_tb_in (List.mem_of_getElem? (i := 933) (by decide +kernel)) (by decide +kernel)
theorem tw_936 : Cond.code ⟨"RhythmBenchModel","lays","(IIZ)I"⟩ prog_12_method_14_code 5 (Option.some FieldType.int) ∈ am_tb := am_tb_in (List.mem_of_getElem? (i := 936) (by decide +kernel)) (by decide +kernel)
theorem tw_935 : Cond.instanceMethod ⟨"RhythmBenchModel","lays","(IIZ)I"⟩ ∈ am_tb := am_tb_in (List.mem_of_getElem? (i := 935) (by decide +kernel)) (by decide +kernel)
theorem tw_37 : Cond.selects "RhythmBenchModel" ⟨"RhythmBenchModel","lays","(IIZ)I"⟩ ⟨"RhythmBenchModel","lays","(IIZ)I"⟩ ∈ am_tb := am_tb_in (List.mem_of_getElem? (i := 37) (by decide +kernel)) (by decide +kernel)
theorem lk_X10_127 : Cond.methodLink RX10 127 yX10_lays ∈ am_tb ∧ Cond.initialized yX10_lays.cls ∈ am_tb ∧ Cond.code yX10_lays cX10_lays 5 (some .int) ∈ am_tb ∧ Cond.instanceMethod yX10_lays ∈ am_tb ∧ Cond.selects yX10_lays.cls yX10_lays yX10_lays ∈ am_tb := ⟨tw_933, tw_59, tw_936, tw_935, tw_37⟩
theorem tw_925 : Cond.methodLink "RhythmBenchModel" 131 ⟨"RhythmBenchModel","closing","(II)I"⟩ ∈ am_tb := am_tb_in (List.mem_of_getElem? (i := 925) (by decide +kernel)) (by decide +kernel)
theorem tw_928 : Cond.code ⟨"RhythmBenchModel","closing","(II)I"⟩ prog_12_method_15_code 4 (Option.some FieldType.int) ∈ am_tb := am_tb_in (List.mem_of_getElem? (i := 928) (by decide +kernel)) (by decide +kernel)
theorem tw_927 : Cond.instanceMethod ⟨"RhythmBenchModel","closing","(II)I"⟩ ∈ am_tb := am_tb_in (List.mem_of_getElem? (i := 927) (by decide +kernel)) (by decide +kernel)
theorem tw_35 : Cond.selects "RhythmBenchModel" ⟨"RhythmBenchModel","closing","(II)I"⟩ ⟨"RhythmBenchModel","closing","(II)I"⟩ ∈ am_tb := am_tb_in (List.mem_of_getElem? (i := 35) (by decide +kernel)) (by decide +kernel)
theorem lk_X10_131 : Cond.methodLink RX10 131 yX10_closing ∈ am_tb ∧ Cond.initialized yX10_closing.cls ∈ am_tb ∧ Cond.code yX10_closing cX10_closing 4 (some .int) ∈ am_tb ∧ Cond.instanceMethod yX10_closing ∈ am_tb ∧ Cond.selects yX10_closing.cls yX10_closing yX10_closing ∈ am_tb := ⟨tw_925, tw_59, tw_928, tw_927, tw_35⟩
theorem tw_929 : Cond.methodLink "RhythmBenchModel" 134 ⟨"RhythmBenchModel","passes","(III)V"⟩ ∈ am_tb := am_tb_in (List.mem_of_getElem? (i := 929) (by decide +kernel)) (by decide +kernel)
theorem tw_932 : Cond.code ⟨"RhythmBenchModel","passes","(III)V"⟩ prog_12_method_16_code 7 (Option.none : Option FieldType) ∈ am_tb := am_tb_in (List.mem_of_getElem? (i := 932) (by decide +kernel)) (by decide +kernel)
theorem tw_931 : Cond.instanceMethod ⟨"RhythmBenchModel","passes","(III)V"⟩ ∈ am_tb := am_tb_in (List.mem_of_getElem? (i := 931) (by decide +kernel)) (by decide +kernel)
theorem tw_36 : Cond.selects "RhythmBenchModel" ⟨"RhythmBenchModel","passes","(III)V"⟩ ⟨"RhythmBenchModel","passes","(III)V"⟩ ∈ am_tb := am_tb_in (List.mem_of_getElem? (i := 36) (by decide +kernel)) (by decide +kernel)
theorem lk_X10_134 : Cond.methodLink RX10 134 yX10_passes ∈ am_tb ∧ Cond.initialized yX10_passes.cls ∈ am_tb ∧ Cond.code yX10_passes cX10_passes 7 none ∈ am_tb ∧ Cond.instanceMethod yX10_passes ∈ am_tb ∧ Cond.selects yX10_passes.cls yX10_passes yX10_passes ∈ am_tb := ⟨tw_929, tw_59, tw_932, tw_931, tw_36⟩
theorem tw_917 : Cond.methodLink "RhythmBenchModel" 148 ⟨"RhythmBenchModel","unfolds","(I)V"⟩ ∈ am_tb := am_tb_in (List.mem_of_getElem? (i := 917) (by decide +kernel)) (by decide +kernel)
theorem tw_920 : Cond.code ⟨"RhythmBenchModel","unfolds","(I)V"⟩ prog_12_method_17_code 5 (Option.none : Option FieldType) ∈ am_tb := am_tb_in (List.mem_of_getElem? (i := 920) (by decide +kernel)) (by decide +kernel)
theorem tw_919 : Cond.instanceMethod ⟨"RhythmBenchModel","unfolds","(I)V"⟩ ∈ am_tb := am_tb_in (List.mem_of_getElem? (i := 919) (by decide +kernel)) (by decide +kernel)
theorem tw_33 : Cond.selects "RhythmBenchModel" ⟨"RhythmBenchModel","unfolds","(I)V"⟩ ⟨"RhythmBenchModel","unfolds","(I)V"⟩ ∈ am_tb := am_tb_in (List.mem_of_getElem? (i := 33) (by decide +kernel)) (by decide +kernel)
theorem lk_X10_148 : Cond.methodLink RX10 148 yX10_unfolds ∈ am_tb ∧ Cond.initialized yX10_unfolds.cls ∈ am_tb ∧ Cond.code yX10_unfolds cX10_unfolds 5 none ∈ am_tb ∧ Cond.instanceMethod yX10_unfolds ∈ am_tb ∧ Cond.selects yX10_unfolds.cls yX10_unfolds yX10_unfolds ∈ am_tb := ⟨tw_917, tw_59, tw_920, tw_919, tw_33⟩
theorem tw_937 : Cond.methodLink "RhythmBenchModel" 155 ⟨"RhythmBenchModel","lengthAt","(III)J"⟩ ∈ am_tb := am_tb_in (List.mem_of_getElem? (i := 937) (by decide +kernel)) (by decide +kernel)
theorem tw_940 : Cond.code ⟨"RhythmBenchModel","lengthAt","(III)J"⟩ prog_12_method_18_code 7 (Option.some FieldType.long) ∈ am_tb := am_tb_in (List.mem_of_getElem? (i := 940) (by decide +kernel)) (by decide +kernel)
theorem tw_939 : Cond.instanceMethod ⟨"RhythmBenchModel","lengthAt","(III)J"⟩ ∈ am_tb := am_tb_in (List.mem_of_getElem? (i := 939) (by decide +kernel)) (by decide +kernel)
theorem tw_38 : Cond.selects "RhythmBenchModel" ⟨"RhythmBenchModel","lengthAt","(III)J"⟩ ⟨"RhythmBenchModel","lengthAt","(III)J"⟩ ∈ am_tb := am_tb_in (List.mem_of_getElem? (i := 38) (by decide +kernel)) (by decide +kernel)
theorem lk_X10_155 : Cond.methodLink RX10 155 yX10_lengthAt ∈ am_tb ∧ Cond.initialized yX10_lengthAt.cls ∈ am_tb ∧ Cond.code yX10_lengthAt cX10_lengthAt 7 (some .long) ∈ am_tb ∧ Cond.instanceMethod yX10_lengthAt ∈ am_tb ∧ Cond.selects yX10_lengthAt.cls yX10_lengthAt yX10_lengthAt ∈ am_tb := ⟨tw_937, tw_59, tw_940, tw_939, tw_38⟩
theorem tw_946 : Cond.methodLink "RhythmBenchModel" 159 ⟨"RhythmBenchModel","addsEvent","(IJJZIZ)V"⟩ ∈ am_tb := am_tb_in (List.mem_of_getElem? (i := 946) (by decide +kernel)) (by decide +kernel)
theorem tw_949 : Cond.code ⟨"RhythmBenchModel","addsEvent","(IJJZIZ)V"⟩ prog_12_method_19_code 10 (Option.none : Option FieldType) ∈ am_tb := am_tb_in (List.mem_of_getElem? (i := 949) (by decide +kernel)) (by decide +kernel)
theorem tw_948 : Cond.instanceMethod ⟨"RhythmBenchModel","addsEvent","(IJJZIZ)V"⟩ ∈ am_tb := am_tb_in (List.mem_of_getElem? (i := 948) (by decide +kernel)) (by decide +kernel)
theorem tw_39 : Cond.selects "RhythmBenchModel" ⟨"RhythmBenchModel","addsEvent","(IJJZIZ)V"⟩ ⟨"RhythmBenchModel","addsEvent","(IJJZIZ)V"⟩ ∈ am_tb := am_tb_in (List.mem_of_getElem? (i := 39) (by decide +kernel)) (by decide +kernel)
theorem lk_X10_159 : Cond.methodLink RX10 159 yX10_addsEvent ∈ am_tb ∧ Cond.initialized yX10_addsEvent.cls ∈ am_tb ∧ Cond.code yX10_addsEvent cX10_addsEvent 10 none ∈ am_tb ∧ Cond.instanceMethod yX10_addsEvent ∈ am_tb ∧ Cond.selects yX10_addsEvent.cls yX10_addsEvent yX10_addsEvent ∈ am_tb := ⟨tw_946, tw_59, tw_949, tw_948, tw_39⟩
theorem tw_876 : Cond.methodLink "RhythmBenchModel" 163 ⟨"RhythmBenchModel","isPart","(I)Z"⟩ ∈ am_tb := am_tb_in (List.mem_of_getElem? (i := 876) (by decide +kernel)) (by decide +kernel)
theorem tw_878 : Cond.code ⟨"RhythmBenchModel","isPart","(I)Z"⟩ prog_12_method_4_code 1 (Option.some FieldType.boolean) ∈ am_tb := am_tb_in (List.mem_of_getElem? (i := 878) (by decide +kernel)) (by decide +kernel)
theorem tw_877 : Cond.static ⟨"RhythmBenchModel","isPart","(I)Z"⟩ ∈ am_tb := am_tb_in (List.mem_of_getElem? (i := 877) (by decide +kernel)) (by decide +kernel)
theorem lk_X10_163 : Cond.methodLink RX10 163 yX10_isPart ∈ am_tb ∧ Cond.initialized yX10_isPart.cls ∈ am_tb ∧ Cond.code yX10_isPart cX10_isPart 1 (some .boolean) ∈ am_tb ∧ Cond.static yX10_isPart ∈ am_tb := ⟨tw_876, tw_59, tw_878, tw_877⟩
theorem tw_879 : Cond.methodLink "RhythmBenchModel" 166 ⟨"RhythmBenchModel","wrongAt","()I"⟩ ∈ am_tb := am_tb_in (List.mem_of_getElem? (i := 879) (by decide +kernel)) (by decide +kernel)
theorem tw_882 : Cond.code ⟨"RhythmBenchModel","wrongAt","()I"⟩ prog_12_method_12_code 2 (Option.some FieldType.int) ∈ am_tb := am_tb_in (List.mem_of_getElem? (i := 882) (by decide +kernel)) (by decide +kernel)
theorem tw_881 : Cond.instanceMethod ⟨"RhythmBenchModel","wrongAt","()I"⟩ ∈ am_tb := am_tb_in (List.mem_of_getElem? (i := 881) (by decide +kernel)) (by decide +kernel)
theorem tw_25 : Cond.selects "RhythmBenchModel" ⟨"RhythmBenchModel","wrongAt","()I"⟩ ⟨"RhythmBenchModel","wrongAt","()I"⟩ ∈ am_tb := am_tb_in (List.mem_of_getElem? (i := 25) (by decide +kernel)) (by decide +kernel)
theorem lk_X10_166 : Cond.methodLink RX10 166 yX10_wrongAt ∈ am_tb ∧ Cond.initialized yX10_wrongAt.cls ∈ am_tb ∧ Cond.code yX10_wrongAt cX10_wrongAt 2 (some .int) ∈ am_tb ∧ Cond.instanceMethod yX10_wrongAt ∈ am_tb ∧ Cond.selects yX10_wrongAt.cls yX10_wrongAt yX10_wrongAt ∈ am_tb := ⟨tw_879, tw_59, tw_882, tw_881, tw_25⟩
theorem tw_909 : Cond.methodLink "RhythmBenchModel" 170 ⟨"RhythmBenchModel","takes","(I[II)V"⟩ ∈ am_tb := am_tb_in (List.mem_of_getElem? (i := 909) (by decide +kernel)) (by decide +kernel)
theorem tw_912 : Cond.code ⟨"RhythmBenchModel","takes","(I[II)V"⟩ prog_12_method_23_code 5 (Option.none : Option FieldType) ∈ am_tb := am_tb_in (List.mem_of_getElem? (i := 912) (by decide +kernel)) (by decide +kernel)
theorem tw_911 : Cond.instanceMethod ⟨"RhythmBenchModel","takes","(I[II)V"⟩ ∈ am_tb := am_tb_in (List.mem_of_getElem? (i := 911) (by decide +kernel)) (by decide +kernel)
theorem tw_31 : Cond.selects "RhythmBenchModel" ⟨"RhythmBenchModel","takes","(I[II)V"⟩ ⟨"RhythmBenchModel","takes","(I[II)V"⟩ ∈ am_tb := am_tb_in (List.mem_of_getElem? (i := 31) (by decide +kernel)) (by decide +kernel)
theorem lk_X10_170 : Cond.methodLink RX10 170 yX10_takes ∈ am_tb ∧ Cond.initialized yX10_takes.cls ∈ am_tb ∧ Cond.code yX10_takes cX10_takes 5 none ∈ am_tb ∧ Cond.instanceMethod yX10_takes ∈ am_tb ∧ Cond.selects yX10_takes.cls yX10_takes yX10_takes ∈ am_tb := ⟨tw_909, tw_59, tw_912, tw_911, tw_31⟩
theorem tw_913 : Cond.methodLink "RhythmBenchModel" 174 ⟨"RhythmBenchModel","works","(I)V"⟩ ∈ am_tb := am_tb_in (List.mem_of_getElem? (i := 913) (by decide +kernel)) (by decide +kernel)
theorem tw_916 : Cond.code ⟨"RhythmBenchModel","works","(I)V"⟩ prog_12_method_20_code 14 (Option.none : Option FieldType) ∈ am_tb := am_tb_in (List.mem_of_getElem? (i := 916) (by decide +kernel)) (by decide +kernel)
theorem tw_915 : Cond.instanceMethod ⟨"RhythmBenchModel","works","(I)V"⟩ ∈ am_tb := am_tb_in (List.mem_of_getElem? (i := 915) (by decide +kernel)) (by decide +kernel)
theorem tw_32 : Cond.selects "RhythmBenchModel" ⟨"RhythmBenchModel","works","(I)V"⟩ ⟨"RhythmBenchModel","works","(I)V"⟩ ∈ am_tb := am_tb_in (List.mem_of_getElem? (i := 32) (by decide +kernel)) (by decide +kernel)
theorem lk_X10_174 : Cond.methodLink RX10 174 yX10_works ∈ am_tb ∧ Cond.initialized yX10_works.cls ∈ am_tb ∧ Cond.code yX10_works cX10_works 14 none ∈ am_tb ∧ Cond.instanceMethod yX10_works ∈ am_tb ∧ Cond.selects yX10_works.cls yX10_works yX10_works ∈ am_tb := ⟨tw_913, tw_59, tw_916, tw_915, tw_32⟩
theorem tw_950 : Cond.methodLink "RhythmBenchModel" 177 ⟨"RhythmBenchModel","act","()V"⟩ ∈ am_tb := am_tb_in (List.mem_of_getElem? (i := 950) (by decide +kernel)) (by decide +kernel)
theorem tw_953 : Cond.code ⟨"RhythmBenchModel","act","()V"⟩ prog_12_method_3_code 2 (Option.none : Option FieldType) ∈ am_tb := am_tb_in (List.mem_of_getElem? (i := 953) (by decide +kernel)) (by decide +kernel)
theorem tw_952 : Cond.instanceMethod ⟨"RhythmBenchModel","act","()V"⟩ ∈ am_tb := am_tb_in (List.mem_of_getElem? (i := 952) (by decide +kernel)) (by decide +kernel)
theorem tw_40 : Cond.selects "RhythmBenchModel" ⟨"RhythmBenchModel","act","()V"⟩ ⟨"RhythmBenchModel","act","()V"⟩ ∈ am_tb := am_tb_in (List.mem_of_getElem? (i := 40) (by decide +kernel)) (by decide +kernel)
theorem lk_X10_177 : Cond.methodLink RX10 177 yX10_act ∈ am_tb ∧ Cond.initialized yX10_act.cls ∈ am_tb ∧ Cond.code yX10_act cX10_act 2 none ∈ am_tb ∧ Cond.instanceMethod yX10_act ∈ am_tb ∧ Cond.selects yX10_act.cls yX10_act yX10_act ∈ am_tb := ⟨tw_950, tw_59, tw_953, tw_952, tw_40⟩
theorem tw_990 : Cond.methodLink "RhythmBenchModel" 180 ⟨"RhythmBenchModel","divisor","(JJ)J"⟩ ∈ am_tb := am_tb_in (List.mem_of_getElem? (i := 990) (by decide +kernel)) (by decide +kernel)
theorem tw_992 : Cond.code ⟨"RhythmBenchModel","divisor","(JJ)J"⟩ prog_12_method_31_code 10 (Option.some FieldType.long) ∈ am_tb := am_tb_in (List.mem_of_getElem? (i := 992) (by decide +kernel)) (by decide +kernel)
theorem tw_991 : Cond.static ⟨"RhythmBenchModel","divisor","(JJ)J"⟩ ∈ am_tb := am_tb_in (List.mem_of_getElem? (i := 991) (by decide +kernel)) (by decide +kernel)
theorem lk_X10_180 : Cond.methodLink RX10 180 yX10_divisor ∈ am_tb ∧ Cond.initialized yX10_divisor.cls ∈ am_tb ∧ Cond.code yX10_divisor cX10_divisor 10 (some .long) ∈ am_tb ∧ Cond.static yX10_divisor ∈ am_tb := ⟨tw_990, tw_59, tw_992, tw_991⟩
theorem tw_987 : Cond.methodLink "RhythmBenchModel" 186 ⟨"RhythmBenchModel","told","(JJI)J"⟩ ∈ am_tb := am_tb_in (List.mem_of_getElem? (i := 987) (by decide +kernel)) (by decide +kernel)
theorem tw_989 : Cond.code ⟨"RhythmBenchModel","told","(JJI)J"⟩ prog_12_method_32_code 7 (Option.some FieldType.long) ∈ am_tb := am_tb_in (List.mem_of_getElem? (i := 989) (by decide +kernel)) (by decide +kernel)
theorem tw_988 : Cond.static ⟨"RhythmBenchModel","told","(JJI)J"⟩ ∈ am_tb := am_tb_in (List.mem_of_getElem? (i := 988) (by decide +kernel)) (by decide +kernel)
theorem lk_X10_186 : Cond.methodLink RX10 186 yX10_told ∈ am_tb ∧ Cond.initialized yX10_told.cls ∈ am_tb ∧ Cond.code yX10_told cX10_told 7 (some .long) ∈ am_tb ∧ Cond.static yX10_told ∈ am_tb := ⟨tw_987, tw_59, tw_989, tw_988⟩
theorem tw_997 : Cond.methodLink "RhythmBenchModel" 190 ⟨"RhythmBenchModel","isEvent","(II)Z"⟩ ∈ am_tb := am_tb_in (List.mem_of_getElem? (i := 997) (by decide +kernel)) (by decide +kernel)
theorem tw_1000 : Cond.code ⟨"RhythmBenchModel","isEvent","(II)Z"⟩ prog_12_method_35_code 3 (Option.some FieldType.boolean) ∈ am_tb := am_tb_in (List.mem_of_getElem? (i := 1000) (by decide +kernel)) (by decide +kernel)
theorem tw_999 : Cond.instanceMethod ⟨"RhythmBenchModel","isEvent","(II)Z"⟩ ∈ am_tb := am_tb_in (List.mem_of_getElem? (i := 999) (by decide +kernel)) (by decide +kernel)
theorem tw_41 : Cond.selects "RhythmBenchModel" ⟨"RhythmBenchModel","isEvent","(II)Z"⟩ ⟨"RhythmBenchModel","isEvent","(II)Z"⟩ ∈ am_tb := am_tb_in (List.mem_of_getElem? (i := 41) (by decide +kernel)) (by decide +kernel)
theorem lk_X10_190 : Cond.methodLink RX10 190 yX10_isEvent ∈ am_tb ∧ Cond.initialized yX10_isEvent.cls ∈ am_tb ∧ Cond.code yX10_isEvent cX10_isEvent 3 (some .boolean) ∈ am_tb ∧ Cond.instanceMethod yX10_isEvent ∈ am_tb ∧ Cond.selects yX10_isEvent.cls yX10_isEvent yX10_isEvent ∈ am_tb := ⟨tw_997, tw_59, tw_1000, tw_999, tw_41⟩
theorem tw_1009 : Cond.methodLink "RhythmBenchModel" 197 ⟨"RhythmBenchModel","swungOf","(J)J"⟩ ∈ am_tb := am_tb_in (List.mem_of_getElem? (i := 1009) (by decide +kernel)) (by decide +kernel)
theorem tw_1012 : Cond.code ⟨"RhythmBenchModel","swungOf","(J)J"⟩ prog_12_method_38_code 9 (Option.some FieldType.long) ∈ am_tb := am_tb_in (List.mem_of_getElem? (i := 1012) (by decide +kernel)) (by decide +kernel)
theorem tw_1011 : Cond.instanceMethod ⟨"RhythmBenchModel","swungOf","(J)J"⟩ ∈ am_tb := am_tb_in (List.mem_of_getElem? (i := 1011) (by decide +kernel)) (by decide +kernel)
theorem tw_42 : Cond.selects "RhythmBenchModel" ⟨"RhythmBenchModel","swungOf","(J)J"⟩ ⟨"RhythmBenchModel","swungOf","(J)J"⟩ ∈ am_tb := am_tb_in (List.mem_of_getElem? (i := 42) (by decide +kernel)) (by decide +kernel)
theorem lk_X10_197 : Cond.methodLink RX10 197 yX10_swungOf ∈ am_tb ∧ Cond.initialized yX10_swungOf.cls ∈ am_tb ∧ Cond.code yX10_swungOf cX10_swungOf 9 (some .long) ∈ am_tb ∧ Cond.instanceMethod yX10_swungOf ∈ am_tb ∧ Cond.selects yX10_swungOf.cls yX10_swungOf yX10_swungOf ∈ am_tb := ⟨tw_1009, tw_59, tw_1012, tw_1011, tw_42⟩
theorem tw_1023 : Cond.methodLink "RhythmBenchModel" 201 ⟨"RhythmBenchModel","meter","()J"⟩ ∈ am_tb := am_tb_in (List.mem_of_getElem? (i := 1023) (by decide +kernel)) (by decide +kernel)
theorem tw_1026 : Cond.code ⟨"RhythmBenchModel","meter","()J"⟩ prog_12_method_40_code 1 (Option.some FieldType.long) ∈ am_tb := am_tb_in (List.mem_of_getElem? (i := 1026) (by decide +kernel)) (by decide +kernel)
theorem tw_1025 : Cond.instanceMethod ⟨"RhythmBenchModel","meter","()J"⟩ ∈ am_tb := am_tb_in (List.mem_of_getElem? (i := 1025) (by decide +kernel)) (by decide +kernel)
theorem tw_44 : Cond.selects "RhythmBenchModel" ⟨"RhythmBenchModel","meter","()J"⟩ ⟨"RhythmBenchModel","meter","()J"⟩ ∈ am_tb := am_tb_in (List.mem_of_getElem? (i := 44) (by decide +kernel)) (by decide +kernel)
theorem lk_X10_201 : Cond.methodLink RX10 201 yX10_meter ∈ am_tb ∧ Cond.initialized yX10_meter.cls ∈ am_tb ∧ Cond.code yX10_meter cX10_meter 1 (some .long) ∈ am_tb ∧ Cond.instanceMethod yX10_meter ∈ am_tb ∧ Cond.selects yX10_meter.cls yX10_meter yX10_meter ∈ am_tb := ⟨tw_1023, tw_59, tw_1026, tw_1025, tw_44⟩
theorem tw_1019 : Cond.methodLink "RhythmBenchModel" 205 ⟨"RhythmBenchModel","levelOf","(J)I"⟩ ∈ am_tb := am_tb_in (List.mem_of_getElem? (i := 1019) (by decide +kernel)) (by decide +kernel)
theorem tw_1022 : Cond.code ⟨"RhythmBenchModel","levelOf","(J)I"⟩ prog_12_method_41_code 4 (Option.some FieldType.int) ∈ am_tb := am_tb_in (List.mem_of_getElem? (i := 1022) (by decide +kernel)) (by decide +kernel)
theorem tw_1021 : Cond.instanceMethod ⟨"RhythmBenchModel","levelOf","(J)I"⟩ ∈ am_tb := am_tb_in (List.mem_of_getElem? (i := 1021) (by decide +kernel)) (by decide +kernel)
theorem tw_43 : Cond.selects "RhythmBenchModel" ⟨"RhythmBenchModel","levelOf","(J)I"⟩ ⟨"RhythmBenchModel","levelOf","(J)I"⟩ ∈ am_tb := am_tb_in (List.mem_of_getElem? (i := 43) (by decide +kernel)) (by decide +kernel)
theorem lk_X10_205 : Cond.methodLink RX10 205 yX10_levelOf ∈ am_tb ∧ Cond.initialized yX10_levelOf.cls ∈ am_tb ∧ Cond.code yX10_levelOf cX10_levelOf 4 (some .int) ∈ am_tb ∧ Cond.instanceMethod yX10_levelOf ∈ am_tb ∧ Cond.selects yX10_levelOf.cls yX10_levelOf yX10_levelOf ∈ am_tb := ⟨tw_1019, tw_59, tw_1022, tw_1021, tw_43⟩
theorem tw_1027 : Cond.methodLink "RhythmBenchModel" 209 ⟨"RhythmBenchModel","syncopationOf","(I)I"⟩ ∈ am_tb := am_tb_in (List.mem_of_getElem? (i := 1027) (by decide +kernel)) (by decide +kernel)
theorem tw_1030 : Cond.code ⟨"RhythmBenchModel","syncopationOf","(I)I"⟩ prog_12_method_42_code 10 (Option.some FieldType.int) ∈ am_tb := am_tb_in (List.mem_of_getElem? (i := 1030) (by decide +kernel)) (by decide +kernel)
theorem tw_1029 : Cond.instanceMethod ⟨"RhythmBenchModel","syncopationOf","(I)I"⟩ ∈ am_tb := am_tb_in (List.mem_of_getElem? (i := 1029) (by decide +kernel)) (by decide +kernel)
theorem tw_45 : Cond.selects "RhythmBenchModel" ⟨"RhythmBenchModel","syncopationOf","(I)I"⟩ ⟨"RhythmBenchModel","syncopationOf","(I)I"⟩ ∈ am_tb := am_tb_in (List.mem_of_getElem? (i := 45) (by decide +kernel)) (by decide +kernel)
theorem lk_X10_209 : Cond.methodLink RX10 209 yX10_syncopationOf ∈ am_tb ∧ Cond.initialized yX10_syncopationOf.cls ∈ am_tb ∧ Cond.code yX10_syncopationOf cX10_syncopationOf 10 (some .int) ∈ am_tb ∧ Cond.instanceMethod yX10_syncopationOf ∈ am_tb ∧ Cond.selects yX10_syncopationOf.cls yX10_syncopationOf yX10_syncopationOf ∈ am_tb := ⟨tw_1027, tw_59, tw_1030, tw_1029, tw_45⟩
theorem tw_1060 : Cond.methodLink "RhythmBenchModel" 217 ⟨"RhythmBenchModel","startsAll","()V"⟩ ∈ am_tb := am_tb_in (List.mem_of_getElem? (i := 1060) (by decide +kernel)) (by decide +kernel)
theorem tw_1063 : Cond.code ⟨"RhythmBenchModel","startsAll","()V"⟩ prog_12_method_50_code 2 (Option.none : Option FieldType) ∈ am_tb := am_tb_in (List.mem_of_getElem? (i := 1063) (by decide +kernel)) (by decide +kernel)
theorem tw_1062 : Cond.instanceMethod ⟨"RhythmBenchModel","startsAll","()V"⟩ ∈ am_tb := am_tb_in (List.mem_of_getElem? (i := 1062) (by decide +kernel)) (by decide +kernel)
theorem tw_46 : Cond.selects "RhythmBenchModel" ⟨"RhythmBenchModel","startsAll","()V"⟩ ⟨"RhythmBenchModel","startsAll","()V"⟩ ∈ am_tb := am_tb_in (List.mem_of_getElem? (i := 46) (by decide +kernel)) (by decide +kernel)
theorem lk_X10_217 : Cond.methodLink RX10 217 yX10_startsAll ∈ am_tb ∧ Cond.initialized yX10_startsAll.cls ∈ am_tb ∧ Cond.code yX10_startsAll cX10_startsAll 2 none ∈ am_tb ∧ Cond.instanceMethod yX10_startsAll ∈ am_tb ∧ Cond.selects yX10_startsAll.cls yX10_startsAll yX10_startsAll ∈ am_tb := ⟨tw_1060, tw_59, tw_1063, tw_1062, tw_46⟩
theorem tw_1064 : Cond.methodLink "RhythmBenchModel" 220 ⟨"RhythmBenchModel","nextTime","()J"⟩ ∈ am_tb := am_tb_in (List.mem_of_getElem? (i := 1064) (by decide +kernel)) (by decide +kernel)
theorem tw_1067 : Cond.code ⟨"RhythmBenchModel","nextTime","()J"⟩ prog_12_method_51_code 6 (Option.some FieldType.long) ∈ am_tb := am_tb_in (List.mem_of_getElem? (i := 1067) (by decide +kernel)) (by decide +kernel)
theorem tw_1066 : Cond.instanceMethod ⟨"RhythmBenchModel","nextTime","()J"⟩ ∈ am_tb := am_tb_in (List.mem_of_getElem? (i := 1066) (by decide +kernel)) (by decide +kernel)
theorem tw_47 : Cond.selects "RhythmBenchModel" ⟨"RhythmBenchModel","nextTime","()J"⟩ ⟨"RhythmBenchModel","nextTime","()J"⟩ ∈ am_tb := am_tb_in (List.mem_of_getElem? (i := 47) (by decide +kernel)) (by decide +kernel)
theorem lk_X10_220 : Cond.methodLink RX10 220 yX10_nextTime ∈ am_tb ∧ Cond.initialized yX10_nextTime.cls ∈ am_tb ∧ Cond.code yX10_nextTime cX10_nextTime 6 (some .long) ∈ am_tb ∧ Cond.instanceMethod yX10_nextTime ∈ am_tb ∧ Cond.selects yX10_nextTime.cls yX10_nextTime yX10_nextTime ∈ am_tb := ⟨tw_1064, tw_59, tw_1067, tw_1066, tw_47⟩
theorem tw_1076 : Cond.methodLink "RhythmBenchModel" 229 ⟨"RhythmBenchModel","cycleOf","(II)J"⟩ ∈ am_tb := am_tb_in (List.mem_of_getElem? (i := 1076) (by decide +kernel)) (by decide +kernel)
theorem tw_1079 : Cond.code ⟨"RhythmBenchModel","cycleOf","(II)J"⟩ prog_12_method_54_code 5 (Option.some FieldType.long) ∈ am_tb := am_tb_in (List.mem_of_getElem? (i := 1079) (by decide +kernel)) (by decide +kernel)
theorem tw_1078 : Cond.instanceMethod ⟨"RhythmBenchModel","cycleOf","(II)J"⟩ ∈ am_tb := am_tb_in (List.mem_of_getElem? (i := 1078) (by decide +kernel)) (by decide +kernel)
theorem tw_48 : Cond.selects "RhythmBenchModel" ⟨"RhythmBenchModel","cycleOf","(II)J"⟩ ⟨"RhythmBenchModel","cycleOf","(II)J"⟩ ∈ am_tb := am_tb_in (List.mem_of_getElem? (i := 48) (by decide +kernel)) (by decide +kernel)
theorem lk_X10_229 : Cond.methodLink RX10 229 yX10_cycleOf ∈ am_tb ∧ Cond.initialized yX10_cycleOf.cls ∈ am_tb ∧ Cond.code yX10_cycleOf cX10_cycleOf 5 (some .long) ∈ am_tb ∧ Cond.instanceMethod yX10_cycleOf ∈ am_tb ∧ Cond.selects yX10_cycleOf.cls yX10_cycleOf yX10_cycleOf ∈ am_tb := ⟨tw_1076, tw_59, tw_1079, tw_1078, tw_48⟩
theorem tw_69 : Cond.methodLink "RhythmBenchLaw" 9 ⟨"RhythmBench","<init>","()V"⟩ ∈ am_tb := am_tb_in (List.mem_of_getElem? (i := 69) (by decide +kernel)) (by decide +kernel)
theorem tw_71 : Cond.code ⟨"RhythmBench","<init>","()V"⟩ prog_1_method_1_code 2 (Option.none : Option FieldType) ∈ am_tb := am_tb_in (List.mem_of_getElem? (i := 71) (by decide +kernel)) (by decide +kernel)
theorem tw_70 : Cond.instanceMethod ⟨"RhythmBench","<init>","()V"⟩ ∈ am_tb := am_tb_in (List.mem_of_getElem? (i := 70) (by decide +kernel)) (by decide +kernel)
theorem lk_L_9 : Cond.methodLink RL 9 yX9_init ∈ am_tb ∧ Cond.initialized yX9_init.cls ∈ am_tb ∧ Cond.code yX9_init cX9_init 2 none ∈ am_tb ∧ Cond.instanceMethod yX9_init ∈ am_tb := ⟨tw_69, tw_50, tw_71, tw_70⟩
theorem tw_769 : Cond.methodLink "RhythmBenchLaw" 12 ⟨"RhythmBenchModel","<init>","()V"⟩ ∈ am_tb := am_tb_in (List.mem_of_getElem? (i := 769) (by decide +kernel)) (by decide +kernel)
theorem tw_771 : Cond.code ⟨"RhythmBenchModel","<init>","()V"⟩ prog_12_method_1_code 1 (Option.none : Option FieldType) ∈ am_tb := am_tb_in (List.mem_of_getElem? (i := 771) (by decide +kernel)) (by decide +kernel)
theorem tw_770 : Cond.instanceMethod ⟨"RhythmBenchModel","<init>","()V"⟩ ∈ am_tb := am_tb_in (List.mem_of_getElem? (i := 770) (by decide +kernel)) (by decide +kernel)
theorem lk_L_12 : Cond.methodLink RL 12 yX10_init ∈ am_tb ∧ Cond.initialized yX10_init.cls ∈ am_tb ∧ Cond.code yX10_init cX10_init 1 none ∈ am_tb ∧ Cond.instanceMethod yX10_init ∈ am_tb := ⟨tw_769, tw_59, tw_771, tw_770⟩
theorem tw_284 : Cond.methodLink "RhythmBenchLaw" 13 ⟨"RhythmBench","type","(I)I"⟩ ∈ am_tb := am_tb_in (List.mem_of_getElem? (i := 284) (by decide +kernel)) (by decide +kernel)
theorem tw_287 : Cond.code ⟨"RhythmBench","type","(I)I"⟩ prog_1_method_2_code 2 (Option.some FieldType.int) ∈ am_tb := am_tb_in (List.mem_of_getElem? (i := 287) (by decide +kernel)) (by decide +kernel)
theorem tw_285 : Cond.instanceMethod ⟨"RhythmBench","type","(I)I"⟩ ∈ am_tb := am_tb_in (List.mem_of_getElem? (i := 285) (by decide +kernel)) (by decide +kernel)
theorem tw_286 : Cond.selects "RhythmBench" ⟨"RhythmBench","type","(I)I"⟩ ⟨"RhythmBench","type","(I)I"⟩ ∈ am_tb := am_tb_in (List.mem_of_getElem? (i := 286) (by decide +kernel)) (by decide +kernel)
theorem lk_L_13 : Cond.methodLink RL 13 yX9_type ∈ am_tb ∧ Cond.initialized yX9_type.cls ∈ am_tb ∧ Cond.code yX9_type cX9_type 2 (some .int) ∈ am_tb ∧ Cond.instanceMethod yX9_type ∈ am_tb ∧ Cond.selects yX9_type.cls yX9_type yX9_type ∈ am_tb := ⟨tw_284, tw_50, tw_287, tw_285, tw_286⟩
theorem tw_861 : Cond.methodLink "RhythmBenchLaw" 17 ⟨"RhythmBenchModel","type","(I)I"⟩ ∈ am_tb := am_tb_in (List.mem_of_getElem? (i := 861) (by decide +kernel)) (by decide +kernel)
theorem tw_864 : Cond.code ⟨"RhythmBenchModel","type","(I)I"⟩ prog_12_method_21_code 2 (Option.some FieldType.int) ∈ am_tb := am_tb_in (List.mem_of_getElem? (i := 864) (by decide +kernel)) (by decide +kernel)
theorem tw_862 : Cond.instanceMethod ⟨"RhythmBenchModel","type","(I)I"⟩ ∈ am_tb := am_tb_in (List.mem_of_getElem? (i := 862) (by decide +kernel)) (by decide +kernel)
theorem tw_863 : Cond.selects "RhythmBenchModel" ⟨"RhythmBenchModel","type","(I)I"⟩ ⟨"RhythmBenchModel","type","(I)I"⟩ ∈ am_tb := am_tb_in (List.mem_of_getElem? (i := 863) (by decide +kernel)) (by decide +kernel)
theorem lk_L_17 : Cond.methodLink RL 17 yX10_type ∈ am_tb ∧ Cond.initialized yX10_type.cls ∈ am_tb ∧ Cond.code yX10_type cX10_type 2 (some .int) ∈ am_tb ∧ Cond.instanceMethod yX10_type ∈ am_tb ∧ Cond.selects yX10_type.cls yX10_type yX10_type ∈ am_tb := ⟨tw_861, tw_59, tw_864, tw_862, tw_863⟩
theorem tw_300 : Cond.methodLink "RhythmBenchLaw" 18 ⟨"RhythmBench","clear","()I"⟩ ∈ am_tb := am_tb_in (List.mem_of_getElem? (i := 300) (by decide +kernel)) (by decide +kernel)
theorem tw_303 : Cond.code ⟨"RhythmBench","clear","()I"⟩ prog_1_method_3_code 2 (Option.some FieldType.int) ∈ am_tb := am_tb_in (List.mem_of_getElem? (i := 303) (by decide +kernel)) (by decide +kernel)
theorem tw_301 : Cond.instanceMethod ⟨"RhythmBench","clear","()I"⟩ ∈ am_tb := am_tb_in (List.mem_of_getElem? (i := 301) (by decide +kernel)) (by decide +kernel)
theorem tw_302 : Cond.selects "RhythmBench" ⟨"RhythmBench","clear","()I"⟩ ⟨"RhythmBench","clear","()I"⟩ ∈ am_tb := am_tb_in (List.mem_of_getElem? (i := 302) (by decide +kernel)) (by decide +kernel)
theorem lk_L_18 : Cond.methodLink RL 18 yX9_clear ∈ am_tb ∧ Cond.initialized yX9_clear.cls ∈ am_tb ∧ Cond.code yX9_clear cX9_clear 2 (some .int) ∈ am_tb ∧ Cond.instanceMethod yX9_clear ∈ am_tb ∧ Cond.selects yX9_clear.cls yX9_clear yX9_clear ∈ am_tb := ⟨tw_300, tw_50, tw_303, tw_301, tw_302⟩
theorem tw_868 : Cond.methodLink "RhythmBenchLaw" 22 ⟨"RhythmBenchModel","clear","()I"⟩ ∈ am_tb := am_tb_in (List.mem_of_getElem? (i := 868) (by decide +kernel)) (by decide +kernel)
theorem tw_871 : Cond.code ⟨"RhythmBenchModel","clear","()I"⟩ prog_12_method_22_code 2 (Option.some FieldType.int) ∈ am_tb := am_tb_in (List.mem_of_getElem? (i := 871) (by decide +kernel)) (by decide +kernel)
theorem tw_869 : Cond.instanceMethod ⟨"RhythmBenchModel","clear","()I"⟩ ∈ am_tb := am_tb_in (List.mem_of_getElem? (i := 869) (by decide +kernel)) (by decide +kernel)
theorem tw_870 : Cond.selects "RhythmBenchModel" ⟨"RhythmBenchModel","clear","()I"⟩ ⟨"RhythmBenchModel","clear","()I"⟩ ∈ am_tb := am_tb_in (List.mem_of_getElem? (i := 870) (by decide +kernel)) (by decide +kernel)
theorem lk_L_22 : Cond.methodLink RL 22 yX10_clear ∈ am_tb ∧ Cond.initialized yX10_clear.cls ∈ am_tb ∧ Cond.code yX10_clear cX10_clear 2 (some .int) ∈ am_tb ∧ Cond.instanceMethod yX10_clear ∈ am_tb ∧ Cond.selects yX10_clear.cls yX10_clear yX10_clear ∈ am_tb := ⟨tw_868, tw_59, tw_871, tw_869, tw_870⟩
theorem tw_308 : Cond.methodLink "RhythmBenchLaw" 23 ⟨"RhythmBench","read","(I)I"⟩ ∈ am_tb := am_tb_in (List.mem_of_getElem? (i := 308) (by decide +kernel)) (by decide +kernel)
theorem tw_311 : Cond.code ⟨"RhythmBench","read","(I)I"⟩ prog_1_method_4_code 4 (Option.some FieldType.int) ∈ am_tb := am_tb_in (List.mem_of_getElem? (i := 311) (by decide +kernel)) (by decide +kernel)
theorem tw_309 : Cond.instanceMethod ⟨"RhythmBench","read","(I)I"⟩ ∈ am_tb := am_tb_in (List.mem_of_getElem? (i := 309) (by decide +kernel)) (by decide +kernel)
theorem tw_310 : Cond.selects "RhythmBench" ⟨"RhythmBench","read","(I)I"⟩ ⟨"RhythmBench","read","(I)I"⟩ ∈ am_tb := am_tb_in (List.mem_of_getElem? (i := 310) (by decide +kernel)) (by decide +kernel)
theorem lk_L_23 : Cond.methodLink RL 23 yX9_read ∈ am_tb ∧ Cond.initialized yX9_read.cls ∈ am_tb ∧ Cond.code yX9_read cX9_read 4 (some .int) ∈ am_tb ∧ Cond.instanceMethod yX9_read ∈ am_tb ∧ Cond.selects yX9_read.cls yX9_read yX9_read ∈ am_tb := ⟨tw_308, tw_50, tw_311, tw_309, tw_310⟩
theorem tw_872 : Cond.methodLink "RhythmBenchLaw" 26 ⟨"RhythmBenchModel","read","(I)I"⟩ ∈ am_tb := am_tb_in (List.mem_of_getElem? (i := 872) (by decide +kernel)) (by decide +kernel)
theorem tw_875 : Cond.code ⟨"RhythmBenchModel","read","(I)I"⟩ prog_12_method_24_code 5 (Option.some FieldType.int) ∈ am_tb := am_tb_in (List.mem_of_getElem? (i := 875) (by decide +kernel)) (by decide +kernel)
theorem tw_873 : Cond.instanceMethod ⟨"RhythmBenchModel","read","(I)I"⟩ ∈ am_tb := am_tb_in (List.mem_of_getElem? (i := 873) (by decide +kernel)) (by decide +kernel)
theorem tw_874 : Cond.selects "RhythmBenchModel" ⟨"RhythmBenchModel","read","(I)I"⟩ ⟨"RhythmBenchModel","read","(I)I"⟩ ∈ am_tb := am_tb_in (List.mem_of_getElem? (i := 874) (by decide +kernel)) (by decide +kernel)
theorem lk_L_26 : Cond.methodLink RL 26 yX10_read ∈ am_tb ∧ Cond.initialized yX10_read.cls ∈ am_tb ∧ Cond.code yX10_read cX10_read 5 (some .int) ∈ am_tb ∧ Cond.instanceMethod yX10_read ∈ am_tb ∧ Cond.selects yX10_read.cls yX10_read yX10_read ∈ am_tb := ⟨tw_872, tw_59, tw_875, tw_873, tw_874⟩
theorem tw_563 : Cond.methodLink "RhythmBenchLaw" 27 ⟨"RhythmBench","copy","(II)I"⟩ ∈ am_tb := am_tb_in (List.mem_of_getElem? (i := 563) (by decide +kernel)) (by decide +kernel)
theorem tw_566 : Cond.code ⟨"RhythmBench","copy","(II)I"⟩ prog_1_method_5_code 5 (Option.some FieldType.int) ∈ am_tb := am_tb_in (List.mem_of_getElem? (i := 566) (by decide +kernel)) (by decide +kernel)
theorem tw_564 : Cond.instanceMethod ⟨"RhythmBench","copy","(II)I"⟩ ∈ am_tb := am_tb_in (List.mem_of_getElem? (i := 564) (by decide +kernel)) (by decide +kernel)
theorem tw_565 : Cond.selects "RhythmBench" ⟨"RhythmBench","copy","(II)I"⟩ ⟨"RhythmBench","copy","(II)I"⟩ ∈ am_tb := am_tb_in (List.mem_of_getElem? (i := 565) (by decide +kernel)) (by decide +kernel)
theorem lk_L_27 : Cond.methodLink RL 27 yX9_copy ∈ am_tb ∧ Cond.initialized yX9_copy.cls ∈ am_tb ∧ Cond.code yX9_copy cX9_copy 5 (some .int) ∈ am_tb ∧ Cond.instanceMethod yX9_copy ∈ am_tb ∧ Cond.selects yX9_copy.cls yX9_copy yX9_copy ∈ am_tb := ⟨tw_563, tw_50, tw_566, tw_564, tw_565⟩
theorem tw_954 : Cond.methodLink "RhythmBenchLaw" 31 ⟨"RhythmBenchModel","copy","(II)I"⟩ ∈ am_tb := am_tb_in (List.mem_of_getElem? (i := 954) (by decide +kernel)) (by decide +kernel)
theorem tw_957 : Cond.code ⟨"RhythmBenchModel","copy","(II)I"⟩ prog_12_method_25_code 4 (Option.some FieldType.int) ∈ am_tb := am_tb_in (List.mem_of_getElem? (i := 957) (by decide +kernel)) (by decide +kernel)
theorem tw_955 : Cond.instanceMethod ⟨"RhythmBenchModel","copy","(II)I"⟩ ∈ am_tb := am_tb_in (List.mem_of_getElem? (i := 955) (by decide +kernel)) (by decide +kernel)
theorem tw_956 : Cond.selects "RhythmBenchModel" ⟨"RhythmBenchModel","copy","(II)I"⟩ ⟨"RhythmBenchModel","copy","(II)I"⟩ ∈ am_tb := am_tb_in (List.mem_of_getElem? (i := 956) (by decide +kernel)) (by decide +kernel)
theorem lk_L_31 : Cond.methodLink RL 31 yX10_copy ∈ am_tb ∧ Cond.initialized yX10_copy.cls ∈ am_tb ∧ Cond.code yX10_copy cX10_copy 4 (some .int) ∈ am_tb ∧ Cond.instanceMethod yX10_copy ∈ am_tb ∧ Cond.selects yX10_copy.cls yX10_copy yX10_copy ∈ am_tb := ⟨tw_954, tw_59, tw_957, tw_955, tw_956⟩
theorem tw_567 : Cond.methodLink "RhythmBenchLaw" 32 ⟨"RhythmBench","spread","(IIII)I"⟩ ∈ am_tb := am_tb_in (List.mem_of_getElem? (i := 567) (by decide +kernel)) (by decide +kernel)
theorem tw_570 : Cond.code ⟨"RhythmBench","spread","(IIII)I"⟩ prog_1_method_6_code 7 (Option.some FieldType.int) ∈ am_tb := am_tb_in (List.mem_of_getElem? (i := 570) (by decide +kernel)) (by decide +kernel)
theorem tw_568 : Cond.instanceMethod ⟨"RhythmBench","spread","(IIII)I"⟩ ∈ am_tb := am_tb_in (List.mem_of_getElem? (i := 568) (by decide +kernel)) (by decide +kernel)
theorem tw_569 : Cond.selects "RhythmBench" ⟨"RhythmBench","spread","(IIII)I"⟩ ⟨"RhythmBench","spread","(IIII)I"⟩ ∈ am_tb := am_tb_in (List.mem_of_getElem? (i := 569) (by decide +kernel)) (by decide +kernel)
theorem lk_L_32 : Cond.methodLink RL 32 yX9_spread ∈ am_tb ∧ Cond.initialized yX9_spread.cls ∈ am_tb ∧ Cond.code yX9_spread cX9_spread 7 (some .int) ∈ am_tb ∧ Cond.instanceMethod yX9_spread ∈ am_tb ∧ Cond.selects yX9_spread.cls yX9_spread yX9_spread ∈ am_tb := ⟨tw_567, tw_50, tw_570, tw_568, tw_569⟩
theorem tw_958 : Cond.methodLink "RhythmBenchLaw" 36 ⟨"RhythmBenchModel","spread","(IIII)I"⟩ ∈ am_tb := am_tb_in (List.mem_of_getElem? (i := 958) (by decide +kernel)) (by decide +kernel)
theorem tw_961 : Cond.code ⟨"RhythmBenchModel","spread","(IIII)I"⟩ prog_12_method_26_code 7 (Option.some FieldType.int) ∈ am_tb := am_tb_in (List.mem_of_getElem? (i := 961) (by decide +kernel)) (by decide +kernel)
theorem tw_959 : Cond.instanceMethod ⟨"RhythmBenchModel","spread","(IIII)I"⟩ ∈ am_tb := am_tb_in (List.mem_of_getElem? (i := 959) (by decide +kernel)) (by decide +kernel)
theorem tw_960 : Cond.selects "RhythmBenchModel" ⟨"RhythmBenchModel","spread","(IIII)I"⟩ ⟨"RhythmBenchModel","spread","(IIII)I"⟩ ∈ am_tb := am_tb_in (List.mem_of_getElem? (i := 960) (by decide +kernel)) (by decide +kernel)
theorem lk_L_36 : Cond.methodLink RL 36 yX10_spread ∈ am_tb ∧ Cond.initialized yX10_spread.cls ∈ am_tb ∧ Cond.code yX10_spread cX10_spread 7 (some .int) ∈ am_tb ∧ Cond.instanceMethod yX10_spread ∈ am_tb ∧ Cond.selects yX10_spread.cls yX10_spread yX10_spread ∈ am_tb := ⟨tw_958, tw_59, tw_961, tw_959, tw_960⟩
theorem tw_572 : Cond.methodLink "RhythmBenchLaw" 37 ⟨"RhythmBench","textOf","(II)I"⟩ ∈ am_tb := am_tb_in (List.mem_of_getElem? (i := 572) (by decide +kernel)) (by decide +kernel)
theorem tw_575 : Cond.code ⟨"RhythmBench","textOf","(II)I"⟩ prog_1_method_7_code 4 (Option.some FieldType.int) ∈ am_tb := am_tb_in (List.mem_of_getElem? (i := 575) (by decide +kernel)) (by decide +kernel)
theorem tw_573 : Cond.instanceMethod ⟨"RhythmBench","textOf","(II)I"⟩ ∈ am_tb := am_tb_in (List.mem_of_getElem? (i := 573) (by decide +kernel)) (by decide +kernel)
theorem tw_574 : Cond.selects "RhythmBench" ⟨"RhythmBench","textOf","(II)I"⟩ ⟨"RhythmBench","textOf","(II)I"⟩ ∈ am_tb := am_tb_in (List.mem_of_getElem? (i := 574) (by decide +kernel)) (by decide +kernel)
theorem lk_L_37 : Cond.methodLink RL 37 yX9_textOf ∈ am_tb ∧ Cond.initialized yX9_textOf.cls ∈ am_tb ∧ Cond.code yX9_textOf cX9_textOf 4 (some .int) ∈ am_tb ∧ Cond.instanceMethod yX9_textOf ∈ am_tb ∧ Cond.selects yX9_textOf.cls yX9_textOf yX9_textOf ∈ am_tb := ⟨tw_572, tw_50, tw_575, tw_573, tw_574⟩
theorem tw_962 : Cond.methodLink "RhythmBenchLaw" 40 ⟨"RhythmBenchModel","textOf","(II)I"⟩ ∈ am_tb := am_tb_in (List.mem_of_getElem? (i := 962) (by decide +kernel)) (by decide +kernel)
theorem tw_965 : Cond.code ⟨"RhythmBenchModel","textOf","(II)I"⟩ prog_12_method_27_code 3 (Option.some FieldType.int) ∈ am_tb := am_tb_in (List.mem_of_getElem? (i := 965) (by decide +kernel)) (by decide +kernel)
theorem tw_963 : Cond.instanceMethod ⟨"RhythmBenchModel","textOf","(II)I"⟩ ∈ am_tb := am_tb_in (List.mem_of_getElem? (i := 963) (by decide +kernel)) (by decide +kernel)
theorem tw_964 : Cond.selects "RhythmBenchModel" ⟨"RhythmBenchModel","textOf","(II)I"⟩ ⟨"RhythmBenchModel","textOf","(II)I"⟩ ∈ am_tb := am_tb_in (List.mem_of_getElem? (i := 964) (by decide +kernel)) (by decide +kernel)
theorem lk_L_40 : Cond.methodLink RL 40 yX10_textOf ∈ am_tb ∧ Cond.initialized yX10_textOf.cls ∈ am_tb ∧ Cond.code yX10_textOf cX10_textOf 3 (some .int) ∈ am_tb ∧ Cond.instanceMethod yX10_textOf ∈ am_tb ∧ Cond.selects yX10_textOf.cls yX10_textOf yX10_textOf ∈ am_tb := ⟨tw_962, tw_59, tw_965, tw_963, tw_964⟩
theorem tw_577 : Cond.methodLink "RhythmBenchLaw" 41 ⟨"RhythmBench","unfolded","(II)I"⟩ ∈ am_tb := am_tb_in (List.mem_of_getElem? (i := 577) (by decide +kernel)) (by decide +kernel)
theorem tw_580 : Cond.code ⟨"RhythmBench","unfolded","(II)I"⟩ prog_1_method_8_code 4 (Option.some FieldType.int) ∈ am_tb := am_tb_in (List.mem_of_getElem? (i := 580) (by decide +kernel)) (by decide +kernel)
theorem tw_578 : Cond.instanceMethod ⟨"RhythmBench","unfolded","(II)I"⟩ ∈ am_tb := am_tb_in (List.mem_of_getElem? (i := 578) (by decide +kernel)) (by decide +kernel)
theorem tw_579 : Cond.selects "RhythmBench" ⟨"RhythmBench","unfolded","(II)I"⟩ ⟨"RhythmBench","unfolded","(II)I"⟩ ∈ am_tb := am_tb_in (List.mem_of_getElem? (i := 579) (by decide +kernel)) (by decide +kernel)
theorem lk_L_41 : Cond.methodLink RL 41 yX9_unfolded ∈ am_tb ∧ Cond.initialized yX9_unfolded.cls ∈ am_tb ∧ Cond.code yX9_unfolded cX9_unfolded 4 (some .int) ∈ am_tb ∧ Cond.instanceMethod yX9_unfolded ∈ am_tb ∧ Cond.selects yX9_unfolded.cls yX9_unfolded yX9_unfolded ∈ am_tb := ⟨tw_577, tw_50, tw_580, tw_578, tw_579⟩
theorem tw_966 : Cond.methodLink "RhythmBenchLaw" 44 ⟨"RhythmBenchModel","unfolded","(II)I"⟩ ∈ am_tb := am_tb_in (List.mem_of_getElem? (i := 966) (by decide +kernel)) (by decide +kernel)
theorem tw_969 : Cond.code ⟨"RhythmBenchModel","unfolded","(II)I"⟩ prog_12_method_28_code 3 (Option.some FieldType.int) ∈ am_tb := am_tb_in (List.mem_of_getElem? (i := 969) (by decide +kernel)) (by decide +kernel)
theorem tw_967 : Cond.instanceMethod ⟨"RhythmBenchModel","unfolded","(II)I"⟩ ∈ am_tb := am_tb_in (List.mem_of_getElem? (i := 967) (by decide +kernel)) (by decide +kernel)
theorem tw_968 : Cond.selects "RhythmBenchModel" ⟨"RhythmBenchModel","unfolded","(II)I"⟩ ⟨"RhythmBenchModel","unfolded","(II)I"⟩ ∈ am_tb := am_tb_in (List.mem_of_getElem? (i := 968) (by decide +kernel)) (by decide +kernel)
theorem lk_L_44 : Cond.methodLink RL 44 yX10_unfolded ∈ am_tb ∧ Cond.initialized yX10_unfolded.cls ∈ am_tb ∧ Cond.code yX10_unfolded cX10_unfolded 3 (some .int) ∈ am_tb ∧ Cond.instanceMethod yX10_unfolded ∈ am_tb ∧ Cond.selects yX10_unfolded.cls yX10_unfolded yX10_unfolded ∈ am_tb := ⟨tw_966, tw_59, tw_969, tw_967, tw_968⟩
theorem tw_581 : Cond.methodLink "RhythmBenchLaw" 45 ⟨"RhythmBench","setMeter","(II)I"⟩ ∈ am_tb := am_tb_in (List.mem_of_getElem? (i := 581) (by decide +kernel)) (by decide +kernel)
theorem tw_584 : Cond.code ⟨"RhythmBench","setMeter","(II)I"⟩ prog_1_method_9_code 4 (Option.some FieldType.int) ∈ am_tb := am_tb_in (List.mem_of_getElem? (i := 584) (by decide +kernel)) (by decide +kernel)
theorem tw_582 : Cond.instanceMethod ⟨"RhythmBench","setMeter","(II)I"⟩ ∈ am_tb := am_tb_in (List.mem_of_getElem? (i := 582) (by decide +kernel)) (by decide +kernel)
theorem tw_583 : Cond.selects "RhythmBench" ⟨"RhythmBench","setMeter","(II)I"⟩ ⟨"RhythmBench","setMeter","(II)I"⟩ ∈ am_tb := am_tb_in (List.mem_of_getElem? (i := 583) (by decide +kernel)) (by decide +kernel)
theorem lk_L_45 : Cond.methodLink RL 45 yX9_setMeter ∈ am_tb ∧ Cond.initialized yX9_setMeter.cls ∈ am_tb ∧ Cond.code yX9_setMeter cX9_setMeter 4 (some .int) ∈ am_tb ∧ Cond.instanceMethod yX9_setMeter ∈ am_tb ∧ Cond.selects yX9_setMeter.cls yX9_setMeter yX9_setMeter ∈ am_tb := ⟨tw_581, tw_50, tw_584, tw_582, tw_583⟩
theorem tw_970 : Cond.methodLink "RhythmBenchLaw" 48 ⟨"RhythmBenchModel","setMeter","(II)I"⟩ ∈ am_tb := am_tb_in (List.mem_of_getElem? (i := 970) (by decide +kernel)) (by decide +kernel)
theorem tw_973 : Cond.code ⟨"RhythmBenchModel","setMeter","(II)I"⟩ prog_12_method_29_code 5 (Option.some FieldType.int) ∈ am_tb := am_tb_in (List.mem_of_getElem? (i := 973) (by decide +kernel)) (by decide +kernel)
theorem tw_971 : Cond.instanceMethod ⟨"RhythmBenchModel","setMeter","(II)I"⟩ ∈ am_tb := am_tb_in (List.mem_of_getElem? (i := 971) (by decide +kernel)) (by decide +kernel)
theorem tw_972 : Cond.selects "RhythmBenchModel" ⟨"RhythmBenchModel","setMeter","(II)I"⟩ ⟨"RhythmBenchModel","setMeter","(II)I"⟩ ∈ am_tb := am_tb_in (List.mem_of_getElem? (i := 972) (by decide +kernel)) (by decide +kernel)
theorem lk_L_48 : Cond.methodLink RL 48 yX10_setMeter ∈ am_tb ∧ Cond.initialized yX10_setMeter.cls ∈ am_tb ∧ Cond.code yX10_setMeter cX10_setMeter 5 (some .int) ∈ am_tb ∧ Cond.instanceMethod yX10_setMeter ∈ am_tb ∧ Cond.selects yX10_setMeter.cls yX10_setMeter yX10_setMeter ∈ am_tb := ⟨tw_970, tw_59, tw_973, tw_971, tw_972⟩
theorem tw_588 : Cond.methodLink "RhythmBenchLaw" 49 ⟨"RhythmBench","setSwing","(II)I"⟩ ∈ am_tb := am_tb_in (List.mem_of_getElem? (i := 588) (by decide +kernel)) (by decide +kernel)
theorem tw_591 : Cond.code ⟨"RhythmBench","setSwing","(II)I"⟩ prog_1_method_10_code 4 (Option.some FieldType.int) ∈ am_tb := am_tb_in (List.mem_of_getElem? (i := 591) (by decide +kernel)) (by decide +kernel)
theorem tw_589 : Cond.instanceMethod ⟨"RhythmBench","setSwing","(II)I"⟩ ∈ am_tb := am_tb_in (List.mem_of_getElem? (i := 589) (by decide +kernel)) (by decide +kernel)
theorem tw_590 : Cond.selects "RhythmBench" ⟨"RhythmBench","setSwing","(II)I"⟩ ⟨"RhythmBench","setSwing","(II)I"⟩ ∈ am_tb := am_tb_in (List.mem_of_getElem? (i := 590) (by decide +kernel)) (by decide +kernel)
theorem lk_L_49 : Cond.methodLink RL 49 yX9_setSwing ∈ am_tb ∧ Cond.initialized yX9_setSwing.cls ∈ am_tb ∧ Cond.code yX9_setSwing cX9_setSwing 4 (some .int) ∈ am_tb ∧ Cond.instanceMethod yX9_setSwing ∈ am_tb ∧ Cond.selects yX9_setSwing.cls yX9_setSwing yX9_setSwing ∈ am_tb := ⟨tw_588, tw_50, tw_591, tw_589, tw_590⟩
theorem tw_974 : Cond.methodLink "RhythmBenchLaw" 52 ⟨"RhythmBenchModel","setSwing","(II)I"⟩ ∈ am_tb := am_tb_in (List.mem_of_getElem? (i := 974) (by decide +kernel)) (by decide +kernel)
theorem tw_977 : Cond.code ⟨"RhythmBenchModel","setSwing","(II)I"⟩ prog_12_method_30_code 4 (Option.some FieldType.int) ∈ am_tb := am_tb_in (List.mem_of_getElem? (i := 977) (by decide +kernel)) (by decide +kernel)
theorem tw_975 : Cond.instanceMethod ⟨"RhythmBenchModel","setSwing","(II)I"⟩ ∈ am_tb := am_tb_in (List.mem_of_getElem? (i := 975) (by decide +kernel)) (by decide +kernel)
theorem tw_976 : Cond.selects "RhythmBenchModel" ⟨"RhythmBenchModel","setSwing","(II)I"⟩ ⟨"RhythmBenchModel","setSwing","(II)I"⟩ ∈ am_tb := am_tb_in (List.mem_of_getElem? (i := 976) (by decide +kernel)) (by decide +kernel)
theorem lk_L_52 : Cond.methodLink RL 52 yX10_setSwing ∈ am_tb ∧ Cond.initialized yX10_setSwing.cls ∈ am_tb ∧ Cond.code yX10_setSwing cX10_setSwing 4 (some .int) ∈ am_tb ∧ Cond.instanceMethod yX10_setSwing ∈ am_tb ∧ Cond.selects yX10_setSwing.cls yX10_setSwing yX10_setSwing ∈ am_tb := ⟨tw_974, tw_59, tw_977, tw_975, tw_976⟩
theorem tw_592 : Cond.methodLink "RhythmBenchLaw" 53 ⟨"RhythmBench","events","(I)I"⟩ ∈ am_tb := am_tb_in (List.mem_of_getElem? (i := 592) (by decide +kernel)) (by decide +kernel)
theorem tw_595 : Cond.code ⟨"RhythmBench","events","(I)I"⟩ prog_1_method_11_code 3 (Option.some FieldType.int) ∈ am_tb := am_tb_in (List.mem_of_getElem? (i := 595) (by decide +kernel)) (by decide +kernel)
theorem tw_593 : Cond.instanceMethod ⟨"RhythmBench","events","(I)I"⟩ ∈ am_tb := am_tb_in (List.mem_of_getElem? (i := 593) (by decide +kernel)) (by decide +kernel)
theorem tw_594 : Cond.selects "RhythmBench" ⟨"RhythmBench","events","(I)I"⟩ ⟨"RhythmBench","events","(I)I"⟩ ∈ am_tb := am_tb_in (List.mem_of_getElem? (i := 594) (by decide +kernel)) (by decide +kernel)
theorem lk_L_53 : Cond.methodLink RL 53 yX9_events ∈ am_tb ∧ Cond.initialized yX9_events.cls ∈ am_tb ∧ Cond.code yX9_events cX9_events 3 (some .int) ∈ am_tb ∧ Cond.instanceMethod yX9_events ∈ am_tb ∧ Cond.selects yX9_events.cls yX9_events yX9_events ∈ am_tb := ⟨tw_592, tw_50, tw_595, tw_593, tw_594⟩
theorem tw_978 : Cond.methodLink "RhythmBenchLaw" 56 ⟨"RhythmBenchModel","events","(I)I"⟩ ∈ am_tb := am_tb_in (List.mem_of_getElem? (i := 978) (by decide +kernel)) (by decide +kernel)
theorem tw_981 : Cond.code ⟨"RhythmBenchModel","events","(I)I"⟩ prog_12_method_33_code 2 (Option.some FieldType.int) ∈ am_tb := am_tb_in (List.mem_of_getElem? (i := 981) (by decide +kernel)) (by decide +kernel)
theorem tw_979 : Cond.instanceMethod ⟨"RhythmBenchModel","events","(I)I"⟩ ∈ am_tb := am_tb_in (List.mem_of_getElem? (i := 979) (by decide +kernel)) (by decide +kernel)
theorem tw_980 : Cond.selects "RhythmBenchModel" ⟨"RhythmBenchModel","events","(I)I"⟩ ⟨"RhythmBenchModel","events","(I)I"⟩ ∈ am_tb := am_tb_in (List.mem_of_getElem? (i := 980) (by decide +kernel)) (by decide +kernel)
theorem lk_L_56 : Cond.methodLink RL 56 yX10_events ∈ am_tb ∧ Cond.initialized yX10_events.cls ∈ am_tb ∧ Cond.code yX10_events cX10_events 2 (some .int) ∈ am_tb ∧ Cond.instanceMethod yX10_events ∈ am_tb ∧ Cond.selects yX10_events.cls yX10_events yX10_events ∈ am_tb := ⟨tw_978, tw_59, tw_981, tw_979, tw_980⟩
theorem tw_596 : Cond.methodLink "RhythmBenchLaw" 57 ⟨"RhythmBench","length","(II)J"⟩ ∈ am_tb := am_tb_in (List.mem_of_getElem? (i := 596) (by decide +kernel)) (by decide +kernel)
theorem tw_599 : Cond.code ⟨"RhythmBench","length","(II)J"⟩ prog_1_method_12_code 4 (Option.some FieldType.long) ∈ am_tb := am_tb_in (List.mem_of_getElem? (i := 599) (by decide +kernel)) (by decide +kernel)
theorem tw_597 : Cond.instanceMethod ⟨"RhythmBench","length","(II)J"⟩ ∈ am_tb := am_tb_in (List.mem_of_getElem? (i := 597) (by decide +kernel)) (by decide +kernel)
theorem tw_598 : Cond.selects "RhythmBench" ⟨"RhythmBench","length","(II)J"⟩ ⟨"RhythmBench","length","(II)J"⟩ ∈ am_tb := am_tb_in (List.mem_of_getElem? (i := 598) (by decide +kernel)) (by decide +kernel)
theorem lk_L_57 : Cond.methodLink RL 57 yX9_length ∈ am_tb ∧ Cond.initialized yX9_length.cls ∈ am_tb ∧ Cond.code yX9_length cX9_length 4 (some .long) ∈ am_tb ∧ Cond.instanceMethod yX9_length ∈ am_tb ∧ Cond.selects yX9_length.cls yX9_length yX9_length ∈ am_tb := ⟨tw_596, tw_50, tw_599, tw_597, tw_598⟩
theorem tw_982 : Cond.methodLink "RhythmBenchLaw" 61 ⟨"RhythmBenchModel","length","(II)J"⟩ ∈ am_tb := am_tb_in (List.mem_of_getElem? (i := 982) (by decide +kernel)) (by decide +kernel)
theorem tw_985 : Cond.code ⟨"RhythmBenchModel","length","(II)J"⟩ prog_12_method_34_code 3 (Option.some FieldType.long) ∈ am_tb := am_tb_in (List.mem_of_getElem? (i := 985) (by decide +kernel)) (by decide +kernel)
theorem tw_983 : Cond.instanceMethod ⟨"RhythmBenchModel","length","(II)J"⟩ ∈ am_tb := am_tb_in (List.mem_of_getElem? (i := 983) (by decide +kernel)) (by decide +kernel)
theorem tw_984 : Cond.selects "RhythmBenchModel" ⟨"RhythmBenchModel","length","(II)J"⟩ ⟨"RhythmBenchModel","length","(II)J"⟩ ∈ am_tb := am_tb_in (List.mem_of_getElem? (i := 984) (by decide +kernel)) (by decide +kernel)
theorem lk_L_61 : Cond.methodLink RL 61 yX10_length ∈ am_tb ∧ Cond.initialized yX10_length.cls ∈ am_tb ∧ Cond.code yX10_length cX10_length 3 (some .long) ∈ am_tb ∧ Cond.instanceMethod yX10_length ∈ am_tb ∧ Cond.selects yX10_length.cls yX10_length yX10_length ∈ am_tb := ⟨tw_982, tw_59, tw_985, tw_983, tw_984⟩
theorem tw_615 : Cond.methodLink "RhythmBenchLaw" 62 ⟨"RhythmBench","onset","(III)J"⟩ ∈ am_tb := am_tb_in (List.mem_of_getElem? (i := 615) (by decide +kernel)) (by decide +kernel)
theorem tw_618 : Cond.code ⟨"RhythmBench","onset","(III)J"⟩ prog_1_method_13_code 5 (Option.some FieldType.long) ∈ am_tb := am_tb_in (List.mem_of_getElem? (i := 618) (by decide +kernel)) (by decide +kernel)
theorem tw_616 : Cond.instanceMethod ⟨"RhythmBench","onset","(III)J"⟩ ∈ am_tb := am_tb_in (List.mem_of_getElem? (i := 616) (by decide +kernel)) (by decide +kernel)
theorem tw_617 : Cond.selects "RhythmBench" ⟨"RhythmBench","onset","(III)J"⟩ ⟨"RhythmBench","onset","(III)J"⟩ ∈ am_tb := am_tb_in (List.mem_of_getElem? (i := 617) (by decide +kernel)) (by decide +kernel)
theorem lk_L_62 : Cond.methodLink RL 62 yX9_onset ∈ am_tb ∧ Cond.initialized yX9_onset.cls ∈ am_tb ∧ Cond.code yX9_onset cX9_onset 5 (some .long) ∈ am_tb ∧ Cond.instanceMethod yX9_onset ∈ am_tb ∧ Cond.selects yX9_onset.cls yX9_onset yX9_onset ∈ am_tb := ⟨tw_615, tw_50, tw_618, tw_616, tw_617⟩
theorem tw_993 : Cond.methodLink "RhythmBenchLaw" 66 ⟨"RhythmBenchModel","onset","(III)J"⟩ ∈ am_tb := am_tb_in (List.mem_of_getElem? (i := 993) (by decide +kernel)) (by decide +kernel)
theorem tw_996 : Cond.code ⟨"RhythmBenchModel","onset","(III)J"⟩ prog_12_method_36_code 4 (Option.some FieldType.long) ∈ am_tb := am_tb_in (List.mem_of_getElem? (i := 996) (by decide +kernel)) (by decide +kernel)
theorem tw_994 : Cond.instanceMethod ⟨"RhythmBenchModel","onset","(III)J"⟩ ∈ am_tb := am_tb_in (List.mem_of_getElem? (i := 994) (by decide +kernel)) (by decide +kernel)
theorem tw_995 : Cond.selects "RhythmBenchModel" ⟨"RhythmBenchModel","onset","(III)J"⟩ ⟨"RhythmBenchModel","onset","(III)J"⟩ ∈ am_tb := am_tb_in (List.mem_of_getElem? (i := 995) (by decide +kernel)) (by decide +kernel)
theorem lk_L_66 : Cond.methodLink RL 66 yX10_onset ∈ am_tb ∧ Cond.initialized yX10_onset.cls ∈ am_tb ∧ Cond.code yX10_onset cX10_onset 4 (some .long) ∈ am_tb ∧ Cond.instanceMethod yX10_onset ∈ am_tb ∧ Cond.selects yX10_onset.cls yX10_onset yX10_onset ∈ am_tb := ⟨tw_993, tw_59, tw_996, tw_994, tw_995⟩
theorem tw_624 : Cond.methodLink "RhythmBenchLaw" 67 ⟨"RhythmBench","lasts","(III)J"⟩ ∈ am_tb := am_tb_in (List.mem_of_getElem? (i := 624) (by decide +kernel)) (by decide +kernel)
theorem tw_627 : Cond.code ⟨"RhythmBench","lasts","(III)J"⟩ prog_1_method_14_code 5 (Option.some FieldType.long) ∈ am_tb := am_tb_in (List.mem_of_getElem? (i := 627) (by decide +kernel)) (by decide +kernel)
theorem tw_625 : Cond.instanceMethod ⟨"RhythmBench","lasts","(III)J"⟩ ∈ am_tb := am_tb_in (List.mem_of_getElem? (i := 625) (by decide +kernel)) (by decide +kernel)
theorem tw_626 : Cond.selects "RhythmBench" ⟨"RhythmBench","lasts","(III)J"⟩ ⟨"RhythmBench","lasts","(III)J"⟩ ∈ am_tb := am_tb_in (List.mem_of_getElem? (i := 626) (by decide +kernel)) (by decide +kernel)
theorem lk_L_67 : Cond.methodLink RL 67 yX9_lasts ∈ am_tb ∧ Cond.initialized yX9_lasts.cls ∈ am_tb ∧ Cond.code yX9_lasts cX9_lasts 5 (some .long) ∈ am_tb ∧ Cond.instanceMethod yX9_lasts ∈ am_tb ∧ Cond.selects yX9_lasts.cls yX9_lasts yX9_lasts ∈ am_tb := ⟨tw_624, tw_50, tw_627, tw_625, tw_626⟩
theorem tw_1001 : Cond.methodLink "RhythmBenchLaw" 70 ⟨"RhythmBenchModel","lasts","(III)J"⟩ ∈ am_tb := am_tb_in (List.mem_of_getElem? (i := 1001) (by decide +kernel)) (by decide +kernel)
theorem tw_1004 : Cond.code ⟨"RhythmBenchModel","lasts","(III)J"⟩ prog_12_method_37_code 4 (Option.some FieldType.long) ∈ am_tb := am_tb_in (List.mem_of_getElem? (i := 1004) (by decide +kernel)) (by decide +kernel)
theorem tw_1002 : Cond.instanceMethod ⟨"RhythmBenchModel","lasts","(III)J"⟩ ∈ am_tb := am_tb_in (List.mem_of_getElem? (i := 1002) (by decide +kernel)) (by decide +kernel)
theorem tw_1003 : Cond.selects "RhythmBenchModel" ⟨"RhythmBenchModel","lasts","(III)J"⟩ ⟨"RhythmBenchModel","lasts","(III)J"⟩ ∈ am_tb := am_tb_in (List.mem_of_getElem? (i := 1003) (by decide +kernel)) (by decide +kernel)
theorem lk_L_70 : Cond.methodLink RL 70 yX10_lasts ∈ am_tb ∧ Cond.initialized yX10_lasts.cls ∈ am_tb ∧ Cond.code yX10_lasts cX10_lasts 4 (some .long) ∈ am_tb ∧ Cond.instanceMethod yX10_lasts ∈ am_tb ∧ Cond.selects yX10_lasts.cls yX10_lasts yX10_lasts ∈ am_tb := ⟨tw_1001, tw_59, tw_1004, tw_1002, tw_1003⟩
theorem tw_632 : Cond.methodLink "RhythmBenchLaw" 71 ⟨"RhythmBench","swung","(III)J"⟩ ∈ am_tb := am_tb_in (List.mem_of_getElem? (i := 632) (by decide +kernel)) (by decide +kernel)
theorem tw_635 : Cond.code ⟨"RhythmBench","swung","(III)J"⟩ prog_1_method_15_code 5 (Option.some FieldType.long) ∈ am_tb := am_tb_in (List.mem_of_getElem? (i := 635) (by decide +kernel)) (by decide +kernel)
theorem tw_633 : Cond.instanceMethod ⟨"RhythmBench","swung","(III)J"⟩ ∈ am_tb := am_tb_in (List.mem_of_getElem? (i := 633) (by decide +kernel)) (by decide +kernel)
theorem tw_634 : Cond.selects "RhythmBench" ⟨"RhythmBench","swung","(III)J"⟩ ⟨"RhythmBench","swung","(III)J"⟩ ∈ am_tb := am_tb_in (List.mem_of_getElem? (i := 634) (by decide +kernel)) (by decide +kernel)
theorem lk_L_71 : Cond.methodLink RL 71 yX9_swung ∈ am_tb ∧ Cond.initialized yX9_swung.cls ∈ am_tb ∧ Cond.code yX9_swung cX9_swung 5 (some .long) ∈ am_tb ∧ Cond.instanceMethod yX9_swung ∈ am_tb ∧ Cond.selects yX9_swung.cls yX9_swung yX9_swung ∈ am_tb := ⟨tw_632, tw_50, tw_635, tw_633, tw_634⟩
theorem tw_1005 : Cond.methodLink "RhythmBenchLaw" 74 ⟨"RhythmBenchModel","swung","(III)J"⟩ ∈ am_tb := am_tb_in (List.mem_of_getElem? (i := 1005) (by decide +kernel)) (by decide +kernel)
theorem tw_1008 : Cond.code ⟨"RhythmBenchModel","swung","(III)J"⟩ prog_12_method_39_code 4 (Option.some FieldType.long) ∈ am_tb := am_tb_in (List.mem_of_getElem? (i := 1008) (by decide +kernel)) (by decide +kernel)
theorem tw_1006 : Cond.instanceMethod ⟨"RhythmBenchModel","swung","(III)J"⟩ ∈ am_tb := am_tb_in (List.mem_of_getElem? (i := 1006) (by decide +kernel)) (by decide +kernel)
theorem tw_1007 : Cond.selects "RhythmBenchModel" ⟨"RhythmBenchModel","swung","(III)J"⟩ ⟨"RhythmBenchModel","swung","(III)J"⟩ ∈ am_tb := am_tb_in (List.mem_of_getElem? (i := 1007) (by decide +kernel)) (by decide +kernel)
theorem lk_L_74 : Cond.methodLink RL 74 yX10_swung ∈ am_tb ∧ Cond.initialized yX10_swung.cls ∈ am_tb ∧ Cond.code yX10_swung cX10_swung 4 (some .long) ∈ am_tb ∧ Cond.instanceMethod yX10_swung ∈ am_tb ∧ Cond.selects yX10_swung.cls yX10_swung yX10_swung ∈ am_tb := ⟨tw_1005, tw_59, tw_1008, tw_1006, tw_1007⟩
theorem tw_643 : Cond.methodLink "RhythmBenchLaw" 75 ⟨"RhythmBench","event","(III)I"⟩ ∈ am_tb := am_tb_in (List.mem_of_getElem? (i := 643) (by decide +kernel)) (by decide +kernel)
theorem tw_646 : Cond.code ⟨"RhythmBench","event","(III)I"⟩ prog_1_method_16_code 5 (Option.some FieldType.int) ∈ am_tb := am_tb_in (List.mem_of_getElem? (i := 646) (by decide +kernel)) (by decide +kernel)
theorem tw_644 : Cond.instanceMethod ⟨"RhythmBench","event","(III)I"⟩ ∈ am_tb := am_tb_in (List.mem_of_getElem? (i := 644) (by decide +kernel)) (by decide +kernel)
theorem tw_645 : Cond.selects "RhythmBench" ⟨"RhythmBench","event","(III)I"⟩ ⟨"RhythmBench","event","(III)I"⟩ ∈ am_tb := am_tb_in (List.mem_of_getElem? (i := 645) (by decide +kernel)) (by decide +kernel)
theorem lk_L_75 : Cond.methodLink RL 75 yX9_event ∈ am_tb ∧ Cond.initialized yX9_event.cls ∈ am_tb ∧ Cond.code yX9_event cX9_event 5 (some .int) ∈ am_tb ∧ Cond.instanceMethod yX9_event ∈ am_tb ∧ Cond.selects yX9_event.cls yX9_event yX9_event ∈ am_tb := ⟨tw_643, tw_50, tw_646, tw_644, tw_645⟩
theorem tw_1015 : Cond.methodLink "RhythmBenchLaw" 79 ⟨"RhythmBenchModel","event","(III)I"⟩ ∈ am_tb := am_tb_in (List.mem_of_getElem? (i := 1015) (by decide +kernel)) (by decide +kernel)
theorem tw_1018 : Cond.code ⟨"RhythmBenchModel","event","(III)I"⟩ prog_12_method_43_code 5 (Option.some FieldType.int) ∈ am_tb := am_tb_in (List.mem_of_getElem? (i := 1018) (by decide +kernel)) (by decide +kernel)
theorem tw_1016 : Cond.instanceMethod ⟨"RhythmBenchModel","event","(III)I"⟩ ∈ am_tb := am_tb_in (List.mem_of_getElem? (i := 1016) (by decide +kernel)) (by decide +kernel)
theorem tw_1017 : Cond.selects "RhythmBenchModel" ⟨"RhythmBenchModel","event","(III)I"⟩ ⟨"RhythmBenchModel","event","(III)I"⟩ ∈ am_tb := am_tb_in (List.mem_of_getElem? (i := 1017) (by decide +kernel)) (by decide +kernel)
theorem lk_L_79 : Cond.methodLink RL 79 yX10_event ∈ am_tb ∧ Cond.initialized yX10_event.cls ∈ am_tb ∧ Cond.code yX10_event cX10_event 5 (some .int) ∈ am_tb ∧ Cond.instanceMethod yX10_event ∈ am_tb ∧ Cond.selects yX10_event.cls yX10_event yX10_event ∈ am_tb := ⟨tw_1015, tw_59, tw_1018, tw_1016, tw_1017⟩
theorem tw_676 : Cond.methodLink "RhythmBenchLaw" 80 ⟨"RhythmBench","bars","(I)I"⟩ ∈ am_tb := am_tb_in (List.mem_of_getElem? (i := 676) (by decide +kernel)) (by decide +kernel)
theorem tw_679 : Cond.code ⟨"RhythmBench","bars","(I)I"⟩ prog_1_method_17_code 3 (Option.some FieldType.int) ∈ am_tb := am_tb_in (List.mem_of_getElem? (i := 679) (by decide +kernel)) (by decide +kernel)
theorem tw_677 : Cond.instanceMethod ⟨"RhythmBench","bars","(I)I"⟩ ∈ am_tb := am_tb_in (List.mem_of_getElem? (i := 677) (by decide +kernel)) (by decide +kernel)
theorem tw_678 : Cond.selects "RhythmBench" ⟨"RhythmBench","bars","(I)I"⟩ ⟨"RhythmBench","bars","(I)I"⟩ ∈ am_tb := am_tb_in (List.mem_of_getElem? (i := 678) (by decide +kernel)) (by decide +kernel)
theorem lk_L_80 : Cond.methodLink RL 80 yX9_bars ∈ am_tb ∧ Cond.initialized yX9_bars.cls ∈ am_tb ∧ Cond.code yX9_bars cX9_bars 3 (some .int) ∈ am_tb ∧ Cond.instanceMethod yX9_bars ∈ am_tb ∧ Cond.selects yX9_bars.cls yX9_bars yX9_bars ∈ am_tb := ⟨tw_676, tw_50, tw_679, tw_677, tw_678⟩
theorem tw_1031 : Cond.methodLink "RhythmBenchLaw" 83 ⟨"RhythmBenchModel","bars","(I)I"⟩ ∈ am_tb := am_tb_in (List.mem_of_getElem? (i := 1031) (by decide +kernel)) (by decide +kernel)
theorem tw_1034 : Cond.code ⟨"RhythmBenchModel","bars","(I)I"⟩ prog_12_method_44_code 2 (Option.some FieldType.int) ∈ am_tb := am_tb_in (List.mem_of_getElem? (i := 1034) (by decide +kernel)) (by decide +kernel)
theorem tw_1032 : Cond.instanceMethod ⟨"RhythmBenchModel","bars","(I)I"⟩ ∈ am_tb := am_tb_in (List.mem_of_getElem? (i := 1032) (by decide +kernel)) (by decide +kernel)
theorem tw_1033 : Cond.selects "RhythmBenchModel" ⟨"RhythmBenchModel","bars","(I)I"⟩ ⟨"RhythmBenchModel","bars","(I)I"⟩ ∈ am_tb := am_tb_in (List.mem_of_getElem? (i := 1033) (by decide +kernel)) (by decide +kernel)
theorem lk_L_83 : Cond.methodLink RL 83 yX10_bars ∈ am_tb ∧ Cond.initialized yX10_bars.cls ∈ am_tb ∧ Cond.code yX10_bars cX10_bars 2 (some .int) ∈ am_tb ∧ Cond.instanceMethod yX10_bars ∈ am_tb ∧ Cond.selects yX10_bars.cls yX10_bars yX10_bars ∈ am_tb := ⟨tw_1031, tw_59, tw_1034, tw_1032, tw_1033⟩
theorem tw_684 : Cond.methodLink "RhythmBenchLaw" 84 ⟨"RhythmBench","bar","(III)J"⟩ ∈ am_tb := am_tb_in (List.mem_of_getElem? (i := 684) (by decide +kernel)) (by decide +kernel)
theorem tw_687 : Cond.code ⟨"RhythmBench","bar","(III)J"⟩ prog_1_method_18_code 5 (Option.some FieldType.long) ∈ am_tb := am_tb_in (List.mem_of_getElem? (i := 687) (by decide +kernel)) (by decide +kernel)
theorem tw_685 : Cond.instanceMethod ⟨"RhythmBench","bar","(III)J"⟩ ∈ am_tb := am_tb_in (List.mem_of_getElem? (i := 685) (by decide +kernel)) (by decide +kernel)
theorem tw_686 : Cond.selects "RhythmBench" ⟨"RhythmBench","bar","(III)J"⟩ ⟨"RhythmBench","bar","(III)J"⟩ ∈ am_tb := am_tb_in (List.mem_of_getElem? (i := 686) (by decide +kernel)) (by decide +kernel)
theorem lk_L_84 : Cond.methodLink RL 84 yX9_bar ∈ am_tb ∧ Cond.initialized yX9_bar.cls ∈ am_tb ∧ Cond.code yX9_bar cX9_bar 5 (some .long) ∈ am_tb ∧ Cond.instanceMethod yX9_bar ∈ am_tb ∧ Cond.selects yX9_bar.cls yX9_bar yX9_bar ∈ am_tb := ⟨tw_684, tw_50, tw_687, tw_685, tw_686⟩
theorem tw_1035 : Cond.methodLink "RhythmBenchLaw" 87 ⟨"RhythmBenchModel","bar","(III)J"⟩ ∈ am_tb := am_tb_in (List.mem_of_getElem? (i := 1035) (by decide +kernel)) (by decide +kernel)
theorem tw_1038 : Cond.code ⟨"RhythmBenchModel","bar","(III)J"⟩ prog_12_method_45_code 4 (Option.some FieldType.long) ∈ am_tb := am_tb_in (List.mem_of_getElem? (i := 1038) (by decide +kernel)) (by decide +kernel)
theorem tw_1036 : Cond.instanceMethod ⟨"RhythmBenchModel","bar","(III)J"⟩ ∈ am_tb := am_tb_in (List.mem_of_getElem? (i := 1036) (by decide +kernel)) (by decide +kernel)
theorem tw_1037 : Cond.selects "RhythmBenchModel" ⟨"RhythmBenchModel","bar","(III)J"⟩ ⟨"RhythmBenchModel","bar","(III)J"⟩ ∈ am_tb := am_tb_in (List.mem_of_getElem? (i := 1037) (by decide +kernel)) (by decide +kernel)
theorem lk_L_87 : Cond.methodLink RL 87 yX10_bar ∈ am_tb ∧ Cond.initialized yX10_bar.cls ∈ am_tb ∧ Cond.code yX10_bar cX10_bar 4 (some .long) ∈ am_tb ∧ Cond.instanceMethod yX10_bar ∈ am_tb ∧ Cond.selects yX10_bar.cls yX10_bar yX10_bar ∈ am_tb := ⟨tw_1035, tw_59, tw_1038, tw_1036, tw_1037⟩
theorem tw_693 : Cond.methodLink "RhythmBenchLaw" 88 ⟨"RhythmBench","wrongBar","(I)I"⟩ ∈ am_tb := am_tb_in (List.mem_of_getElem? (i := 693) (by decide +kernel)) (by decide +kernel)
theorem tw_696 : Cond.code ⟨"RhythmBench","wrongBar","(I)I"⟩ prog_1_method_19_code 10 (Option.some FieldType.int) ∈ am_tb := am_tb_in (List.mem_of_getElem? (i := 696) (by decide +kernel)) (by decide +kernel)
theorem tw_694 : Cond.instanceMethod ⟨"RhythmBench","wrongBar","(I)I"⟩ ∈ am_tb := am_tb_in (List.mem_of_getElem? (i := 694) (by decide +kernel)) (by decide +kernel)
theorem tw_695 : Cond.selects "RhythmBench" ⟨"RhythmBench","wrongBar","(I)I"⟩ ⟨"RhythmBench","wrongBar","(I)I"⟩ ∈ am_tb := am_tb_in (List.mem_of_getElem? (i := 695) (by decide +kernel)) (by decide +kernel)
theorem lk_L_88 : Cond.methodLink RL 88 yX9_wrongBar ∈ am_tb ∧ Cond.initialized yX9_wrongBar.cls ∈ am_tb ∧ Cond.code yX9_wrongBar cX9_wrongBar 10 (some .int) ∈ am_tb ∧ Cond.instanceMethod yX9_wrongBar ∈ am_tb ∧ Cond.selects yX9_wrongBar.cls yX9_wrongBar yX9_wrongBar ∈ am_tb := ⟨tw_693, tw_50, tw_696, tw_694, tw_695⟩
theorem tw_1039 : Cond.methodLink "RhythmBenchLaw" 91 ⟨"RhythmBenchModel","wrongBar","(I)I"⟩ ∈ am_tb := am_tb_in (List.mem_of_getElem? (i := 1039) (by decide +kernel)) (by decide +kernel)
theorem tw_1042 : Cond.code ⟨"RhythmBenchModel","wrongBar","(I)I"⟩ prog_12_method_46_code 4 (Option.some FieldType.int) ∈ am_tb := am_tb_in (List.mem_of_getElem? (i := 1042) (by decide +kernel)) (by decide +kernel)
theorem tw_1040 : Cond.instanceMethod ⟨"RhythmBenchModel","wrongBar","(I)I"⟩ ∈ am_tb := am_tb_in (List.mem_of_getElem? (i := 1040) (by decide +kernel)) (by decide +kernel)
theorem tw_1041 : Cond.selects "RhythmBenchModel" ⟨"RhythmBenchModel","wrongBar","(I)I"⟩ ⟨"RhythmBenchModel","wrongBar","(I)I"⟩ ∈ am_tb := am_tb_in (List.mem_of_getElem? (i := 1041) (by decide +kernel)) (by decide +kernel)
theorem lk_L_91 : Cond.methodLink RL 91 yX10_wrongBar ∈ am_tb ∧ Cond.initialized yX10_wrongBar.cls ∈ am_tb ∧ Cond.code yX10_wrongBar cX10_wrongBar 4 (some .int) ∈ am_tb ∧ Cond.instanceMethod yX10_wrongBar ∈ am_tb ∧ Cond.selects yX10_wrongBar.cls yX10_wrongBar yX10_wrongBar ∈ am_tb := ⟨tw_1039, tw_59, tw_1042, tw_1040, tw_1041⟩
theorem tw_697 : Cond.methodLink "RhythmBenchLaw" 92 ⟨"RhythmBench","syncopation","(I)I"⟩ ∈ am_tb := am_tb_in (List.mem_of_getElem? (i := 697) (by decide +kernel)) (by decide +kernel)
theorem tw_700 : Cond.code ⟨"RhythmBench","syncopation","(I)I"⟩ prog_1_method_20_code 6 (Option.some FieldType.int) ∈ am_tb := am_tb_in (List.mem_of_getElem? (i := 700) (by decide +kernel)) (by decide +kernel)
theorem tw_698 : Cond.instanceMethod ⟨"RhythmBench","syncopation","(I)I"⟩ ∈ am_tb := am_tb_in (List.mem_of_getElem? (i := 698) (by decide +kernel)) (by decide +kernel)
theorem tw_699 : Cond.selects "RhythmBench" ⟨"RhythmBench","syncopation","(I)I"⟩ ⟨"RhythmBench","syncopation","(I)I"⟩ ∈ am_tb := am_tb_in (List.mem_of_getElem? (i := 699) (by decide +kernel)) (by decide +kernel)
theorem lk_L_92 : Cond.methodLink RL 92 yX9_syncopation ∈ am_tb ∧ Cond.initialized yX9_syncopation.cls ∈ am_tb ∧ Cond.code yX9_syncopation cX9_syncopation 6 (some .int) ∈ am_tb ∧ Cond.instanceMethod yX9_syncopation ∈ am_tb ∧ Cond.selects yX9_syncopation.cls yX9_syncopation yX9_syncopation ∈ am_tb := ⟨tw_697, tw_50, tw_700, tw_698, tw_699⟩
theorem tw_1043 : Cond.methodLink "RhythmBenchLaw" 95 ⟨"RhythmBenchModel","syncopation","(I)I"⟩ ∈ am_tb := am_tb_in (List.mem_of_getElem? (i := 1043) (by decide +kernel)) (by decide +kernel)
theorem tw_1046 : Cond.code ⟨"RhythmBenchModel","syncopation","(I)I"⟩ prog_12_method_47_code 4 (Option.some FieldType.int) ∈ am_tb := am_tb_in (List.mem_of_getElem? (i := 1046) (by decide +kernel)) (by decide +kernel)
theorem tw_1044 : Cond.instanceMethod ⟨"RhythmBenchModel","syncopation","(I)I"⟩ ∈ am_tb := am_tb_in (List.mem_of_getElem? (i := 1044) (by decide +kernel)) (by decide +kernel)
theorem tw_1045 : Cond.selects "RhythmBenchModel" ⟨"RhythmBenchModel","syncopation","(I)I"⟩ ⟨"RhythmBenchModel","syncopation","(I)I"⟩ ∈ am_tb := am_tb_in (List.mem_of_getElem? (i := 1045) (by decide +kernel)) (by decide +kernel)
theorem lk_L_95 : Cond.methodLink RL 95 yX10_syncopation ∈ am_tb ∧ Cond.initialized yX10_syncopation.cls ∈ am_tb ∧ Cond.code yX10_syncopation cX10_syncopation 4 (some .int) ∈ am_tb ∧ Cond.instanceMethod yX10_syncopation ∈ am_tb ∧ Cond.selects yX10_syncopation.cls yX10_syncopation yX10_syncopation ∈ am_tb := ⟨tw_1043, tw_59, tw_1046, tw_1044, tw_1045⟩
theorem tw_701 : Cond.methodLink "RhythmBenchLaw" 96 ⟨"RhythmBench","offGrid","(II)I"⟩ ∈ am_tb := am_tb_in (List.mem_of_getElem? (i := 701) (by decide +kernel)) (by decide +kernel)
theorem tw_704 : Cond.code ⟨"RhythmBench","offGrid","(II)I"⟩ prog_1_method_21_code 7 (Option.some FieldType.int) ∈ am_tb := am_tb_in (List.mem_of_getElem? (i := 704) (by decide +kernel)) (by decide +kernel)
theorem tw_702 : Cond.instanceMethod ⟨"RhythmBench","offGrid","(II)I"⟩ ∈ am_tb := am_tb_in (List.mem_of_getElem? (i := 702) (by decide +kernel)) (by decide +kernel)
theorem tw_703 : Cond.selects "RhythmBench" ⟨"RhythmBench","offGrid","(II)I"⟩ ⟨"RhythmBench","offGrid","(II)I"⟩ ∈ am_tb := am_tb_in (List.mem_of_getElem? (i := 703) (by decide +kernel)) (by decide +kernel)
theorem lk_L_96 : Cond.methodLink RL 96 yX9_offGrid ∈ am_tb ∧ Cond.initialized yX9_offGrid.cls ∈ am_tb ∧ Cond.code yX9_offGrid cX9_offGrid 7 (some .int) ∈ am_tb ∧ Cond.instanceMethod yX9_offGrid ∈ am_tb ∧ Cond.selects yX9_offGrid.cls yX9_offGrid yX9_offGrid ∈ am_tb := ⟨tw_701, tw_50, tw_704, tw_702, tw_703⟩
theorem tw_1047 : Cond.methodLink "RhythmBenchLaw" 99 ⟨"RhythmBenchModel","offGrid","(II)I"⟩ ∈ am_tb := am_tb_in (List.mem_of_getElem? (i := 1047) (by decide +kernel)) (by decide +kernel)
theorem tw_1050 : Cond.code ⟨"RhythmBenchModel","offGrid","(II)I"⟩ prog_12_method_48_code 5 (Option.some FieldType.int) ∈ am_tb := am_tb_in (List.mem_of_getElem? (i := 1050) (by decide +kernel)) (by decide +kernel)
theorem tw_1048 : Cond.instanceMethod ⟨"RhythmBenchModel","offGrid","(II)I"⟩ ∈ am_tb := am_tb_in (List.mem_of_getElem? (i := 1048) (by decide +kernel)) (by decide +kernel)
theorem tw_1049 : Cond.selects "RhythmBenchModel" ⟨"RhythmBenchModel","offGrid","(II)I"⟩ ⟨"RhythmBenchModel","offGrid","(II)I"⟩ ∈ am_tb := am_tb_in (List.mem_of_getElem? (i := 1049) (by decide +kernel)) (by decide +kernel)
theorem lk_L_99 : Cond.methodLink RL 99 yX10_offGrid ∈ am_tb ∧ Cond.initialized yX10_offGrid.cls ∈ am_tb ∧ Cond.code yX10_offGrid cX10_offGrid 5 (some .int) ∈ am_tb ∧ Cond.instanceMethod yX10_offGrid ∈ am_tb ∧ Cond.selects yX10_offGrid.cls yX10_offGrid yX10_offGrid ∈ am_tb := ⟨tw_1047, tw_59, tw_1050, tw_1048, tw_1049⟩
theorem tw_705 : Cond.methodLink "RhythmBenchLaw" 100 ⟨"RhythmBench","leastGrid","(I)I"⟩ ∈ am_tb := am_tb_in (List.mem_of_getElem? (i := 705) (by decide +kernel)) (by decide +kernel)
theorem tw_708 : Cond.code ⟨"RhythmBench","leastGrid","(I)I"⟩ prog_1_method_22_code 8 (Option.some FieldType.int) ∈ am_tb := am_tb_in (List.mem_of_getElem? (i := 708) (by decide +kernel)) (by decide +kernel)
theorem tw_706 : Cond.instanceMethod ⟨"RhythmBench","leastGrid","(I)I"⟩ ∈ am_tb := am_tb_in (List.mem_of_getElem? (i := 706) (by decide +kernel)) (by decide +kernel)
theorem tw_707 : Cond.selects "RhythmBench" ⟨"RhythmBench","leastGrid","(I)I"⟩ ⟨"RhythmBench","leastGrid","(I)I"⟩ ∈ am_tb := am_tb_in (List.mem_of_getElem? (i := 707) (by decide +kernel)) (by decide +kernel)
theorem lk_L_100 : Cond.methodLink RL 100 yX9_leastGrid ∈ am_tb ∧ Cond.initialized yX9_leastGrid.cls ∈ am_tb ∧ Cond.code yX9_leastGrid cX9_leastGrid 8 (some .int) ∈ am_tb ∧ Cond.instanceMethod yX9_leastGrid ∈ am_tb ∧ Cond.selects yX9_leastGrid.cls yX9_leastGrid yX9_leastGrid ∈ am_tb := ⟨tw_705, tw_50, tw_708, tw_706, tw_707⟩
theorem tw_1051 : Cond.methodLink "RhythmBenchLaw" 103 ⟨"RhythmBenchModel","leastGrid","(I)I"⟩ ∈ am_tb := am_tb_in (List.mem_of_getElem? (i := 1051) (by decide +kernel)) (by decide +kernel)
theorem tw_1054 : Cond.code ⟨"RhythmBenchModel","leastGrid","(I)I"⟩ prog_12_method_49_code 7 (Option.some FieldType.int) ∈ am_tb := am_tb_in (List.mem_of_getElem? (i := 1054) (by decide +kernel)) (by decide +kernel)
theorem tw_1052 : Cond.instanceMethod ⟨"RhythmBenchModel","leastGrid","(I)I"⟩ ∈ am_tb := am_tb_in (List.mem_of_getElem? (i := 1052) (by decide +kernel)) (by decide +kernel)
theorem tw_1053 : Cond.selects "RhythmBenchModel" ⟨"RhythmBenchModel","leastGrid","(I)I"⟩ ⟨"RhythmBenchModel","leastGrid","(I)I"⟩ ∈ am_tb := am_tb_in (List.mem_of_getElem? (i := 1053) (by decide +kernel)) (by decide +kernel)
theorem lk_L_103 : Cond.methodLink RL 103 yX10_leastGrid ∈ am_tb ∧ Cond.initialized yX10_leastGrid.cls ∈ am_tb ∧ Cond.code yX10_leastGrid cX10_leastGrid 7 (some .int) ∈ am_tb ∧ Cond.instanceMethod yX10_leastGrid ∈ am_tb ∧ Cond.selects yX10_leastGrid.cls yX10_leastGrid yX10_leastGrid ∈ am_tb := ⟨tw_1051, tw_59, tw_1054, tw_1052, tw_1053⟩
theorem tw_710 : Cond.methodLink "RhythmBenchLaw" 104 ⟨"RhythmBench","times","()I"⟩ ∈ am_tb := am_tb_in (List.mem_of_getElem? (i := 710) (by decide +kernel)) (by decide +kernel)
theorem tw_713 : Cond.code ⟨"RhythmBench","times","()I"⟩ prog_1_method_23_code 2 (Option.some FieldType.int) ∈ am_tb := am_tb_in (List.mem_of_getElem? (i := 713) (by decide +kernel)) (by decide +kernel)
theorem tw_711 : Cond.instanceMethod ⟨"RhythmBench","times","()I"⟩ ∈ am_tb := am_tb_in (List.mem_of_getElem? (i := 711) (by decide +kernel)) (by decide +kernel)
theorem tw_712 : Cond.selects "RhythmBench" ⟨"RhythmBench","times","()I"⟩ ⟨"RhythmBench","times","()I"⟩ ∈ am_tb := am_tb_in (List.mem_of_getElem? (i := 712) (by decide +kernel)) (by decide +kernel)
theorem lk_L_104 : Cond.methodLink RL 104 yX9_times ∈ am_tb ∧ Cond.initialized yX9_times.cls ∈ am_tb ∧ Cond.code yX9_times cX9_times 2 (some .int) ∈ am_tb ∧ Cond.instanceMethod yX9_times ∈ am_tb ∧ Cond.selects yX9_times.cls yX9_times yX9_times ∈ am_tb := ⟨tw_710, tw_50, tw_713, tw_711, tw_712⟩
theorem tw_1056 : Cond.methodLink "RhythmBenchLaw" 107 ⟨"RhythmBenchModel","times","()I"⟩ ∈ am_tb := am_tb_in (List.mem_of_getElem? (i := 1056) (by decide +kernel)) (by decide +kernel)
theorem tw_1059 : Cond.code ⟨"RhythmBenchModel","times","()I"⟩ prog_12_method_52_code 2 (Option.some FieldType.int) ∈ am_tb := am_tb_in (List.mem_of_getElem? (i := 1059) (by decide +kernel)) (by decide +kernel)
theorem tw_1057 : Cond.instanceMethod ⟨"RhythmBenchModel","times","()I"⟩ ∈ am_tb := am_tb_in (List.mem_of_getElem? (i := 1057) (by decide +kernel)) (by decide +kernel)
theorem tw_1058 : Cond.selects "RhythmBenchModel" ⟨"RhythmBenchModel","times","()I"⟩ ⟨"RhythmBenchModel","times","()I"⟩ ∈ am_tb := am_tb_in (List.mem_of_getElem? (i := 1058) (by decide +kernel)) (by decide +kernel)
theorem lk_L_107 : Cond.methodLink RL 107 yX10_times ∈ am_tb ∧ Cond.initialized yX10_times.cls ∈ am_tb ∧ Cond.code yX10_times cX10_times 2 (some .int) ∈ am_tb ∧ Cond.instanceMethod yX10_times ∈ am_tb ∧ Cond.selects yX10_times.cls yX10_times yX10_times ∈ am_tb := ⟨tw_1056, tw_59, tw_1059, tw_1057, tw_1058⟩
theorem tw_728 : Cond.methodLink "RhythmBenchLaw" 108 ⟨"RhythmBench","time","(II)J"⟩ ∈ am_tb := am_tb_in (List.mem_of_getElem? (i := 728) (by decide +kernel)) (by decide +kernel)
theorem tw_731 : Cond.code ⟨"RhythmBench","time","(II)J"⟩ prog_1_method_24_code 4 (Option.some FieldType.long) ∈ am_tb := am_tb_in (List.mem_of_getElem? (i := 731) (by decide +kernel)) (by decide +kernel)
theorem tw_729 : Cond.instanceMethod ⟨"RhythmBench","time","(II)J"⟩ ∈ am_tb := am_tb_in (List.mem_of_getElem? (i := 729) (by decide +kernel)) (by decide +kernel)
theorem tw_730 : Cond.selects "RhythmBench" ⟨"RhythmBench","time","(II)J"⟩ ⟨"RhythmBench","time","(II)J"⟩ ∈ am_tb := am_tb_in (List.mem_of_getElem? (i := 730) (by decide +kernel)) (by decide +kernel)
theorem lk_L_108 : Cond.methodLink RL 108 yX9_time ∈ am_tb ∧ Cond.initialized yX9_time.cls ∈ am_tb ∧ Cond.code yX9_time cX9_time 4 (some .long) ∈ am_tb ∧ Cond.instanceMethod yX9_time ∈ am_tb ∧ Cond.selects yX9_time.cls yX9_time yX9_time ∈ am_tb := ⟨tw_728, tw_50, tw_731, tw_729, tw_730⟩
theorem tw_1068 : Cond.methodLink "RhythmBenchLaw" 111 ⟨"RhythmBenchModel","time","(II)J"⟩ ∈ am_tb := am_tb_in (List.mem_of_getElem? (i := 1068) (by decide +kernel)) (by decide +kernel)
theorem tw_1071 : Cond.code ⟨"RhythmBenchModel","time","(II)J"⟩ prog_12_method_53_code 6 (Option.some FieldType.long) ∈ am_tb := am_tb_in (List.mem_of_getElem? (i := 1071) (by decide +kernel)) (by decide +kernel)
theorem tw_1069 : Cond.instanceMethod ⟨"RhythmBenchModel","time","(II)J"⟩ ∈ am_tb := am_tb_in (List.mem_of_getElem? (i := 1069) (by decide +kernel)) (by decide +kernel)
theorem tw_1070 : Cond.selects "RhythmBenchModel" ⟨"RhythmBenchModel","time","(II)J"⟩ ⟨"RhythmBenchModel","time","(II)J"⟩ ∈ am_tb := am_tb_in (List.mem_of_getElem? (i := 1070) (by decide +kernel)) (by decide +kernel)
theorem lk_L_111 : Cond.methodLink RL 111 yX10_time ∈ am_tb ∧ Cond.initialized yX10_time.cls ∈ am_tb ∧ Cond.code yX10_time cX10_time 6 (some .long) ∈ am_tb ∧ Cond.instanceMethod yX10_time ∈ am_tb ∧ Cond.selects yX10_time.cls yX10_time yX10_time ∈ am_tb := ⟨tw_1068, tw_59, tw_1071, tw_1069, tw_1070⟩
theorem tw_740 : Cond.methodLink "RhythmBenchLaw" 112 ⟨"RhythmBench","cycle","(III)J"⟩ ∈ am_tb := am_tb_in (List.mem_of_getElem? (i := 740) (by decide +kernel)) (by decide +kernel)
theorem tw_743 : Cond.code ⟨"RhythmBench","cycle","(III)J"⟩ prog_1_method_25_code 8 (Option.some FieldType.long) ∈ am_tb := am_tb_in (List.mem_of_getElem? (i := 743) (by decide +kernel)) (by decide +kernel)
theorem tw_741 : Cond.instanceMethod ⟨"RhythmBench","cycle","(III)J"⟩ ∈ am_tb := am_tb_in (List.mem_of_getElem? (i := 741) (by decide +kernel)) (by decide +kernel)
theorem tw_742 : Cond.selects "RhythmBench" ⟨"RhythmBench","cycle","(III)J"⟩ ⟨"RhythmBench","cycle","(III)J"⟩ ∈ am_tb := am_tb_in (List.mem_of_getElem? (i := 742) (by decide +kernel)) (by decide +kernel)
theorem lk_L_112 : Cond.methodLink RL 112 yX9_cycle ∈ am_tb ∧ Cond.initialized yX9_cycle.cls ∈ am_tb ∧ Cond.code yX9_cycle cX9_cycle 8 (some .long) ∈ am_tb ∧ Cond.instanceMethod yX9_cycle ∈ am_tb ∧ Cond.selects yX9_cycle.cls yX9_cycle yX9_cycle ∈ am_tb := ⟨tw_740, tw_50, tw_743, tw_741, tw_742⟩
theorem tw_1072 : Cond.methodLink "RhythmBenchLaw" 115 ⟨"RhythmBenchModel","cycle","(III)J"⟩ ∈ am_tb := am_tb_in (List.mem_of_getElem? (i := 1072) (by decide +kernel)) (by decide +kernel)
theorem tw_1075 : Cond.code ⟨"RhythmBenchModel","cycle","(III)J"⟩ prog_12_method_55_code 6 (Option.some FieldType.long) ∈ am_tb := am_tb_in (List.mem_of_getElem? (i := 1075) (by decide +kernel)) (by decide +kernel)
theorem tw_1073 : Cond.instanceMethod ⟨"RhythmBenchModel","cycle","(III)J"⟩ ∈ am_tb := am_tb_in (List.mem_of_getElem? (i := 1073) (by decide +kernel)) (by decide +kernel)
theorem tw_1074 : Cond.selects "RhythmBenchModel" ⟨"RhythmBenchModel","cycle","(III)J"⟩ ⟨"RhythmBenchModel","cycle","(III)J"⟩ ∈ am_tb := am_tb_in (List.mem_of_getElem? (i := 1074) (by decide +kernel)) (by decide +kernel)
theorem lk_L_115 : Cond.methodLink RL 115 yX10_cycle ∈ am_tb ∧ Cond.initialized yX10_cycle.cls ∈ am_tb ∧ Cond.code yX10_cycle cX10_cycle 6 (some .long) ∈ am_tb ∧ Cond.instanceMethod yX10_cycle ∈ am_tb ∧ Cond.selects yX10_cycle.cls yX10_cycle yX10_cycle ∈ am_tb := ⟨tw_1072, tw_59, tw_1075, tw_1073, tw_1074⟩
theorem tw_750 : Cond.methodLink "RhythmBenchLaw" 116 ⟨"RhythmBench","meets","(II)I"⟩ ∈ am_tb := am_tb_in (List.mem_of_getElem? (i := 750) (by decide +kernel)) (by decide +kernel)
theorem tw_753 : Cond.code ⟨"RhythmBench","meets","(II)I"⟩ prog_1_method_26_code 7 (Option.some FieldType.int) ∈ am_tb := am_tb_in (List.mem_of_getElem? (i := 753) (by decide +kernel)) (by decide +kernel)
theorem tw_751 : Cond.instanceMethod ⟨"RhythmBench","meets","(II)I"⟩ ∈ am_tb := am_tb_in (List.mem_of_getElem? (i := 751) (by decide +kernel)) (by decide +kernel)
theorem tw_752 : Cond.selects "RhythmBench" ⟨"RhythmBench","meets","(II)I"⟩ ⟨"RhythmBench","meets","(II)I"⟩ ∈ am_tb := am_tb_in (List.mem_of_getElem? (i := 752) (by decide +kernel)) (by decide +kernel)
theorem lk_L_116 : Cond.methodLink RL 116 yX9_meets ∈ am_tb ∧ Cond.initialized yX9_meets.cls ∈ am_tb ∧ Cond.code yX9_meets cX9_meets 7 (some .int) ∈ am_tb ∧ Cond.instanceMethod yX9_meets ∈ am_tb ∧ Cond.selects yX9_meets.cls yX9_meets yX9_meets ∈ am_tb := ⟨tw_750, tw_50, tw_753, tw_751, tw_752⟩
theorem tw_1083 : Cond.methodLink "RhythmBenchLaw" 119 ⟨"RhythmBenchModel","meets","(II)I"⟩ ∈ am_tb := am_tb_in (List.mem_of_getElem? (i := 1083) (by decide +kernel)) (by decide +kernel)
theorem tw_1086 : Cond.code ⟨"RhythmBenchModel","meets","(II)I"⟩ prog_12_method_56_code 16 (Option.some FieldType.int) ∈ am_tb := am_tb_in (List.mem_of_getElem? (i := 1086) (by decide +kernel)) (by decide +kernel)
theorem tw_1084 : Cond.instanceMethod ⟨"RhythmBenchModel","meets","(II)I"⟩ ∈ am_tb := am_tb_in (List.mem_of_getElem? (i := 1084) (by decide +kernel)) (by decide +kernel)
theorem tw_1085 : Cond.selects "RhythmBenchModel" ⟨"RhythmBenchModel","meets","(II)I"⟩ ⟨"RhythmBenchModel","meets","(II)I"⟩ ∈ am_tb := am_tb_in (List.mem_of_getElem? (i := 1085) (by decide +kernel)) (by decide +kernel)
theorem lk_L_119 : Cond.methodLink RL 119 yX10_meets ∈ am_tb ∧ Cond.initialized yX10_meets.cls ∈ am_tb ∧ Cond.code yX10_meets cX10_meets 16 (some .int) ∈ am_tb ∧ Cond.instanceMethod yX10_meets ∈ am_tb ∧ Cond.selects yX10_meets.cls yX10_meets yX10_meets ∈ am_tb := ⟨tw_1083, tw_59, tw_1086, tw_1084, tw_1085⟩
theorem tw_757 : Cond.methodLink "RhythmBenchLaw" 120 ⟨"RhythmBench","undo","()I"⟩ ∈ am_tb := am_tb_in (List.mem_of_getElem? (i := 757) (by decide +kernel)) (by decide +kernel)
theorem tw_760 : Cond.code ⟨"RhythmBench","undo","()I"⟩ prog_1_method_27_code 3 (Option.some FieldType.int) ∈ am_tb := am_tb_in (List.mem_of_getElem? (i := 760) (by decide +kernel)) (by decide +kernel)
theorem tw_758 : Cond.instanceMethod ⟨"RhythmBench","undo","()I"⟩ ∈ am_tb := am_tb_in (List.mem_of_getElem? (i := 758) (by decide +kernel)) (by decide +kernel)
theorem tw_759 : Cond.selects "RhythmBench" ⟨"RhythmBench","undo","()I"⟩ ⟨"RhythmBench","undo","()I"⟩ ∈ am_tb := am_tb_in (List.mem_of_getElem? (i := 759) (by decide +kernel)) (by decide +kernel)
theorem lk_L_120 : Cond.methodLink RL 120 yX9_undo ∈ am_tb ∧ Cond.initialized yX9_undo.cls ∈ am_tb ∧ Cond.code yX9_undo cX9_undo 3 (some .int) ∈ am_tb ∧ Cond.instanceMethod yX9_undo ∈ am_tb ∧ Cond.selects yX9_undo.cls yX9_undo yX9_undo ∈ am_tb := ⟨tw_757, tw_50, tw_760, tw_758, tw_759⟩
theorem tw_1087 : Cond.methodLink "RhythmBenchLaw" 123 ⟨"RhythmBenchModel","undo","()I"⟩ ∈ am_tb := am_tb_in (List.mem_of_getElem? (i := 1087) (by decide +kernel)) (by decide +kernel)
theorem tw_1090 : Cond.code ⟨"RhythmBenchModel","undo","()I"⟩ prog_12_method_57_code 2 (Option.some FieldType.int) ∈ am_tb := am_tb_in (List.mem_of_getElem? (i := 1090) (by decide +kernel)) (by decide +kernel)
theorem tw_1088 : Cond.instanceMethod ⟨"RhythmBenchModel","undo","()I"⟩ ∈ am_tb := am_tb_in (List.mem_of_getElem? (i := 1088) (by decide +kernel)) (by decide +kernel)
theorem tw_1089 : Cond.selects "RhythmBenchModel" ⟨"RhythmBenchModel","undo","()I"⟩ ⟨"RhythmBenchModel","undo","()I"⟩ ∈ am_tb := am_tb_in (List.mem_of_getElem? (i := 1089) (by decide +kernel)) (by decide +kernel)
theorem lk_L_123 : Cond.methodLink RL 123 yX10_undo ∈ am_tb ∧ Cond.initialized yX10_undo.cls ∈ am_tb ∧ Cond.code yX10_undo cX10_undo 2 (some .int) ∈ am_tb ∧ Cond.instanceMethod yX10_undo ∈ am_tb ∧ Cond.selects yX10_undo.cls yX10_undo yX10_undo ∈ am_tb := ⟨tw_1087, tw_59, tw_1090, tw_1088, tw_1089⟩
theorem tw_761 : Cond.methodLink "RhythmBenchLaw" 124 ⟨"RhythmBench","fingerprint","()J"⟩ ∈ am_tb := am_tb_in (List.mem_of_getElem? (i := 761) (by decide +kernel)) (by decide +kernel)
theorem tw_764 : Cond.code ⟨"RhythmBench","fingerprint","()J"⟩ prog_1_method_28_code 6 (Option.some FieldType.long) ∈ am_tb := am_tb_in (List.mem_of_getElem? (i := 764) (by decide +kernel)) (by decide +kernel)
theorem tw_762 : Cond.instanceMethod ⟨"RhythmBench","fingerprint","()J"⟩ ∈ am_tb := am_tb_in (List.mem_of_getElem? (i := 762) (by decide +kernel)) (by decide +kernel)
theorem tw_763 : Cond.selects "RhythmBench" ⟨"RhythmBench","fingerprint","()J"⟩ ⟨"RhythmBench","fingerprint","()J"⟩ ∈ am_tb := am_tb_in (List.mem_of_getElem? (i := 763) (by decide +kernel)) (by decide +kernel)
theorem lk_L_124 : Cond.methodLink RL 124 yX9_fingerprint ∈ am_tb ∧ Cond.initialized yX9_fingerprint.cls ∈ am_tb ∧ Cond.code yX9_fingerprint cX9_fingerprint 6 (some .long) ∈ am_tb ∧ Cond.instanceMethod yX9_fingerprint ∈ am_tb ∧ Cond.selects yX9_fingerprint.cls yX9_fingerprint yX9_fingerprint ∈ am_tb := ⟨tw_761, tw_50, tw_764, tw_762, tw_763⟩
theorem tw_1091 : Cond.methodLink "RhythmBenchLaw" 128 ⟨"RhythmBenchModel","fingerprint","()J"⟩ ∈ am_tb := am_tb_in (List.mem_of_getElem? (i := 1091) (by decide +kernel)) (by decide +kernel)
theorem tw_1094 : Cond.code ⟨"RhythmBenchModel","fingerprint","()J"⟩ prog_12_method_58_code 5 (Option.some FieldType.long) ∈ am_tb := am_tb_in (List.mem_of_getElem? (i := 1094) (by decide +kernel)) (by decide +kernel)
theorem tw_1092 : Cond.instanceMethod ⟨"RhythmBenchModel","fingerprint","()J"⟩ ∈ am_tb := am_tb_in (List.mem_of_getElem? (i := 1092) (by decide +kernel)) (by decide +kernel)
theorem tw_1093 : Cond.selects "RhythmBenchModel" ⟨"RhythmBenchModel","fingerprint","()J"⟩ ⟨"RhythmBenchModel","fingerprint","()J"⟩ ∈ am_tb := am_tb_in (List.mem_of_getElem? (i := 1093) (by decide +kernel)) (by decide +kernel)
theorem lk_L_128 : Cond.methodLink RL 128 yX10_fingerprint ∈ am_tb ∧ Cond.initialized yX10_fingerprint.cls ∈ am_tb ∧ Cond.code yX10_fingerprint cX10_fingerprint 5 (some .long) ∈ am_tb ∧ Cond.instanceMethod yX10_fingerprint ∈ am_tb ∧ Cond.selects yX10_fingerprint.cls yX10_fingerprint yX10_fingerprint ∈ am_tb := ⟨tw_1091, tw_59, tw_1094, tw_1092, tw_1093⟩
theorem hy_X0_init : yX0_init.cls ≠ "java/lang/invoke/MethodHandle" ∧ yX0_init.cls ≠ "java/lang/invoke/VarHandle" ∧ (parseMethodDescriptor yX0_init.desc).map (fun d => d.parameters.length) = some 0 := by decide +kernel
theorem hy_X0_wrongPlace : yX0_wrongPlace.cls ≠ "java/lang/invoke/MethodHandle" ∧ yX0_wrongPlace.cls ≠ "java/lang/invoke/VarHandle" ∧ (parseMethodDescriptor yX0_wrongPlace.desc).map (fun d => d.parameters.length) = some 1 := by decide +kernel
theorem hy_X0_start : yX0_start.cls ≠ "java/lang/invoke/MethodHandle" ∧ yX0_start.cls ≠ "java/lang/invoke/VarHandle" ∧ (parseMethodDescriptor yX0_start.desc).map (fun d => d.parameters.length) = some 0 := by decide +kernel
theorem hy_X0_accepts : yX0_accepts.cls ≠ "java/lang/invoke/MethodHandle" ∧ yX0_accepts.cls ≠ "java/lang/invoke/VarHandle" ∧ (parseMethodDescriptor yX0_accepts.desc).map (fun d => d.parameters.length) = some 1 := by decide +kernel
theorem hy_X0_goesOn : yX0_goesOn.cls ≠ "java/lang/invoke/MethodHandle" ∧ yX0_goesOn.cls ≠ "java/lang/invoke/VarHandle" ∧ (parseMethodDescriptor yX0_goesOn.desc).map (fun d => d.parameters.length) = some 2 := by decide +kernel
theorem hy_X0_acceptsItem : yX0_acceptsItem.cls ≠ "java/lang/invoke/MethodHandle" ∧ yX0_acceptsItem.cls ≠ "java/lang/invoke/VarHandle" ∧ (parseMethodDescriptor yX0_acceptsItem.desc).map (fun d => d.parameters.length) = some 1 := by decide +kernel
theorem hy_X0_beginsSound : yX0_beginsSound.cls ≠ "java/lang/invoke/MethodHandle" ∧ yX0_beginsSound.cls ≠ "java/lang/invoke/VarHandle" ∧ (parseMethodDescriptor yX0_beginsSound.desc).map (fun d => d.parameters.length) = some 2 := by decide +kernel
theorem hy_X0_endSound : yX0_endSound.cls ≠ "java/lang/invoke/MethodHandle" ∧ yX0_endSound.cls ≠ "java/lang/invoke/VarHandle" ∧ (parseMethodDescriptor yX0_endSound.desc).map (fun d => d.parameters.length) = some 0 := by decide +kernel
theorem hy_X0_addsDot : yX0_addsDot.cls ≠ "java/lang/invoke/MethodHandle" ∧ yX0_addsDot.cls ≠ "java/lang/invoke/VarHandle" ∧ (parseMethodDescriptor yX0_addsDot.desc).map (fun d => d.parameters.length) = some 0 := by decide +kernel
theorem hy_X0_addsTie : yX0_addsTie.cls ≠ "java/lang/invoke/MethodHandle" ∧ yX0_addsTie.cls ≠ "java/lang/invoke/VarHandle" ∧ (parseMethodDescriptor yX0_addsTie.desc).map (fun d => d.parameters.length) = some 0 := by decide +kernel
theorem hy_X0_opensTuplet : yX0_opensTuplet.cls ≠ "java/lang/invoke/MethodHandle" ∧ yX0_opensTuplet.cls ≠ "java/lang/invoke/VarHandle" ∧ (parseMethodDescriptor yX0_opensTuplet.desc).map (fun d => d.parameters.length) = some 0 := by decide +kernel
theorem hy_X0_closesTuplet : yX0_closesTuplet.cls ≠ "java/lang/invoke/MethodHandle" ∧ yX0_closesTuplet.cls ≠ "java/lang/invoke/VarHandle" ∧ (parseMethodDescriptor yX0_closesTuplet.desc).map (fun d => d.parameters.length) = some 0 := by decide +kernel
theorem hy_X0_opensRepeat : yX0_opensRepeat.cls ≠ "java/lang/invoke/MethodHandle" ∧ yX0_opensRepeat.cls ≠ "java/lang/invoke/VarHandle" ∧ (parseMethodDescriptor yX0_opensRepeat.desc).map (fun d => d.parameters.length) = some 0 := by decide +kernel
theorem hy_X0_closesRepeat : yX0_closesRepeat.cls ≠ "java/lang/invoke/MethodHandle" ∧ yX0_closesRepeat.cls ≠ "java/lang/invoke/VarHandle" ∧ (parseMethodDescriptor yX0_closesRepeat.desc).map (fun d => d.parameters.length) = some 0 := by decide +kernel
theorem hy_X1_halvings : yX1_halvings.cls ≠ "java/lang/invoke/MethodHandle" ∧ yX1_halvings.cls ≠ "java/lang/invoke/VarHandle" ∧ (parseMethodDescriptor yX1_halvings.desc).map (fun d => d.parameters.length) = some 1 := by decide +kernel
theorem hy_X1_digit : yX1_digit.cls ≠ "java/lang/invoke/MethodHandle" ∧ yX1_digit.cls ≠ "java/lang/invoke/VarHandle" ∧ (parseMethodDescriptor yX1_digit.desc).map (fun d => d.parameters.length) = some 1 := by decide +kernel
theorem hy_X2_init : yX2_init.cls ≠ "java/lang/invoke/MethodHandle" ∧ yX2_init.cls ≠ "java/lang/invoke/VarHandle" ∧ (parseMethodDescriptor yX2_init.desc).map (fun d => d.parameters.length) = some 0 := by decide +kernel
theorem hy_X2_now : yX2_now.cls ≠ "java/lang/invoke/MethodHandle" ∧ yX2_now.cls ≠ "java/lang/invoke/VarHandle" ∧ (parseMethodDescriptor yX2_now.desc).map (fun d => d.parameters.length) = some 0 := by decide +kernel
theorem hy_X2_set : yX2_set.cls ≠ "java/lang/invoke/MethodHandle" ∧ yX2_set.cls ≠ "java/lang/invoke/VarHandle" ∧ (parseMethodDescriptor yX2_set.desc).map (fun d => d.parameters.length) = some 0 := by decide +kernel
theorem hy_X2_start : yX2_start.cls ≠ "java/lang/invoke/MethodHandle" ∧ yX2_start.cls ≠ "java/lang/invoke/VarHandle" ∧ (parseMethodDescriptor yX2_start.desc).map (fun d => d.parameters.length) = some 0 := by decide +kernel
theorem hy_X2_advance : yX2_advance.cls ≠ "java/lang/invoke/MethodHandle" ∧ yX2_advance.cls ≠ "java/lang/invoke/VarHandle" ∧ (parseMethodDescriptor yX2_advance.desc).map (fun d => d.parameters.length) = some 1 := by decide +kernel
theorem hy_X2_offer : yX2_offer.cls ≠ "java/lang/invoke/MethodHandle" ∧ yX2_offer.cls ≠ "java/lang/invoke/VarHandle" ∧ (parseMethodDescriptor yX2_offer.desc).map (fun d => d.parameters.length) = some 2 := by decide +kernel
theorem hy_X3_init : yX3_init.cls ≠ "java/lang/invoke/MethodHandle" ∧ yX3_init.cls ≠ "java/lang/invoke/VarHandle" ∧ (parseMethodDescriptor yX3_init.desc).map (fun d => d.parameters.length) = some 0 := by decide +kernel
theorem hy_X3_take : yX3_take.cls ≠ "java/lang/invoke/MethodHandle" ∧ yX3_take.cls ≠ "java/lang/invoke/VarHandle" ∧ (parseMethodDescriptor yX3_take.desc).map (fun d => d.parameters.length) = some 1 := by decide +kernel
theorem hy_X4_init : yX4_init.cls ≠ "java/lang/invoke/MethodHandle" ∧ yX4_init.cls ≠ "java/lang/invoke/VarHandle" ∧ (parseMethodDescriptor yX4_init.desc).map (fun d => d.parameters.length) = some 0 := by decide +kernel
theorem hy_X4_count : yX4_count.cls ≠ "java/lang/invoke/MethodHandle" ∧ yX4_count.cls ≠ "java/lang/invoke/VarHandle" ∧ (parseMethodDescriptor yX4_count.desc).map (fun d => d.parameters.length) = some 0 := by decide +kernel
theorem hy_X4_barCount : yX4_barCount.cls ≠ "java/lang/invoke/MethodHandle" ∧ yX4_barCount.cls ≠ "java/lang/invoke/VarHandle" ∧ (parseMethodDescriptor yX4_barCount.desc).map (fun d => d.parameters.length) = some 0 := by decide +kernel
theorem hy_X4_total : yX4_total.cls ≠ "java/lang/invoke/MethodHandle" ∧ yX4_total.cls ≠ "java/lang/invoke/VarHandle" ∧ (parseMethodDescriptor yX4_total.desc).map (fun d => d.parameters.length) = some 0 := by decide +kernel
theorem hy_X4_hasEvent : yX4_hasEvent.cls ≠ "java/lang/invoke/MethodHandle" ∧ yX4_hasEvent.cls ≠ "java/lang/invoke/VarHandle" ∧ (parseMethodDescriptor yX4_hasEvent.desc).map (fun d => d.parameters.length) = some 1 := by decide +kernel
theorem hy_X4_hasBar : yX4_hasBar.cls ≠ "java/lang/invoke/MethodHandle" ∧ yX4_hasBar.cls ≠ "java/lang/invoke/VarHandle" ∧ (parseMethodDescriptor yX4_hasBar.desc).map (fun d => d.parameters.length) = some 1 := by decide +kernel
theorem hy_X4_begin : yX4_begin.cls ≠ "java/lang/invoke/MethodHandle" ∧ yX4_begin.cls ≠ "java/lang/invoke/VarHandle" ∧ (parseMethodDescriptor yX4_begin.desc).map (fun d => d.parameters.length) = some 1 := by decide +kernel
theorem hy_X4_end : yX4_end.cls ≠ "java/lang/invoke/MethodHandle" ∧ yX4_end.cls ≠ "java/lang/invoke/VarHandle" ∧ (parseMethodDescriptor yX4_end.desc).map (fun d => d.parameters.length) = some 1 := by decide +kernel
theorem hy_X4_notesOf : yX4_notesOf.cls ≠ "java/lang/invoke/MethodHandle" ∧ yX4_notesOf.cls ≠ "java/lang/invoke/VarHandle" ∧ (parseMethodDescriptor yX4_notesOf.desc).map (fun d => d.parameters.length) = some 1 := by decide +kernel
theorem hy_X4_barOf : yX4_barOf.cls ≠ "java/lang/invoke/MethodHandle" ∧ yX4_barOf.cls ≠ "java/lang/invoke/VarHandle" ∧ (parseMethodDescriptor yX4_barOf.desc).map (fun d => d.parameters.length) = some 1 := by decide +kernel
theorem hy_X4_isAccented : yX4_isAccented.cls ≠ "java/lang/invoke/MethodHandle" ∧ yX4_isAccented.cls ≠ "java/lang/invoke/VarHandle" ∧ (parseMethodDescriptor yX4_isAccented.desc).map (fun d => d.parameters.length) = some 1 := by decide +kernel
theorem hy_X4_barLength : yX4_barLength.cls ≠ "java/lang/invoke/MethodHandle" ∧ yX4_barLength.cls ≠ "java/lang/invoke/VarHandle" ∧ (parseMethodDescriptor yX4_barLength.desc).map (fun d => d.parameters.length) = some 1 := by decide +kernel
theorem hy_X4_build : yX4_build.cls ≠ "java/lang/invoke/MethodHandle" ∧ yX4_build.cls ≠ "java/lang/invoke/VarHandle" ∧ (parseMethodDescriptor yX4_build.desc).map (fun d => d.parameters.length) = some 1 := by decide +kernel
theorem hy_X4_start : yX4_start.cls ≠ "java/lang/invoke/MethodHandle" ∧ yX4_start.cls ≠ "java/lang/invoke/VarHandle" ∧ (parseMethodDescriptor yX4_start.desc).map (fun d => d.parameters.length) = some 0 := by decide +kernel
theorem hy_X4_beginBar : yX4_beginBar.cls ≠ "java/lang/invoke/MethodHandle" ∧ yX4_beginBar.cls ≠ "java/lang/invoke/VarHandle" ∧ (parseMethodDescriptor yX4_beginBar.desc).map (fun d => d.parameters.length) = some 0 := by decide +kernel
theorem hy_X4_addSound : yX4_addSound.cls ≠ "java/lang/invoke/MethodHandle" ∧ yX4_addSound.cls ≠ "java/lang/invoke/VarHandle" ∧ (parseMethodDescriptor yX4_addSound.desc).map (fun d => d.parameters.length) = some 2 := by decide +kernel
theorem hy_X4_addNote : yX4_addNote.cls ≠ "java/lang/invoke/MethodHandle" ∧ yX4_addNote.cls ≠ "java/lang/invoke/VarHandle" ∧ (parseMethodDescriptor yX4_addNote.desc).map (fun d => d.parameters.length) = some 2 := by decide +kernel
theorem hy_X5_init : yX5_init.cls ≠ "java/lang/invoke/MethodHandle" ∧ yX5_init.cls ≠ "java/lang/invoke/VarHandle" ∧ (parseMethodDescriptor yX5_init.desc).map (fun d => d.parameters.length) = some 0 := by decide +kernel
theorem hy_X6_init : yX6_init.cls ≠ "java/lang/invoke/MethodHandle" ∧ yX6_init.cls ≠ "java/lang/invoke/VarHandle" ∧ (parseMethodDescriptor yX6_init.desc).map (fun d => d.parameters.length) = some 1 := by decide +kernel
theorem hy_X6_size : yX6_size.cls ≠ "java/lang/invoke/MethodHandle" ∧ yX6_size.cls ≠ "java/lang/invoke/VarHandle" ∧ (parseMethodDescriptor yX6_size.desc).map (fun d => d.parameters.length) = some 0 := by decide +kernel
theorem hy_X6_isFull : yX6_isFull.cls ≠ "java/lang/invoke/MethodHandle" ∧ yX6_isFull.cls ≠ "java/lang/invoke/VarHandle" ∧ (parseMethodDescriptor yX6_isFull.desc).map (fun d => d.parameters.length) = some 0 := by decide +kernel
theorem hy_X6_at : yX6_at.cls ≠ "java/lang/invoke/MethodHandle" ∧ yX6_at.cls ≠ "java/lang/invoke/VarHandle" ∧ (parseMethodDescriptor yX6_at.desc).map (fun d => d.parameters.length) = some 1 := by decide +kernel
theorem hy_X6_makeEmpty : yX6_makeEmpty.cls ≠ "java/lang/invoke/MethodHandle" ∧ yX6_makeEmpty.cls ≠ "java/lang/invoke/VarHandle" ∧ (parseMethodDescriptor yX6_makeEmpty.desc).map (fun d => d.parameters.length) = some 0 := by decide +kernel
theorem hy_X6_append : yX6_append.cls ≠ "java/lang/invoke/MethodHandle" ∧ yX6_append.cls ≠ "java/lang/invoke/VarHandle" ∧ (parseMethodDescriptor yX6_append.desc).map (fun d => d.parameters.length) = some 1 := by decide +kernel
theorem hy_X6_appendPiece : yX6_appendPiece.cls ≠ "java/lang/invoke/MethodHandle" ∧ yX6_appendPiece.cls ≠ "java/lang/invoke/VarHandle" ∧ (parseMethodDescriptor yX6_appendPiece.desc).map (fun d => d.parameters.length) = some 3 := by decide +kernel
theorem hy_X6_become : yX6_become.cls ≠ "java/lang/invoke/MethodHandle" ∧ yX6_become.cls ≠ "java/lang/invoke/VarHandle" ∧ (parseMethodDescriptor yX6_become.desc).map (fun d => d.parameters.length) = some 1 := by decide +kernel
theorem hy_X6_seek : yX6_seek.cls ≠ "java/lang/invoke/MethodHandle" ∧ yX6_seek.cls ≠ "java/lang/invoke/VarHandle" ∧ (parseMethodDescriptor yX6_seek.desc).map (fun d => d.parameters.length) = some 3 := by decide +kernel
theorem hy_X7_init : yX7_init.cls ≠ "java/lang/invoke/MethodHandle" ∧ yX7_init.cls ≠ "java/lang/invoke/VarHandle" ∧ (parseMethodDescriptor yX7_init.desc).map (fun d => d.parameters.length) = some 0 := by decide +kernel
theorem hy_X7_start : yX7_start.cls ≠ "java/lang/invoke/MethodHandle" ∧ yX7_start.cls ≠ "java/lang/invoke/VarHandle" ∧ (parseMethodDescriptor yX7_start.desc).map (fun d => d.parameters.length) = some 0 := by decide +kernel
theorem hy_X7_open : yX7_open.cls ≠ "java/lang/invoke/MethodHandle" ∧ yX7_open.cls ≠ "java/lang/invoke/VarHandle" ∧ (parseMethodDescriptor yX7_open.desc).map (fun d => d.parameters.length) = some 2 := by decide +kernel
theorem hy_X7_close : yX7_close.cls ≠ "java/lang/invoke/MethodHandle" ∧ yX7_close.cls ≠ "java/lang/invoke/VarHandle" ∧ (parseMethodDescriptor yX7_close.desc).map (fun d => d.parameters.length) = some 0 := by decide +kernel
theorem hy_X7_apply : yX7_apply.cls ≠ "java/lang/invoke/MethodHandle" ∧ yX7_apply.cls ≠ "java/lang/invoke/VarHandle" ∧ (parseMethodDescriptor yX7_apply.desc).map (fun d => d.parameters.length) = some 2 := by decide +kernel
theorem hy_X8_unfold : yX8_unfold.cls ≠ "java/lang/invoke/MethodHandle" ∧ yX8_unfold.cls ≠ "java/lang/invoke/VarHandle" ∧ (parseMethodDescriptor yX8_unfold.desc).map (fun d => d.parameters.length) = some 2 := by decide +kernel
theorem hy_X8_appendPasses : yX8_appendPasses.cls ≠ "java/lang/invoke/MethodHandle" ∧ yX8_appendPasses.cls ≠ "java/lang/invoke/VarHandle" ∧ (parseMethodDescriptor yX8_appendPasses.desc).map (fun d => d.parameters.length) = some 4 := by decide +kernel
theorem hy_X8_appendEnding : yX8_appendEnding.cls ≠ "java/lang/invoke/MethodHandle" ∧ yX8_appendEnding.cls ≠ "java/lang/invoke/VarHandle" ∧ (parseMethodDescriptor yX8_appendEnding.desc).map (fun d => d.parameters.length) = some 5 := by decide +kernel
theorem hy_X8_isEndingOf : yX8_isEndingOf.cls ≠ "java/lang/invoke/MethodHandle" ∧ yX8_isEndingOf.cls ≠ "java/lang/invoke/VarHandle" ∧ (parseMethodDescriptor yX8_isEndingOf.desc).map (fun d => d.parameters.length) = some 3 := by decide +kernel
theorem hy_X8_sounds : yX8_sounds.cls ≠ "java/lang/invoke/MethodHandle" ∧ yX8_sounds.cls ≠ "java/lang/invoke/VarHandle" ∧ (parseMethodDescriptor yX8_sounds.desc).map (fun d => d.parameters.length) = some 1 := by decide +kernel
theorem hy_X9_init : yX9_init.cls ≠ "java/lang/invoke/MethodHandle" ∧ yX9_init.cls ≠ "java/lang/invoke/VarHandle" ∧ (parseMethodDescriptor yX9_init.desc).map (fun d => d.parameters.length) = some 0 := by decide +kernel
theorem hy_X9_type : yX9_type.cls ≠ "java/lang/invoke/MethodHandle" ∧ yX9_type.cls ≠ "java/lang/invoke/VarHandle" ∧ (parseMethodDescriptor yX9_type.desc).map (fun d => d.parameters.length) = some 1 := by decide +kernel
theorem hy_X9_clear : yX9_clear.cls ≠ "java/lang/invoke/MethodHandle" ∧ yX9_clear.cls ≠ "java/lang/invoke/VarHandle" ∧ (parseMethodDescriptor yX9_clear.desc).map (fun d => d.parameters.length) = some 0 := by decide +kernel
theorem hy_X9_read : yX9_read.cls ≠ "java/lang/invoke/MethodHandle" ∧ yX9_read.cls ≠ "java/lang/invoke/VarHandle" ∧ (parseMethodDescriptor yX9_read.desc).map (fun d => d.parameters.length) = some 1 := by decide +kernel
theorem hy_X9_copy : yX9_copy.cls ≠ "java/lang/invoke/MethodHandle" ∧ yX9_copy.cls ≠ "java/lang/invoke/VarHandle" ∧ (parseMethodDescriptor yX9_copy.desc).map (fun d => d.parameters.length) = some 2 := by decide +kernel
theorem hy_X9_spread : yX9_spread.cls ≠ "java/lang/invoke/MethodHandle" ∧ yX9_spread.cls ≠ "java/lang/invoke/VarHandle" ∧ (parseMethodDescriptor yX9_spread.desc).map (fun d => d.parameters.length) = some 4 := by decide +kernel
theorem hy_X9_textOf : yX9_textOf.cls ≠ "java/lang/invoke/MethodHandle" ∧ yX9_textOf.cls ≠ "java/lang/invoke/VarHandle" ∧ (parseMethodDescriptor yX9_textOf.desc).map (fun d => d.parameters.length) = some 2 := by decide +kernel
theorem hy_X9_unfolded : yX9_unfolded.cls ≠ "java/lang/invoke/MethodHandle" ∧ yX9_unfolded.cls ≠ "java/lang/invoke/VarHandle" ∧ (parseMethodDescriptor yX9_unfolded.desc).map (fun d => d.parameters.length) = some 2 := by decide +kernel
theorem hy_X9_setMeter : yX9_setMeter.cls ≠ "java/lang/invoke/MethodHandle" ∧ yX9_setMeter.cls ≠ "java/lang/invoke/VarHandle" ∧ (parseMethodDescriptor yX9_setMeter.desc).map (fun d => d.parameters.length) = some 2 := by decide +kernel
theorem hy_X9_setSwing : yX9_setSwing.cls ≠ "java/lang/invoke/MethodHandle" ∧ yX9_setSwing.cls ≠ "java/lang/invoke/VarHandle" ∧ (parseMethodDescriptor yX9_setSwing.desc).map (fun d => d.parameters.length) = some 2 := by decide +kernel
theorem hy_X9_events : yX9_events.cls ≠ "java/lang/invoke/MethodHandle" ∧ yX9_events.cls ≠ "java/lang/invoke/VarHandle" ∧ (parseMethodDescriptor yX9_events.desc).map (fun d => d.parameters.length) = some 1 := by decide +kernel
theorem hy_X9_length : yX9_length.cls ≠ "java/lang/invoke/MethodHandle" ∧ yX9_length.cls ≠ "java/lang/invoke/VarHandle" ∧ (parseMethodDescriptor yX9_length.desc).map (fun d => d.parameters.length) = some 2 := by decide +kernel
theorem hy_X9_onset : yX9_onset.cls ≠ "java/lang/invoke/MethodHandle" ∧ yX9_onset.cls ≠ "java/lang/invoke/VarHandle" ∧ (parseMethodDescriptor yX9_onset.desc).map (fun d => d.parameters.length) = some 3 := by decide +kernel
theorem hy_X9_lasts : yX9_lasts.cls ≠ "java/lang/invoke/MethodHandle" ∧ yX9_lasts.cls ≠ "java/lang/invoke/VarHandle" ∧ (parseMethodDescriptor yX9_lasts.desc).map (fun d => d.parameters.length) = some 3 := by decide +kernel
theorem hy_X9_swung : yX9_swung.cls ≠ "java/lang/invoke/MethodHandle" ∧ yX9_swung.cls ≠ "java/lang/invoke/VarHandle" ∧ (parseMethodDescriptor yX9_swung.desc).map (fun d => d.parameters.length) = some 3 := by decide +kernel
theorem hy_X9_event : yX9_event.cls ≠ "java/lang/invoke/MethodHandle" ∧ yX9_event.cls ≠ "java/lang/invoke/VarHandle" ∧ (parseMethodDescriptor yX9_event.desc).map (fun d => d.parameters.length) = some 3 := by decide +kernel
theorem hy_X9_bars : yX9_bars.cls ≠ "java/lang/invoke/MethodHandle" ∧ yX9_bars.cls ≠ "java/lang/invoke/VarHandle" ∧ (parseMethodDescriptor yX9_bars.desc).map (fun d => d.parameters.length) = some 1 := by decide +kernel
theorem hy_X9_bar : yX9_bar.cls ≠ "java/lang/invoke/MethodHandle" ∧ yX9_bar.cls ≠ "java/lang/invoke/VarHandle" ∧ (parseMethodDescriptor yX9_bar.desc).map (fun d => d.parameters.length) = some 3 := by decide +kernel
theorem hy_X9_wrongBar : yX9_wrongBar.cls ≠ "java/lang/invoke/MethodHandle" ∧ yX9_wrongBar.cls ≠ "java/lang/invoke/VarHandle" ∧ (parseMethodDescriptor yX9_wrongBar.desc).map (fun d => d.parameters.length) = some 1 := by decide +kernel
theorem hy_X9_syncopation : yX9_syncopation.cls ≠ "java/lang/invoke/MethodHandle" ∧ yX9_syncopation.cls ≠ "java/lang/invoke/VarHandle" ∧ (parseMethodDescriptor yX9_syncopation.desc).map (fun d => d.parameters.length) = some 1 := by decide +kernel
theorem hy_X9_offGrid : yX9_offGrid.cls ≠ "java/lang/invoke/MethodHandle" ∧ yX9_offGrid.cls ≠ "java/lang/invoke/VarHandle" ∧ (parseMethodDescriptor yX9_offGrid.desc).map (fun d => d.parameters.length) = some 2 := by decide +kernel
theorem hy_X9_leastGrid : yX9_leastGrid.cls ≠ "java/lang/invoke/MethodHandle" ∧ yX9_leastGrid.cls ≠ "java/lang/invoke/VarHandle" ∧ (parseMethodDescriptor yX9_leastGrid.desc).map (fun d => d.parameters.length) = some 1 := by decide +kernel
theorem hy_X9_times : yX9_times.cls ≠ "java/lang/invoke/MethodHandle" ∧ yX9_times.cls ≠ "java/lang/invoke/VarHandle" ∧ (parseMethodDescriptor yX9_times.desc).map (fun d => d.parameters.length) = some 0 := by decide +kernel
theorem hy_X9_time : yX9_time.cls ≠ "java/lang/invoke/MethodHandle" ∧ yX9_time.cls ≠ "java/lang/invoke/VarHandle" ∧ (parseMethodDescriptor yX9_time.desc).map (fun d => d.parameters.length) = some 2 := by decide +kernel
theorem hy_X9_cycle : yX9_cycle.cls ≠ "java/lang/invoke/MethodHandle" ∧ yX9_cycle.cls ≠ "java/lang/invoke/VarHandle" ∧ (parseMethodDescriptor yX9_cycle.desc).map (fun d => d.parameters.length) = some 3 := by decide +kernel
theorem hy_X9_meets : yX9_meets.cls ≠ "java/lang/invoke/MethodHandle" ∧ yX9_meets.cls ≠ "java/lang/invoke/VarHandle" ∧ (parseMethodDescriptor yX9_meets.desc).map (fun d => d.parameters.length) = some 2 := by decide +kernel
theorem hy_X9_undo : yX9_undo.cls ≠ "java/lang/invoke/MethodHandle" ∧ yX9_undo.cls ≠ "java/lang/invoke/VarHandle" ∧ (parseMethodDescriptor yX9_undo.desc).map (fun d => d.parameters.length) = some 0 := by decide +kernel
theorem hy_X9_fingerprint : yX9_fingerprint.cls ≠ "java/lang/invoke/MethodHandle" ∧ yX9_fingerprint.cls ≠ "java/lang/invoke/VarHandle" ∧ (parseMethodDescriptor yX9_fingerprint.desc).map (fun d => d.parameters.length) = some 0 := by decide +kernel
theorem hy_X9_partAt : yX9_partAt.cls ≠ "java/lang/invoke/MethodHandle" ∧ yX9_partAt.cls ≠ "java/lang/invoke/VarHandle" ∧ (parseMethodDescriptor yX9_partAt.desc).map (fun d => d.parameters.length) = some 1 := by decide +kernel
theorem hy_X9_remember : yX9_remember.cls ≠ "java/lang/invoke/MethodHandle" ∧ yX9_remember.cls ≠ "java/lang/invoke/VarHandle" ∧ (parseMethodDescriptor yX9_remember.desc).map (fun d => d.parameters.length) = some 0 := by decide +kernel
theorem hy_X9_dropOldest : yX9_dropOldest.cls ≠ "java/lang/invoke/MethodHandle" ∧ yX9_dropOldest.cls ≠ "java/lang/invoke/VarHandle" ∧ (parseMethodDescriptor yX9_dropOldest.desc).map (fun d => d.parameters.length) = some 0 := by decide +kernel
theorem hy_X9_isMeterValue : yX9_isMeterValue.cls ≠ "java/lang/invoke/MethodHandle" ∧ yX9_isMeterValue.cls ≠ "java/lang/invoke/VarHandle" ∧ (parseMethodDescriptor yX9_isMeterValue.desc).map (fun d => d.parameters.length) = some 1 := by decide +kernel
theorem hy_X9_meterLength : yX9_meterLength.cls ≠ "java/lang/invoke/MethodHandle" ∧ yX9_meterLength.cls ≠ "java/lang/invoke/VarHandle" ∧ (parseMethodDescriptor yX9_meterLength.desc).map (fun d => d.parameters.length) = some 0 := by decide +kernel
theorem hy_X9_level : yX9_level.cls ≠ "java/lang/invoke/MethodHandle" ∧ yX9_level.cls ≠ "java/lang/invoke/VarHandle" ∧ (parseMethodDescriptor yX9_level.desc).map (fun d => d.parameters.length) = some 1 := by decide +kernel
theorem hy_X9_leastLevelBetween : yX9_leastLevelBetween.cls ≠ "java/lang/invoke/MethodHandle" ∧ yX9_leastLevelBetween.cls ≠ "java/lang/invoke/VarHandle" ∧ (parseMethodDescriptor yX9_leastLevelBetween.desc).map (fun d => d.parameters.length) = some 2 := by decide +kernel
theorem hy_X9_syncopationOf : yX9_syncopationOf.cls ≠ "java/lang/invoke/MethodHandle" ∧ yX9_syncopationOf.cls ≠ "java/lang/invoke/VarHandle" ∧ (parseMethodDescriptor yX9_syncopationOf.desc).map (fun d => d.parameters.length) = some 2 := by decide +kernel
theorem hy_X9_swing : yX9_swing.cls ≠ "java/lang/invoke/MethodHandle" ∧ yX9_swing.cls ≠ "java/lang/invoke/VarHandle" ∧ (parseMethodDescriptor yX9_swing.desc).map (fun d => d.parameters.length) = some 1 := by decide +kernel
theorem hy_X9_isSide : yX9_isSide.cls ≠ "java/lang/invoke/MethodHandle" ∧ yX9_isSide.cls ≠ "java/lang/invoke/VarHandle" ∧ (parseMethodDescriptor yX9_isSide.desc).map (fun d => d.parameters.length) = some 1 := by decide +kernel
theorem hy_X9_side : yX9_side.cls ≠ "java/lang/invoke/MethodHandle" ∧ yX9_side.cls ≠ "java/lang/invoke/VarHandle" ∧ (parseMethodDescriptor yX9_side.desc).map (fun d => d.parameters.length) = some 3 := by decide +kernel
theorem hy_X9_commonDivisor : yX9_commonDivisor.cls ≠ "java/lang/invoke/MethodHandle" ∧ yX9_commonDivisor.cls ≠ "java/lang/invoke/VarHandle" ∧ (parseMethodDescriptor yX9_commonDivisor.desc).map (fun d => d.parameters.length) = some 2 := by decide +kernel
theorem hy_X9_commonCycle : yX9_commonCycle.cls ≠ "java/lang/invoke/MethodHandle" ∧ yX9_commonCycle.cls ≠ "java/lang/invoke/VarHandle" ∧ (parseMethodDescriptor yX9_commonCycle.desc).map (fun d => d.parameters.length) = some 2 := by decide +kernel
theorem hy_X9_meetings : yX9_meetings.cls ≠ "java/lang/invoke/MethodHandle" ∧ yX9_meetings.cls ≠ "java/lang/invoke/VarHandle" ∧ (parseMethodDescriptor yX9_meetings.desc).map (fun d => d.parameters.length) = some 2 := by decide +kernel
theorem hy_X10_init : yX10_init.cls ≠ "java/lang/invoke/MethodHandle" ∧ yX10_init.cls ≠ "java/lang/invoke/VarHandle" ∧ (parseMethodDescriptor yX10_init.desc).map (fun d => d.parameters.length) = some 0 := by decide +kernel
theorem hy_X10_in : yX10_in.cls ≠ "java/lang/invoke/MethodHandle" ∧ yX10_in.cls ≠ "java/lang/invoke/VarHandle" ∧ (parseMethodDescriptor yX10_in.desc).map (fun d => d.parameters.length) = some 3 := by decide +kernel
theorem hy_X10_act : yX10_act.cls ≠ "java/lang/invoke/MethodHandle" ∧ yX10_act.cls ≠ "java/lang/invoke/VarHandle" ∧ (parseMethodDescriptor yX10_act.desc).map (fun d => d.parameters.length) = some 0 := by decide +kernel
theorem hy_X10_isPart : yX10_isPart.cls ≠ "java/lang/invoke/MethodHandle" ∧ yX10_isPart.cls ≠ "java/lang/invoke/VarHandle" ∧ (parseMethodDescriptor yX10_isPart.desc).map (fun d => d.parameters.length) = some 1 := by decide +kernel
theorem hy_X10_halvings : yX10_halvings.cls ≠ "java/lang/invoke/MethodHandle" ∧ yX10_halvings.cls ≠ "java/lang/invoke/VarHandle" ∧ (parseMethodDescriptor yX10_halvings.desc).map (fun d => d.parameters.length) = some 1 := by decide +kernel
theorem hy_X10_isDigit : yX10_isDigit.cls ≠ "java/lang/invoke/MethodHandle" ∧ yX10_isDigit.cls ≠ "java/lang/invoke/VarHandle" ∧ (parseMethodDescriptor yX10_isDigit.desc).map (fun d => d.parameters.length) = some 2 := by decide +kernel
theorem hy_X10_begins : yX10_begins.cls ≠ "java/lang/invoke/MethodHandle" ∧ yX10_begins.cls ≠ "java/lang/invoke/VarHandle" ∧ (parseMethodDescriptor yX10_begins.desc).map (fun d => d.parameters.length) = some 1 := by decide +kernel
theorem hy_X10_outside : yX10_outside.cls ≠ "java/lang/invoke/MethodHandle" ∧ yX10_outside.cls ≠ "java/lang/invoke/VarHandle" ∧ (parseMethodDescriptor yX10_outside.desc).map (fun d => d.parameters.length) = some 1 := by decide +kernel
theorem hy_X10_dotted : yX10_dotted.cls ≠ "java/lang/invoke/MethodHandle" ∧ yX10_dotted.cls ≠ "java/lang/invoke/VarHandle" ∧ (parseMethodDescriptor yX10_dotted.desc).map (fun d => d.parameters.length) = some 1 := by decide +kernel
theorem hy_X10_numbered : yX10_numbered.cls ≠ "java/lang/invoke/MethodHandle" ∧ yX10_numbered.cls ≠ "java/lang/invoke/VarHandle" ∧ (parseMethodDescriptor yX10_numbered.desc).map (fun d => d.parameters.length) = some 1 := by decide +kernel
theorem hy_X10_may : yX10_may.cls ≠ "java/lang/invoke/MethodHandle" ∧ yX10_may.cls ≠ "java/lang/invoke/VarHandle" ∧ (parseMethodDescriptor yX10_may.desc).map (fun d => d.parameters.length) = some 1 := by decide +kernel
theorem hy_X10_wrongAt : yX10_wrongAt.cls ≠ "java/lang/invoke/MethodHandle" ∧ yX10_wrongAt.cls ≠ "java/lang/invoke/VarHandle" ∧ (parseMethodDescriptor yX10_wrongAt.desc).map (fun d => d.parameters.length) = some 0 := by decide +kernel
theorem hy_X10_at : yX10_at.cls ≠ "java/lang/invoke/MethodHandle" ∧ yX10_at.cls ≠ "java/lang/invoke/VarHandle" ∧ (parseMethodDescriptor yX10_at.desc).map (fun d => d.parameters.length) = some 2 := by decide +kernel
theorem hy_X10_lays : yX10_lays.cls ≠ "java/lang/invoke/MethodHandle" ∧ yX10_lays.cls ≠ "java/lang/invoke/VarHandle" ∧ (parseMethodDescriptor yX10_lays.desc).map (fun d => d.parameters.length) = some 3 := by decide +kernel
theorem hy_X10_closing : yX10_closing.cls ≠ "java/lang/invoke/MethodHandle" ∧ yX10_closing.cls ≠ "java/lang/invoke/VarHandle" ∧ (parseMethodDescriptor yX10_closing.desc).map (fun d => d.parameters.length) = some 2 := by decide +kernel
theorem hy_X10_passes : yX10_passes.cls ≠ "java/lang/invoke/MethodHandle" ∧ yX10_passes.cls ≠ "java/lang/invoke/VarHandle" ∧ (parseMethodDescriptor yX10_passes.desc).map (fun d => d.parameters.length) = some 3 := by decide +kernel
theorem hy_X10_unfolds : yX10_unfolds.cls ≠ "java/lang/invoke/MethodHandle" ∧ yX10_unfolds.cls ≠ "java/lang/invoke/VarHandle" ∧ (parseMethodDescriptor yX10_unfolds.desc).map (fun d => d.parameters.length) = some 1 := by decide +kernel
theorem hy_X10_lengthAt : yX10_lengthAt.cls ≠ "java/lang/invoke/MethodHandle" ∧ yX10_lengthAt.cls ≠ "java/lang/invoke/VarHandle" ∧ (parseMethodDescriptor yX10_lengthAt.desc).map (fun d => d.parameters.length) = some 3 := by decide +kernel
theorem hy_X10_addsEvent : yX10_addsEvent.cls ≠ "java/lang/invoke/MethodHandle" ∧ yX10_addsEvent.cls ≠ "java/lang/invoke/VarHandle" ∧ (parseMethodDescriptor yX10_addsEvent.desc).map (fun d => d.parameters.length) = some 6 := by decide +kernel
theorem hy_X10_works : yX10_works.cls ≠ "java/lang/invoke/MethodHandle" ∧ yX10_works.cls ≠ "java/lang/invoke/VarHandle" ∧ (parseMethodDescriptor yX10_works.desc).map (fun d => d.parameters.length) = some 1 := by decide +kernel
theorem hy_X10_type : yX10_type.cls ≠ "java/lang/invoke/MethodHandle" ∧ yX10_type.cls ≠ "java/lang/invoke/VarHandle" ∧ (parseMethodDescriptor yX10_type.desc).map (fun d => d.parameters.length) = some 1 := by decide +kernel
theorem hy_X10_clear : yX10_clear.cls ≠ "java/lang/invoke/MethodHandle" ∧ yX10_clear.cls ≠ "java/lang/invoke/VarHandle" ∧ (parseMethodDescriptor yX10_clear.desc).map (fun d => d.parameters.length) = some 0 := by decide +kernel
theorem hy_X10_takes : yX10_takes.cls ≠ "java/lang/invoke/MethodHandle" ∧ yX10_takes.cls ≠ "java/lang/invoke/VarHandle" ∧ (parseMethodDescriptor yX10_takes.desc).map (fun d => d.parameters.length) = some 3 := by decide +kernel
theorem hy_X10_read : yX10_read.cls ≠ "java/lang/invoke/MethodHandle" ∧ yX10_read.cls ≠ "java/lang/invoke/VarHandle" ∧ (parseMethodDescriptor yX10_read.desc).map (fun d => d.parameters.length) = some 1 := by decide +kernel
theorem hy_X10_copy : yX10_copy.cls ≠ "java/lang/invoke/MethodHandle" ∧ yX10_copy.cls ≠ "java/lang/invoke/VarHandle" ∧ (parseMethodDescriptor yX10_copy.desc).map (fun d => d.parameters.length) = some 2 := by decide +kernel
theorem hy_X10_spread : yX10_spread.cls ≠ "java/lang/invoke/MethodHandle" ∧ yX10_spread.cls ≠ "java/lang/invoke/VarHandle" ∧ (parseMethodDescriptor yX10_spread.desc).map (fun d => d.parameters.length) = some 4 := by decide +kernel
theorem hy_X10_textOf : yX10_textOf.cls ≠ "java/lang/invoke/MethodHandle" ∧ yX10_textOf.cls ≠ "java/lang/invoke/VarHandle" ∧ (parseMethodDescriptor yX10_textOf.desc).map (fun d => d.parameters.length) = some 2 := by decide +kernel
theorem hy_X10_unfolded : yX10_unfolded.cls ≠ "java/lang/invoke/MethodHandle" ∧ yX10_unfolded.cls ≠ "java/lang/invoke/VarHandle" ∧ (parseMethodDescriptor yX10_unfolded.desc).map (fun d => d.parameters.length) = some 2 := by decide +kernel
theorem hy_X10_setMeter : yX10_setMeter.cls ≠ "java/lang/invoke/MethodHandle" ∧ yX10_setMeter.cls ≠ "java/lang/invoke/VarHandle" ∧ (parseMethodDescriptor yX10_setMeter.desc).map (fun d => d.parameters.length) = some 2 := by decide +kernel
theorem hy_X10_setSwing : yX10_setSwing.cls ≠ "java/lang/invoke/MethodHandle" ∧ yX10_setSwing.cls ≠ "java/lang/invoke/VarHandle" ∧ (parseMethodDescriptor yX10_setSwing.desc).map (fun d => d.parameters.length) = some 2 := by decide +kernel
theorem hy_X10_divisor : yX10_divisor.cls ≠ "java/lang/invoke/MethodHandle" ∧ yX10_divisor.cls ≠ "java/lang/invoke/VarHandle" ∧ (parseMethodDescriptor yX10_divisor.desc).map (fun d => d.parameters.length) = some 2 := by decide +kernel
theorem hy_X10_told : yX10_told.cls ≠ "java/lang/invoke/MethodHandle" ∧ yX10_told.cls ≠ "java/lang/invoke/VarHandle" ∧ (parseMethodDescriptor yX10_told.desc).map (fun d => d.parameters.length) = some 3 := by decide +kernel
theorem hy_X10_events : yX10_events.cls ≠ "java/lang/invoke/MethodHandle" ∧ yX10_events.cls ≠ "java/lang/invoke/VarHandle" ∧ (parseMethodDescriptor yX10_events.desc).map (fun d => d.parameters.length) = some 1 := by decide +kernel
theorem hy_X10_length : yX10_length.cls ≠ "java/lang/invoke/MethodHandle" ∧ yX10_length.cls ≠ "java/lang/invoke/VarHandle" ∧ (parseMethodDescriptor yX10_length.desc).map (fun d => d.parameters.length) = some 2 := by decide +kernel
theorem hy_X10_isEvent : yX10_isEvent.cls ≠ "java/lang/invoke/MethodHandle" ∧ yX10_isEvent.cls ≠ "java/lang/invoke/VarHandle" ∧ (parseMethodDescriptor yX10_isEvent.desc).map (fun d => d.parameters.length) = some 2 := by decide +kernel
theorem hy_X10_onset : yX10_onset.cls ≠ "java/lang/invoke/MethodHandle" ∧ yX10_onset.cls ≠ "java/lang/invoke/VarHandle" ∧ (parseMethodDescriptor yX10_onset.desc).map (fun d => d.parameters.length) = some 3 := by decide +kernel
theorem hy_X10_lasts : yX10_lasts.cls ≠ "java/lang/invoke/MethodHandle" ∧ yX10_lasts.cls ≠ "java/lang/invoke/VarHandle" ∧ (parseMethodDescriptor yX10_lasts.desc).map (fun d => d.parameters.length) = some 3 := by decide +kernel
theorem hy_X10_swungOf : yX10_swungOf.cls ≠ "java/lang/invoke/MethodHandle" ∧ yX10_swungOf.cls ≠ "java/lang/invoke/VarHandle" ∧ (parseMethodDescriptor yX10_swungOf.desc).map (fun d => d.parameters.length) = some 1 := by decide +kernel
theorem hy_X10_swung : yX10_swung.cls ≠ "java/lang/invoke/MethodHandle" ∧ yX10_swung.cls ≠ "java/lang/invoke/VarHandle" ∧ (parseMethodDescriptor yX10_swung.desc).map (fun d => d.parameters.length) = some 3 := by decide +kernel
theorem hy_X10_meter : yX10_meter.cls ≠ "java/lang/invoke/MethodHandle" ∧ yX10_meter.cls ≠ "java/lang/invoke/VarHandle" ∧ (parseMethodDescriptor yX10_meter.desc).map (fun d => d.parameters.length) = some 0 := by decide +kernel
theorem hy_X10_levelOf : yX10_levelOf.cls ≠ "java/lang/invoke/MethodHandle" ∧ yX10_levelOf.cls ≠ "java/lang/invoke/VarHandle" ∧ (parseMethodDescriptor yX10_levelOf.desc).map (fun d => d.parameters.length) = some 1 := by decide +kernel
theorem hy_X10_syncopationOf : yX10_syncopationOf.cls ≠ "java/lang/invoke/MethodHandle" ∧ yX10_syncopationOf.cls ≠ "java/lang/invoke/VarHandle" ∧ (parseMethodDescriptor yX10_syncopationOf.desc).map (fun d => d.parameters.length) = some 1 := by decide +kernel
theorem hy_X10_event : yX10_event.cls ≠ "java/lang/invoke/MethodHandle" ∧ yX10_event.cls ≠ "java/lang/invoke/VarHandle" ∧ (parseMethodDescriptor yX10_event.desc).map (fun d => d.parameters.length) = some 3 := by decide +kernel
theorem hy_X10_bars : yX10_bars.cls ≠ "java/lang/invoke/MethodHandle" ∧ yX10_bars.cls ≠ "java/lang/invoke/VarHandle" ∧ (parseMethodDescriptor yX10_bars.desc).map (fun d => d.parameters.length) = some 1 := by decide +kernel
theorem hy_X10_bar : yX10_bar.cls ≠ "java/lang/invoke/MethodHandle" ∧ yX10_bar.cls ≠ "java/lang/invoke/VarHandle" ∧ (parseMethodDescriptor yX10_bar.desc).map (fun d => d.parameters.length) = some 3 := by decide +kernel
theorem hy_X10_wrongBar : yX10_wrongBar.cls ≠ "java/lang/invoke/MethodHandle" ∧ yX10_wrongBar.cls ≠ "java/lang/invoke/VarHandle" ∧ (parseMethodDescriptor yX10_wrongBar.desc).map (fun d => d.parameters.length) = some 1 := by decide +kernel
theorem hy_X10_syncopation : yX10_syncopation.cls ≠ "java/lang/invoke/MethodHandle" ∧ yX10_syncopation.cls ≠ "java/lang/invoke/VarHandle" ∧ (parseMethodDescriptor yX10_syncopation.desc).map (fun d => d.parameters.length) = some 1 := by decide +kernel
theorem hy_X10_offGrid : yX10_offGrid.cls ≠ "java/lang/invoke/MethodHandle" ∧ yX10_offGrid.cls ≠ "java/lang/invoke/VarHandle" ∧ (parseMethodDescriptor yX10_offGrid.desc).map (fun d => d.parameters.length) = some 2 := by decide +kernel
theorem hy_X10_leastGrid : yX10_leastGrid.cls ≠ "java/lang/invoke/MethodHandle" ∧ yX10_leastGrid.cls ≠ "java/lang/invoke/VarHandle" ∧ (parseMethodDescriptor yX10_leastGrid.desc).map (fun d => d.parameters.length) = some 1 := by decide +kernel
theorem hy_X10_startsAll : yX10_startsAll.cls ≠ "java/lang/invoke/MethodHandle" ∧ yX10_startsAll.cls ≠ "java/lang/invoke/VarHandle" ∧ (parseMethodDescriptor yX10_startsAll.desc).map (fun d => d.parameters.length) = some 0 := by decide +kernel
theorem hy_X10_nextTime : yX10_nextTime.cls ≠ "java/lang/invoke/MethodHandle" ∧ yX10_nextTime.cls ≠ "java/lang/invoke/VarHandle" ∧ (parseMethodDescriptor yX10_nextTime.desc).map (fun d => d.parameters.length) = some 0 := by decide +kernel
theorem hy_X10_times : yX10_times.cls ≠ "java/lang/invoke/MethodHandle" ∧ yX10_times.cls ≠ "java/lang/invoke/VarHandle" ∧ (parseMethodDescriptor yX10_times.desc).map (fun d => d.parameters.length) = some 0 := by decide +kernel
theorem hy_X10_time : yX10_time.cls ≠ "java/lang/invoke/MethodHandle" ∧ yX10_time.cls ≠ "java/lang/invoke/VarHandle" ∧ (parseMethodDescriptor yX10_time.desc).map (fun d => d.parameters.length) = some 2 := by decide +kernel
theorem hy_X10_cycleOf : yX10_cycleOf.cls ≠ "java/lang/invoke/MethodHandle" ∧ yX10_cycleOf.cls ≠ "java/lang/invoke/VarHandle" ∧ (parseMethodDescriptor yX10_cycleOf.desc).map (fun d => d.parameters.length) = some 2 := by decide +kernel
theorem hy_X10_cycle : yX10_cycle.cls ≠ "java/lang/invoke/MethodHandle" ∧ yX10_cycle.cls ≠ "java/lang/invoke/VarHandle" ∧ (parseMethodDescriptor yX10_cycle.desc).map (fun d => d.parameters.length) = some 3 := by decide +kernel
theorem hy_X10_meets : yX10_meets.cls ≠ "java/lang/invoke/MethodHandle" ∧ yX10_meets.cls ≠ "java/lang/invoke/VarHandle" ∧ (parseMethodDescriptor yX10_meets.desc).map (fun d => d.parameters.length) = some 2 := by decide +kernel
theorem hy_X10_undo : yX10_undo.cls ≠ "java/lang/invoke/MethodHandle" ∧ yX10_undo.cls ≠ "java/lang/invoke/VarHandle" ∧ (parseMethodDescriptor yX10_undo.desc).map (fun d => d.parameters.length) = some 0 := by decide +kernel
theorem hy_X10_fingerprint : yX10_fingerprint.cls ≠ "java/lang/invoke/MethodHandle" ∧ yX10_fingerprint.cls ≠ "java/lang/invoke/VarHandle" ∧ (parseMethodDescriptor yX10_fingerprint.desc).map (fun d => d.parameters.length) = some 0 := by decide +kernel
theorem tw_538 : Cond.constantLong "RhythmBench$Score" 97 812851200 ∈ am_tb := am_tb_in (List.mem_of_getElem? (i := 538) (by decide +kernel)) (by decide +kernel)
theorem kl_X4_97 : Cond.constantLong RX4 97 (Int64.ofInt (812851200)) ∈ am_tb := tw_538
theorem tw_541 : Cond.constantLong "RhythmBench$Score" 102 4 ∈ am_tb := am_tb_in (List.mem_of_getElem? (i := 541) (by decide +kernel)) (by decide +kernel)
theorem kl_X4_102 : Cond.constantLong RX4 102 (Int64.ofInt (4)) ∈ am_tb := tw_541
theorem tw_603 : Cond.constantLong "RhythmBench" 131 (-1) ∈ am_tb := am_tb_in (List.mem_of_getElem? (i := 603) (by decide +kernel)) (by decide +kernel)
theorem kl_X9_131 : Cond.constantLong RX9 131 (Int64.ofInt (-1)) ∈ am_tb := tw_603
theorem tw_608 : Cond.constantLong "RhythmBench" 137 812851200 ∈ am_tb := am_tb_in (List.mem_of_getElem? (i := 608) (by decide +kernel)) (by decide +kernel)
theorem kl_X9_137 : Cond.constantLong RX9 137 (Int64.ofInt (812851200)) ∈ am_tb := tw_608
theorem tw_640 : Cond.constantLong "RhythmBench" 243 203212800 ∈ am_tb := am_tb_in (List.mem_of_getElem? (i := 640) (by decide +kernel)) (by decide +kernel)
theorem kl_X9_243 : Cond.constantLong RX9 243 (Int64.ofInt (203212800)) ∈ am_tb := tw_640
theorem tw_641 : Cond.constantLong "RhythmBench" 245 101606400 ∈ am_tb := am_tb_in (List.mem_of_getElem? (i := 641) (by decide +kernel)) (by decide +kernel)
theorem kl_X9_245 : Cond.constantLong RX9 245 (Int64.ofInt (101606400)) ∈ am_tb := tw_641
theorem tw_642 : Cond.constantLong "RhythmBench" 247 2 ∈ am_tb := am_tb_in (List.mem_of_getElem? (i := 642) (by decide +kernel)) (by decide +kernel)
theorem kl_X9_247 : Cond.constantLong RX9 247 (Int64.ofInt (2)) ∈ am_tb := tw_642
theorem tw_709 : Cond.constantLong "RhythmBench" 190 10000 ∈ am_tb := am_tb_in (List.mem_of_getElem? (i := 709) (by decide +kernel)) (by decide +kernel)
theorem kl_X9_190 : Cond.constantLong RX9 190 (Int64.ofInt (10000)) ∈ am_tb := tw_709
theorem tw_747 : Cond.constantLong "RhythmBench" 249 (-2) ∈ am_tb := am_tb_in (List.mem_of_getElem? (i := 747) (by decide +kernel)) (by decide +kernel)
theorem kl_X9_249 : Cond.constantLong RX9 249 (Int64.ofInt (-2)) ∈ am_tb := tw_747
theorem tw_748 : Cond.constantLong "RhythmBench" 251 812851200000 ∈ am_tb := am_tb_in (List.mem_of_getElem? (i := 748) (by decide +kernel)) (by decide +kernel)
theorem kl_X9_251 : Cond.constantLong RX9 251 (Int64.ofInt (812851200000)) ∈ am_tb := tw_748
theorem tw_749 : Cond.constantLong "RhythmBench" 253 (-3) ∈ am_tb := am_tb_in (List.mem_of_getElem? (i := 749) (by decide +kernel)) (by decide +kernel)
theorem kl_X9_253 : Cond.constantLong RX9 253 (Int64.ofInt (-3)) ∈ am_tb := tw_749
theorem tw_765 : Cond.constantLong "RhythmBench" 223 71 ∈ am_tb := am_tb_in (List.mem_of_getElem? (i := 765) (by decide +kernel)) (by decide +kernel)
theorem kl_X9_223 : Cond.constantLong RX9 223 (Int64.ofInt (71)) ∈ am_tb := tw_765
theorem tw_766 : Cond.constantLong "RhythmBench" 225 31 ∈ am_tb := am_tb_in (List.mem_of_getElem? (i := 766) (by decide +kernel)) (by decide +kernel)
theorem kl_X9_225 : Cond.constantLong RX9 225 (Int64.ofInt (31)) ∈ am_tb := tw_766
theorem tw_941 : Cond.constantLong "RhythmBenchModel" 138 812851200 ∈ am_tb := am_tb_in (List.mem_of_getElem? (i := 941) (by decide +kernel)) (by decide +kernel)
theorem kl_X10_138 : Cond.constantLong RX10 138 (Int64.ofInt (812851200)) ∈ am_tb := tw_941
theorem tw_942 : Cond.constantLong "RhythmBenchModel" 140 3 ∈ am_tb := am_tb_in (List.mem_of_getElem? (i := 942) (by decide +kernel)) (by decide +kernel)
theorem kl_X10_140 : Cond.constantLong RX10 140 (Int64.ofInt (3)) ∈ am_tb := tw_942
theorem tw_943 : Cond.constantLong "RhythmBenchModel" 142 2 ∈ am_tb := am_tb_in (List.mem_of_getElem? (i := 943) (by decide +kernel)) (by decide +kernel)
theorem kl_X10_142 : Cond.constantLong RX10 142 (Int64.ofInt (2)) ∈ am_tb := tw_943
theorem tw_944 : Cond.constantLong "RhythmBenchModel" 144 7 ∈ am_tb := am_tb_in (List.mem_of_getElem? (i := 944) (by decide +kernel)) (by decide +kernel)
theorem kl_X10_144 : Cond.constantLong RX10 144 (Int64.ofInt (7)) ∈ am_tb := tw_944
theorem tw_945 : Cond.constantLong "RhythmBenchModel" 146 4 ∈ am_tb := am_tb_in (List.mem_of_getElem? (i := 945) (by decide +kernel)) (by decide +kernel)
theorem kl_X10_146 : Cond.constantLong RX10 146 (Int64.ofInt (4)) ∈ am_tb := tw_945
theorem tw_986 : Cond.constantLong "RhythmBenchModel" 184 (-1) ∈ am_tb := am_tb_in (List.mem_of_getElem? (i := 986) (by decide +kernel)) (by decide +kernel)
theorem kl_X10_184 : Cond.constantLong RX10 184 (Int64.ofInt (-1)) ∈ am_tb := tw_986
theorem tw_1013 : Cond.constantLong "RhythmBenchModel" 193 203212800 ∈ am_tb := am_tb_in (List.mem_of_getElem? (i := 1013) (by decide +kernel)) (by decide +kernel)
theorem kl_X10_193 : Cond.constantLong RX10 193 (Int64.ofInt (203212800)) ∈ am_tb := tw_1013
theorem tw_1014 : Cond.constantLong "RhythmBenchModel" 195 101606400 ∈ am_tb := am_tb_in (List.mem_of_getElem? (i := 1014) (by decide +kernel)) (by decide +kernel)
theorem kl_X10_195 : Cond.constantLong RX10 195 (Int64.ofInt (101606400)) ∈ am_tb := tw_1014
theorem tw_1055 : Cond.constantLong "RhythmBenchModel" 212 10000 ∈ am_tb := am_tb_in (List.mem_of_getElem? (i := 1055) (by decide +kernel)) (by decide +kernel)
theorem kl_X10_212 : Cond.constantLong RX10 212 (Int64.ofInt (10000)) ∈ am_tb := tw_1055
theorem tw_1080 : Cond.constantLong "RhythmBenchModel" 223 (-2) ∈ am_tb := am_tb_in (List.mem_of_getElem? (i := 1080) (by decide +kernel)) (by decide +kernel)
theorem kl_X10_223 : Cond.constantLong RX10 223 (Int64.ofInt (-2)) ∈ am_tb := tw_1080
theorem tw_1081 : Cond.constantLong "RhythmBenchModel" 225 812851200000 ∈ am_tb := am_tb_in (List.mem_of_getElem? (i := 1081) (by decide +kernel)) (by decide +kernel)
theorem kl_X10_225 : Cond.constantLong RX10 225 (Int64.ofInt (812851200000)) ∈ am_tb := tw_1081
theorem tw_1082 : Cond.constantLong "RhythmBenchModel" 227 (-3) ∈ am_tb := am_tb_in (List.mem_of_getElem? (i := 1082) (by decide +kernel)) (by decide +kernel)
theorem kl_X10_227 : Cond.constantLong RX10 227 (Int64.ofInt (-3)) ∈ am_tb := tw_1082
theorem tw_1095 : Cond.constantLong "RhythmBenchModel" 233 71 ∈ am_tb := am_tb_in (List.mem_of_getElem? (i := 1095) (by decide +kernel)) (by decide +kernel)
theorem kl_X10_233 : Cond.constantLong RX10 233 (Int64.ofInt (71)) ∈ am_tb := tw_1095
theorem tw_1096 : Cond.constantLong "RhythmBenchModel" 235 31 ∈ am_tb := am_tb_in (List.mem_of_getElem? (i := 1096) (by decide +kernel)) (by decide +kernel)
theorem kl_X10_235 : Cond.constantLong RX10 235 (Int64.ofInt (31)) ∈ am_tb := tw_1096
theorem tw_91 : Cond.arrayClass FieldType.char ∈ am_tb := am_tb_in (List.mem_of_getElem? (i := 91) (by decide +kernel)) (by decide +kernel)
theorem ac_char : Cond.arrayClass .char ∈ am_tb := tw_91
theorem tw_149 : Cond.arrayClass FieldType.int ∈ am_tb := am_tb_in (List.mem_of_getElem? (i := 149) (by decide +kernel)) (by decide +kernel)
theorem ac_int : Cond.arrayClass .int ∈ am_tb := tw_149
theorem tw_148 : Cond.arrayClass FieldType.long ∈ am_tb := am_tb_in (List.mem_of_getElem? (i := 148) (by decide +kernel)) (by decide +kernel)
theorem ac_long : Cond.arrayClass .long ∈ am_tb := tw_148
theorem tw_150 : Cond.arrayClass FieldType.boolean ∈ am_tb := am_tb_in (List.mem_of_getElem? (i := 150) (by decide +kernel)) (by decide +kernel)
theorem ac_boolean : Cond.arrayClass .boolean ∈ am_tb := tw_150
theorem tw_562 : Cond.arrayClass FieldType.byte ∈ am_tb := am_tb_in (List.mem_of_getElem? (i := 562) (by decide +kernel)) (by decide +kernel)
theorem ac_byte : Cond.arrayClass .byte ∈ am_tb := tw_562
