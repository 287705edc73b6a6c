/-! the JDK's methods behind String.indexOf of the one constant "whqest" -/
def jq (r : Int32) : Array Value → State → Outcome → State → Prop := fun _ st oc t => oc = .returned (some (.int r)) ∧ t.heap = st.heap
def jby (j : Nat) : Value := .int (([119, 104, 113, 101, 115, 116] : List Int32).getD j 0)
def js (A : Nat → Prop) (aK aV : Nat) (U : State) (H : Heap) : Prop := va_O "java/lang/String" aK A U H ∧ va_OF "java/lang/String" "coder" "B" (.int 0) aK A U H ∧ va_OF "java/lang/String" "value" "[B" (.ref aV) aK A U H ∧ va_T .byte aV 6 jby A U H ∧ va_Z "java/lang/String" "COMPACT_STRINGS" "Z" (.int 1) A U H
theorem js.moved {A : Nat → Prop} {aK aV : Nat} {u U : State} {H : Heap} (hvm : u.vm.Alike U.vm) (h : js A aK aV u H) : js A aK aV U H := ⟨h.1.moved hvm, h.2.1.moved hvm, h.2.2.1.moved hvm, h.2.2.2.1.moved hvm, h.2.2.2.2.moved hvm⟩
theorem js.kept {A : Nat → Prop} {aK aV : Nat} {U : State} {H H1 : Heap} (h : js A aK aV U H) (hq : ∀ a : Nat, a < H.size → ¬ A a → H1[a]? = H[a]?) : js A aK aV U H1 := ⟨h.1.kept hq, h.2.1.kept hq, h.2.2.1.kept hq, h.2.2.2.1.kept hq, h.2.2.2.2.kept hq⟩
def jp (bs aK aV : Nat) (U : State) : Prop := js (am_A bs) aK aV U U.heap
theorem jp_blind {bs aK aV : Nat} {av : List Value} : FrameBlind (va_Pc av (jp bs aK aV)) := by
  intro a U g mk h
  obtain ⟨h0, h1⟩ := h
  exact ⟨h0, js.moved (u := U) (U := U.calling g mk a) (Vm.Alike.refl U.vm) h1⟩
section
variable {p : Program} {l : Launch} {e : Env} {R : Room} {s : State} {m : MethodId} {args : Array Value} {below : List Frame} {meth : Method} {c : Code} {H : Heap} {locs : List Loc} {cells slots : Nat} {Qq : State → Prop}
theorem j_run {bs : Nat} {r : Int32} {pc : Nat} {ls : Array Slot} {st0 rest : List Value} {a : Array Value} (hr : va_Run p l e R s m args below meth c H locs cells slots 0 0 (F0 m pc ls st0) rest (jq r a) (am_A bs)) (hS : va_S (am_A bs) s.heap H locs)
    (kk : ∀ (locs1 : List Loc), va_S (am_A bs) s.heap H locs1 → W p l e R s m args below meth c H locs1 cells slots Qq (F0 m (pc + 3) ls (.int r :: rest))) : W p l e R s m args below meth c H locs cells slots Qq (F0 m pc ls st0) := by
  intro T hT X
  obtain ⟨v, st₀, t, T', L, h0, X', hL, e1, e2, ⟨hv, hh⟩, st⟩ := hr T hT X
  cases hv
  have hT' : T'.heap = H := by rw [e1, hh, h0]
  obtain ⟨t2, a1, b1⟩ := kk (locs ++ L) ⟨hS.1, hS.2.1, fun q hq => by
      rcases List.mem_append.mp hq with h | h
      · exact hS.2.2 q h
      · exact hL q h⟩ T' hT' X'
  exact ⟨t2, st t2 a1, b1⟩
end
theorem j_b {ch : Int} (h : 32 ≤ ch ∧ ch ≤ 126) : (Int32.ofInt ch).toInt8.toInt32 = Int32.ofInt ch := by
  apply Int32.toInt_inj.mp
  rw [Int8.toInt_toInt32, Int32.toInt_toInt8, am_to3 (by omega)]
  simp [Int.bmod]
  omega
def hv (c : Int) : Int := if c = 119 then 0 else if c = 104 then 1 else if c = 113 then 2 else if c = 101 then 3 else if c = 115 then 4 else if c = 116 then 5 else -1
def dg (c : Int) : Int := if 48 ≤ c ∧ c ≤ 57 then c - 48 else -1
theorem va_O.recv {bs a : Nat} {s : State} {H : Heap} {locs : List Loc} (h : va_O "java/lang/String" a (am_A bs) s s.heap) (hS : va_S (am_A bs) s.heap H locs) : ∃ cell : Cell, H[a]? = some cell ∧ cell.vm.isStatics = false ∧ s.vm.findClass "java/lang/String" = some cell.cls := by
  obtain ⟨cell, h1, h2, h3, -⟩ := h.kept hS.2.1
  exact ⟨cell, h1, h2, h3⟩
theorem j_ch1 {ch : Int} (h : 32 ≤ ch ∧ ch ≤ 126) : ¬ Int32.ofInt ch < 0 := fun q => by
  have := (am_lt3 (a := ch) (b := 0) (by omega)).mp q
  omega
theorem j_ch2 {ch : Int} (h : 32 ≤ ch ∧ ch ≤ 126) : ¬ (255 : Int32) < Int32.ofInt ch := fun q => by
  have := (am_lt3 (a := 255) (b := ch) (by omega)).mp q
  omega
section
variable {p : Program} {l : Launch} {e : Env} {R : Room} {s : State} {m : MethodId} {args : Array Value} {below : List Frame} {meth : Method} {c : Code} {H : Heap} {locs : List Loc} {cells slots : Nat} {Q : State → Prop}
theorem j_len {bs t pc : Nat} {cc : ByteArray} {ls : Array Slot} {rest : List Value} {f : Nat → Value} (hexec : p.tables.exec = Jvm.exec) (hb : c.code = cc) (hT : va_T .byte t 6 f (am_A bs) s s.heap) (hS : va_S (am_A bs) s.heap H locs) (hdg : decode cc pc = .ok (.arraylength, 1)) (kk : W p l e R s m args below meth c H locs cells slots Q (F0 m (pc + 1) ls (.int 6 :: rest))) : W p l e R s m args below meth c H locs cells slots Q (F0 m pc ls (.ref t :: rest)) := by
  obtain ⟨cell, h1, h2, h3, h4, h5, -⟩ := hT.kept hS.2.1
  exact W.alen (n := 6) hexec hb h1 h2 h5 rfl rfl hdg kk
end
theorem tx_360 : Cond.fieldLink "java/lang/String" 38 "java/lang/String" "COMPACT_STRINGS" "Z" ∈ am_tb := am_tb_in (List.mem_of_getElem? (i := 360) (by decide +kernel)) (by decide +kernel)
theorem tx_1097 : Cond.fieldLink "java/lang/String" 15 "java/lang/String" "coder" "B" ∈ am_tb := am_tb_in (List.mem_of_getElem? (i := 1097) (by decide +kernel)) (by decide +kernel)
theorem tx_1098 : Cond.fieldLink "java/lang/String" 9 "java/lang/String" "value" "[B" ∈ am_tb := am_tb_in (List.mem_of_getElem? (i := 1098) (by decide +kernel)) (by decide +kernel)
theorem tx_366 : Cond.methodLink "java/lang/String" 335 ⟨"java/lang/String","coder","()B"⟩ ∈ am_tb := am_tb_in (List.mem_of_getElem? (i := 366) (by decide +kernel)) (by decide +kernel)
theorem tx_61 : Cond.initialized "java/lang/String" ∈ am_tb := am_tb_in (List.mem_of_getElem? (i := 61) (by decide +kernel)) (by decide +kernel)
theorem tx_369 : Cond.code ⟨"java/lang/String","coder","()B"⟩ prog_15_method_152_code 1 (Option.some FieldType.byte) ∈ am_tb := am_tb_in (List.mem_of_getElem? (i := 369) (by decide +kernel)) (by decide +kernel)
theorem tx_367 : Cond.instanceMethod ⟨"java/lang/String","coder","()B"⟩ ∈ am_tb := am_tb_in (List.mem_of_getElem? (i := 367) (by decide +kernel)) (by decide +kernel)
theorem tx_368 : Cond.selects "java/lang/String" ⟨"java/lang/String","coder","()B"⟩ ⟨"java/lang/String","coder","()B"⟩ ∈ am_tb := am_tb_in (List.mem_of_getElem? (i := 368) (by decide +kernel)) (by decide +kernel)
theorem tx_373 : Cond.methodLink "java/lang/StringLatin1" 88 ⟨"java/lang/StringLatin1","canEncode","(I)Z"⟩ ∈ am_tb := am_tb_in (List.mem_of_getElem? (i := 373) (by decide +kernel)) (by decide +kernel)
theorem tx_62 : Cond.initialized "java/lang/StringLatin1" ∈ am_tb := am_tb_in (List.mem_of_getElem? (i := 62) (by decide +kernel)) (by decide +kernel)
theorem tx_375 : Cond.code ⟨"java/lang/StringLatin1","canEncode","(I)Z"⟩ prog_16_method_4_code 1 (Option.some FieldType.boolean) ∈ am_tb := am_tb_in (List.mem_of_getElem? (i := 375) (by decide +kernel)) (by decide +kernel)
theorem tx_374 : Cond.static ⟨"java/lang/StringLatin1","canEncode","(I)Z"⟩ ∈ am_tb := am_tb_in (List.mem_of_getElem? (i := 374) (by decide +kernel)) (by decide +kernel)
theorem tx_376 : Cond.methodLink "java/lang/StringLatin1" 92 ⟨"java/lang/Math","max","(II)I"⟩ ∈ am_tb := am_tb_in (List.mem_of_getElem? (i := 376) (by decide +kernel)) (by decide +kernel)
theorem tx_82 : Cond.static ⟨"java/lang/Math","max","(II)I"⟩ ∈ am_tb := am_tb_in (List.mem_of_getElem? (i := 82) (by decide +kernel)) (by decide +kernel)
theorem tx_52 : Cond.initialized "java/lang/Math" ∈ am_tb := am_tb_in (List.mem_of_getElem? (i := 52) (by decide +kernel)) (by decide +kernel)
theorem tx_83 : Cond.code ⟨"java/lang/Math","max","(II)I"⟩ prog_14_method_65_code 2 (Option.some FieldType.int) ∈ am_tb := am_tb_in (List.mem_of_getElem? (i := 83) (by decide +kernel)) (by decide +kernel)
theorem tx_377 : Cond.methodLink "java/lang/StringLatin1" 38 ⟨"java/lang/Math","min","(II)I"⟩ ∈ am_tb := am_tb_in (List.mem_of_getElem? (i := 377) (by decide +kernel)) (by decide +kernel)
theorem tx_378 : Cond.static ⟨"java/lang/Math","min","(II)I"⟩ ∈ am_tb := am_tb_in (List.mem_of_getElem? (i := 378) (by decide +kernel)) (by decide +kernel)
theorem tx_379 : Cond.code ⟨"java/lang/Math","min","(II)I"⟩ prog_14_method_69_code 2 (Option.some FieldType.int) ∈ am_tb := am_tb_in (List.mem_of_getElem? (i := 379) (by decide +kernel)) (by decide +kernel)
theorem tx_380 : Cond.methodLink "java/lang/StringLatin1" 95 ⟨"java/lang/StringLatin1","indexOfChar","([BIII)I"⟩ ∈ am_tb := am_tb_in (List.mem_of_getElem? (i := 380) (by decide +kernel)) (by decide +kernel)
theorem tx_382 : Cond.code ⟨"java/lang/StringLatin1","indexOfChar","([BIII)I"⟩ prog_16_method_23_code 6 (Option.some FieldType.int) ∈ am_tb := am_tb_in (List.mem_of_getElem? (i := 382) (by decide +kernel)) (by decide +kernel)
theorem tx_381 : Cond.static ⟨"java/lang/StringLatin1","indexOfChar","([BIII)I"⟩ ∈ am_tb := am_tb_in (List.mem_of_getElem? (i := 381) (by decide +kernel)) (by decide +kernel)
theorem tx_356 : Cond.methodLink "java/lang/String" 492 ⟨"java/lang/String","isLatin1","()Z"⟩ ∈ am_tb := am_tb_in (List.mem_of_getElem? (i := 356) (by decide +kernel)) (by decide +kernel)
theorem tx_359 : Cond.code ⟨"java/lang/String","isLatin1","()Z"⟩ prog_15_method_154_code 1 (Option.some FieldType.boolean) ∈ am_tb := am_tb_in (List.mem_of_getElem? (i := 359) (by decide +kernel)) (by decide +kernel)
theorem tx_357 : Cond.instanceMethod ⟨"java/lang/String","isLatin1","()Z"⟩ ∈ am_tb := am_tb_in (List.mem_of_getElem? (i := 357) (by decide +kernel)) (by decide +kernel)
theorem tx_358 : Cond.selects "java/lang/String" ⟨"java/lang/String","isLatin1","()Z"⟩ ⟨"java/lang/String","isLatin1","()Z"⟩ ∈ am_tb := am_tb_in (List.mem_of_getElem? (i := 358) (by decide +kernel)) (by decide +kernel)
theorem tx_362 : Cond.methodLink "java/lang/String" 505 ⟨"java/lang/String","length","()I"⟩ ∈ am_tb := am_tb_in (List.mem_of_getElem? (i := 362) (by decide +kernel)) (by decide +kernel)
theorem tx_365 : Cond.code ⟨"java/lang/String","length","()I"⟩ prog_15_method_54_code 1 (Option.some FieldType.int) ∈ am_tb := am_tb_in (List.mem_of_getElem? (i := 365) (by decide +kernel)) (by decide +kernel)
theorem tx_363 : Cond.instanceMethod ⟨"java/lang/String","length","()I"⟩ ∈ am_tb := am_tb_in (List.mem_of_getElem? (i := 363) (by decide +kernel)) (by decide +kernel)
theorem tx_364 : Cond.selects "java/lang/String" ⟨"java/lang/String","length","()I"⟩ ⟨"java/lang/String","length","()I"⟩ ∈ am_tb := am_tb_in (List.mem_of_getElem? (i := 364) (by decide +kernel)) (by decide +kernel)
theorem tx_370 : Cond.methodLink "java/lang/String" 637 ⟨"java/lang/StringLatin1","indexOf","([BIII)I"⟩ ∈ am_tb := am_tb_in (List.mem_of_getElem? (i := 370) (by decide +kernel)) (by decide +kernel)
theorem tx_372 : Cond.code ⟨"java/lang/StringLatin1","indexOf","([BIII)I"⟩ prog_16_method_22_code 4 (Option.some FieldType.int) ∈ am_tb := am_tb_in (List.mem_of_getElem? (i := 372) (by decide +kernel)) (by decide +kernel)
theorem tx_371 : Cond.static ⟨"java/lang/StringLatin1","indexOf","([BIII)I"⟩ ∈ am_tb := am_tb_in (List.mem_of_getElem? (i := 371) (by decide +kernel)) (by decide +kernel)
theorem tx_352 : Cond.methodLink "java/lang/String" 633 ⟨"java/lang/String","indexOf","(II)I"⟩ ∈ am_tb := am_tb_in (List.mem_of_getElem? (i := 352) (by decide +kernel)) (by decide +kernel)
theorem tx_355 : Cond.code ⟨"java/lang/String","indexOf","(II)I"⟩ prog_15_method_80_code 3 (Option.some FieldType.int) ∈ am_tb := am_tb_in (List.mem_of_getElem? (i := 355) (by decide +kernel)) (by decide +kernel)
theorem tx_353 : Cond.instanceMethod ⟨"java/lang/String","indexOf","(II)I"⟩ ∈ am_tb := am_tb_in (List.mem_of_getElem? (i := 353) (by decide +kernel)) (by decide +kernel)
theorem tx_354 : Cond.selects "java/lang/String" ⟨"java/lang/String","indexOf","(II)I"⟩ ⟨"java/lang/String","indexOf","(II)I"⟩ ∈ am_tb := am_tb_in (List.mem_of_getElem? (i := 354) (by decide +kernel)) (by decide +kernel)
set_option maxHeartbeats 4000000 in
set_option maxRecDepth 100000 in
theorem jc_J0_coder_7d493 (l : Launch) (bs aK aV : Nat) : Met l yJ0_coder_7d493 (Cond.code yJ0_coder_7d493 cJ0_coder_7d493 1 (some .byte) :: am_tb) (am_rm 0 0 0 0) (va_Pc [.ref aK] (jp bs aK aV)) (jq 0) 0 0 (am_A bs) := by
  refine Met.ofW (cc := cJ0_coder_7d493) (maxL := 1) (ret := (some .byte)) (by decide) rfl ?_
  intro p e s m args below meth c s₁ B hml hv
  obtain ⟨rfl, hj⟩ := hv
  have hj : js (am_A bs) aK aV s s.heap := hj
  have hx := B.exec
  have hb := B.bytes
  have hr := B.returns
  have hts : ∀ w ∈ am_tb, w.before [.ref aK].toArray s = true := fun w hw => atoms_spec (ws := Cond.code yJ0_coder_7d493 cJ0_coder_7d493 1 (some .byte) :: am_tb) B.pre w (List.mem_cons_of_mem _ hw)
  have hown : s.vm.findClass RJ0 = some m.cls := findClass_of_methodNamed B.named
  have hlocks := B.notSynchronized
  have hS : va_S (am_A bs) s.heap s.heap [] := va_S.rf
  have hl := lv_entry ([.ref aK]) (n := 1) (Nat.le_of_ble_eq_true rfl)
  rw [lg_entry_eq]
  generalize (lg_sl ([.ref aK]) ++ List.replicate (1 - (lg_sl ([.ref aK])).length) Slot.unset).toArray = ls at hl ⊢
  have hl : lv_has ls 1 [(0, .ref aK)] := hl
  refine va_gets hx hb hj.2.2.2.2 hS hown (hts _ tx_360) (fun _ h => h) dJ0_coder_7d493_0 ?_
  refine lv_if_eq (tgt := 13) hx hb dJ0_coder_7d493_3 (by decide) (fun q => absurd q (by decide)) (fun _ => ?_)
  refine lv_aload_n hx hb dJ0_coder_7d493_6 rfl (lv_at hl 0 rfl) ?_
  refine vk_getf hx hb hj.2.1 hS hown (hts _ tx_1097) (fun _ h => h) dJ0_coder_7d493_7 ?_
  refine lv_goto (tgt := 14) hx hb dJ0_coder_7d493_10 (by decide) ?_
  exact W.zret hx hb hr (by decide) (fun t ht hW => ⟨rfl, ht⟩) hS.2.2 dJ0_coder_7d493_14
set_option maxHeartbeats 4000000 in
set_option maxRecDepth 100000 in
theorem jc_J0_isLatin1_aae02 (l : Launch) (bs aK aV : Nat) : Met l yJ0_isLatin1_aae02 (Cond.code yJ0_isLatin1_aae02 cJ0_isLatin1_aae02 1 (some .boolean) :: am_tb) (am_rm 0 0 0 0) (va_Pc [.ref aK] (jp bs aK aV)) (jq 1) 0 0 (am_A bs) := by
  refine Met.ofW (cc := cJ0_isLatin1_aae02) (maxL := 1) (ret := (some .boolean)) (by decide) rfl ?_
  intro p e s m args below meth c s₁ B hml hv
  obtain ⟨rfl, hj⟩ := hv
  have hj : js (am_A bs) aK aV s s.heap := hj
  have hx := B.exec
  have hb := B.bytes
  have hr := B.returns
  have hts : ∀ w ∈ am_tb, w.before [.ref aK].toArray s = true := fun w hw => atoms_spec (ws := Cond.code yJ0_isLatin1_aae02 cJ0_isLatin1_aae02 1 (some .boolean) :: am_tb) B.pre w (List.mem_cons_of_mem _ hw)
  have hown : s.vm.findClass RJ0 = some m.cls := findClass_of_methodNamed B.named
  have hlocks := B.notSynchronized
  have hS : va_S (am_A bs) s.heap s.heap [] := va_S.rf
  have hl := lv_entry ([.ref aK]) (n := 1) (Nat.le_of_ble_eq_true rfl)
  rw [lg_entry_eq]
  generalize (lg_sl ([.ref aK]) ++ List.replicate (1 - (lg_sl ([.ref aK])).length) Slot.unset).toArray = ls at hl ⊢
  have hl : lv_has ls 1 [(0, .ref aK)] := hl
  refine va_gets hx hb hj.2.2.2.2 hS hown (hts _ tx_360) (fun _ h => h) dJ0_isLatin1_aae02_0 ?_
  refine lv_if_eq (tgt := 17) hx hb dJ0_isLatin1_aae02_3 (by decide) (fun q => absurd q (by decide)) (fun _ => ?_)
  refine lv_aload_n hx hb dJ0_isLatin1_aae02_6 rfl (lv_at hl 0 rfl) ?_
  refine vk_getf hx hb hj.2.1 hS hown (hts _ tx_1097) (fun _ h => h) dJ0_isLatin1_aae02_7 ?_
  refine lv_if_ne (tgt := 17) hx hb dJ0_isLatin1_aae02_10 (by decide) (fun q => absurd q (by decide)) (fun _ => ?_)
  refine lv_iconst (v := 1) hx hb dJ0_isLatin1_aae02_13 (by decide) ?_
  refine lv_goto (tgt := 18) hx hb dJ0_isLatin1_aae02_14 (by decide) ?_
  exact W.zret hx hb hr (by decide) (fun t ht hW => ⟨rfl, ht⟩) hS.2.2 dJ0_isLatin1_aae02_18
set_option maxHeartbeats 4000000 in
set_option maxRecDepth 100000 in
theorem jc_J0_length_8abf5 (l : Launch) (bs aK aV : Nat) : Met l yJ0_length_8abf5 (Cond.code yJ0_length_8abf5 cJ0_length_8abf5 1 (some .int) :: am_tb) (am_rm 1 20 0 0) (va_Pc [.ref aK] (jp bs aK aV)) (jq 6) 0 0 (am_A bs) := by
  refine Met.ofW (cc := cJ0_length_8abf5) (maxL := 1) (ret := (some .int)) (by decide) rfl ?_
  intro p e s m args below meth c s₁ B hml hv
  obtain ⟨rfl, hj⟩ := hv
  have hj : js (am_A bs) aK aV s s.heap := hj
  have hx := B.exec
  have hb := B.bytes
  have hr := B.returns
  have hts : ∀ w ∈ am_tb, w.before [.ref aK].toArray s = true := fun w hw => atoms_spec (ws := Cond.code yJ0_length_8abf5 cJ0_length_8abf5 1 (some .int) :: am_tb) B.pre w (List.mem_cons_of_mem _ hw)
  have hown : s.vm.findClass RJ0 = some m.cls := findClass_of_methodNamed B.named
  have hlocks := B.notSynchronized
  have hS : va_S (am_A bs) s.heap s.heap [] := va_S.rf
  have hl := lv_entry ([.ref aK]) (n := 1) (Nat.le_of_ble_eq_true rfl)
  rw [lg_entry_eq]
  generalize (lg_sl ([.ref aK]) ++ List.replicate (1 - (lg_sl ([.ref aK])).length) Slot.unset).toArray = ls at hl ⊢
  have hl : lv_has ls 1 [(0, .ref aK)] := hl
  refine lv_aload_n hx hb dJ0_length_8abf5_0 rfl (lv_at hl 0 rfl) ?_
  refine vk_getf hx hb hj.2.2.1 hS hown (hts _ tx_1098) (fun _ h => h) dJ0_length_8abf5_1 ?_
  refine j_len hx hb hj.2.2.2.1 hS dJ0_length_8abf5_4 ?_
  refine lv_aload_n hx hb dJ0_length_8abf5_5 rfl (lv_at hl 0 rfl) ?_
  refine j_run (va_runV (As := []) (rest := [.int 6]) ⟨hx, hb, hml, hown, hts⟩ (jc_J0_coder_7d493 l bs aK aV) ⟨callB_of (R := (am_rm 1 20 0 0)) (own := RJ0) (index := 335) (y := yJ0_coder_7d493) (rm := (am_rm 0 0 0 0)) (mc := 0) (ms := 0) 0 hts (am_good tx_369) rfl rfl rfl (hts _ tx_61) (hts _ tx_366) (by decide +kernel) ⟨by decide, by decide⟩, hts _ tx_367, hts _ tx_368⟩ ⟨jp_blind, (va_O.recv hj.1 hS), fun U hU hW => ⟨rfl, by show js _ _ _ _ U.heap; rw [hU]; exact (hj.moved hW.alike).kept hS.2.1⟩⟩ rfl rfl hl.1 rfl (lv_room (Nat.le_of_ble_eq_true rfl)) dJ0_length_8abf5_6 ⟨Nat.zero_le _, Nat.zero_le _⟩) hS (fun locs hS => ?_)
  refine lv_ishr hx hb dJ0_length_8abf5_9 ?_
  rw [show (6 : Int32) >>> (0 &&& 31) = 6 from by decide]
  exact W.zret hx hb hr (by decide) (fun t ht hW => ⟨rfl, ht⟩) hS.2.2 dJ0_length_8abf5_10
set_option maxHeartbeats 4000000 in
set_option maxRecDepth 100000 in
theorem jc_J1_canEncode_9a6ad (l : Launch) (bs aK aV : Nat) {ch : Int} (hch : 32 ≤ ch ∧ ch ≤ 126) : Met l yJ1_canEncode_9a6ad (Cond.code yJ1_canEncode_9a6ad cJ1_canEncode_9a6ad 1 (some .boolean) :: am_tb) (am_rm 0 0 0 0) (va_Pc [.int (Int32.ofInt ch)] (jp bs aK aV)) (jq 1) 0 0 (am_A bs) := by
  refine Met.ofW (cc := cJ1_canEncode_9a6ad) (maxL := 1) (ret := (some .boolean)) (by decide) rfl ?_
  intro p e s m args below meth c s₁ B hml hv
  obtain ⟨rfl, hj⟩ := hv
  have hj : js (am_A bs) aK aV s s.heap := hj
  have hx := B.exec
  have hb := B.bytes
  have hr := B.returns
  have hts : ∀ w ∈ am_tb, w.before [.int (Int32.ofInt ch)].toArray s = true := fun w hw => atoms_spec (ws := Cond.code yJ1_canEncode_9a6ad cJ1_canEncode_9a6ad 1 (some .boolean) :: am_tb) B.pre w (List.mem_cons_of_mem _ hw)
  have hown : s.vm.findClass RJ1 = some m.cls := findClass_of_methodNamed B.named
  have hlocks := B.notSynchronized
  have hS : va_S (am_A bs) s.heap s.heap [] := va_S.rf
  have hl := lv_entry ([.int (Int32.ofInt ch)]) (n := 1) (Nat.le_of_ble_eq_true rfl)
  rw [lg_entry_eq]
  generalize (lg_sl ([.int (Int32.ofInt ch)]) ++ List.replicate (1 - (lg_sl ([.int (Int32.ofInt ch)])).length) Slot.unset).toArray = ls at hl ⊢
  have hl : lv_has ls 1 [(0, .int (Int32.ofInt ch))] := hl
  refine lv_iload_n hx hb dJ1_canEncode_9a6ad_0 rfl (lv_at hl 0 rfl) ?_
  refine lv_if_lt (tgt := 15) hx hb dJ1_canEncode_9a6ad_1 (by decide) (fun q => absurd q (j_ch1 hch)) (fun _ => ?_)
  refine lv_iload_n hx hb dJ1_canEncode_9a6ad_4 rfl (lv_at hl 0 rfl) ?_
  refine lv_sipush (v := 255) hx hb dJ1_canEncode_9a6ad_5 (by decide) ?_
  refine lv_icmp_gt (tgt := 15) hx hb dJ1_canEncode_9a6ad_8 (by decide) (fun q => absurd q (j_ch2 hch)) (fun _ => ?_)
  refine lv_iconst (v := 1) hx hb dJ1_canEncode_9a6ad_11 (by decide) ?_
  refine lv_goto (tgt := 16) hx hb dJ1_canEncode_9a6ad_12 (by decide) ?_
  exact W.zret hx hb hr (by decide) (fun t ht hW => ⟨rfl, ht⟩) hS.2.2 dJ1_canEncode_9a6ad_16
set_option maxHeartbeats 4000000 in
set_option maxRecDepth 100000 in
theorem jc_J1_indexOfChar_4cfef (l : Launch) (bs aK aV : Nat) {ch : Int} (hch : 32 ≤ ch ∧ ch ≤ 126) : Met l yJ1_indexOfChar_4cfef (Cond.code yJ1_indexOfChar_4cfef cJ1_indexOfChar_4cfef 6 (some .int) :: am_tb) (am_rm 0 0 0 0) (va_Pc [.ref aV, .int (Int32.ofInt ch), .int 0, .int 6] (jp bs aK aV)) (jq (Int32.ofInt (hv ch))) 0 0 (am_A bs) := by
  refine Met.ofW (cc := cJ1_indexOfChar_4cfef) (maxL := 6) (ret := (some .int)) (by decide) rfl ?_
  intro p e s m args below meth c s₁ B hml hv
  obtain ⟨rfl, hj⟩ := hv
  have hj : js (am_A bs) aK aV s s.heap := hj
  have hx := B.exec
  have hb := B.bytes
  have hr := B.returns
  have hts : ∀ w ∈ am_tb, w.before [.ref aV, .int (Int32.ofInt ch), .int 0, .int 6].toArray s = true := fun w hw => atoms_spec (ws := Cond.code yJ1_indexOfChar_4cfef cJ1_indexOfChar_4cfef 6 (some .int) :: am_tb) B.pre w (List.mem_cons_of_mem _ hw)
  have hown : s.vm.findClass RJ1 = some m.cls := findClass_of_methodNamed B.named
  have hlocks := B.notSynchronized
  have hS : va_S (am_A bs) s.heap s.heap [] := va_S.rf
  have hl := lv_entry ([.ref aV, .int (Int32.ofInt ch), .int 0, .int 6]) (n := 6) (Nat.le_of_ble_eq_true rfl)
  rw [lg_entry_eq]
  generalize (lg_sl ([.ref aV, .int (Int32.ofInt ch), .int 0, .int 6]) ++ List.replicate (6 - (lg_sl ([.ref aV, .int (Int32.ofInt ch), .int 0, .int 6])).length) Slot.unset).toArray = ls at hl ⊢
  have hl : lv_has ls 6 [(0, .ref aV), (1, .int (Int32.ofInt ch)), (2, .int 0), (3, .int 6)] := hl
  refine lv_iload_n hx hb dJ1_indexOfChar_4cfef_0 rfl (lv_at hl 1 rfl) ?_
  refine lv_i2b hx hb dJ1_indexOfChar_4cfef_1 (j_b hch) ?_
  refine lv_istore (lv' := [(4, .int (Int32.ofInt ch)), (0, .ref aV), (1, .int (Int32.ofInt ch)), (2, .int 0), (3, .int 6)]) hx hb dJ1_indexOfChar_4cfef_2 hl (by decide) rfl (fun ls hl => ?_)
  refine lv_iload_n hx hb dJ1_indexOfChar_4cfef_4 rfl (lv_at hl 3 rfl) ?_
  refine lv_istore (lv' := [(5, .int 0), (4, .int (Int32.ofInt ch)), (0, .ref aV), (1, .int (Int32.ofInt ch)), (2, .int 0), (3, .int 6)]) hx hb dJ1_indexOfChar_4cfef_5 hl (by decide) rfl (fun ls hl => ?_)
  refine lv_iload hx hb dJ1_indexOfChar_4cfef_7 (lv_at hl 0 rfl) ?_
  refine lv_iload_n hx hb dJ1_indexOfChar_4cfef_9 rfl (lv_at hl 5 rfl) ?_
  refine lv_icmp_ge (tgt := 31) hx hb dJ1_indexOfChar_4cfef_10 (by decide) (fun q => absurd q (by decide)) (fun _ => ?_)
  refine lv_aload_n hx hb dJ1_indexOfChar_4cfef_13 rfl (lv_at hl 2 rfl) ?_
  refine lv_iload hx hb dJ1_indexOfChar_4cfef_14 (lv_at hl 0 rfl) ?_
  refine va_tb hx hb hj.2.2.2.1 hS (i := 0) (by unfold vp_in; decide) (v := .int 119) (by decide) dJ1_indexOfChar_4cfef_16 ?_
  refine lv_iload hx hb dJ1_indexOfChar_4cfef_17 (lv_at hl 1 rfl) ?_
  refine lv_icmp_ne (tgt := 25) hx hb dJ1_indexOfChar_4cfef_19 (by decide) (fun c119 => ?_) (fun c119 => ?_)
  · refine lv_iinc (v := 1) (lv' := [(5, .int 1), (4, .int (Int32.ofInt ch)), (0, .ref aV), (1, .int (Int32.ofInt ch)), (2, .int 0), (3, .int 6)]) hx hb dJ1_indexOfChar_4cfef_25 hl (k := 0) rfl (by decide) (by decide) rfl (fun ls hl => ?_)
    refine lv_goto (tgt := 7) hx hb dJ1_indexOfChar_4cfef_28 (by decide) ?_
    refine lv_iload hx hb dJ1_indexOfChar_4cfef_7 (lv_at hl 0 rfl) ?_
    refine lv_iload_n hx hb dJ1_indexOfChar_4cfef_9 rfl (lv_at hl 5 rfl) ?_
    refine lv_icmp_ge (tgt := 31) hx hb dJ1_indexOfChar_4cfef_10 (by decide) (fun q => absurd q (by decide)) (fun _ => ?_)
    refine lv_aload_n hx hb dJ1_indexOfChar_4cfef_13 rfl (lv_at hl 2 rfl) ?_
    refine lv_iload hx hb dJ1_indexOfChar_4cfef_14 (lv_at hl 0 rfl) ?_
    refine va_tb hx hb hj.2.2.2.1 hS (i := 1) (by unfold vp_in; decide) (v := .int 104) (by decide) dJ1_indexOfChar_4cfef_16 ?_
    refine lv_iload hx hb dJ1_indexOfChar_4cfef_17 (lv_at hl 1 rfl) ?_
    refine lv_icmp_ne (tgt := 25) hx hb dJ1_indexOfChar_4cfef_19 (by decide) (fun c104 => ?_) (fun c104 => ?_)
    · refine lv_iinc (v := 2) (lv' := [(5, .int 2), (4, .int (Int32.ofInt ch)), (0, .ref aV), (1, .int (Int32.ofInt ch)), (2, .int 0), (3, .int 6)]) hx hb dJ1_indexOfChar_4cfef_25 hl (k := 0) rfl (by decide) (by decide) rfl (fun ls hl => ?_)
      refine lv_goto (tgt := 7) hx hb dJ1_indexOfChar_4cfef_28 (by decide) ?_
      refine lv_iload hx hb dJ1_indexOfChar_4cfef_7 (lv_at hl 0 rfl) ?_
      refine lv_iload_n hx hb dJ1_indexOfChar_4cfef_9 rfl (lv_at hl 5 rfl) ?_
      refine lv_icmp_ge (tgt := 31) hx hb dJ1_indexOfChar_4cfef_10 (by decide) (fun q => absurd q (by decide)) (fun _ => ?_)
      refine lv_aload_n hx hb dJ1_indexOfChar_4cfef_13 rfl (lv_at hl 2 rfl) ?_
      refine lv_iload hx hb dJ1_indexOfChar_4cfef_14 (lv_at hl 0 rfl) ?_
      refine va_tb hx hb hj.2.2.2.1 hS (i := 2) (by unfold vp_in; decide) (v := .int 113) (by decide) dJ1_indexOfChar_4cfef_16 ?_
      refine lv_iload hx hb dJ1_indexOfChar_4cfef_17 (lv_at hl 1 rfl) ?_
      refine lv_icmp_ne (tgt := 25) hx hb dJ1_indexOfChar_4cfef_19 (by decide) (fun c113 => ?_) (fun c113 => ?_)
      · refine lv_iinc (v := 3) (lv' := [(5, .int 3), (4, .int (Int32.ofInt ch)), (0, .ref aV), (1, .int (Int32.ofInt ch)), (2, .int 0), (3, .int 6)]) hx hb dJ1_indexOfChar_4cfef_25 hl (k := 0) rfl (by decide) (by decide) rfl (fun ls hl => ?_)
        refine lv_goto (tgt := 7) hx hb dJ1_indexOfChar_4cfef_28 (by decide) ?_
        refine lv_iload hx hb dJ1_indexOfChar_4cfef_7 (lv_at hl 0 rfl) ?_
        refine lv_iload_n hx hb dJ1_indexOfChar_4cfef_9 rfl (lv_at hl 5 rfl) ?_
        refine lv_icmp_ge (tgt := 31) hx hb dJ1_indexOfChar_4cfef_10 (by decide) (fun q => absurd q (by decide)) (fun _ => ?_)
        refine lv_aload_n hx hb dJ1_indexOfChar_4cfef_13 rfl (lv_at hl 2 rfl) ?_
        refine lv_iload hx hb dJ1_indexOfChar_4cfef_14 (lv_at hl 0 rfl) ?_
        refine va_tb hx hb hj.2.2.2.1 hS (i := 3) (by unfold vp_in; decide) (v := .int 101) (by decide) dJ1_indexOfChar_4cfef_16 ?_
        refine lv_iload hx hb dJ1_indexOfChar_4cfef_17 (lv_at hl 1 rfl) ?_
        refine lv_icmp_ne (tgt := 25) hx hb dJ1_indexOfChar_4cfef_19 (by decide) (fun c101 => ?_) (fun c101 => ?_)
        · refine lv_iinc (v := 4) (lv' := [(5, .int 4), (4, .int (Int32.ofInt ch)), (0, .ref aV), (1, .int (Int32.ofInt ch)), (2, .int 0), (3, .int 6)]) hx hb dJ1_indexOfChar_4cfef_25 hl (k := 0) rfl (by decide) (by decide) rfl (fun ls hl => ?_)
          refine lv_goto (tgt := 7) hx hb dJ1_indexOfChar_4cfef_28 (by decide) ?_
          refine lv_iload hx hb dJ1_indexOfChar_4cfef_7 (lv_at hl 0 rfl) ?_
          refine lv_iload_n hx hb dJ1_indexOfChar_4cfef_9 rfl (lv_at hl 5 rfl) ?_
          refine lv_icmp_ge (tgt := 31) hx hb dJ1_indexOfChar_4cfef_10 (by decide) (fun q => absurd q (by decide)) (fun _ => ?_)
          refine lv_aload_n hx hb dJ1_indexOfChar_4cfef_13 rfl (lv_at hl 2 rfl) ?_
          refine lv_iload hx hb dJ1_indexOfChar_4cfef_14 (lv_at hl 0 rfl) ?_
          refine va_tb hx hb hj.2.2.2.1 hS (i := 4) (by unfold vp_in; decide) (v := .int 115) (by decide) dJ1_indexOfChar_4cfef_16 ?_
          refine lv_iload hx hb dJ1_indexOfChar_4cfef_17 (lv_at hl 1 rfl) ?_
          refine lv_icmp_ne (tgt := 25) hx hb dJ1_indexOfChar_4cfef_19 (by decide) (fun c115 => ?_) (fun c115 => ?_)
          · refine lv_iinc (v := 5) (lv' := [(5, .int 5), (4, .int (Int32.ofInt ch)), (0, .ref aV), (1, .int (Int32.ofInt ch)), (2, .int 0), (3, .int 6)]) hx hb dJ1_indexOfChar_4cfef_25 hl (k := 0) rfl (by decide) (by decide) rfl (fun ls hl => ?_)
            refine lv_goto (tgt := 7) hx hb dJ1_indexOfChar_4cfef_28 (by decide) ?_
            refine lv_iload hx hb dJ1_indexOfChar_4cfef_7 (lv_at hl 0 rfl) ?_
            refine lv_iload_n hx hb dJ1_indexOfChar_4cfef_9 rfl (lv_at hl 5 rfl) ?_
            refine lv_icmp_ge (tgt := 31) hx hb dJ1_indexOfChar_4cfef_10 (by decide) (fun q => absurd q (by decide)) (fun _ => ?_)
            refine lv_aload_n hx hb dJ1_indexOfChar_4cfef_13 rfl (lv_at hl 2 rfl) ?_
            refine lv_iload hx hb dJ1_indexOfChar_4cfef_14 (lv_at hl 0 rfl) ?_
            refine va_tb hx hb hj.2.2.2.1 hS (i := 5) (by unfold vp_in; decide) (v := .int 116) (by decide) dJ1_indexOfChar_4cfef_16 ?_
            refine lv_iload hx hb dJ1_indexOfChar_4cfef_17 (lv_at hl 1 rfl) ?_
            refine lv_icmp_ne (tgt := 25) hx hb dJ1_indexOfChar_4cfef_19 (by decide) (fun c116 => ?_) (fun c116 => ?_)
            · refine lv_iinc (v := 6) (lv' := [(5, .int 6), (4, .int (Int32.ofInt ch)), (0, .ref aV), (1, .int (Int32.ofInt ch)), (2, .int 0), (3, .int 6)]) hx hb dJ1_indexOfChar_4cfef_25 hl (k := 0) rfl (by decide) (by decide) rfl (fun ls hl => ?_)
              refine lv_goto (tgt := 7) hx hb dJ1_indexOfChar_4cfef_28 (by decide) ?_
              refine lv_iload hx hb dJ1_indexOfChar_4cfef_7 (lv_at hl 0 rfl) ?_
              refine lv_iload_n hx hb dJ1_indexOfChar_4cfef_9 rfl (lv_at hl 5 rfl) ?_
              refine lv_icmp_ge (tgt := 31) hx hb dJ1_indexOfChar_4cfef_10 (by decide) (fun _ => ?_) (fun q => absurd q (by decide))
              refine lv_iconst (v := (-1)) hx hb dJ1_indexOfChar_4cfef_31 (by decide) ?_
              have h119 : ¬ ch = 119 := fun q => c119 (by rw [q]; decide)
              have h104 : ¬ ch = 104 := fun q => c104 (by rw [q]; decide)
              have h113 : ¬ ch = 113 := fun q => c113 (by rw [q]; decide)
              have h101 : ¬ ch = 101 := fun q => c101 (by rw [q]; decide)
              have h115 : ¬ ch = 115 := fun q => c115 (by rw [q]; decide)
              have h116 : ¬ ch = 116 := fun q => c116 (by rw [q]; decide)
              exact W.zret hx hb hr (by decide) (fun t ht hW => ⟨congrArg (fun z => Outcome.returned (some (.int z))) (by simp [hv, h119, h104, h113, h101, h115, h116]), ht⟩) hS.2.2 dJ1_indexOfChar_4cfef_32
            · refine lv_iload hx hb dJ1_indexOfChar_4cfef_22 (lv_at hl 0 rfl) ?_
              have hch2 : ch = 116 := ((am_eq3 (a := 116) (b := ch) (by omega)).mp c116).symm
              subst hch2
              exact W.zret hx hb hr (by decide) (fun t ht hW => ⟨congrArg (fun z => Outcome.returned (some (.int z))) (by decide), ht⟩) hS.2.2 dJ1_indexOfChar_4cfef_24
          · refine lv_iload hx hb dJ1_indexOfChar_4cfef_22 (lv_at hl 0 rfl) ?_
            have hch2 : ch = 115 := ((am_eq3 (a := 115) (b := ch) (by omega)).mp c115).symm
            subst hch2
            exact W.zret hx hb hr (by decide) (fun t ht hW => ⟨congrArg (fun z => Outcome.returned (some (.int z))) (by decide), ht⟩) hS.2.2 dJ1_indexOfChar_4cfef_24
        · refine lv_iload hx hb dJ1_indexOfChar_4cfef_22 (lv_at hl 0 rfl) ?_
          have hch2 : ch = 101 := ((am_eq3 (a := 101) (b := ch) (by omega)).mp c101).symm
          subst hch2
          exact W.zret hx hb hr (by decide) (fun t ht hW => ⟨congrArg (fun z => Outcome.returned (some (.int z))) (by decide), ht⟩) hS.2.2 dJ1_indexOfChar_4cfef_24
      · refine lv_iload hx hb dJ1_indexOfChar_4cfef_22 (lv_at hl 0 rfl) ?_
        have hch2 : ch = 113 := ((am_eq3 (a := 113) (b := ch) (by omega)).mp c113).symm
        subst hch2
        exact W.zret hx hb hr (by decide) (fun t ht hW => ⟨congrArg (fun z => Outcome.returned (some (.int z))) (by decide), ht⟩) hS.2.2 dJ1_indexOfChar_4cfef_24
    · refine lv_iload hx hb dJ1_indexOfChar_4cfef_22 (lv_at hl 0 rfl) ?_
      have hch2 : ch = 104 := ((am_eq3 (a := 104) (b := ch) (by omega)).mp c104).symm
      subst hch2
      exact W.zret hx hb hr (by decide) (fun t ht hW => ⟨congrArg (fun z => Outcome.returned (some (.int z))) (by decide), ht⟩) hS.2.2 dJ1_indexOfChar_4cfef_24
  · refine lv_iload hx hb dJ1_indexOfChar_4cfef_22 (lv_at hl 0 rfl) ?_
    have hch2 : ch = 119 := ((am_eq3 (a := 119) (b := ch) (by omega)).mp c119).symm
    subst hch2
    exact W.zret hx hb hr (by decide) (fun t ht hW => ⟨congrArg (fun z => Outcome.returned (some (.int z))) (by decide), ht⟩) hS.2.2 dJ1_indexOfChar_4cfef_24
set_option maxHeartbeats 4000000 in
set_option maxRecDepth 100000 in
theorem jc_J1_indexOf_4cfef (l : Launch) (bs aK aV : Nat) {ch : Int} (hch : 32 ≤ ch ∧ ch ≤ 126) : Met l yJ1_indexOf_4cfef (Cond.code yJ1_indexOf_4cfef cJ1_indexOf_4cfef 4 (some .int) :: am_tb) (am_rm 1 25 0 0) (va_Pc [.ref aV, .int (Int32.ofInt ch), .int 0, .int 6] (jp bs aK aV)) (jq (Int32.ofInt (hv ch))) 0 0 (am_A bs) := by
  refine Met.ofW (cc := cJ1_indexOf_4cfef) (maxL := 4) (ret := (some .int)) (by decide) rfl ?_
  intro p e s m args below meth c s₁ B hml hv
  obtain ⟨rfl, hj⟩ := hv
  have hj : js (am_A bs) aK aV s s.heap := hj
  have hx := B.exec
  have hb := B.bytes
  have hr := B.returns
  have hts : ∀ w ∈ am_tb, w.before [.ref aV, .int (Int32.ofInt ch), .int 0, .int 6].toArray s = true := fun w hw => atoms_spec (ws := Cond.code yJ1_indexOf_4cfef cJ1_indexOf_4cfef 4 (some .int) :: am_tb) B.pre w (List.mem_cons_of_mem _ hw)
  have hown : s.vm.findClass RJ1 = some m.cls := findClass_of_methodNamed B.named
  have hlocks := B.notSynchronized
  have hS : va_S (am_A bs) s.heap s.heap [] := va_S.rf
  have hl := lv_entry ([.ref aV, .int (Int32.ofInt ch), .int 0, .int 6]) (n := 4) (Nat.le_of_ble_eq_true rfl)
  rw [lg_entry_eq]
  generalize (lg_sl ([.ref aV, .int (Int32.ofInt ch), .int 0, .int 6]) ++ List.replicate (4 - (lg_sl ([.ref aV, .int (Int32.ofInt ch), .int 0, .int 6])).length) Slot.unset).toArray = ls at hl ⊢
  have hl : lv_has ls 4 [(0, .ref aV), (1, .int (Int32.ofInt ch)), (2, .int 0), (3, .int 6)] := hl
  refine lv_iload_n hx hb dJ1_indexOf_4cfef_0 rfl (lv_at hl 1 rfl) ?_
  refine j_run (va_runS (As := [.int (Int32.ofInt ch)]) (rest := []) ⟨hx, hb, hml, hown, hts⟩ (jc_J1_canEncode_9a6ad l bs aK aV hch) ⟨callB_of (R := (am_rm 1 25 0 0)) (own := RJ1) (index := 88) (y := yJ1_canEncode_9a6ad) (rm := (am_rm 0 0 0 0)) (mc := 0) (ms := 0) 1 hts (am_good tx_375) rfl rfl rfl (hts _ tx_62) (hts _ tx_373) (by decide +kernel) ⟨by decide, by decide⟩, hts _ tx_374⟩ ⟨jp_blind, fun U hU hW => ⟨rfl, by show js _ _ _ _ U.heap; rw [hU]; exact (hj.moved hW.alike).kept hS.2.1⟩⟩ rfl rfl hl.1 rfl (lv_room (Nat.le_of_ble_eq_true rfl)) dJ1_indexOf_4cfef_1 ⟨Nat.zero_le _, Nat.zero_le _⟩) hS (fun locs hS => ?_)
  refine lv_if_ne (tgt := 9) hx hb dJ1_indexOf_4cfef_4 (by decide) (fun _ => ?_) (fun q => absurd q (by decide))
  refine lv_iload_n hx hb dJ1_indexOf_4cfef_9 rfl (lv_at hl 2 rfl) ?_
  refine lv_iconst (v := 0) hx hb dJ1_indexOf_4cfef_10 (by decide) ?_
  refine va_mmax hx hb (by rw [hml]; exact hl.1.symm) hown (hts _ tx_376) (hts _ tx_82) (hts _ tx_52) (hts _ tx_83) (by decide) (by decide) (Nat.zero_le _) (Nat.zero_le _) dJ1_indexOf_4cfef_11 ?_
  rw [show (if (0 : Int32) < 0 then (0 : Int32) else 0) = 0 from by decide]
  refine lv_istore_n (lv' := [(2, .int 0), (0, .ref aV), (1, .int (Int32.ofInt ch)), (3, .int 6)]) hx hb dJ1_indexOf_4cfef_14 rfl hl (by decide) rfl (fun ls hl => ?_)
  refine lv_iload_n hx hb dJ1_indexOf_4cfef_15 rfl (lv_at hl 3 rfl) ?_
  refine lv_aload_n hx hb dJ1_indexOf_4cfef_16 rfl (lv_at hl 1 rfl) ?_
  refine j_len hx hb hj.2.2.2.1 hS dJ1_indexOf_4cfef_17 ?_
  refine va_mmin hx hb (by rw [hml]; exact hl.1.symm) hown (hts _ tx_377) (hts _ tx_378) (hts _ tx_52) (hts _ tx_379) (by decide) (by decide) (Nat.zero_le _) (Nat.zero_le _) dJ1_indexOf_4cfef_18 ?_
  rw [show (if (6 : Int32) < 6 then (6 : Int32) else 6) = 6 from by decide]
  refine lv_istore_n (lv' := [(3, .int 6), (2, .int 0), (0, .ref aV), (1, .int (Int32.ofInt ch))]) hx hb dJ1_indexOf_4cfef_21 rfl hl (by decide) rfl (fun ls hl => ?_)
  refine lv_iload_n hx hb dJ1_indexOf_4cfef_22 rfl (lv_at hl 1 rfl) ?_
  refine lv_iload_n hx hb dJ1_indexOf_4cfef_23 rfl (lv_at hl 0 rfl) ?_
  refine lv_icmp_lt (tgt := 29) hx hb dJ1_indexOf_4cfef_24 (by decide) (fun _ => ?_) (fun q => absurd q (by decide))
  refine lv_aload_n hx hb dJ1_indexOf_4cfef_29 rfl (lv_at hl 2 rfl) ?_
  refine lv_iload_n hx hb dJ1_indexOf_4cfef_30 rfl (lv_at hl 3 rfl) ?_
  refine lv_iload_n hx hb dJ1_indexOf_4cfef_31 rfl (lv_at hl 1 rfl) ?_
  refine lv_iload_n hx hb dJ1_indexOf_4cfef_32 rfl (lv_at hl 0 rfl) ?_
  refine j_run (va_runS (As := [.ref aV, .int (Int32.ofInt ch), .int 0, .int 6]) (rest := []) ⟨hx, hb, hml, hown, hts⟩ (jc_J1_indexOfChar_4cfef l bs aK aV hch) ⟨callB_of (R := (am_rm 1 25 0 0)) (own := RJ1) (index := 95) (y := yJ1_indexOfChar_4cfef) (rm := (am_rm 0 0 0 0)) (mc := 0) (ms := 0) 4 hts (am_good tx_382) rfl rfl rfl (hts _ tx_62) (hts _ tx_380) (by decide +kernel) ⟨by decide, by decide⟩, hts _ tx_381⟩ ⟨jp_blind, fun U hU hW => ⟨rfl, by show js _ _ _ _ U.heap; rw [hU]; exact (hj.moved hW.alike).kept hS.2.1⟩⟩ rfl rfl hl.1 rfl (lv_room (Nat.le_of_ble_eq_true rfl)) dJ1_indexOf_4cfef_33 ⟨Nat.zero_le _, Nat.zero_le _⟩) hS (fun locs hS => ?_)
  exact W.zret hx hb hr (rfl) (fun t ht hW => ⟨rfl, ht⟩) hS.2.2 dJ1_indexOf_4cfef_36
set_option maxHeartbeats 4000000 in
set_option maxRecDepth 100000 in
theorem jc_J0_indexOf_7cf53 (l : Launch) (bs aK aV : Nat) {ch : Int} (hch : 32 ≤ ch ∧ ch ≤ 126) : Met l yJ0_indexOf_7cf53 (Cond.code yJ0_indexOf_7cf53 cJ0_indexOf_7cf53 3 (some .int) :: am_tb) (am_rm 2 48 0 0) (va_Pc [.ref aK, .int (Int32.ofInt ch), .int 0] (jp bs aK aV)) (jq (Int32.ofInt (hv ch))) 0 0 (am_A bs) := by
  refine Met.ofW (cc := cJ0_indexOf_7cf53) (maxL := 3) (ret := (some .int)) (by decide) rfl ?_
  intro p e s m args below meth c s₁ B hml hv
  obtain ⟨rfl, hj⟩ := hv
  have hj : js (am_A bs) aK aV s s.heap := hj
  have hx := B.exec
  have hb := B.bytes
  have hr := B.returns
  have hts : ∀ w ∈ am_tb, w.before [.ref aK, .int (Int32.ofInt ch), .int 0].toArray s = true := fun w hw => atoms_spec (ws := Cond.code yJ0_indexOf_7cf53 cJ0_indexOf_7cf53 3 (some .int) :: am_tb) B.pre w (List.mem_cons_of_mem _ hw)
  have hown : s.vm.findClass RJ0 = some m.cls := findClass_of_methodNamed B.named
  have hlocks := B.notSynchronized
  have hS : va_S (am_A bs) s.heap s.heap [] := va_S.rf
  have hl := lv_entry ([.ref aK, .int (Int32.ofInt ch), .int 0]) (n := 3) (Nat.le_of_ble_eq_true rfl)
  rw [lg_entry_eq]
  generalize (lg_sl ([.ref aK, .int (Int32.ofInt ch), .int 0]) ++ List.replicate (3 - (lg_sl ([.ref aK, .int (Int32.ofInt ch), .int 0])).length) Slot.unset).toArray = ls at hl ⊢
  have hl : lv_has ls 3 [(0, .ref aK), (1, .int (Int32.ofInt ch)), (2, .int 0)] := hl
  refine lv_aload_n hx hb dJ0_indexOf_7cf53_0 rfl (lv_at hl 0 rfl) ?_
  refine j_run (va_runV (As := []) (rest := []) ⟨hx, hb, hml, hown, hts⟩ (jc_J0_isLatin1_aae02 l bs aK aV) ⟨callB_of (R := (am_rm 2 48 0 0)) (own := RJ0) (index := 492) (y := yJ0_isLatin1_aae02) (rm := (am_rm 0 0 0 0)) (mc := 0) (ms := 0) 0 hts (am_good tx_359) rfl rfl rfl (hts _ tx_61) (hts _ tx_356) (by decide +kernel) ⟨by decide, by decide⟩, hts _ tx_357, hts _ tx_358⟩ ⟨jp_blind, (va_O.recv hj.1 hS), fun U hU hW => ⟨rfl, by show js _ _ _ _ U.heap; rw [hU]; exact (hj.moved hW.alike).kept hS.2.1⟩⟩ rfl rfl hl.1 rfl (lv_room (Nat.le_of_ble_eq_true rfl)) dJ0_indexOf_7cf53_1 ⟨Nat.zero_le _, Nat.zero_le _⟩) hS (fun locs hS => ?_)
  refine lv_if_eq (tgt := 23) hx hb dJ0_indexOf_7cf53_4 (by decide) (fun q => absurd q (by decide)) (fun _ => ?_)
  refine lv_aload_n hx hb dJ0_indexOf_7cf53_7 rfl (lv_at hl 0 rfl) ?_
  refine vk_getf hx hb hj.2.2.1 hS hown (hts _ tx_1098) (fun _ h => h) dJ0_indexOf_7cf53_8 ?_
  refine lv_iload_n hx hb dJ0_indexOf_7cf53_11 rfl (lv_at hl 1 rfl) ?_
  refine lv_iload_n hx hb dJ0_indexOf_7cf53_12 rfl (lv_at hl 2 rfl) ?_
  refine lv_aload_n hx hb dJ0_indexOf_7cf53_13 rfl (lv_at hl 0 rfl) ?_
  refine j_run (va_runV (As := []) (rest := [.int 0, .int (Int32.ofInt ch), .ref aV]) ⟨hx, hb, hml, hown, hts⟩ (jc_J0_length_8abf5 l bs aK aV) ⟨callB_of (R := (am_rm 2 48 0 0)) (own := RJ0) (index := 505) (y := yJ0_length_8abf5) (rm := (am_rm 1 20 0 0)) (mc := 0) (ms := 0) 0 hts (am_good tx_365) rfl rfl rfl (hts _ tx_61) (hts _ tx_362) (by decide +kernel) ⟨by decide, by decide⟩, hts _ tx_363, hts _ tx_364⟩ ⟨jp_blind, (va_O.recv hj.1 hS), fun U hU hW => ⟨rfl, by show js _ _ _ _ U.heap; rw [hU]; exact (hj.moved hW.alike).kept hS.2.1⟩⟩ rfl rfl hl.1 rfl (lv_room (Nat.le_of_ble_eq_true rfl)) dJ0_indexOf_7cf53_14 ⟨Nat.zero_le _, Nat.zero_le _⟩) hS (fun locs hS => ?_)
  refine j_run (va_runS (As := [.ref aV, .int (Int32.ofInt ch), .int 0, .int 6]) (rest := []) ⟨hx, hb, hml, hown, hts⟩ (jc_J1_indexOf_4cfef l bs aK aV hch) ⟨callB_of (R := (am_rm 2 48 0 0)) (own := RJ0) (index := 637) (y := yJ1_indexOf_4cfef) (rm := (am_rm 1 25 0 0)) (mc := 0) (ms := 0) 4 hts (am_good tx_372) rfl rfl rfl (hts _ tx_62) (hts _ tx_370) (by decide +kernel) ⟨by decide, by decide⟩, hts _ tx_371⟩ ⟨jp_blind, fun U hU hW => ⟨rfl, by show js _ _ _ _ U.heap; rw [hU]; exact (hj.moved hW.alike).kept hS.2.1⟩⟩ rfl rfl hl.1 rfl (lv_room (Nat.le_of_ble_eq_true rfl)) dJ0_indexOf_7cf53_17 ⟨Nat.zero_le _, Nat.zero_le _⟩) hS (fun locs hS => ?_)
  refine lv_goto (tgt := 36) hx hb dJ0_indexOf_7cf53_20 (by decide) ?_
  exact W.zret hx hb hr (rfl) (fun t ht hW => ⟨rfl, ht⟩) hS.2.2 dJ0_indexOf_7cf53_36
set_option maxHeartbeats 4000000 in
set_option maxRecDepth 100000 in
theorem jc_J0_indexOf_0f7a4 (l : Launch) (bs aK aV : Nat) {ch : Int} (hch : 32 ≤ ch ∧ ch ≤ 126) : Met l yJ0_indexOf_0f7a4 (Cond.code yJ0_indexOf_0f7a4 cJ0_indexOf_0f7a4 2 (some .int) :: am_tb) (am_rm 3 70 0 0) (va_Pc [.ref aK, .int (Int32.ofInt ch)] (jp bs aK aV)) (jq (Int32.ofInt (hv ch))) 0 0 (am_A bs) := by
  refine Met.ofW (cc := cJ0_indexOf_0f7a4) (maxL := 2) (ret := (some .int)) (by decide) rfl ?_
  intro p e s m args below meth c s₁ B hml hv
  obtain ⟨rfl, hj⟩ := hv
  have hj : js (am_A bs) aK aV s s.heap := hj
  have hx := B.exec
  have hb := B.bytes
  have hr := B.returns
  have hts : ∀ w ∈ am_tb, w.before [.ref aK, .int (Int32.ofInt ch)].toArray s = true := fun w hw => atoms_spec (ws := Cond.code yJ0_indexOf_0f7a4 cJ0_indexOf_0f7a4 2 (some .int) :: am_tb) B.pre w (List.mem_cons_of_mem _ hw)
  have hown : s.vm.findClass RJ0 = some m.cls := findClass_of_methodNamed B.named
  have hlocks := B.notSynchronized
  have hS : va_S (am_A bs) s.heap s.heap [] := va_S.rf
  have hl := lv_entry ([.ref aK, .int (Int32.ofInt ch)]) (n := 2) (Nat.le_of_ble_eq_true rfl)
  rw [lg_entry_eq]
  generalize (lg_sl ([.ref aK, .int (Int32.ofInt ch)]) ++ List.replicate (2 - (lg_sl ([.ref aK, .int (Int32.ofInt ch)])).length) Slot.unset).toArray = ls at hl ⊢
  have hl : lv_has ls 2 [(0, .ref aK), (1, .int (Int32.ofInt ch))] := hl
  refine lv_aload_n hx hb dJ0_indexOf_0f7a4_0 rfl (lv_at hl 0 rfl) ?_
  refine lv_iload_n hx hb dJ0_indexOf_0f7a4_1 rfl (lv_at hl 1 rfl) ?_
  refine lv_iconst (v := 0) hx hb dJ0_indexOf_0f7a4_2 (by decide) ?_
  refine j_run (va_runV (As := [.int (Int32.ofInt ch), .int 0]) (rest := []) ⟨hx, hb, hml, hown, hts⟩ (jc_J0_indexOf_7cf53 l bs aK aV hch) ⟨callB_of (R := (am_rm 3 70 0 0)) (own := RJ0) (index := 633) (y := yJ0_indexOf_7cf53) (rm := (am_rm 2 48 0 0)) (mc := 0) (ms := 0) 2 hts (am_good tx_355) rfl rfl rfl (hts _ tx_61) (hts _ tx_352) (by decide +kernel) ⟨by decide, by decide⟩, hts _ tx_353, hts _ tx_354⟩ ⟨jp_blind, (va_O.recv hj.1 hS), fun U hU hW => ⟨rfl, by show js _ _ _ _ U.heap; rw [hU]; exact (hj.moved hW.alike).kept hS.2.1⟩⟩ rfl rfl hl.1 rfl (lv_room (Nat.le_of_ble_eq_true rfl)) dJ0_indexOf_0f7a4_3 ⟨Nat.zero_le _, Nat.zero_le _⟩) hS (fun locs hS => ?_)
  exact W.zret hx hb hr (rfl) (fun t ht hW => ⟨rfl, ht⟩) hS.2.2 dJ0_indexOf_0f7a4_6

set_option maxHeartbeats 4000000 in
set_option maxRecDepth 100000 in
theorem ct_digit {N : Nat} {μ : am_M} {ch : Int} (hc : -2147483648 ≤ ch ∧ ch ≤ 2147483647) : am_Met YX1_digit [am_i ch] N μ (am_pv (am_i (dg ch)) N μ) := by
  refine am_met (by first | decide | rfl) (Nat.le_of_ble_eq_true rfl) (fun h => by first | rfl | cases h) ?_
  show am_W YX1_digit _ 0 0 0 [(0, am_i ch)] [] _ _
  refine ap_iload_n dX1_digit_0 rfl rfl ?_
  refine ap_bipush dX1_digit_1 (by decide) ?_
  refine ap_icmp_lt (tgt := 19) dX1_digit_3 (by decide) (by omega) (fun c3 => ?_) (fun c3 => ?_)
  · refine ap_iconst dX1_digit_19 ?_
    exact ap_iret dX1_digit_20 rfl rfl (Nat.le_of_ble_eq_true rfl) (Nat.le_of_ble_eq_true rfl) (⟨by rw [dg, if_neg (by omega)], rfl, rfl⟩)
  · refine ap_iload_n dX1_digit_6 rfl rfl ?_
    refine ap_bipush dX1_digit_7 (by decide) ?_
    refine ap_icmp_gt (tgt := 19) dX1_digit_9 (by decide) (by omega) (fun c9 => ?_) (fun c9 => ?_)
    · refine ap_iconst dX1_digit_19 ?_
      exact ap_iret dX1_digit_20 rfl rfl (Nat.le_of_ble_eq_true rfl) (Nat.le_of_ble_eq_true rfl) (⟨by rw [dg, if_neg (by omega)], rfl, rfl⟩)
    · refine ap_iload_n dX1_digit_12 rfl rfl ?_
      refine ap_bipush dX1_digit_13 (by decide) ?_
      refine ap_isub dX1_digit_15 ?_
      refine ap_goto (tgt := 20) dX1_digit_16 (by decide) ?_
      exact ap_iret dX1_digit_20 rfl rfl (Nat.le_of_ble_eq_true rfl) (Nat.le_of_ble_eq_true rfl) (⟨by rw [dg, if_pos (by omega)], rfl, rfl⟩)

theorem tx_348 : Cond.methodLink "RhythmBench$Notation" 11 ⟨"java/lang/String","indexOf","(I)I"⟩ ∈ am_tb := am_tb_in (List.mem_of_getElem? (i := 348) (by decide +kernel)) (by decide +kernel)
theorem tx_351 : Cond.code ⟨"java/lang/String","indexOf","(I)I"⟩ prog_15_method_79_code 2 (Option.some FieldType.int) ∈ am_tb := am_tb_in (List.mem_of_getElem? (i := 351) (by decide +kernel)) (by decide +kernel)
theorem tx_349 : Cond.instanceMethod ⟨"java/lang/String","indexOf","(I)I"⟩ ∈ am_tb := am_tb_in (List.mem_of_getElem? (i := 349) (by decide +kernel)) (by decide +kernel)
theorem tx_350 : Cond.selects "java/lang/String" ⟨"java/lang/String","indexOf","(I)I"⟩ ⟨"java/lang/String","indexOf","(I)I"⟩ ∈ am_tb := am_tb_in (List.mem_of_getElem? (i := 350) (by decide +kernel)) (by decide +kernel)
set_option maxHeartbeats 4000000 in
set_option maxRecDepth 100000 in
theorem ct_halvings {N : Nat} {μ : am_M} {ch : Int} (hc : -2147483648 ≤ ch ∧ ch ≤ 2147483647) : am_Met YX1_halvings [am_i ch] N μ (am_pv (am_i (hv ch)) N μ) := by
  refine am_met (by first | decide | rfl) (Nat.le_of_ble_eq_true rfl) (fun h => by first | rfl | cases h) ?_
  show am_W YX1_halvings _ 0 0 0 [(0, am_i ch)] [] _ _
  refine ap_iload_n dX1_halvings_0 rfl rfl ?_
  refine ap_bipush dX1_halvings_1 (by decide) ?_
  refine ap_icmp_lt (tgt := 12) dX1_halvings_3 (by decide) (by omega) (fun c3 => ?_) (fun c3 => ?_)
  · refine ap_iconst dX1_halvings_12 ?_
    refine ap_goto (tgt := 23) dX1_halvings_13 (by decide) ?_
    exact ap_iret dX1_halvings_23 rfl rfl (Nat.le_of_ble_eq_true rfl) (Nat.le_of_ble_eq_true rfl) (⟨by rw [hv, if_neg (by omega), if_neg (by omega), if_neg (by omega), if_neg (by omega), if_neg (by omega), if_neg (by omega)], rfl, rfl⟩)
  · refine ap_iload_n dX1_halvings_6 rfl rfl ?_
    refine ap_bipush dX1_halvings_7 (by decide) ?_
    refine ap_icmp_le (tgt := 16) dX1_halvings_9 (by decide) (by omega) (fun c9 => ?_) (fun c9 => ?_)
    · intro p l e s m args below meth c bs D dA S H locs ls hP hz hS hl
      obtain ⟨hx, hb, hml, hr, hlocks, hown, hts, hK, hbs, -, hF⟩ := S
      obtain ⟨-, -, -, ⟨adK, adV, hSt, hRf⟩, hZ⟩ := id hF
      have hj : js (am_A bs) (adK 0) (adV 0) s s.heap := ⟨(hSt.1 0 (by decide)).1, (hSt.1 0 (by decide)).2.1, (hSt.1 0 (by decide)).2.2.1, (hSt.1 0 (by decide)).2.2.2, hZ⟩
      have hl : lv_has ls 1 [(0, .int (Int32.ofInt ch))] := hl
      refine va_ldcS hx hb hown hRf dX1_halvings_16 ?_
      refine lv_iload_n hx hb dX1_halvings_18 rfl (lv_at hl 0 rfl) ?_
      refine lv_i2c hx hb dX1_halvings_19 (am_c3b (a := ch) (by omega)) ?_
      refine j_run (va_runV (As := [.int (Int32.ofInt ch)]) (rest := []) ⟨hx, hb, hml, hown, hts⟩ (jc_J0_indexOf_0f7a4 l bs (adK 0) (adV 0) (ch := ch) (by omega)) ⟨callB_of (R := am_r YX1_halvings) (own := RX1) (index := 11) (y := yJ0_indexOf_0f7a4) (rm := (am_rm 3 70 0 0)) (mc := 0) (ms := 0) 1 hts (am_good tx_351) rfl rfl rfl (hts _ tx_61) (hts _ tx_348) (by decide +kernel) ⟨by decide, by decide⟩, hts _ tx_349, hts _ tx_350⟩ ⟨jp_blind, (va_O.recv hj.1 hS), fun U hU hW => ⟨rfl, by show js _ _ _ _ U.heap; rw [hU]; exact (hj.moved hW.alike).kept hS.2.1⟩⟩ rfl rfl hl.1 rfl (lv_room (Nat.le_of_ble_eq_true rfl)) dX1_halvings_20 ⟨Nat.zero_le _, Nat.zero_le _⟩) hS (fun locs hS => ?_)
      exact W.zret hx hb hr rfl (fun t ht hW => ⟨⟨some (am_i (hv ch)), N, μ, rfl, ⟨rfl, rfl, rfl⟩, by rw [ht]; exact hP, by rw [ht]; exact hz⟩, hS.F ht⟩) hS.2.2 dX1_halvings_23
    · refine ap_iconst dX1_halvings_12 ?_
      refine ap_goto (tgt := 23) dX1_halvings_13 (by decide) ?_
      exact ap_iret dX1_halvings_23 rfl rfl (Nat.le_of_ble_eq_true rfl) (Nat.le_of_ble_eq_true rfl) (⟨by rw [hv, if_neg (by omega), if_neg (by omega), if_neg (by omega), if_neg (by omega), if_neg (by omega), if_neg (by omega)], rfl, rfl⟩)

