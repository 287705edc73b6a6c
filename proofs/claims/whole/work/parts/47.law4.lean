theorem law_K {s : State} {args : Array Value} (hts : ∀ w ∈ lw_tbl, w.before args s = true) : ∃ (D : va_G) (dA : Nat → ClassId), va_K D am_cl (am_tys dA) s := by
  obtain ⟨c0, i0, h0⟩ := u_known (C := RX0) (T := TX0) (N := 6) (n := 6) hts inX0 (hts (.instantiable RX0 6) (List.mem_of_getElem? (i := 93) (by decide +kernel)))
  obtain ⟨c2, i2, h2⟩ := u_known (C := RX2) (T := TX2) (N := 3) (n := 3) hts inX2 (hts (.instantiable RX2 3) (List.mem_of_getElem? (i := 235) (by decide +kernel)))
  obtain ⟨c3, i3, h3⟩ := u_known (C := RX3) (T := TX3) (N := 3) (n := 3) hts inX3 (hts (.instantiable RX3 3) (List.mem_of_getElem? (i := 119) (by decide +kernel)))
  obtain ⟨c4, i4, h4⟩ := u_known (C := RX4) (T := TX4) (N := 11) (n := 11) hts inX4 (hts (.instantiable RX4 11) (List.mem_of_getElem? (i := 127) (by decide +kernel)))
  obtain ⟨c5, i5, h5⟩ := u_known (C := RX5) (T := TX5) (N := 5) (n := 5) hts inX5 (hts (.instantiable RX5 5) (List.mem_of_getElem? (i := 209) (by decide +kernel)))
  obtain ⟨c6, i6, h6⟩ := u_known (C := RX6) (T := TX6) (N := 2) (n := 2) hts inX6 (hts (.instantiable RX6 2) (List.mem_of_getElem? (i := 76) (by decide +kernel)))
  obtain ⟨c7, i7, h7⟩ := u_known (C := RX7) (T := TX7) (N := 3) (n := 3) hts inX7 (hts (.instantiable RX7 3) (List.mem_of_getElem? (i := 133) (by decide +kernel)))
  obtain ⟨c9, i9, h9⟩ := u_known (C := RX9) (T := TX9) (N := 11) (n := 11) hts inX9 (hts (.instantiable RX9 11) (List.mem_of_getElem? (i := 68) (by decide +kernel)))
  obtain ⟨c10, i10, h10⟩ := u_known (C := RX10) (T := TX10) (N := 29) (n := 29) hts inX10 (hts (.instantiable RX10 29) (List.mem_of_getElem? (i := 768) (by decide +kernel)))
  obtain ⟨a0, k0, m0, p0, q0, r0⟩ := Cond.arrayClass_spec (hts (.arrayClass .int) (List.mem_of_getElem? (i := 149) (by decide +kernel)))
  obtain ⟨a1, k1, m1, p1, q1, r1⟩ := Cond.arrayClass_spec (hts (.arrayClass .long) (List.mem_of_getElem? (i := 148) (by decide +kernel)))
  obtain ⟨a2, k2, m2, p2, q2, r2⟩ := Cond.arrayClass_spec (hts (.arrayClass .char) (List.mem_of_getElem? (i := 91) (by decide +kernel)))
  obtain ⟨a3, k3, m3, p3, q3, r3⟩ := Cond.arrayClass_spec (hts (.arrayClass .boolean) (List.mem_of_getElem? (i := 150) (by decide +kernel)))
  obtain ⟨m4, a4, k4, u4, v4, q4, r4, p4⟩ := Cond.arrayOver_spec (hts (.arrayOver (.object "RhythmBench$Part")) (List.mem_of_getElem? (i := 118) (by decide +kernel)))
  obtain ⟨m5, a5, k5, u5, v5, q5, r5, p5⟩ := Cond.arrayOver_spec (hts (.arrayOver (.object "RhythmBench$State")) (List.mem_of_getElem? (i := 208) (by decide +kernel)))
  obtain ⟨m6, a6, k6, u6, v6, q6, r6, p6⟩ := Cond.arrayOver_spec (hts (.arrayOver (.object "RhythmBench$Text")) (List.mem_of_getElem? (i := 215) (by decide +kernel)))
  refine ⟨(fun k => match k with | 2 => c2 | 3 => c3 | 4 => c4 | 5 => c5 | 6 => c6 | 7 => c7 | 9 => c9 | 10 => c10 | _ => c0, fun k => match k with | 2 => i2 | 3 => i3 | 4 => i4 | 5 => i5 | 6 => i6 | 7 => i7 | 9 => i9 | 10 => i10 | _ => i0), fun k => match k with | 0 => a0 | 1 => a1 | 2 => a2 | 3 => a3 | 4 => a4 | 5 => a5 | _ => a6, fun k q hq => ?_, fun k q hq => ?_⟩
  · match k, hq with
    | 0, hq => cases hq; exact h0
    | 1, hq => cases hq; exact h0
    | 2, hq => cases hq; exact h2
    | 3, hq => cases hq; exact h3
    | 4, hq => cases hq; exact h4
    | 5, hq => cases hq; exact h5
    | 6, hq => cases hq; exact h6
    | 7, hq => cases hq; exact h7
    | 8, hq => cases hq; exact h0
    | 9, hq => cases hq; exact h9
    | 10, hq => cases hq; exact h10
    | k + 11, hq => simp [am_cl] at hq
  · match k, hq with
    | 0, hq => cases hq; exact ⟨fun n z => ⟨fun k h => (by cases h), k0, q0, m0, r0⟩, p0⟩
    | 1, hq => cases hq; exact ⟨fun n z => ⟨fun k h => (by cases h), k1, q1, m1, r1⟩, p1⟩
    | 2, hq => cases hq; exact ⟨fun n z => ⟨fun k h => (by cases h), k2, q2, m2, r2⟩, p2⟩
    | 3, hq => cases hq; exact ⟨fun n z => ⟨fun k h => (by cases h), k3, q3, m3, r3⟩, p3⟩
    | 4, hq => cases hq; exact ⟨fun n z => ⟨fun k h => (by cases h), k4, q4, m4, r4⟩, k4, m4, q4, r4, u4, p4⟩
    | 5, hq => cases hq; exact ⟨fun n z => ⟨fun k h => (by cases h), k5, q5, m5, r5⟩, k5, m5, q5, r5, u5, p5⟩
    | 6, hq => cases hq; exact ⟨fun n z => ⟨fun k h => (by cases h), k6, q6, m6, r6⟩, k6, m6, q6, r6, u6, p6⟩
    | k + 7, hq => simp [am_tys] at hq
theorem law_F {s : State} {b : Nat} (hts : ∀ w ∈ lw_tbl, w.before #[Value.ref b] s = true) (hgv : (Jvm.Cond.and given_1 narrow_1).before #[Value.ref b] s = true) : am_F (am_A s.heap.size) s s.heap := by
  have hs := flat_of_before _ hgv
  have hA : ∀ a : Nat, a < s.heap.size → ¬ am_A s.heap.size a := fun a h => Nat.not_le.mpr h
  have d0 : (Cond.arrayOf (.static "RhythmBench$Score" "DOTTED_QUARTERS" "[I") .int).before #[Value.ref b] s = true := hs _ (by decide +kernel)
  have d1 : (Cond.eq (.length (.static "RhythmBench$Score" "DOTTED_QUARTERS" "[I")) (.int 3)).before #[Value.ref b] s = true := hs _ (by decide +kernel)
  have d2 : (Cond.eq (.elem (.static "RhythmBench$Score" "DOTTED_QUARTERS" "[I") (.int 0)) (.int 4)).before #[Value.ref b] s = true := hs _ (by decide +kernel)
  have d3 : (Cond.eq (.elem (.static "RhythmBench$Score" "DOTTED_QUARTERS" "[I") (.int 1)) (.int 6)).before #[Value.ref b] s = true := hs _ (by decide +kernel)
  have d4 : (Cond.eq (.elem (.static "RhythmBench$Score" "DOTTED_QUARTERS" "[I") (.int 2)) (.int 7)).before #[Value.ref b] s = true := hs _ (by decide +kernel)
  obtain ⟨t, ht, hT⟩ := va_Tof (tm := (.static "RhythmBench$Score" "DOTTED_QUARTERS" "[I")) (ty := .int) (N := 3) (f := am_dq) (A := am_A s.heap.size) (by decide) d0 (va_eqt d1) (fun j hj => by
    rcases (show j = 0 ∨ j = 1 ∨ j = 2 by omega) with rfl | rfl | rfl
    · exact va_eqt d2
    · exact va_eqt d3
    · exact va_eqt d4) hA
  have e0 : (Cond.exactly (.string "RhythmBench$Notation" 9) "java/lang/String").before #[Value.ref b] s = true := hs _ (by decide +kernel)
  have e1 : (Cond.eq (.field (.string "RhythmBench$Notation" 9) "java/lang/String" "coder" "B") (.int 0)).before #[Value.ref b] s = true := hs _ (by decide +kernel)
  have e2 : (Cond.arrayOf (.field (.string "RhythmBench$Notation" 9) "java/lang/String" "value" "[B") .byte).before #[Value.ref b] s = true := hs _ (by decide +kernel)
  have e3 : (Cond.eq (.length (.field (.string "RhythmBench$Notation" 9) "java/lang/String" "value" "[B")) (.int 6)).before #[Value.ref b] s = true := hs _ (by decide +kernel)
  have f0 : (Cond.eq (.elem (.field (.string "RhythmBench$Notation" 9) "java/lang/String" "value" "[B") (.int 0)) (.int 119)).before #[Value.ref b] s = true := hs _ (by decide +kernel)
  have f1 : (Cond.eq (.elem (.field (.string "RhythmBench$Notation" 9) "java/lang/String" "value" "[B") (.int 1)) (.int 104)).before #[Value.ref b] s = true := hs _ (by decide +kernel)
  have f2 : (Cond.eq (.elem (.field (.string "RhythmBench$Notation" 9) "java/lang/String" "value" "[B") (.int 2)) (.int 113)).before #[Value.ref b] s = true := hs _ (by decide +kernel)
  have f3 : (Cond.eq (.elem (.field (.string "RhythmBench$Notation" 9) "java/lang/String" "value" "[B") (.int 3)) (.int 101)).before #[Value.ref b] s = true := hs _ (by decide +kernel)
  have f4 : (Cond.eq (.elem (.field (.string "RhythmBench$Notation" 9) "java/lang/String" "value" "[B") (.int 4)) (.int 115)).before #[Value.ref b] s = true := hs _ (by decide +kernel)
  have f5 : (Cond.eq (.elem (.field (.string "RhythmBench$Notation" 9) "java/lang/String" "value" "[B") (.int 5)) (.int 116)).before #[Value.ref b] s = true := hs _ (by decide +kernel)
  obtain ⟨adK, adV, hS, hev⟩ := vk_Sof (N := 1) (tm := fun _ => .string "RhythmBench$Notation" 9) (len := [6]) (byt := [[119, 104, 113, 101, 115, 116]]) (A := am_A s.heap.size) (fun i hi => by rw [show i = 0 by omega]; decide) (fun _ _ => e0) (fun _ _ => e1) (fun _ _ => e2) (fun i hi => by
    obtain rfl : i = 0 := by omega
    exact e3) (fun i hi j hj => by
    obtain rfl : i = 0 := by omega
    have hj6 : j < 6 := hj
    rcases (show j = 0 ∨ j = 1 ∨ j = 2 ∨ j = 3 ∨ j = 4 ∨ j = 5 by omega) with rfl | rfl | rfl | rfl | rfl | rfl
    · exact f0
    · exact f1
    · exact f2
    · exact f3
    · exact f4
    · exact f5) (fun i j hi hj hij => absurd (by omega) hij) hA
  have c0 : (Cond.eq (.static "java/lang/String" "COMPACT_STRINGS" "Z") (.int 1)).before #[Value.ref b] s = true := hs _ (by decide +kernel)
  refine ⟨fun w hw => ?_, ⟨va_AO.of (hts (.arrayOver (.object "RhythmBench$Part")) (List.mem_of_getElem? (i := 118) (by decide +kernel))), va_AO.of (hts (.arrayOver (.object "RhythmBench$State")) (List.mem_of_getElem? (i := 208) (by decide +kernel))), va_AO.of (hts (.arrayOver (.object "RhythmBench$Text")) (List.mem_of_getElem? (i := 215) (by decide +kernel)))⟩, ⟨t, va_Zof (hts (.laysStatic "RhythmBench$Score" "DOTTED_QUARTERS" "[I") (List.mem_of_getElem? (i := 540) (by decide +kernel))) (hts (.initialized "RhythmBench$Score") (List.mem_of_getElem? (i := 55) (by decide +kernel))) ht hA, hT⟩, ⟨adK, adV, hS, vk_R.of (hts (.stringRef "RhythmBench$Notation" 9 "whqest") (List.mem_of_getElem? (i := 347) (by decide +kernel))) (hev 0 (by omega))⟩, va_Zof (hts (.laysStatic "java/lang/String" "COMPACT_STRINGS" "Z") (List.mem_of_getElem? (i := 361) (by decide +kernel))) (hts (.initialized "java/lang/String") (List.mem_of_getElem? (i := 61) (by decide +kernel))) (va_eqt c0) hA⟩
  obtain ⟨h1, h2⟩ := List.mem_filter.mp hw
  refine va_Nw.of ?_ (hts w h1)
  cases w <;> first | rfl | (simp at h2; done)
theorem whole_start {p : Program} {e : Env} {s : State} {m : MethodId} {below : List Frame} {meth : Method} {c : Code} (l : Launch) (hflags : l.flags = flags0) {b L : Nat} {xs : Nat → Int32} (hL : L ≤ 2560) (C0 : lw_At p s m meth c b L xs) : W p l e room_1 s m #[Value.ref b] below meth c s.heap [] 0 0 (lw_Z below #[Value.ref b] s) (entryFrame m ([Value.ref b] : List Value).toArray 4) := by
  obtain ⟨hx, hb, hr, hml, hown, hts, hX, hbl, hlocks, hgv⟩ := id C0
  obtain ⟨D, dA, hK⟩ := law_K hts
  have hF := law_F hts hgv
  have S : am_S YL p s m #[Value.ref b] meth c s.heap.size D dA := ⟨hx, hb, hml, hr, hlocks, hown, fun w hw => hts w (List.mem_filter.mp hw).1, hK, Nat.le_refl _, fun h => (by cases h), hF⟩
  have hl := lv_entry ([.ref b]) (n := 4) (Nat.le_of_ble_eq_true rfl)
  rw [lg_entry_eq]
  generalize (lg_sl ([.ref b]) ++ List.replicate (4 - (lg_sl ([.ref b])).length) Slot.unset).toArray = ls at hl ⊢
  have hl : lv_has ls 4 [(0, .ref b)] := hl
  exact law_begin hL (fun _ => am_O 0 []) p l e s m below meth c s.heap.size D dA C0 S ⟨rfl, hbl⟩ s.heap [] ls (fun k q h => by simp [am_w] at h) rfl va_S.rf hl
set_option maxHeartbeats 4000000 in
theorem lw_walk (l : Launch) (hflags : l.flags = flags0) (b : Addr) (xs : List Int32) : MetFree l x (headSpec (Jvm.Cond.code x code maxLocals ret :: tables_1) room_1) (lw_P b xs) (fun _ _ _ _ _ => True) lw_Q := by
  refine MetFree.of_bodyS (code := code) (maxLocals := maxLocals) (ret := ret) (by decide) ?_ ?_
  · intro args s m h hn
    obtain ⟨meth, c, h1, h2, h3, h4, h5, h6, -, -⟩ := Cond.code_spec hn (atoms_spec (ws := Jvm.Cond.code x code maxLocals ret :: tables_1) h _ List.mem_cons_self)
    exact ⟨meth, c, h1, h2, h3, h4, h5, h6⟩
  · intro p e s m args below meth c s₁ B hml0 hP _
    obtain ⟨rfl, hx, hbd, hgv⟩ := hP
    obtain ⟨scr, harrAt, hlist, hof, hsmall⟩ := hx
    obtain ⟨hcb, hkn, -, -⟩ := State.arrayAt?_spec harrAt
    have hown : s.vm.findClass R_law = some m.cls := findClass_of_methodNamed B.named
    have hts0 : ∀ c ∈ (Jvm.Cond.code x code maxLocals ret :: tables_1), c.before #[Value.ref b] s = true := atoms_spec (ws := Jvm.Cond.code x code maxLocals ret :: tables_1) B.pre
    have hts : ∀ w ∈ lw_tbl, w.before #[Value.ref b] s = true := k2_hts_sels lw_privs (fun w hw => hts0 w (List.mem_cons_of_mem _ hw)) lw_privs_ok
    have hml : c.maxLocals = 4 := B.maxLocals_eq (hts0 _ List.mem_cons_self)
    have X₀ : Stand p l e room_1 s m #[Value.ref b] below meth c s₁ [] 0 0 := Stand.of_body B
    have hh0 : s₁.heap = s.heap := by rw [B.state]; rfl
    have hsz : scr.slots.size = xs.length := by rw [← Array.length_toList, hlist, List.length_map]
    have hval : ∀ j : Nat, j < xs.length → scr.slots[j]? = some (.int (xs.getD j 0)) := fun j hj => by
      rw [← Array.getElem?_toList, hlist]
      simp [hj]
    have hbl : b < s.heap.size := (Array.getElem?_eq_some_iff.mp hcb).1
    have hX : va_X b xs.length (fun j => xs.getD j 0) s s.heap := ⟨scr, hcb, hof, hkn, hsz, hval⟩
    have K : W p l e room_1 s m #[Value.ref b] below meth c s₁.heap [] 0 0 (lw_Z below #[Value.ref b] s) (entryFrame m ([Value.ref b] : List Value).toArray 4) := by
      rw [hh0]
      exact whole_start l hflags hbd ⟨B.exec, B.bytes, B.returns, hml, hown, hts, hX, hbl, B.notSynchronized, hgv⟩
    obtain ⟨t, a1, o, b1, b2, b3⟩ := K s₁ rfl X₀
    exact ⟨t, o, a1, b1, b2, b3⟩
theorem lw_pre_spec {args : Array Value} {s : State} (h : (Jvm.Cond.and given_1 narrow_1).before args s = true) (hr : rest_1_c.before args s = true) : ∃ (b : Addr) (xs : List Int32), lw_P b xs args s := by
  have hs := flat_of_before _ h
  have hq := flat_of_before _ hr
  have hc : (Cond.count 1).before args s = true := hs _ (by decide +kernel)
  have harr : (Cond.arrayOf (.arg 0) .int).before args s = true := hs _ (by decide +kernel)
  have hle : (Cond.le (.length (.arg 0)) (.int 2560)).before args s = true := hs _ (by decide +kernel)
  have hlen : (Cond.isInt (.length (.arg 0))).before args s = true := hq _ (by decide +kernel)
  have hall : (Cond.all (.arg 0) (.isInt (.elem (.arg 0) (.index 0)))).before args s = true := hq _ (by decide +kernel)
  obtain ⟨b, xs, hb, hx⟩ := State.ints_of_pre rfl harr hlen hall
  have hsm : xs.length < 2 ^ 31 := hx.choose_spec.2.2.2
  have hev : (Term.length (.arg 0)).eval args s none [] s = some (.int xs.length.toInt32) := hx.length_eval hb
  have hv := Cond.le_ints hev (show (Term.int 2560).eval args s none [] s = some (.int 2560) from rfl)
  have hd : xs.length.toInt32 ≤ 2560 := by
    simpa [Cond.before, Cond.holds, hv] using hle
  have hN : xs.length ≤ 2560 := (Int32.ofNat_le_ofNat hsm (by decide)).mp (show Int32.ofNat xs.length ≤ Int32.ofNat 2560 from hd)
  exact ⟨b, xs, Cond.one_arg hc (show args[0]? = some (.ref b) from hb), hx, hN, h⟩
theorem lw_comes (l : Launch) (hflags : l.flags = flags0) : Comes l x (Jvm.Cond.code x code maxLocals ret :: tables_1) room_1 (fun tb e args s => Calls_1 tb e args s ∧ rest_1 tb e args s ∧ Pre_1 tb e args s)
    (fun _ _ args s o t => lw_Q args s o t) := by
  intro p e ha hc hk s m args below hf hfit hheap happ hpre
  obtain ⟨b, xs, hP⟩ := lw_pre_spec hpre.2.2 hpre.2.1
  obtain ⟨k, o, h1, h2, h3, hQ⟩ := lw_walk l hflags b xs p e ha hc hk s m args below hf ((Spec.applies_iff_loose hf).mp happ).1 hP trivial
  exact ⟨k, o, h1, h2, h3, hQ⟩
theorem lw_frame {s t : State} {o : Outcome} {args : Array Value} (h : Framed s o t [] 600000 7302250) :
    Framed s o t (fieldLocs frame_1_writes args s ++ arrayLocs frame_1_arrays args s ++ staticLocs frame_1_statics s) 600000 7302250 := h
theorem lw_limb (L : Cond) (hL : ∀ (args : Array Value) (s t : State), L.after args s (.returned (some (.int 1))) t = true) :
    ArmFor flags0 classFile x code maxLocals ret World_1 tables_1 room_1 Calls_1 rest_1 Pre_1
      (fun tb e a s o t => postC L tb e a s o t ∧ Framed s o t (fieldLocs frame_1_writes a s ++ arrayLocs frame_1_arrays a s ++ staticLocs frame_1_statics s) 600000 7302250) := by
  intro l hflags _ _ p e ha hc hk s m args below hf hfit hheap happ hpre
  obtain ⟨k, o, h1, h2, h3, rfl, hF⟩ := lw_comes l hflags p e ha hc hk s m args below hf hfit hheap happ hpre
  exact ⟨k, _, h1, h2, h3, hL args s _, lw_frame hF⟩
theorem i_vc : Claimed_1_1 ∧ Claimed_1_2 := ⟨lw_limb limb_1_1 (fun args s t => by simp [limb_1_1, Cond.after, Cond.holds, Cond.value]), lw_limb limb_1_2 (fun args s t => Cond.after_iff.mpr (by
  first | (rw [show limb_1_2 = Cond.eq .result (.int 1) from rfl, Cond.eq_ints (x := 1) (y := 1) rfl rfl]; simp; done) | (simp [limb_1_2, Cond.value, Term.eval]; done)))⟩
