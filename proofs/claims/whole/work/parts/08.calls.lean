/-! rows: new cells, calls, Math.max and min, Object's constructor, the one static array -/
theorem am_wp {bs N : Nat} {D : va_G} {dA : Nat → ClassId} {μ : am_M} {H H1 : Heap} {e : am_E} (hP : va_P D am_cl (am_w bs dA N μ) H) (hz : H.size = bs + N) (o1 : ∀ q, q < H.size → H1[q]? = H[q]?) (he : va_at D am_cl (bs + N, am_e bs dA e) H1) : va_P D am_cl (am_w bs dA (N + 1) (am_u μ N e)) H1 := by
  rw [← am_w_push rfl]
  have hk : ∀ (k : Nat) (x : Nat × va_E), (am_w bs dA N μ)[k]? = some x → H1[x.1]? = H[x.1]? := fun k x hx => o1 x.1 ((hP k x hx).lt)
  refine (hP.kept hk).app (fun k x hx => ?_)
  have hz : k < 1 := (List.getElem?_eq_some_iff.mp hx).1
  rw [show k = 0 by omega] at hx
  cases hx
  exact he
section
variable {Y : am_Y} {Q : Option Value → Nat → am_M → Prop} {k n pc N : Nat} {lv : List (Nat × Value)} {st : List Value} {μ : am_M}
theorem ap_new {idx ci : Nat} {fs : List Value} (hf : am_nc Y.1.cls idx ci fs) (hd : decode (am_c Y) pc = .ok (.new idx, 3)) (hk : k + 1 ≤ (am_r Y).cells) (hs : n + fs.length ≤ (am_r Y).slots) (kk : ∀ μ2 : am_M, μ2 N = am_O ci fs → (∀ b, b ≠ N → μ2 b = μ b) → am_W Y Q (k + 1) (n + fs.length) (pc + 3) lv (.ref N :: st) (N + 1) μ2) : am_W Y Q k n pc lv st N μ := by
  intro p l e s m args below meth c bs D dA S H locs ls hP hz hS hl
  obtain ⟨C, T, M, ty0, f1, f2, f3, f4, f5, f6, f7, f8⟩ := hf
  subst f8
  have hts := S.2.2.2.2.2.2.1
  have hKn := S.2.2.2.2.2.2.2.1.1 ci _ f2
  refine W.newcK S.1 S.2.1 S.2.2.2.2.2.1 (hts _ f5) (hts _ f6) (hts _ f7) rfl hd hk hs hKn.2.1 hz fun H1 kC hkC e1 z1 o1 => ?_
  have hP1 := am_wp (H1 := H1) (e := am_O ci fs) hP hz (by rw [hz]; exact o1) ⟨_, f2, (u_born ty0 hts f1 hKn hkC e1 f3).to (fun j hj => f4 j hj bs)⟩
  exact kk _ am_ueq am_une p l e s m args below meth c bs D dA S H1 locs ls hP1 (by rw [z1]; rfl) ⟨Nat.le_trans hS.1 (by omega), fun x h1 h2 => (o1 x (by have := hS.1; omega)).trans (hS.2.1 x h1 h2), hS.2.2⟩ hl
theorem ap_newa {t L : Nat} {z : Int} {atype : ArrayType} {ty : FieldType} {w : am_E} (hty : newarray.typeOf atype = ty) (hw : Cond.arrayClass ty ∈ am_tb) (hd : decode (am_c Y) pc = .ok (.newarray atype, 2)) (ht : ∀ dA : Nat → ClassId, (am_tys dA)[t]? = some (dA t, ty)) (hc : ∀ bs (dA : Nat → ClassId), ∃ a0 : vp_A, am_e bs dA w = .inl (dA t, a0) ∧ ∀ cA : ClassId, vp_cell cA a0 = arrV cA L (fun _ => defaultValue ty)) (hR : ∀ (U : State) (cA : ClassId), va_RA U cA ty → U.vm.findClass ("[" ++ ty.toString) = some cA) (hzL : z = (L : Int)) (hL : L < 2147483648) (hb : L * componentBytes ty ≤ 536870912) (hk : k + 1 ≤ (am_r Y).cells) (hs : n + L ≤ (am_r Y).slots) (kk : ∀ μ2 : am_M, μ2 N = w → (∀ b, b ≠ N → μ2 b = μ b) → am_W Y Q (k + 1) (n + L) (pc + 2) lv (.ref N :: st) (N + 1) μ2) : am_W Y Q k n pc lv (am_i z :: st) N μ := by
  intro p l e s m args below meth c bs D dA S H locs ls hP hz hS hl
  subst hzL
  subst hty
  have hts := S.2.2.2.2.2.2.1
  have hK := S.2.2.2.2.2.2.2.1
  refine va_newaK S.1 S.2.1 (hts _ hw) rfl hd rfl (fun h => by rw [Int32.ofInt_eq_ofNat] at h; exact nI_pos hL h) (am_tn3 hL) hb hk hs hz fun H1 cA e1 z1 o1 hAr hNm => ?_
  have hcA : cA = dA t := by
    have h1 := hR s (dA t) (hK.2 t _ (ht dA)).2
    exact Option.some.inj (hNm.symm.trans h1)
  subst hcA
  obtain ⟨a0, ha0, hcell⟩ := hc bs dA
  have hP1 := am_wp (H1 := H1) (e := w) hP hz (by rw [hz]; exact o1) (by rw [ha0]; show H1[bs + N]? = some (vp_cell _ _); rw [hcell]; exact e1)
  exact kk _ am_ueq am_une p l e s m args below meth c bs D dA S H1 locs ls hP1 (by rw [z1]; rfl) ⟨Nat.le_trans hS.1 (by omega), fun x h1 h2 => (o1 x (by have := hS.1; omega)).trans (hS.2.1 x h1 h2), hS.2.2⟩ hl
theorem ap_newi {L : Nat} {z : Int} (hd : decode (am_c Y) pc = .ok (.newarray .int, 2)) (hw : Cond.arrayClass .int ∈ am_tb) (hzL : z = (L : Int)) (hL : L < 100000) (hk : k + 1 ≤ (am_r Y).cells) (hs : n + L ≤ (am_r Y).slots) (kk : ∀ μ2 : am_M, μ2 N = am_I 0 L (fun _ => 0) → (∀ b, b ≠ N → μ2 b = μ b) → am_W Y Q (k + 1) (n + L) (pc + 2) lv (.ref N :: st) (N + 1) μ2) : am_W Y Q k n pc lv (am_i z :: st) N μ :=
  ap_newa (t := 0) (ty := .int) rfl hw hd (fun _ => rfl) (fun _ _ => ⟨_, rfl, fun _ => rfl⟩) (fun _ _ h => h) hzL (by omega) (by show L * 4 ≤ _; omega) hk hs kk
theorem ap_newl {L : Nat} {z : Int} (hd : decode (am_c Y) pc = .ok (.newarray .long, 2)) (hw : Cond.arrayClass .long ∈ am_tb) (hzL : z = (L : Int)) (hL : L < 100000) (hk : k + 1 ≤ (am_r Y).cells) (hs : n + L ≤ (am_r Y).slots) (kk : ∀ μ2 : am_M, μ2 N = am_L L (fun _ => 0) → (∀ b, b ≠ N → μ2 b = μ b) → am_W Y Q (k + 1) (n + L) (pc + 2) lv (.ref N :: st) (N + 1) μ2) : am_W Y Q k n pc lv (am_i z :: st) N μ :=
  ap_newa (t := 1) (ty := .long) rfl hw hd (fun _ => rfl) (fun _ _ => ⟨_, rfl, fun _ => rfl⟩) (fun _ _ h => h) hzL (by omega) (by show L * 8 ≤ _; omega) hk hs kk
theorem ap_newc {L : Nat} {z : Int} (hd : decode (am_c Y) pc = .ok (.newarray .char, 2)) (hw : Cond.arrayClass .char ∈ am_tb) (hzL : z = (L : Int)) (hL : L < 100000) (hk : k + 1 ≤ (am_r Y).cells) (hs : n + L ≤ (am_r Y).slots) (kk : ∀ μ2 : am_M, μ2 N = am_I 2 L (fun _ => 0) → (∀ b, b ≠ N → μ2 b = μ b) → am_W Y Q (k + 1) (n + L) (pc + 2) lv (.ref N :: st) (N + 1) μ2) : am_W Y Q k n pc lv (am_i z :: st) N μ :=
  ap_newa (t := 2) (ty := .char) rfl hw hd (fun _ => rfl) (fun _ _ => ⟨_, rfl, fun _ => rfl⟩) (fun _ _ h => h) hzL (by omega) (by show L * 2 ≤ _; omega) hk hs kk
theorem ap_newz {L : Nat} {z : Int} (hd : decode (am_c Y) pc = .ok (.newarray .boolean, 2)) (hw : Cond.arrayClass .boolean ∈ am_tb) (hzL : z = (L : Int)) (hL : L < 100000) (hk : k + 1 ≤ (am_r Y).cells) (hs : n + L ≤ (am_r Y).slots) (kk : ∀ μ2 : am_M, μ2 N = am_I 3 L (fun _ => 0) → (∀ b, b ≠ N → μ2 b = μ b) → am_W Y Q (k + 1) (n + L) (pc + 2) lv (.ref N :: st) (N + 1) μ2) : am_W Y Q k n pc lv (am_i z :: st) N μ :=
  ap_newa (t := 3) (ty := .boolean) rfl hw hd (fun _ => rfl) (fun _ _ => ⟨_, rfl, fun _ => rfl⟩) (fun _ _ h => h) hzL (by omega) (by show L * 1 ≤ _; omega) hk hs kk
theorem ap_anew {t L idx : Nat} {z : Int} {C : String} (hO : ∀ A U H, am_F A U H → va_AO C U) (ht : ∀ dA : Nat → ClassId, (am_tys dA)[t]? = some (dA t, .object C)) (hw : Cond.classLink Y.1.cls idx C ∈ am_tb) (hd : decode (am_c Y) pc = .ok (.anewarray idx, 3)) (hzL : z = (L : Int)) (hL : L < 100000) (hk : k + 1 ≤ (am_r Y).cells) (hs : n + L ≤ (am_r Y).slots) (kk : ∀ μ2 : am_M, μ2 N = am_R t L (fun _ => none) → (∀ b, b ≠ N → μ2 b = μ b) → am_W Y Q (k + 1) (n + L) (pc + 3) lv (.ref N :: st) (N + 1) μ2) : am_W Y Q k n pc lv (am_i z :: st) N μ := by
  intro p l e s m args below meth c bs D dA S H locs ls hP hz hS hl
  subst hzL
  have hts := S.2.2.2.2.2.2.1
  have hK := S.2.2.2.2.2.2.2.1
  have hN' : (Int32.ofInt (L : Int)).toNatClampNeg = L := am_tn3 (by omega)
  refine W.anew S.1 S.2.1 S.2.2.2.2.2.1 (hts _ hw) (va_AO.use (hO _ _ _ S.2.2.2.2.2.2.2.2.2.2)) rfl hd rfl (fun h => by rw [Int32.ofInt_eq_ofNat] at h; exact nI_pos (by omega) h) (by rw [hN']; omega) hk (by rw [hN']; exact hs) fun cA kA comp f1 f2 f3 f4 => ?_
  rw [hN']
  generalize hH1 : H.push ({ cls := cA, slots := Array.replicate L .null, vm := .none } : Cell) = H1
  have z1 : H1.size = H.size + 1 := by rw [← hH1, Array.size_push]
  have e1 : H1[H.size]? = some (arrV cA L (fun _ => .null)) := by rw [← hH1, Array.getElem?_push_size, ← arrV_new]
  have o1 : ∀ q : Nat, q < H.size → H1[q]? = H[q]? := fun q hq => by rw [← hH1, Array.getElem?_push, if_neg (Nat.ne_of_lt hq)]
  have hcA : cA = dA t := by
    obtain ⟨kA', comp', -, -, -, h1⟩ := (hK.2 t _ (ht dA)).2
    exact Option.some.inj (f1.symm.trans h1)
  subst hcA
  have hP1 := am_wp (H1 := H1) (e := am_R t L (fun _ => none)) hP hz o1 (by show H1[bs + N]? = some (vp_cell _ _); rw [vp_cell_q, ← hz]; exact e1)
  rw [hz] at z1
  have hgo := kk _ am_ueq am_une p l e s m args below meth c bs D dA S H1 locs ls hP1 z1 ⟨Nat.le_trans hS.1 (by omega), fun x h1 h2 => (o1 x (by have := hS.1; omega)).trans (hS.2.1 x h1 h2), hS.2.2⟩ hl
  rw [hz]
  exact hgo
-- calls
theorem ap_callS {Y2 : am_Y} {idx : Nat} {As rest st0 : List Value} {Q2 : Option Value → Nat → am_M → Prop} (hM : am_Met Y2 As N μ Q2) (hd : decode (am_c Y) pc = .ok (.invokestatic idx, 3)) (hw : Cond.methodLink Y.1.cls idx Y2.1 ∈ am_tb ∧ Cond.initialized Y2.1.cls ∈ am_tb ∧ Cond.code Y2.1 (am_c Y2) (am_n Y2) (am_t Y2) ∈ am_tb ∧ Cond.static Y2.1 ∈ am_tb) (hy : Y2.1.cls ≠ "java/lang/invoke/MethodHandle" ∧ Y2.1.cls ≠ "java/lang/invoke/VarHandle" ∧ (parseMethodDescriptor Y2.1.desc).map (fun d => d.parameters.length) = some As.length) (hst : st0 = As.reverse ++ rest) (hrest : (rest.map fun v => v.category).sum ≤ 8) (hR : (am_r Y2).frames + 1 ≤ (am_r Y).frames ∧ 8 + (am_n Y2 + 11) + (am_r Y2).locals ≤ (am_r Y).locals) (hk : k + (am_r Y2).cells ≤ (am_r Y).cells ∧ n + (am_r Y2).slots ≤ (am_r Y).slots)
    (kk : ∀ (r : Option Value) (N2 : Nat) (μ2 : am_M), Q2 r N2 μ2 → am_W Y Q (k + (am_r Y2).cells) (n + (am_r Y2).slots) (pc + 3) lv (r.toList ++ rest) N2 μ2) : am_W Y Q k n pc lv st0 N μ := by
  intro p l e s m args below meth c bs D dA S H locs ls hP hz hS hl
  subst hst
  have hts := S.2.2.2.2.2.2.1
  have hcb := callB_of (R := am_r Y) (own := Y.1.cls) (index := idx) (rm := am_r Y2) (mc := (am_r Y2).cells) (ms := (am_r Y2).slots) As.length hts (am_good hw.2.2.1) rfl rfl rfl (hts _ hw.2.1) (hts _ hw.1) hy hR
  have hrun := va_runS (p := p) (l := l) (e := e) (below := below) (meth := meth) (locs := locs) (cells := k) (slots := n) (g := F0 m pc ls ((As.reverse ++ rest).map (am_v bs))) (rest := rest.map (am_v bs)) (As := As.map (am_v bs)) (cc := am_c Y) (nL := am_n Y) ⟨S.1, S.2.1, S.2.2.1, S.2.2.2.2.2.1, hts⟩ (hM l bs D dA) ⟨hcb, hts _ hw.2.2.2⟩ ⟨am_blind, fun U hU hW => ⟨rfl, by rw [hU]; exact hz, by rw [hU]; exact hP, va_K.moved hW.alike S.2.2.2.2.2.2.2.1, am_fk S.2.2.2.2.2.2.2.2.2.2 hS hU hW⟩⟩ rfl (by rw [List.length_map]) hl.1 (by rw [List.map_append, List.map_reverse]) (lv_room (by rw [List.map_map]; simpa [Function.comp_def, am_v_cat] using hrest)) hd hk
  refine am_run hrun hS (fun r N2 μ2 H1 locs1 hq hP1 hz1 hS1 => ?_)
  have hgo := kk r N2 μ2 hq p l e s m args below meth c bs D dA S H1 locs1 ls hP1 hz1 hS1 hl
  rw [List.map_append] at hgo
  cases r <;> exact hgo
theorem ap_callV {Y2 : am_Y} {idx b ci : Nat} {fs : List Value} {As rest st0 : List Value} {Q2 : Option Value → Nat → am_M → Prop} (hM : am_Met Y2 (.ref b :: As) N μ Q2) (hd : decode (am_c Y) pc = .ok (.invokevirtual idx, 3)) (hw : Cond.methodLink Y.1.cls idx Y2.1 ∈ am_tb ∧ Cond.initialized Y2.1.cls ∈ am_tb ∧ Cond.code Y2.1 (am_c Y2) (am_n Y2) (am_t Y2) ∈ am_tb ∧ Cond.instanceMethod Y2.1 ∈ am_tb ∧ Cond.selects Y2.1.cls Y2.1 Y2.1 ∈ am_tb) (hy : Y2.1.cls ≠ "java/lang/invoke/MethodHandle" ∧ Y2.1.cls ≠ "java/lang/invoke/VarHandle" ∧ (parseMethodDescriptor Y2.1.desc).map (fun d => d.parameters.length) = some As.length) (hst : st0 = As.reverse ++ .ref b :: rest) (hb : b < N) (hm : μ b = am_O ci fs) (hC : ∃ T M, am_cl[ci]? = some (Y2.1.cls, T, M)) (hrest : (rest.map fun v => v.category).sum ≤ 8) (hR : (am_r Y2).frames + 1 ≤ (am_r Y).frames ∧ 8 + (am_n Y2 + 11) + (am_r Y2).locals ≤ (am_r Y).locals) (hk : k + (am_r Y2).cells ≤ (am_r Y).cells ∧ n + (am_r Y2).slots ≤ (am_r Y).slots)
    (kk : ∀ (r : Option Value) (N2 : Nat) (μ2 : am_M), Q2 r N2 μ2 → am_W Y Q (k + (am_r Y2).cells) (n + (am_r Y2).slots) (pc + 3) lv (r.toList ++ rest) N2 μ2) : am_W Y Q k n pc lv st0 N μ := by
  intro p l e s m args below meth c bs D dA S H locs ls hP hz hS hl
  subst hst
  have hts := S.2.2.2.2.2.2.1
  have hK := S.2.2.2.2.2.2.2.1
  obtain ⟨T, M, hC⟩ := hC
  have he : (am_w bs dA N μ)[b]? = some (bs + b, .inr (ci, fs.map (am_v bs))) := by rw [am_w_get hb, hm]; rfl
  have hcb := callB_of (R := am_r Y) (own := Y.1.cls) (index := idx) (rm := am_r Y2) (mc := (am_r Y2).cells) (ms := (am_r Y2).slots) As.length hts (am_good hw.2.2.1) rfl rfl rfl (hts _ hw.2.1) (hts _ hw.1) hy hR
  have hrun := va_runV (p := p) (l := l) (e := e) (below := below) (meth := meth) (locs := locs) (cells := k) (slots := n) (g := F0 m pc ls ((As.reverse ++ .ref b :: rest).map (am_v bs))) (rest := rest.map (am_v bs)) (As := As.map (am_v bs)) (b := bs + b) (cc := am_c Y) (nL := am_n Y) ⟨S.1, S.2.1, S.2.2.1, S.2.2.2.2.2.1, hts⟩ (hM l bs D dA) ⟨hcb, hts _ hw.2.2.2.1, hts _ hw.2.2.2.2⟩ ⟨am_blind, va_recv hK hP hC he, fun U hU hW => ⟨rfl, by rw [hU]; exact hz, by rw [hU]; exact hP, va_K.moved hW.alike hK, am_fk S.2.2.2.2.2.2.2.2.2.2 hS hU hW⟩⟩ rfl (by rw [List.length_map]) hl.1 (by rw [List.map_append, List.map_reverse]; rfl) (lv_room (by rw [List.map_map]; simpa [Function.comp_def, am_v_cat] using hrest)) hd hk
  refine am_run hrun hS (fun r N2 μ2 H1 locs1 hq hP1 hz1 hS1 => ?_)
  have hgo := kk r N2 μ2 hq p l e s m args below meth c bs D dA S H1 locs1 ls hP1 hz1 hS1 hl
  rw [List.map_append] at hgo
  cases r <;> exact hgo
theorem ap_callI {Y2 : am_Y} {idx b : Nat} {As rest st0 : List Value} {Q2 : Option Value → Nat → am_M → Prop} (hM : am_Met Y2 (.ref b :: As) N μ Q2) (hd : decode (am_c Y) pc = .ok (.invokespecial idx, 3)) (hw : Cond.methodLink Y.1.cls idx Y2.1 ∈ am_tb ∧ Cond.initialized Y2.1.cls ∈ am_tb ∧ Cond.code Y2.1 (am_c Y2) (am_n Y2) none ∈ am_tb ∧ Cond.instanceMethod Y2.1 ∈ am_tb) (ht2 : am_t Y2 = none) (hi : Y2.1.name = "<init>") (hy : Y2.1.cls ≠ "java/lang/invoke/MethodHandle" ∧ Y2.1.cls ≠ "java/lang/invoke/VarHandle" ∧ (parseMethodDescriptor Y2.1.desc).map (fun d => d.parameters.length) = some As.length) (hst : st0 = As.reverse ++ .ref b :: rest) (hrest : (rest.map fun v => v.category).sum ≤ 8) (hR : (am_r Y2).frames + 1 ≤ (am_r Y).frames ∧ 8 + (am_n Y2 + 11) + (am_r Y2).locals ≤ (am_r Y).locals) (hk : k + (am_r Y2).cells ≤ (am_r Y).cells ∧ n + (am_r Y2).slots ≤ (am_r Y).slots)
    (kk : ∀ (r : Option Value) (N2 : Nat) (μ2 : am_M), Q2 r N2 μ2 → am_W Y Q (k + (am_r Y2).cells) (n + (am_r Y2).slots) (pc + 3) lv (r.toList ++ rest) N2 μ2) : am_W Y Q k n pc lv st0 N μ := by
  intro p l e s m args below meth c bs D dA S H locs ls hP hz hS hl
  subst hst
  have hts := S.2.2.2.2.2.2.1
  have hM2 := hM l bs D dA
  rw [ht2] at hM2
  have hcb := callB_of (R := am_r Y) (own := Y.1.cls) (index := idx) (rm := am_r Y2) (mc := (am_r Y2).cells) (ms := (am_r Y2).slots) As.length hts (am_good hw.2.2.1) rfl rfl rfl (hts _ hw.2.1) (hts _ hw.1) hy hR
  have hrun := va_runI (p := p) (l := l) (e := e) (below := below) (meth := meth) (locs := locs) (cells := k) (slots := n) (g := F0 m pc ls ((As.reverse ++ .ref b :: rest).map (am_v bs))) (rest := rest.map (am_v bs)) (As := As.map (am_v bs)) (b := bs + b) (cc := am_c Y) (nL := am_n Y) ⟨S.1, S.2.1, S.2.2.1, S.2.2.2.2.2.1, hts⟩ hM2 ⟨hcb, hi, hts _ hw.2.2.2⟩ ⟨am_blind, fun U hU hW => ⟨rfl, by rw [hU]; exact hz, by rw [hU]; exact hP, va_K.moved hW.alike S.2.2.2.2.2.2.2.1, am_fk S.2.2.2.2.2.2.2.2.2.2 hS hU hW⟩⟩ rfl (by rw [List.length_map]) hl.1 (by rw [List.map_append, List.map_reverse]; rfl) (lv_room (by rw [List.map_map]; simpa [Function.comp_def, am_v_cat] using hrest)) hd hk
  refine am_run hrun hS (fun r N2 μ2 H1 locs1 hq hP1 hz1 hS1 => ?_)
  have hgo := kk r N2 μ2 hq p l e s m args below meth c bs D dA S H1 locs1 ls hP1 hz1 hS1 hl
  rw [List.map_append] at hgo
  cases r <;> exact hgo
theorem ap_callIN {Y2 : am_Y} {idx b : Nat} {host : String} {As rest st0 : List Value} {Q2 : Option Value → Nat → am_M → Prop} (hM : am_Met Y2 (.ref b :: As) N μ Q2) (hd : decode (am_c Y) pc = .ok (.invokespecial idx, 3)) (hw : Cond.methodLinkNest Y.1.cls idx Y2.1 host ∈ am_nw ∧ Cond.initialized Y2.1.cls ∈ am_tb ∧ Cond.code Y2.1 (am_c Y2) (am_n Y2) none ∈ am_tb ∧ Cond.instanceMethod Y2.1 ∈ am_tb) (ht2 : am_t Y2 = none) (hi : Y2.1.name = "<init>") (hy : Y2.1.cls ≠ "java/lang/invoke/MethodHandle" ∧ Y2.1.cls ≠ "java/lang/invoke/VarHandle" ∧ (parseMethodDescriptor Y2.1.desc).map (fun d => d.parameters.length) = some As.length) (hst : st0 = As.reverse ++ .ref b :: rest) (hrest : (rest.map fun v => v.category).sum ≤ 8) (hR : (am_r Y2).frames + 1 ≤ (am_r Y).frames ∧ 8 + (am_n Y2 + 11) + (am_r Y2).locals ≤ (am_r Y).locals) (hk : k + (am_r Y2).cells ≤ (am_r Y).cells ∧ n + (am_r Y2).slots ≤ (am_r Y).slots)
    (kk : ∀ (r : Option Value) (N2 : Nat) (μ2 : am_M), Q2 r N2 μ2 → am_W Y Q (k + (am_r Y2).cells) (n + (am_r Y2).slots) (pc + 3) lv (r.toList ++ rest) N2 μ2) : am_W Y Q k n pc lv st0 N μ := by
  intro p l e s m args below meth c bs D dA S H locs ls hP hz hS hl
  subst hst
  have hts := S.2.2.2.2.2.2.1
  have hM2 := hM l bs D dA
  rw [ht2] at hM2
  have hcb := va_cnB (args := args) (s := s) (R := am_r Y) (own := Y.1.cls) (index := idx) (rm := am_r Y2) (mc := (am_r Y2).cells) (ms := (am_r Y2).slots) As.length hts (am_good hw.2.2.1) rfl rfl rfl (S.2.2.2.2.2.2.2.2.2.2.1 _ hw.1) (hts _ hw.2.1) hy hR
  have hrun := va_runIN (p := p) (l := l) (e := e) (below := below) (meth := meth) (locs := locs) (cells := k) (slots := n) (g := F0 m pc ls ((As.reverse ++ .ref b :: rest).map (am_v bs))) (rest := rest.map (am_v bs)) (As := As.map (am_v bs)) (b := bs + b) (cc := am_c Y) (nL := am_n Y) ⟨S.1, S.2.1, S.2.2.1, S.2.2.2.2.2.1, hts⟩ hM2 ⟨hcb, hi, hts _ hw.2.2.2⟩ ⟨am_blind, fun U hU hW => ⟨rfl, by rw [hU]; exact hz, by rw [hU]; exact hP, va_K.moved hW.alike S.2.2.2.2.2.2.2.1, am_fk S.2.2.2.2.2.2.2.2.2.2 hS hU hW⟩⟩ rfl (by rw [List.length_map]) hl.1 (by rw [List.map_append, List.map_reverse]; rfl) (lv_room (by rw [List.map_map]; simpa [Function.comp_def, am_v_cat] using hrest)) hd hk
  refine am_run hrun hS (fun r N2 μ2 H1 locs1 hq hP1 hz1 hS1 => ?_)
  have hgo := kk r N2 μ2 hq p l e s m args below meth c bs D dA S H1 locs1 ls hP1 hz1 hS1 hl
  rw [List.map_append] at hgo
  cases r <;> exact hgo
theorem ap_obj {idx a : Nat} (hd : decode (am_c Y) pc = .ok (.invokespecial idx, 3)) (hw : Cond.methodLink Y.1.cls idx Lib.objectInit ∈ am_tb ∧ Cond.instanceMethod Lib.objectInit ∈ am_tb ∧ Cond.code Lib.objectInit ⟨#[0xb1]⟩ 1 none ∈ am_tb) (hr : 1 ≤ (am_r Y).frames ∧ (st.map fun v => v.category).sum + 12 ≤ (am_r Y).locals) (kk : am_W Y Q k n (pc + 3) lv st N μ) : am_W Y Q k n pc lv (.ref a :: st) N μ := by
  intro p l e s m args below meth c bs D dA S H locs ls hP hz hS hl
  have hts := S.2.2.2.2.2.2.1
  refine W.objInit S.1 S.2.1 S.2.2.2.2.2.1 (hts _ hw.1) (hts _ hw.2.1) (hts _ hw.2.2) rfl (by rw [S.2.2.1]; exact hl.1) rfl hd hr.1 ?_ (kk p l e s m args below meth c bs D dA S H locs ls hP hz hS hl)
  have h2 := hr.2
  rw [List.map_map]
  simp only [Function.comp_def, am_v_cat]
  simpa [JFrame.monitorRoom] using h2
theorem ap_max {idx : Nat} {a b : Int} (hd : decode (am_c Y) pc = .ok (.invokestatic idx, 3)) (hw : Cond.methodLink Y.1.cls idx Lib.Math.max.name ∈ am_tb ∧ Cond.static Lib.Math.max.name ∈ am_tb ∧ Cond.initialized "java/lang/Math" ∈ am_tb ∧ Cond.code Lib.Math.max.name Lib.Math.max.code 2 (some .int) ∈ am_tb) (hr : 1 ≤ (am_r Y).frames ∧ (st.map fun v => v.category).sum + 13 ≤ (am_r Y).locals) (hk : k ≤ (am_r Y).cells ∧ n ≤ (am_r Y).slots) (h : (-2147483648 ≤ a ∧ a ≤ 2147483647) ∧ (-2147483648 ≤ b ∧ b ≤ 2147483647)) (kk : am_W Y Q k n (pc + 3) lv (am_i (if a < b then b else a) :: st) N μ) : am_W Y Q k n pc lv (am_i b :: am_i a :: st) N μ := by
  intro p l e s m args below meth c bs D dA S H locs ls hP hz hS hl
  have hts := S.2.2.2.2.2.2.1
  refine va_mmax S.1 S.2.1 (by rw [S.2.2.1]; exact hl.1.symm) S.2.2.2.2.2.1 (hts _ hw.1) (hts _ hw.2.1) (hts _ hw.2.2.1) (hts _ hw.2.2.2) hr.1 (by rw [List.map_map]; simpa [Function.comp_def, am_v_cat] using hr.2) hk.1 hk.2 hd ?_
  have hgo := kk p l e s m args below meth c bs D dA S H locs ls hP hz hS hl
  by_cases hc : a < b
  · rw [if_pos ((am_lt3 h).mpr hc)]
    rw [if_pos hc] at hgo
    exact hgo
  · rw [if_neg (fun q => hc ((am_lt3 h).mp q))]
    rw [if_neg hc] at hgo
    exact hgo
theorem ap_min {idx : Nat} {a b : Int} (hd : decode (am_c Y) pc = .ok (.invokestatic idx, 3)) (hw : Cond.methodLink Y.1.cls idx Lib.Math.min.name ∈ am_tb ∧ Cond.static Lib.Math.min.name ∈ am_tb ∧ Cond.initialized "java/lang/Math" ∈ am_tb ∧ Cond.code Lib.Math.min.name Lib.Math.min.code 2 (some .int) ∈ am_tb) (hr : 1 ≤ (am_r Y).frames ∧ (st.map fun v => v.category).sum + 13 ≤ (am_r Y).locals) (hk : k ≤ (am_r Y).cells ∧ n ≤ (am_r Y).slots) (h : (-2147483648 ≤ a ∧ a ≤ 2147483647) ∧ (-2147483648 ≤ b ∧ b ≤ 2147483647)) (kk : am_W Y Q k n (pc + 3) lv (am_i (if b < a then b else a) :: st) N μ) : am_W Y Q k n pc lv (am_i b :: am_i a :: st) N μ := by
  intro p l e s m args below meth c bs D dA S H locs ls hP hz hS hl
  have hts := S.2.2.2.2.2.2.1
  refine va_mmin S.1 S.2.1 (by rw [S.2.2.1]; exact hl.1.symm) S.2.2.2.2.2.1 (hts _ hw.1) (hts _ hw.2.1) (hts _ hw.2.2.1) (hts _ hw.2.2.2) hr.1 (by rw [List.map_map]; simpa [Function.comp_def, am_v_cat] using hr.2) hk.1 hk.2 hd ?_
  have hgo := kk p l e s m args below meth c bs D dA S H locs ls hP hz hS hl
  by_cases hc : b < a
  · rw [if_pos ((am_lt3 ⟨h.2, h.1⟩).mpr hc)]
    rw [if_pos hc] at hgo
    exact hgo
  · rw [if_neg (fun q => hc ((am_lt3 ⟨h.2, h.1⟩).mp q))]
    rw [if_neg hc] at hgo
    exact hgo
end
