/-! THE CLAIM OUT OF ONE WALK OF THE LAW'S BODY. Your part is whole_start (and what it stands on); all else here is the same for every law, but numbers. -/
def R_law : String := "RhythmBenchLaw"
def lw_P (b : Addr) (xs : List Int32) (args : Array Value) (s : State) : Prop := args = #[.ref b] ∧ s.IntsAt b xs ∧ xs.length ≤ 2560 ∧ (Jvm.Cond.and given_1 narrow_1).before args s = true
def lw_Q (_ : Array Value) (s : State) (o : Outcome) (t : State) : Prop := o = .returned (some (.int 1)) ∧ Framed s o t [] 600000 7302250
def lw_Z (below : List Frame) (a : Array Value) (s : State) : State → Prop := fun t => ∃ o, t.status = .running ∧ Ended t below o ∧ lw_Q a s o t
/-- the law's own end, with 1 on the stack, nothing written that was there before, its room as the claim has it -/
theorem lw_ret {p : Program} {l : Launch} {e : Env} {s : State} {m : MethodId} {below : List Frame} {meth : Method} {c : Code} {b : Nat} (hx : p.tables.exec = Jvm.exec) (hb : c.code = code) (hr : meth.sig.returnType = ret) (hlocks : meth.locks = false) {pc : Nat} {H : Heap} {ls : Array Slot} (hdg : decode code pc = .ok (.ireturn, 1)) : W p l e room_1 s m #[Value.ref b] below meth c H [] 600000 7302250 (lw_Z below #[Value.ref b] s) (F0 m pc ls [.int 1]) := by
  intro T hT X
  obtain ⟨fs, hret, hrun, hended, hW, hframe⟩ := X.leave (v := some (.int 1)) (hlocks := hlocks) (fun h => by rw [hr] at h; cases h)
  have hmeth' : T.vm.method? m = some meth := X.method'
  refine ⟨T.setFrames fs, ?_, .returned (some (.int 1)), hrun, hended, rfl, ⟨_, rfl⟩, hW, hframe⟩
  jvm_step X.here [X.here.top, hx, hb, hdg, hmeth', hr, ret, narrow_b1]
  (try refine ⟨rfl, ?_⟩); (try refine ⟨rfl, ?_⟩)
  first | (intro acts; rw [hret _ acts rfl rfl rfl]) | rw [hret _ _ rfl rfl rfl]
  exact Steps.refl _
/-- what holds at the law's entry: the machine, the code, the tables' words (any of lw_tbl by 'hts w (by decide +kernel)'), the script of L ints xs at the cell b, what the Statement gives of the start (any of its parts by flat_of_before) -/
def lw_At (p : Program) (s : State) (m : MethodId) (meth : Method) (c : Code) (b L : Nat) (xs : Nat → Int32) : Prop :=
  p.tables.exec = Jvm.exec ∧ c.code = code ∧ meth.sig.returnType = ret ∧ c.maxLocals = 4 ∧ s.vm.findClass R_law = some m.cls ∧ (∀ w ∈ lw_tbl, w.before #[Value.ref b] s = true) ∧ va_X b L xs s s.heap ∧ b < s.heap.size ∧ meth.locks = false ∧ (Jvm.Cond.and given_1 narrow_1).before #[Value.ref b] s = true
def YL : am_Y := (x, code, 4, ret, false, room_1)
def am_V (b L : Nat) (xs : Nat → Int32) (k n pc : Nat) (lv : List (Nat × Value)) (st : List Value) (N : Nat) (μ : am_M) : Prop :=
  ∀ (p : Program) (l : Launch) (e : Env) (s : State) (m : MethodId) (below : List Frame) (meth : Method) (c : Code) (bs : Nat) (D : va_G) (dA : Nat → ClassId), lw_At p s m meth c b L xs → am_S YL p s m #[Value.ref b] meth c bs D dA → (bs = s.heap.size ∧ b < bs) →
  ∀ (H : Heap) (locs : List Loc) (ls : Array Slot), va_P D am_cl (am_w bs dA N μ) H → H.size = bs + N → va_S (am_A bs) s.heap H locs → lv_has ls 4 ((0, .ref b) :: lv.map (am_q bs)) →
    W p l e (am_r YL) s m #[Value.ref b] below meth c H locs k n (lw_Z below #[Value.ref b] s) (F0 m pc ls (st.map (am_v bs)))
theorem am_at0 {b bs nL : Nat} {ls : Array Slot} {lv : List (Nat × Value)} {i : Nat} {v : Value} (hl : lv_has ls nL ((0, .ref b) :: lv.map (am_q bs))) (h : am_lk lv i = some v) : ls[i]? = some (.val (am_v bs v)) :=
  hl.2.2 (i, am_v bs v) (List.mem_cons_of_mem _ (List.mem_map.mpr ⟨(i, v), am_lk_of h, rfl⟩))
abbrev sx (xs : Nat → Int32) (j : Nat) : Int := (xs j).toInt
theorem sx_r (xs : Nat → Int32) (j : Nat) : -2147483648 ≤ sx xs j ∧ sx xs j ≤ 2147483647 := ⟨Int32.le_toInt _, by have := Int32.toInt_lt (xs j); unfold sx; omega⟩
section
variable {b L : Nat} {xs : Nat → Int32} {k n pc N : Nat} {lv : List (Nat × Value)} {st : List Value} {μ : am_M}
theorem vp_widen {k2 n2 : Nat} (h1 : k ≤ k2) (h2 : n ≤ n2) (kk : am_V b L xs k2 n2 pc lv st N μ) : am_V b L xs k n pc lv st N μ := by
  intro p l e s m below meth c bs D dA hA0 S hbb H locs ls hP hz hS hl
  exact W.widen h1 h2 (kk p l e s m below meth c bs D dA hA0 S hbb H locs ls hP hz hS hl)
theorem vp_iconst {z : Int} (hd : decode code pc = .ok (.iconst z, 1)) (kk : am_V b L xs k n (pc + 1) lv (am_i z :: st) N μ) : am_V b L xs k n pc lv st N μ := by
  intro p l e s m below meth c bs D dA hA0 S hbb H locs ls hP hz hS hl
  exact lv_iconst S.1 S.2.1 hd rfl (kk p l e s m below meth c bs D dA hA0 S hbb H locs ls hP hz hS hl)
theorem vp_bipush {z : Int} (hd : decode code pc = .ok (.bipush z, 2)) (h : -128 ≤ z ∧ z ≤ 127) (kk : am_V b L xs k n (pc + 2) lv (am_i z :: st) N μ) : am_V b L xs k n pc lv st N μ := by
  intro p l e s m below meth c bs D dA hA0 S hbb H locs ls hP hz hS hl
  exact lv_bipush S.1 S.2.1 hd (am_b8 h) (kk p l e s m below meth c bs D dA hA0 S hbb H locs ls hP hz hS hl)
theorem vp_iload_n {j : Fin 4} {i : Nat} {z : Int} (hd : decode code pc = .ok (.iload_n j, 1)) (hi : (j : Nat) = i) (h : am_lk lv i = some (am_i z)) (kk : am_V b L xs k n (pc + 1) lv (am_i z :: st) N μ) : am_V b L xs k n pc lv st N μ := by
  intro p l e s m below meth c bs D dA hA0 S hbb H locs ls hP hz hS hl
  exact lv_iload_n S.1 S.2.1 hd hi (am_at0 hl h) (kk p l e s m below meth c bs D dA hA0 S hbb H locs ls hP hz hS hl)
theorem vp_aload_n {j : Fin 4} {i a : Nat} (hd : decode code pc = .ok (.aload_n j, 1)) (hi : (j : Nat) = i) (h : am_lk lv i = some (.ref a)) (kk : am_V b L xs k n (pc + 1) lv (.ref a :: st) N μ) : am_V b L xs k n pc lv st N μ := by
  intro p l e s m below meth c bs D dA hA0 S hbb H locs ls hP hz hS hl
  exact lv_aload_n S.1 S.2.1 hd hi (am_at0 hl h) (kk p l e s m below meth c bs D dA hA0 S hbb H locs ls hP hz hS hl)
theorem vp_isub {x y : Int} (hd : decode code pc = .ok (.isub, 1)) (kk : am_V b L xs k n (pc + 1) lv (am_i (x - y) :: st) N μ) : am_V b L xs k n pc lv (am_i y :: am_i x :: st) N μ := by
  intro p l e s m below meth c bs D dA hA0 S hbb H locs ls hP hz hS hl
  refine lv_isub S.1 S.2.1 hd ?_
  rw [← Int32.ofInt_sub]
  exact kk p l e s m below meth c bs D dA hA0 S hbb H locs ls hP hz hS hl
theorem vp_iand {x y r : Int} (hd : decode code pc = .ok (.iand, 1)) (h : Int32.ofInt x &&& Int32.ofInt y = Int32.ofInt r) (kk : am_V b L xs k n (pc + 1) lv (am_i r :: st) N μ) : am_V b L xs k n pc lv (am_i y :: am_i x :: st) N μ := by
  intro p l e s m below meth c bs D dA hA0 S hbb H locs ls hP hz hS hl
  refine lv_iand S.1 S.2.1 hd ?_
  rw [h]
  exact kk p l e s m below meth c bs D dA hA0 S hbb H locs ls hP hz hS hl
theorem vp_dup {v : Value} (hd : decode code pc = .ok (.dup, 1)) (h : v.category = 1) (kk : am_V b L xs k n (pc + 1) lv (v :: v :: st) N μ) : am_V b L xs k n pc lv (v :: st) N μ := by
  intro p l e s m below meth c bs D dA hA0 S hbb H locs ls hP hz hS hl
  exact lv_dup S.1 S.2.1 hd (by rw [am_v_cat]; exact h) (kk p l e s m below meth c bs D dA hA0 S hbb H locs ls hP hz hS hl)
theorem vp_goto {off : Int} {tgt : Nat} (hd : decode code pc = .ok (.goto off, 3)) (ht : (pc : Int) + off = (tgt : Int)) (kk : am_V b L xs k n tgt lv st N μ) : am_V b L xs k n pc lv st N μ := by
  intro p l e s m below meth c bs D dA hA0 S hbb H locs ls hP hz hS hl
  exact lv_goto S.1 S.2.1 hd ht (kk p l e s m below meth c bs D dA hA0 S hbb H locs ls hP hz hS hl)
theorem vp_icmp_gt {x y off : Int} {tgt : Nat} (hd : decode code pc = .ok (.if_icmp .gt off, 3)) (ht : (pc : Int) + off = (tgt : Int)) (h : (-2147483648 ≤ x ∧ x ≤ 2147483647) ∧ (-2147483648 ≤ y ∧ y ≤ 2147483647)) (kt : y < x → am_V b L xs k n tgt lv st N μ) (kf : ¬ y < x → am_V b L xs k n (pc + 3) lv st N μ) : am_V b L xs k n pc lv (am_i y :: am_i x :: st) N μ := by
  intro p l e s m below meth c bs D dA hA0 S hbb H locs ls hP hz hS hl
  exact lv_icmp_gt S.1 S.2.1 hd ht (fun q => kt ((am_lt3 ⟨h.2, h.1⟩).mp q) p l e s m below meth c bs D dA hA0 S hbb H locs ls hP hz hS hl) (fun q => kf (fun z => q ((am_lt3 ⟨h.2, h.1⟩).mpr z)) p l e s m below meth c bs D dA hA0 S hbb H locs ls hP hz hS hl)
theorem vp_same {v off : Int} {tgt : Nat} (hd : decode code pc = .ok (.if_icmp .eq off, 3)) (ht : (pc : Int) + off = (tgt : Int)) (kk : am_V b L xs k n tgt lv st N μ) : am_V b L xs k n pc lv (am_i v :: am_i v :: st) N μ := by
  intro p l e s m below meth c bs D dA hA0 S hbb H locs ls hP hz hS hl
  exact lv_icmp_eq S.1 S.2.1 hd ht (fun _ => kk p l e s m below meth c bs D dA hA0 S hbb H locs ls hP hz hS hl) (fun q => absurd rfl q)
theorem vp_sameL {v off : Int} {tgt : Nat} (hd : decode code pc = .ok (.lcmp, 1)) (hd2 : decode code (pc + 1) = .ok (.ifCond .eq off, 3)) (ht : ((pc + 1 : Nat) : Int) + off = (tgt : Int)) (kk : am_V b L xs k n tgt lv st N μ) : am_V b L xs k n pc lv (am_l v :: am_l v :: st) N μ := by
  intro p l e s m below meth c bs D dA hA0 S hbb H locs ls hP hz hS hl
  refine W.lcmp S.1 S.2.1 hd ?_
  refine lv_if_eq S.1 S.2.1 hd2 ht (fun _ => kk p l e s m below meth c bs D dA hA0 S hbb H locs ls hP hz hS hl) (fun q => absurd ?_ q)
  simp only [lg_cmp, gt_iff_lt]
  rw [if_neg (Int64.lt_irrefl), if_pos trivial]
theorem vp_tableIn {dflt lo hi : Int} {offs : Array Int} {len : Nat} {a off : Int} {tgt : Nat} (hd : decode code pc = .ok (.tableswitch dflt lo hi offs, len)) (hr : -2147483648 ≤ a ∧ a ≤ 2147483647) (h1 : lo ≤ a ∧ a ≤ hi) (ho : offs[(a - lo).toNat]? = some off) (ht : (pc : Int) + off = (tgt : Int)) (kk : am_V b L xs k n tgt lv st N μ) : am_V b L xs k n pc lv (am_i a :: st) N μ := by
  intro p l e s m below meth c bs D dA hA0 S hbb H locs ls hP hz hS hl
  exact lv_tableIn S.1 S.2.1 hd (by rw [am_to3 hr]; omega) (by rw [am_to3 hr]; omega) (by rw [am_to3 hr]; exact ho) ht (kk p l e s m below meth c bs D dA hA0 S hbb H locs ls hP hz hS hl)
theorem vp_tableOut {dflt lo hi : Int} {offs : Array Int} {len : Nat} {a : Int} {tgt : Nat} (hd : decode code pc = .ok (.tableswitch dflt lo hi offs, len)) (hr : -2147483648 ≤ a ∧ a ≤ 2147483647) (h : a < lo ∨ hi < a) (ht : (pc : Int) + dflt = (tgt : Int)) (kk : am_V b L xs k n tgt lv st N μ) : am_V b L xs k n pc lv (am_i a :: st) N μ := by
  intro p l e s m below meth c bs D dA hA0 S hbb H locs ls hP hz hS hl
  exact lv_tableOut S.1 S.2.1 hd (by rw [am_to3 hr]; exact h) ht (kk p l e s m below meth c bs D dA hA0 S hbb H locs ls hP hz hS hl)
theorem vp_astore1 {a : Nat} (hd : decode code pc = .ok (.astore_n 1, 1)) (kk : am_V b L xs k n (pc + 1) [(1, .ref a)] st N μ) : am_V b L xs k n pc [] (.ref a :: st) N μ := by
  intro p l e s m below meth c bs D dA hA0 S hbb H locs ls hP hz hS hl
  exact lv_astore_n (lv' := [(1, .ref (bs + a)), (0, .ref b)]) S.1 S.2.1 hd rfl hl (by decide) rfl (fun ls2 hl2 => kk p l e s m below meth c bs D dA hA0 S hbb H locs ls2 hP hz hS (lv_sub hl2 [1, 0] rfl))
theorem vp_astore2 {a a2 : Nat} (hd : decode code pc = .ok (.astore_n 2, 1)) (kk : am_V b L xs k n (pc + 1) [(1, .ref a), (2, .ref a2)] st N μ) : am_V b L xs k n pc [(1, .ref a)] (.ref a2 :: st) N μ := by
  intro p l e s m below meth c bs D dA hA0 S hbb H locs ls hP hz hS hl
  exact lv_astore_n (lv' := [(2, .ref (bs + a2)), (0, .ref b), (1, .ref (bs + a))]) S.1 S.2.1 hd rfl hl (by decide) rfl (fun ls2 hl2 => kk p l e s m below meth c bs D dA hA0 S hbb H locs ls2 hP hz hS (lv_sub hl2 [1, 2, 0] rfl))
theorem vp_istore3 {a a2 : Nat} {z : Int} (hd : decode code pc = .ok (.istore_n 3, 1)) (kk : am_V b L xs k n (pc + 1) [(1, .ref a), (2, .ref a2), (3, am_i z)] st N μ) : am_V b L xs k n pc [(1, .ref a), (2, .ref a2)] (am_i z :: st) N μ := by
  intro p l e s m below meth c bs D dA hA0 S hbb H locs ls hP hz hS hl
  exact lv_istore_n (lv' := [(3, am_i z), (0, .ref b), (1, .ref (bs + a)), (2, .ref (bs + a2))]) S.1 S.2.1 hd rfl hl (by decide) rfl (fun ls2 hl2 => kk p l e s m below meth c bs D dA hA0 S hbb H locs ls2 hP hz hS (lv_sub hl2 [1, 2, 3, 0] rfl))
theorem vp_iinc3 {a a2 : Nat} {z d : Int} (hd : decode code pc = .ok (.iinc 3 d, 3)) (kk : am_V b L xs k n (pc + 3) [(1, .ref a), (2, .ref a2), (3, am_i (z + d))] st N μ) : am_V b L xs k n pc [(1, .ref a), (2, .ref a2), (3, am_i z)] st N μ := by
  intro p l e s m below meth c bs D dA hA0 S hbb H locs ls hP hz hS hl
  exact lv_iinc (v := Int32.ofInt (z + d)) (lv' := [(3, am_i (z + d)), (0, .ref b), (1, .ref (bs + a)), (2, .ref (bs + a2))]) S.1 S.2.1 hd hl (k := 3) rfl (by rw [← Int32.ofInt_add]) (by decide) rfl (fun ls2 hl2 => kk p l e s m below meth c bs D dA hA0 S hbb H locs ls2 hP hz hS (lv_sub hl2 [1, 2, 3, 0] rfl))
theorem vp_slen  (d0 : decode code pc = .ok (.aload_n 0, 1)) (d1 : decode code (pc + 1) = .ok (.arraylength, 1)) (hL : L ≤ 2560) (kk : am_V b L xs k n (pc + 2) lv (am_i (L : Int) :: st) N μ) : am_V b L xs k n pc lv st N μ := by
  intro p l e s m below meth c bs D dA hA0 S hbb H locs ls hP hz hS hl
  obtain ⟨-, -, -, -, -, -, hX, hbl, -⟩ := id hA0
  refine lv_aload_n S.1 S.2.1 d0 rfl (hl.2.2 (0, .ref b) List.mem_cons_self) ?_
  refine va_slen S.1 S.2.1 hX hbl (show ¬ am_A bs b from Nat.not_le.mpr hbb.2) hS d1 ?_
  have hgo := kk p l e s m below meth c bs D dA hA0 S hbb H locs ls hP hz hS hl
  rw [show (am_i (L : Int) :: st).map (am_v bs) = .int (nI L) :: st.map (am_v bs) from by simp only [List.map_cons, am_v_int, Int32.ofInt_eq_ofNat]; rfl] at hgo
  exact hgo
theorem vp_arg0 {z : Int} {i : Nat} (d0 : decode code pc = .ok (.aload_n 0, 1)) (d1 : decode code (pc + 1) = .ok (.iload_n 3, 1)) (d4 : decode code (pc + 2) = .ok (.iaload, 1)) (hz0 : z = (i : Int)) (hi : i < L) (hL : L ≤ 2560) (kk : am_V b L xs k n (pc + 3) [(1, .ref 0), (2, .ref 120), (3, am_i z)] (am_i (sx xs i) :: st) N μ) : am_V b L xs k n pc [(1, .ref 0), (2, .ref 120), (3, am_i z)] st N μ := by
  intro p l e s m below meth c bs D dA hA0 S hbb H locs ls hP hz hS hl
  obtain ⟨-, -, -, -, -, -, hX, hbl, -⟩ := id hA0
  refine lv_aload_n S.1 S.2.1 d0 rfl (hl.2.2 (0, .ref b) List.mem_cons_self) ?_
  refine lv_iload_n S.1 S.2.1 d1 rfl (am_at0 (i := 3) (v := am_i z) hl rfl) ?_
  refine va_sld S.1 S.2.1 hX hbl (show ¬ am_A bs b from Nat.not_le.mpr hbb.2) hS (am_in3 hz0 hi (by omega)) d4 ?_
  rw [hz0, am_tn3 (by omega)]
  rw [hz0] at kk hl
  have hgo := kk p l e s m below meth c bs D dA hA0 S hbb H locs ls hP hz hS hl
  rw [show (am_i (sx xs i) :: st).map (am_v bs) = .int (xs i) :: st.map (am_v bs) from by simp only [List.map_cons, am_v_int, sx, Int32.ofInt_toInt]] at hgo
  exact hgo
theorem vp_arg {z jz : Int} {i j : Nat} (d0 : decode code pc = .ok (.aload_n 0, 1)) (d1 : decode code (pc + 1) = .ok (.iload_n 3, 1)) (d2 : decode code (pc + 2) = .ok (.iconst jz, 1)) (d3 : decode code (pc + 3) = .ok (.iadd, 1)) (d4 : decode code (pc + 4) = .ok (.iaload, 1)) (hz0 : z = (i : Int)) (hj : jz = (j : Int)) (hi : i + j < L) (hL : L ≤ 2560) (kk : am_V b L xs k n (pc + 5) [(1, .ref 0), (2, .ref 120), (3, am_i z)] (am_i (sx xs (i + j)) :: st) N μ) : am_V b L xs k n pc [(1, .ref 0), (2, .ref 120), (3, am_i z)] st N μ := by
  intro p l e s m below meth c bs D dA hA0 S hbb H locs ls hP hz hS hl
  obtain ⟨-, -, -, -, -, -, hX, hbl, -⟩ := id hA0
  refine lv_aload_n S.1 S.2.1 d0 rfl (hl.2.2 (0, .ref b) List.mem_cons_self) ?_
  refine lv_iload_n S.1 S.2.1 d1 rfl (am_at0 (i := 3) (v := am_i z) hl rfl) ?_
  refine lv_iconst (v := Int32.ofInt jz) S.1 S.2.1 d2 rfl ?_
  refine lv_iadd S.1 S.2.1 d3 ?_
  rw [← Int32.ofInt_add, show z + jz = ((i + j : Nat) : Int) by omega]
  refine va_sld S.1 S.2.1 hX hbl (show ¬ am_A bs b from Nat.not_le.mpr hbb.2) hS (am_in3 rfl hi (by omega)) d4 ?_
  rw [am_tn3 (by omega)]
  have hgo := kk p l e s m below meth c bs D dA hA0 S hbb H locs ls hP hz hS hl
  rw [show (am_i (sx xs (i + j)) :: st).map (am_v bs) = .int (xs (i + j)) :: st.map (am_v bs) from by simp only [List.map_cons, am_v_int, sx, Int32.ofInt_toInt]] at hgo
  exact hgo
theorem vp_new {idx ci : Nat} {fs : List Value} (hf : am_nc YL.1.cls idx ci fs) (hd : decode code pc = .ok (.new idx, 3)) (hk : k + 1 ≤ (am_r YL).cells) (hs : n + fs.length ≤ (am_r YL).slots) (kk : ∀ μ2 : am_M, μ2 N = am_O ci fs → (∀ b, b ≠ N → μ2 b = μ b) → am_V b L xs (k + 1) (n + fs.length) (pc + 3) lv (.ref N :: st) (N + 1) μ2) : am_V b L xs k n pc lv st N μ := by
  intro p l e s m below meth c bs D dA hA0 S hbb H locs ls hP hz hS hl
  obtain ⟨C, T, M, ty0, f1, f2, f3, f4, f5, f6, f7, f8⟩ := hf
  subst f8
  have hts := S.2.2.2.2.2.2.1
  have hKn := S.2.2.2.2.2.2.2.1.1 ci _ f2
  refine W.newcK S.1 S.2.1 S.2.2.2.2.2.1 (hts _ f5) (hts _ f6) (hts _ f7) rfl hd hk hs hKn.2.1 hz fun H1 kC hkC e1 z1 o1 => ?_
  have hP1 := am_wp (H1 := H1) (e := am_O ci fs) hP hz (by rw [hz]; exact o1) ⟨_, f2, (u_born ty0 hts f1 hKn hkC e1 f3).to (fun j hj => f4 j hj bs)⟩
  exact kk _ am_ueq am_une p l e s m below meth c bs D dA hA0 S hbb H1 locs ls hP1 (by rw [z1]; rfl) ⟨Nat.le_trans hS.1 (by omega), fun x h1 h2 => (o1 x (by have := hS.1; omega)).trans (hS.2.1 x h1 h2), hS.2.2⟩ hl
theorem vp_callV {Y2 : am_Y} {idx a ci : Nat} {fs : List Value} {As rest st0 : List Value} {Q2 : Option Value → Nat → am_M → Prop} (hM : am_Met Y2 (.ref a :: As) N μ Q2) (hd : decode code pc = .ok (.invokevirtual idx, 3)) (hw : Cond.methodLink YL.1.cls idx Y2.1 ∈ am_tb ∧ Cond.initialized Y2.1.cls ∈ am_tb ∧ Cond.code Y2.1 (am_c Y2) (am_n Y2) (am_t Y2) ∈ am_tb ∧ Cond.instanceMethod Y2.1 ∈ am_tb ∧ Cond.selects Y2.1.cls Y2.1 Y2.1 ∈ am_tb) (hy : Y2.1.cls ≠ "java/lang/invoke/MethodHandle" ∧ Y2.1.cls ≠ "java/lang/invoke/VarHandle" ∧ (parseMethodDescriptor Y2.1.desc).map (fun d => d.parameters.length) = some As.length) (hst : st0 = As.reverse ++ .ref a :: rest) (hb : a < N) (hm : μ a = am_O ci fs) (hC : ∃ T M, am_cl[ci]? = some (Y2.1.cls, T, M)) (hrest : (rest.map fun v => v.category).sum ≤ 8) (hR : (am_r Y2).frames + 1 ≤ (am_r YL).frames ∧ 8 + (am_n Y2 + 11) + (am_r Y2).locals ≤ (am_r YL).locals) (hk : k + (am_r Y2).cells ≤ (am_r YL).cells ∧ n + (am_r Y2).slots ≤ (am_r YL).slots)
    (kk : ∀ (r : Option Value) (N2 : Nat) (μ2 : am_M), Q2 r N2 μ2 → am_V b L xs (k + (am_r Y2).cells) (n + (am_r Y2).slots) (pc + 3) lv (r.toList ++ rest) N2 μ2) : am_V b L xs k n pc lv st0 N μ := by
  intro p l e s m below meth c bs D dA hA0 S hbb H locs ls hP hz hS hl
  subst hst
  have hts := S.2.2.2.2.2.2.1
  have hK := S.2.2.2.2.2.2.2.1
  obtain ⟨T, M, hC⟩ := hC
  have he : (am_w bs dA N μ)[a]? = some (bs + a, .inr (ci, fs.map (am_v bs))) := by rw [am_w_get hb, hm]; rfl
  have hcb := callB_of (R := am_r YL) (own := YL.1.cls) (index := idx) (rm := am_r Y2) (mc := (am_r Y2).cells) (ms := (am_r Y2).slots) As.length hts (am_good hw.2.2.1) rfl rfl rfl (hts _ hw.2.1) (hts _ hw.1) hy hR
  have hrun := va_runV (p := p) (l := l) (e := e) (below := below) (meth := meth) (locs := locs) (cells := k) (slots := n) (g := F0 m pc ls ((As.reverse ++ .ref a :: rest).map (am_v bs))) (rest := rest.map (am_v bs)) (As := As.map (am_v bs)) (b := bs + a) (cc := code) (nL := am_n YL) ⟨S.1, S.2.1, S.2.2.1, S.2.2.2.2.2.1, hts⟩ (hM l bs D dA) ⟨hcb, hts _ hw.2.2.2.1, hts _ hw.2.2.2.2⟩ ⟨am_blind, va_recv hK hP hC he, fun U hU hW => ⟨rfl, by rw [hU]; exact hz, by rw [hU]; exact hP, va_K.moved hW.alike hK, am_fk S.2.2.2.2.2.2.2.2.2.2 hS hU hW⟩⟩ rfl (by rw [List.length_map]) hl.1 (by rw [List.map_append, List.map_reverse]; rfl) (lv_room (by rw [List.map_map]; simpa [Function.comp_def, am_v_cat] using hrest)) hd hk
  refine am_run hrun hS (fun r N2 μ2 H1 locs1 hq hP1 hz1 hS1 => ?_)
  have hgo := kk r N2 μ2 hq p l e s m below meth c bs D dA hA0 S hbb H1 locs1 ls hP1 hz1 hS1 hl
  rw [List.map_append] at hgo
  cases r <;> exact hgo
theorem vp_callI {Y2 : am_Y} {idx a : Nat} {As rest st0 : List Value} {Q2 : Option Value → Nat → am_M → Prop} (hM : am_Met Y2 (.ref a :: As) N μ Q2) (hd : decode code pc = .ok (.invokespecial idx, 3)) (hw : Cond.methodLink YL.1.cls idx Y2.1 ∈ am_tb ∧ Cond.initialized Y2.1.cls ∈ am_tb ∧ Cond.code Y2.1 (am_c Y2) (am_n Y2) none ∈ am_tb ∧ Cond.instanceMethod Y2.1 ∈ am_tb) (ht2 : am_t Y2 = none) (hi : Y2.1.name = "<init>") (hy : Y2.1.cls ≠ "java/lang/invoke/MethodHandle" ∧ Y2.1.cls ≠ "java/lang/invoke/VarHandle" ∧ (parseMethodDescriptor Y2.1.desc).map (fun d => d.parameters.length) = some As.length) (hst : st0 = As.reverse ++ .ref a :: rest) (hrest : (rest.map fun v => v.category).sum ≤ 8) (hR : (am_r Y2).frames + 1 ≤ (am_r YL).frames ∧ 8 + (am_n Y2 + 11) + (am_r Y2).locals ≤ (am_r YL).locals) (hk : k + (am_r Y2).cells ≤ (am_r YL).cells ∧ n + (am_r Y2).slots ≤ (am_r YL).slots)
    (kk : ∀ (r : Option Value) (N2 : Nat) (μ2 : am_M), Q2 r N2 μ2 → am_V b L xs (k + (am_r Y2).cells) (n + (am_r Y2).slots) (pc + 3) lv (r.toList ++ rest) N2 μ2) : am_V b L xs k n pc lv st0 N μ := by
  intro p l e s m below meth c bs D dA hA0 S hbb H locs ls hP hz hS hl
  subst hst
  have hts := S.2.2.2.2.2.2.1
  have hM2 := hM l bs D dA
  rw [ht2] at hM2
  have hcb := callB_of (R := am_r YL) (own := YL.1.cls) (index := idx) (rm := am_r Y2) (mc := (am_r Y2).cells) (ms := (am_r Y2).slots) As.length hts (am_good hw.2.2.1) rfl rfl rfl (hts _ hw.2.1) (hts _ hw.1) hy hR
  have hrun := va_runI (p := p) (l := l) (e := e) (below := below) (meth := meth) (locs := locs) (cells := k) (slots := n) (g := F0 m pc ls ((As.reverse ++ .ref a :: rest).map (am_v bs))) (rest := rest.map (am_v bs)) (As := As.map (am_v bs)) (b := bs + a) (cc := code) (nL := am_n YL) ⟨S.1, S.2.1, S.2.2.1, S.2.2.2.2.2.1, hts⟩ hM2 ⟨hcb, hi, hts _ hw.2.2.2⟩ ⟨am_blind, fun U hU hW => ⟨rfl, by rw [hU]; exact hz, by rw [hU]; exact hP, va_K.moved hW.alike S.2.2.2.2.2.2.2.1, am_fk S.2.2.2.2.2.2.2.2.2.2 hS hU hW⟩⟩ rfl (by rw [List.length_map]) hl.1 (by rw [List.map_append, List.map_reverse]; rfl) (lv_room (by rw [List.map_map]; simpa [Function.comp_def, am_v_cat] using hrest)) hd hk
  refine am_run hrun hS (fun r N2 μ2 H1 locs1 hq hP1 hz1 hS1 => ?_)
  have hgo := kk r N2 μ2 hq p l e s m below meth c bs D dA hA0 S hbb H1 locs1 ls hP1 hz1 hS1 hl
  rw [List.map_append] at hgo
  cases r <;> exact hgo
theorem vp_cV {Y2 : am_Y} {idx a ci : Nat} {fs : List Value} {As rest st0 : List Value} {Q2 : Option Value → Nat → am_M → Prop} (hM : am_Met Y2 (.ref a :: As) N μ Q2) (hd : decode code pc = .ok (.invokevirtual idx, 3)) (hw : Cond.methodLink YL.1.cls idx Y2.1 ∈ am_tb ∧ Cond.initialized Y2.1.cls ∈ am_tb ∧ Cond.code Y2.1 (am_c Y2) (am_n Y2) (am_t Y2) ∈ am_tb ∧ Cond.instanceMethod Y2.1 ∈ am_tb ∧ Cond.selects Y2.1.cls Y2.1 Y2.1 ∈ am_tb) (hy : Y2.1.cls ≠ "java/lang/invoke/MethodHandle" ∧ Y2.1.cls ≠ "java/lang/invoke/VarHandle" ∧ (parseMethodDescriptor Y2.1.desc).map (fun d => d.parameters.length) = some As.length) (hst : st0 = As.reverse ++ .ref a :: rest) (hb : a < N) (hm : μ a = am_O ci fs) (hC : ∃ T M, am_cl[ci]? = some (Y2.1.cls, T, M)) (hrest : (rest.map fun v => v.category).sum ≤ 8) (hR : (am_r Y2).frames + 1 ≤ (am_r YL).frames ∧ 8 + (am_n Y2 + 11) + (am_r Y2).locals ≤ (am_r YL).locals) (hz : (am_r Y2).cells = 0 ∧ (am_r Y2).slots = 0) (hk : k ≤ (am_r YL).cells ∧ n ≤ (am_r YL).slots)
    (kk : ∀ (r : Option Value) (N2 : Nat) (μ2 : am_M), Q2 r N2 μ2 → am_V b L xs k n (pc + 3) lv (r.toList ++ rest) N2 μ2) : am_V b L xs k n pc lv st0 N μ :=
  vp_callV hM hd hw hy hst hb hm hC hrest hR (by rw [hz.1, hz.2]; exact hk) (fun r N2 μ2 h => by rw [hz.1, hz.2]; exact kk r N2 μ2 h)
theorem vp_end (hd : decode code pc = .ok (.ireturn, 1)) (hk : k ≤ 600000) (hs : n ≤ 7302250) : am_V b L xs k n pc lv [am_i 1] N μ := by
  intro p l e s m below meth c bs D dA hA0 S hbb H locs ls hP hz hS hl
  obtain ⟨hx, hb, hr, -, -, -, -, -, hlocks, -⟩ := id hA0
  refine va_forget (fun q hq => by rw [← hbb.1]; exact hS.2.2 q hq) ?_
  refine W.widen (k := 600000) (n := 7302250) hk hs ?_
  exact lw_ret hx hb hr hlocks hd
end
