/-! THE ABSTRACT LAYER: a memory of numbered cells (cell k lies at address bs + k), values with numbers in Int, one judgement am_W -/
-- classes and array types, by number
abbrev am_cl : List vw_C := [(RX0, TX0, 6), (RX0, TX0, 6), (RX2, TX2, 3), (RX3, TX3, 3), (RX4, TX4, 11), (RX5, TX5, 5), (RX6, TX6, 2), (RX7, TX7, 3), (RX0, TX0, 6), (RX9, TX9, 11), (RX10, TX10, 29)]
def am_tys (dA : Nat → ClassId) : List (ClassId × FieldType) := [(dA 0, .int), (dA 1, .long), (dA 2, .char), (dA 3, .boolean), (dA 4, .object "RhythmBench$Part"), (dA 5, .object "RhythmBench$State"), (dA 6, .object "RhythmBench$Text")]
-- cells
abbrev am_E : Type := (Nat × Nat × ((Nat → Int) ⊕ (Nat → Int) ⊕ (Nat → Option Nat))) ⊕ (Nat × List Value)
abbrev am_M : Type := Nat → am_E
abbrev am_I (t n : Nat) (f : Nat → Int) : am_E := .inl (t, n, .inl f)
abbrev am_L (n : Nat) (f : Nat → Int) : am_E := .inl (1, n, .inr (.inl f))
abbrev am_R (t n : Nat) (f : Nat → Option Nat) : am_E := .inl (t, n, .inr (.inr f))
abbrev am_O (c : Nat) (fs : List Value) : am_E := .inr (c, fs)
abbrev am_i (z : Int) : Value := .int (Int32.ofInt z)
abbrev am_l (z : Int) : Value := .long (Int64.ofInt z)
def am_rf (r : Option Nat) : Value := match r with
  | none => .null
  | some a => .ref a
def am_v (bs : Nat) (v : Value) : Value := match v with
  | .ref a => .ref (bs + a)
  | w => w
def am_e (bs : Nat) (dA : Nat → ClassId) (e : am_E) : va_E := match e with
  | .inl (t, n, .inl f) => .inl (dA t, n, .inl (fun j => Int32.ofInt (f j)))
  | .inl (t, n, .inr (.inl f)) => .inl (dA t, n, .inr (.inl (fun j => Int64.ofInt (f j))))
  | .inl (t, n, .inr (.inr f)) => .inl (dA t, n, .inr (.inr (.inr (.inr (fun j => (f j).map (fun a => bs + a))))))
  | .inr (c, fs) => .inr (c, fs.map (am_v bs))
def am_w (bs : Nat) (dA : Nat → ClassId) (N : Nat) (μ : am_M) : va_W := (List.range N).map fun i => (bs + i, am_e bs dA (μ i))
def am_A (bs : Nat) : Nat → Prop := fun q => bs ≤ q
def am_u (μ : am_M) (a : Nat) (e : am_E) : am_M := fun j => if j = a then e else μ j
def am_q (bs : Nat) (q : Nat × Value) : Nat × Value := (q.1, am_v bs q.2)
def am_lk (lv : List (Nat × Value)) (i : Nat) : Option Value := match lv with
  | [] => none
  | q :: r => cond (Nat.beq q.1 i) (some q.2) (am_lk r i)
def am_tb : List Cond := lw_tbl.filter goodWord
theorem am_tb_in {w : Cond} (h : w ∈ lw_tbl) (g : goodWord w = true) : w ∈ am_tb := List.mem_filter.mpr ⟨h, g⟩
theorem am_v_int {bs : Nat} {x : Int32} : am_v bs (.int x) = .int x := rfl
theorem am_v_cat (bs : Nat) (v : Value) : (am_v bs v).category = v.category := by cases v <;> rfl
theorem am_w_get {bs N : Nat} {dA : Nat → ClassId} {μ : am_M} {i : Nat} (h : i < N) : (am_w bs dA N μ)[i]? = some (bs + i, am_e bs dA (μ i)) := by
  simp [am_w, h]
theorem am_w_len {bs N : Nat} {dA : Nat → ClassId} {μ : am_M} : (am_w bs dA N μ).length = N := by simp [am_w]
theorem am_w_of {bs N : Nat} {dA : Nat → ClassId} {μ : am_M} {i : Nat} {q : Nat × va_E} (h : (am_w bs dA N μ)[i]? = some q) : i < N ∧ q = (bs + i, am_e bs dA (μ i)) := by
  have hl := (List.getElem?_eq_some_iff.mp h).1
  rw [am_w_len] at hl
  rw [am_w_get hl] at h
  exact ⟨hl, (Option.some.inj h).symm⟩
theorem am_D {bs N : Nat} {dA : Nat → ClassId} {μ : am_M} : va_D (am_A bs) (am_w bs dA N μ) := by
  refine ⟨fun i j p q hi hj hpq => ?_, fun k q hk => ?_⟩
  · obtain ⟨-, rfl⟩ := am_w_of hi
    obtain ⟨-, rfl⟩ := am_w_of hj
    simp at hpq
    exact hpq
  · obtain ⟨-, rfl⟩ := am_w_of hk
    exact Nat.le_add_right _ _
theorem am_w_set {bs N : Nat} {dA : Nat → ClassId} {μ : am_M} {i : Nat} {e : am_E} {x : va_E} (hx : x = am_e bs dA e) : (am_w bs dA N μ).set i (bs + i, x) = am_w bs dA N (am_u μ i e) := by
  subst hx
  apply List.ext_getElem?
  intro j
  by_cases hj : j < N
  · rw [am_w_get hj]
    by_cases hji : j = i
    · subst hji
      rw [List.getElem?_set_self (by rw [am_w_len]; exact hj)]
      simp [am_u]
    · rw [List.getElem?_set_ne (Ne.symm hji), am_w_get hj]
      simp [am_u, hji]
  · rw [List.getElem?_eq_none (by rw [List.length_set, am_w_len]; omega), List.getElem?_eq_none (by rw [am_w_len]; omega)]
theorem am_w_push {bs N : Nat} {dA : Nat → ClassId} {μ : am_M} {e : am_E} {x : va_E} (hx : x = am_e bs dA e) : am_w bs dA N μ ++ [(bs + N, x)] = am_w bs dA (N + 1) (am_u μ N e) := by
  subst hx
  apply List.ext_getElem?
  intro j
  by_cases hj : j < N
  · rw [List.getElem?_append_left (by rw [am_w_len]; exact hj), am_w_get hj, am_w_get (by omega)]
    simp [am_u, Nat.ne_of_lt hj]
  · rw [List.getElem?_append_right (by rw [am_w_len]; omega), am_w_len]
    by_cases hj2 : j = N
    · subst hj2
      rw [am_w_get (by omega)]
      simp [am_u]
    · rw [List.getElem?_eq_none (by simp; omega), List.getElem?_eq_none (by rw [am_w_len]; omega)]
theorem am_lk_of {lv : List (Nat × Value)} {i : Nat} {v : Value} (h : am_lk lv i = some v) : (i, v) ∈ lv := by
  induction lv with
  | nil => cases h
  | cons q r ih =>
    unfold am_lk at h
    cases hb : Nat.beq q.1 i with
    | true =>
      rw [hb] at h
      have := Nat.eq_of_beq_eq_true hb
      cases h
      subst this
      exact List.mem_cons_self
    | false =>
      rw [hb] at h
      exact List.mem_cons_of_mem _ (ih h)
theorem am_at {bs nL : Nat} {ls : Array Slot} {lv : List (Nat × Value)} {i : Nat} {v : Value} (hl : lv_has ls nL (lv.map (am_q bs))) (h : am_lk lv i = some v) : ls[i]? = some (.val (am_v bs v)) :=
  hl.2.2 (i, am_v bs v) (List.mem_map.mpr ⟨(i, v), am_lk_of h, rfl⟩)
theorem am_filter {bs : Nat} (lv : List (Nat × Value)) (i : Nat) : (lv.map (am_q bs)).filter (fun q => !(q.1 == i) && !(q.1 + 1 == i && q.2.category == 2)) = (lv.filter (fun q => !(q.1 == i) && !(q.1 + 1 == i && q.2.category == 2))).map (am_q bs) := by
  rw [List.filter_map]
  congr 1
  apply List.filter_congr
  intro q _
  simp [Function.comp, am_q, am_v_cat]
theorem am_filter2 {bs : Nat} (lv : List (Nat × Value)) (i : Nat) : (lv.map (am_q bs)).filter (fun q => !(q.1 == i) && (!(q.1 == i + 1) && !(q.1 + 1 == i && q.2.category == 2))) = (lv.filter (fun q => !(q.1 == i) && (!(q.1 == i + 1) && !(q.1 + 1 == i && q.2.category == 2)))).map (am_q bs) := by
  rw [List.filter_map]
  congr 1
  apply List.filter_congr
  intro q _
  simp [Function.comp, am_q, am_v_cat]
def am_s1 (lv : List (Nat × Value)) (i : Nat) (v : Value) : List (Nat × Value) := (i, v) :: lv.filter (fun q => !(q.1 == i) && !(q.1 + 1 == i && q.2.category == 2))
def am_s2 (lv : List (Nat × Value)) (i : Nat) (v : Value) : List (Nat × Value) := (i, v) :: lv.filter (fun q => !(q.1 == i) && (!(q.1 == i + 1) && !(q.1 + 1 == i && q.2.category == 2)))
theorem am_args (bs : Nat) (vs : List Value) : ∀ i, lv_args i (vs.map (am_v bs)) = (lv_args i vs).map (am_q bs) := by
  induction vs with
  | nil => intro i; rfl
  | cons v r ih =>
    intro i
    simp only [List.map_cons, lv_args, am_v_cat]
    rw [ih]
    rfl
/-! the facts that are carried: nest links, static cells, the one String constant -/
def am_nw : List Cond := lw_tbl.filter (fun w => match w with
  | .fieldLinkNest .. => true
  | .methodLinkNest .. => true
  | _ => false)
def am_dq (j : Nat) : Value := if j = 0 then .int 4 else if j = 1 then .int 6 else .int 7
def am_F (A : Nat → Prop) (U : State) (H : Heap) : Prop :=
  (∀ w ∈ am_nw, va_Nw w U) ∧ (va_AO "RhythmBench$Part" U ∧ va_AO "RhythmBench$State" U ∧ va_AO "RhythmBench$Text" U) ∧
  (∃ t : Nat, va_Z "RhythmBench$Score" "DOTTED_QUARTERS" "[I" (.ref t) A U H ∧ va_T .int t 3 am_dq A U H) ∧
  (∃ adK adV : Nat → Nat, vk_S 1 [6] [[119, 104, 113, 101, 115, 116]] adK adV A U H ∧ vk_R "RhythmBench$Notation" 9 "whqest" (adK 0) U) ∧
  va_Z "java/lang/String" "COMPACT_STRINGS" "Z" (.int 1) A U H
theorem am_nw_warm {s U : State} (hW : s.WarmedH U.vm) (h : ∀ w ∈ am_nw, va_Nw w s) : ∀ w ∈ am_nw, va_Nw w U := by
  intro w hw
  have h1 := h w hw
  have h2 := (List.mem_filter.mp hw).2
  cases w <;> first | exact va_Nw.warmF hW h1 | exact va_Nw.warmM hW h1 | (simp at h2; done)
theorem am_nw_same {s U : State} (hv : s.vm = U.vm) (h : ∀ w ∈ am_nw, va_Nw w s) : ∀ w ∈ am_nw, va_Nw w U := by
  intro w hw
  have h1 := h w hw
  have h2 := (List.mem_filter.mp hw).2
  refine va_Nw.same ?_ hv h1
  cases w <;> first | rfl | (simp at h2; done)
theorem am_F.warm {A : Nat → Prop} {s U : State} {H : Heap} (hW : s.WarmedH U.vm) (h : am_F A s H) : am_F A U H := by
  obtain ⟨h1, ⟨h2, h3, h4⟩, ⟨t, h5, h6⟩, ⟨k, v, h7, h8⟩, h9⟩ := h
  exact ⟨am_nw_warm hW h1, ⟨h2.moved hW.alike, h3.moved hW.alike, h4.moved hW.alike⟩, ⟨t, h5.moved hW.alike, h6.moved hW.alike⟩, ⟨k, v, h7.moved hW.alike, h8.warm hW⟩, h9.moved hW.alike⟩
theorem am_F.same {A : Nat → Prop} {s U : State} {H : Heap} (hv : s.vm = U.vm) (h : am_F A s H) : am_F A U H := by
  obtain ⟨h1, ⟨h2, h3, h4⟩, ⟨t, h5, h6⟩, ⟨k, v, h7, h8⟩, h9⟩ := h
  have hA : s.vm.Alike U.vm := by rw [hv]; exact Vm.Alike.refl _
  exact ⟨am_nw_same hv h1, ⟨h2.moved hA, h3.moved hA, h4.moved hA⟩, ⟨t, h5.moved hA, h6.moved hA⟩, ⟨k, v, h7.moved hA, h8.same hv.symm⟩, h9.moved hA⟩
theorem am_F.kept {A : Nat → Prop} {U : State} {H H1 : Heap} (h : am_F A U H) (hq : ∀ a : Nat, a < H.size → ¬ A a → H1[a]? = H[a]?) : am_F A U H1 := by
  obtain ⟨h1, h2, ⟨t, h5, h6⟩, ⟨k, v, h7, h8⟩, h9⟩ := h
  exact ⟨h1, h2, ⟨t, h5.kept hq, h6.kept hq⟩, ⟨k, v, h7.kept hq, h8⟩, h9.kept hq⟩
/-! a method: its name, bytes, locals, answer, whether a constructor, its room -/
abbrev am_Y : Type := MethodName × ByteArray × Nat × Option FieldType × Bool × Room
abbrev am_c (Y : am_Y) : ByteArray := Y.2.1
abbrev am_n (Y : am_Y) : Nat := Y.2.2.1
abbrev am_t (Y : am_Y) : Option FieldType := Y.2.2.2.1
abbrev am_z (Y : am_Y) : Bool := Y.2.2.2.2.1
abbrev am_r (Y : am_Y) : Room := Y.2.2.2.2.2
def am_S (Y : am_Y) (p : Program) (s : State) (m : MethodId) (args : Array Value) (meth : Method) (c : Code) (bs : Nat) (D : va_G) (dA : Nat → ClassId) : Prop :=
  p.tables.exec = Jvm.exec ∧ c.code = am_c Y ∧ c.maxLocals = am_n Y ∧ meth.sig.returnType = am_t Y ∧ meth.locks = false ∧ s.vm.findClass Y.1.cls = some m.cls ∧ (∀ w ∈ am_tb, w.before args s = true) ∧ va_K D am_cl (am_tys dA) s ∧ bs ≤ s.heap.size ∧ (am_z Y = true → meth.name = "<init>") ∧ am_F (am_A bs) s s.heap
def am_Qc (Q : Option Value → Nat → am_M → Prop) (bs : Nat) (D : va_G) (dA : Nat → ClassId) : Array Value → State → Outcome → State → Prop := fun _ st oc t =>
  (∃ (r : Option Value) (N : Nat) (μ : am_M), oc = .returned (r.map (am_v bs)) ∧ Q r N μ ∧ va_P D am_cl (am_w bs dA N μ) t.heap ∧ t.heap.size = bs + N) ∧ va_F (am_A bs) st t
def am_W (Y : am_Y) (Q : Option Value → Nat → am_M → Prop) (k n pc : Nat) (lv : List (Nat × Value)) (st : List Value) (N : Nat) (μ : am_M) : Prop :=
  ∀ (p : Program) (l : Launch) (e : Env) (s : State) (m : MethodId) (args : Array Value) (below : List Frame) (meth : Method) (c : Code) (bs : Nat) (D : va_G) (dA : Nat → ClassId), am_S Y p s m args meth c bs D dA →
  ∀ (H : Heap) (locs : List Loc) (ls : Array Slot), va_P D am_cl (am_w bs dA N μ) H → H.size = bs + N → va_S (am_A bs) s.heap H locs → lv_has ls (am_n Y) (lv.map (am_q bs)) →
    W p l e (am_r Y) s m args below meth c H locs k n (MQ below (am_Qc Q bs D dA) args s (am_r Y).cells (am_r Y).slots (am_A bs)) (F0 m pc ls (st.map (am_v bs)))
def am_pre (bs : Nat) (D : va_G) (dA : Nat → ClassId) (N : Nat) (μ : am_M) (U : State) : Prop :=
  U.heap.size = bs + N ∧ va_P D am_cl (am_w bs dA N μ) U.heap ∧ va_K D am_cl (am_tys dA) U ∧ am_F (am_A bs) U U.heap
def am_Met (Y : am_Y) (av : List Value) (N : Nat) (μ : am_M) (Q : Option Value → Nat → am_M → Prop) : Prop :=
  ∀ (l : Launch) (bs : Nat) (D : va_G) (dA : Nat → ClassId), Met l Y.1 (Cond.code Y.1 (am_c Y) (am_n Y) (am_t Y) :: am_tb) (am_r Y) (va_Pc (av.map (am_v bs)) (am_pre bs D dA N μ)) (am_Qc Q bs D dA) (am_r Y).cells (am_r Y).slots (am_A bs)
theorem am_met {Y : am_Y} {av : List Value} {N : Nat} {μ : am_M} {Q : Option Value → Nat → am_M → Prop} (hy : plainName Y.1.cls = true) (hn : (lg_sl av).length ≤ am_n Y) (hz : am_z Y = true → Y.1.name = "<init>") (h : am_W Y Q 0 0 0 (lv_args 0 av) [] N μ) : am_Met Y av N μ Q := by
  intro l bs D dA
  refine Met.ofW (cc := am_c Y) (maxL := am_n Y) (ret := am_t Y) hy rfl ?_
  intro p e s m args below meth c s₁ B hml hv
  obtain ⟨rfl, hsz, hP, hK, hF⟩ := hv
  have hts := atoms_spec (ws := Cond.code Y.1 (am_c Y) (am_n Y) (am_t Y) :: am_tb) B.pre
  have hown : s.vm.findClass Y.1.cls = some m.cls := findClass_of_methodNamed B.named
  have hin : meth.name = Y.1.name := (name_of_methodNamed B.named B.method).1
  have hn' : (lg_sl (av.map (am_v bs))).length ≤ am_n Y := by
    have e : ∀ vs : List Value, (lg_sl (vs.map (am_v bs))).length = (lg_sl vs).length := by
      intro vs
      induction vs with
      | nil => rfl
      | cons v r ih =>
        simp only [lg_sl, List.map_cons, List.flatMap_cons, List.length_append, am_v_cat] at ih ⊢
        rw [ih]
        by_cases hc : v.category = 2 <;> simp [hc]
    rw [e]; exact hn
  have hl := lv_entry (av.map (am_v bs)) (n := am_n Y) hn'
  rw [am_args] at hl
  rw [lg_entry_eq]
  exact h p l e s m _ below meth c bs D dA ⟨B.exec, B.bytes, hml, B.returns, B.notSynchronized, hown, fun w hw => hts w (List.mem_cons_of_mem _ hw), hK, by omega, fun hh => by rw [hin]; exact hz hh, hF⟩ s.heap [] _ hP hsz va_S.rf hl
