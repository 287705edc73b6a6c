/-! rows of the abstract layer that touch the memory, and calls -/
-- facts of a field, by the class whose instruction names it and its number in the constant pool
def am_ff (own : String) (idx ci j : Nat) : Prop := ∃ (C : String) (T : u_T) (M : Nat), (∀ w ∈ u_ws C T M, w ∈ am_tb) ∧ am_cl[ci]? = some (C, T, M) ∧ j < M ∧ Cond.fieldLink own idx (T j).1 (T j).2.1 (T j).2.2.1 ∈ am_tb
def am_fn (own : String) (idx ci j : Nat) : Prop := ∃ (C : String) (T : u_T) (M : Nat) (host : String), (∀ w ∈ u_ws C T M, w ∈ am_tb) ∧ am_cl[ci]? = some (C, T, M) ∧ j < M ∧ Cond.fieldLinkNest own idx (T j).1 (T j).2.1 (T j).2.2.1 host ∈ am_nw
-- facts of a class: field types, names apart
def am_fc (ci : Nat) (j : Nat) (fin : Bool) (ty : FieldType) : Prop := ∃ (C : String) (T : u_T) (M : Nat) (ty0 : Nat → FieldType), am_cl[ci]? = some (C, T, M) ∧ (∀ k, k < M → parseFieldDescriptor (T k).2.2.1 = some (ty0 k)) ∧ (∀ a, a < M → ∀ b, b < M → a ≠ b → (T a).2.1 ≠ (T b).2.1) ∧ (T j).2.2.2 = fin ∧ parseFieldDescriptor (T j).2.2.1 = some ty ∧ (T j).1 = C
def am_nc (own : String) (idx ci : Nat) (fs : List Value) : Prop := ∃ (C : String) (T : u_T) (M : Nat) (ty0 : Nat → FieldType), (∀ w ∈ u_ws C T M, w ∈ am_tb) ∧ am_cl[ci]? = some (C, T, M) ∧ (∀ k, k < M → parseFieldDescriptor (T k).2.2.1 = some (ty0 k)) ∧ (∀ j, j < M → ∀ bs : Nat, defaultValue (ty0 j) = vp_V (fs.map (am_v bs)) j) ∧ Cond.classLink own idx C ∈ am_tb ∧ Cond.instantiable C M ∈ am_tb ∧ Cond.initialized C ∈ am_tb ∧ M = fs.length
theorem am_ty {dA : Nat → ClassId} {t : Nat} (h : t < 7) : ∃ ty, (am_tys dA)[t]? = some (dA t, ty) := by
  match t, h with
  | 0, _ => exact ⟨_, rfl⟩
  | 1, _ => exact ⟨_, rfl⟩
  | 2, _ => exact ⟨_, rfl⟩
  | 3, _ => exact ⟨_, rfl⟩
  | 4, _ => exact ⟨_, rfl⟩
  | 5, _ => exact ⟨_, rfl⟩
  | 6, _ => exact ⟨_, rfl⟩
  | t + 7, h => omega
theorem am_up {α β : Type} {g : α → β} {f : Nat → α} {j : Nat} {x : α} : va_up (fun i => g (f i)) j (g x) = fun i => g (va_up f j x i) := by
  funext i
  by_cases h : i = j <;> simp [va_up, h]
theorem am_upd {f : Nat → Int} {j : Nat} {x : Int} : upd (fun i => Int32.ofInt (f i)) j (Int32.ofInt x) = fun i => Int32.ofInt (va_up f j x i) := by
  funext i
  by_cases h : i = j <;> simp [va_up, upd, h]
theorem am_updL {f : Nat → Int} {j : Nat} {x : Int} : vp_updL (fun i => Int64.ofInt (f i)) j (Int64.ofInt x) = fun i => Int64.ofInt (va_up f j x i) := by
  funext i
  by_cases h : i = j <;> simp [va_up, vp_updL, h]
theorem am_ueq {μ : am_M} {a : Nat} {e : am_E} : am_u μ a e a = e := by simp [am_u]
theorem am_une {μ : am_M} {a : Nat} {e : am_E} : ∀ b, b ≠ a → am_u μ a e b = μ b := fun b h => by simp [am_u, h]
theorem am_bool {z : Int} (h : z = 0 ∨ z = 1) : ∀ bs : Nat, narrow .boolean (am_v bs (am_i z)) = am_v bs (am_i z) ∧ fits .boolean (am_v bs (am_i z)) = true := by
  intro bs
  rcases h with rfl | rfl <;> exact ⟨rfl, rfl⟩
theorem am_nz {z : Int} (h : z = 0 ∨ z = 1) : narrow .boolean (.int (Int32.ofInt z)) = .int (Int32.ofInt z) := by
  rcases h with rfl | rfl <;> rfl
theorem am_narz {z : Int} (h : z = 0 ∨ z = 1) : vp_nar .boolean (Int32.ofInt z) = Int32.ofInt z := by
  rcases h with rfl | rfl <;> rfl
theorem am_fk {bs : Nat} {s U : State} {H : Heap} {locs : List Loc} (hF : am_F (am_A bs) s s.heap) (hS : va_S (am_A bs) s.heap H locs) (hU : U.heap = H) (hW : s.WarmedH U.vm) : am_F (am_A bs) U U.heap := by
  rw [hU]
  exact ((hF.warm hW).kept (H1 := H) (fun a h1 h2 => hS.2.1 a h1 h2))
theorem am_blind {bs : Nat} {D : va_G} {dA : Nat → ClassId} {N : Nat} {μ : am_M} {av : List Value} : FrameBlind (va_Pc av (am_pre bs D dA N μ)) := by
  intro a U g mk h
  obtain ⟨h0, h1, h2, h3, h4⟩ := h
  exact ⟨h0, h1, h2, va_K.moved (u := U) (U := U.calling g mk a) (Vm.Alike.refl U.vm) h3, am_F.same (s := U) (U := U.calling g mk a) rfl h4⟩
theorem am_good {w : Cond} (h : w ∈ am_tb) : GoodIn am_tb (w :: am_tb) := by
  intro x hx
  have hx' : x ∈ am_tb := by
    rcases List.mem_cons.mp hx with rfl | h2
    · exact h
    · exact h2
  exact ⟨hx', good_of_word (List.mem_filter.mp hx').2⟩
section
variable {p : Program} {l : Launch} {e : Env} {R : Room} {s : State} {m : MethodId} {args : Array Value} {below : List Frame} {meth : Method} {c : Code} {H : Heap} {locs : List Loc} {cells slots : Nat} {Qq : State → Prop}
theorem am_run {bs : Nat} {D : va_G} {dA : Nat → ClassId} {Q2 : Option Value → Nat → am_M → Prop} {pc mc ms : Nat} {ls : Array Slot} {st0 rest : List Value} {a : Array Value} (hr : va_Run p l e R s m args below meth c H locs cells slots mc ms (F0 m pc ls st0) rest (am_Qc Q2 bs D dA a) (am_A bs)) (hS : va_S (am_A bs) s.heap H locs)
    (kk : ∀ (r : Option Value) (N2 : Nat) (μ2 : am_M) (H1 : Heap) (locs1 : List Loc), Q2 r N2 μ2 → va_P D am_cl (am_w bs dA N2 μ2) H1 → H1.size = bs + N2 → va_S (am_A bs) s.heap H1 locs1 → W p l e R s m args below meth c H1 locs1 (cells + mc) (slots + ms) Qq (F0 m (pc + 3) ls ((r.map (am_v bs)).toList ++ rest))) : W p l e R s m args below meth c H locs cells slots Qq (F0 m pc ls st0) := by
  intro T hT X
  obtain ⟨v, st₀, t, T', L, h0, X', hL, e1, e2, ⟨⟨r, N2, μ2, hv, hq, hp, hsz⟩, hz, hk⟩, st⟩ := hr T hT X
  cases hv
  rw [h0] at hz hk
  obtain ⟨t2, a1, b1⟩ := kk r N2 μ2 T'.heap (locs ++ L) hq (by rw [e1]; exact hp) (by rw [e1]; exact hsz)
    ⟨Nat.le_trans hS.1 (by rw [e1]; exact hz), fun q h1 h2 => by rw [e1, hk q (Nat.lt_of_lt_of_le h1 hS.1) h2]; exact hS.2.1 q h1 h2, fun q hq => by
      rcases List.mem_append.mp hq with h | h
      · exact hS.2.2 q h
      · exact hL q h⟩ T' rfl X'
  exact ⟨t2, st t2 a1, b1⟩
end
section
variable {Y : am_Y} {Q : Option Value → Nat → am_M → Prop} {k n pc N : Nat} {lv : List (Nat × Value)} {st : List Value} {μ : am_M}
theorem ap_get {idx ci j a : Nat} {fs : List Value} {v : Value} (hf : am_ff Y.1.cls idx ci j) (hd : decode (am_c Y) pc = .ok (.getfield idx, 3)) (ha : a < N) (hm : μ a = am_O ci fs) (hv : fs[j]? = some v) (kk : am_W Y Q k n (pc + 3) lv (v :: st) N μ) : am_W Y Q k n pc lv (.ref a :: st) N μ := by
  intro p l e s m args below meth c bs D dA S H locs ls hP hz hS hl
  obtain ⟨C, T, M, f1, f2, f3, f4⟩ := hf
  exact va_get S.1 S.2.1 S.2.2.2.2.2.2.1 f1 S.2.2.2.2.2.1 S.2.2.2.2.2.2.2.1 hP a (fs := fs.map (am_v bs)) (by rw [am_w_get ha, hm]; rfl) f2 j f3 (S.2.2.2.2.2.2.1 _ f4) (fun _ h => h) (v := am_v bs v) (by rw [List.getElem?_map, hv]; rfl) hd (kk p l e s m args below meth c bs D dA S H locs ls hP hz hS hl)
theorem ap_getN {idx ci j a : Nat} {fs : List Value} {v : Value} (hf : am_fn Y.1.cls idx ci j) (hd : decode (am_c Y) pc = .ok (.getfield idx, 3)) (ha : a < N) (hm : μ a = am_O ci fs) (hv : fs[j]? = some v) (kk : am_W Y Q k n (pc + 3) lv (v :: st) N μ) : am_W Y Q k n pc lv (.ref a :: st) N μ := by
  intro p l e s m args below meth c bs D dA S H locs ls hP hz hS hl
  obtain ⟨C, T, M, host, f1, f2, f3, f4⟩ := hf
  exact va_getN S.1 S.2.1 S.2.2.2.2.2.2.1 f1 S.2.2.2.2.2.1 S.2.2.2.2.2.2.2.1 hP a (fs := fs.map (am_v bs)) (by rw [am_w_get ha, hm]; rfl) f2 j f3 (va_Nw.use rfl (S.2.2.2.2.2.2.2.2.2.2.1 _ f4)) (fun _ h => h) (v := am_v bs v) (by rw [List.getElem?_map, hv]; rfl) hd (kk p l e s m args below meth c bs D dA S H locs ls hP hz hS hl)
theorem ap_put {idx ci j a : Nat} {fs fs2 : List Value} {v : Value} {ty : FieldType} (hf : am_ff Y.1.cls idx ci j) (hc : am_fc ci j false ty) (hd : decode (am_c Y) pc = .ok (.putfield idx, 3)) (ha : a < N) (hm : μ a = am_O ci fs) (hn : ∀ bs : Nat, narrow ty (am_v bs v) = am_v bs v ∧ fits ty (am_v bs v) = true) (hl2 : j < fs.length) (h2 : fs.set j v = fs2) (kk : ∀ μ2 : am_M, μ2 a = am_O ci fs2 → (∀ b, b ≠ a → μ2 b = μ b) → am_W Y Q k n (pc + 3) lv st N μ2) : am_W Y Q k n pc lv (v :: .ref a :: st) N μ := by
  intro p l e s m args below meth c bs D dA S H locs ls hP hz hS hl
  obtain ⟨C, T, M, f1, f2, f3, f4⟩ := hf
  obtain ⟨C', T', M', ty0, g1, g2, g3, g4, g5, g6⟩ := hc
  cases f2.symm.trans g1
  have hts := S.2.2.2.2.2.2.1
  have hK := S.2.2.2.2.2.2.2.1
  have he : (am_w bs dA N μ)[a]? = some (bs + a, .inr (ci, fs.map (am_v bs))) := by rw [am_w_get ha, hm]; rfl
  have hap := va_apart (own := Y.1.cls) hts f1 ty0 g2 g3 hK f2
  obtain ⟨r, h1, cell, q1, q2, q3, q4⟩ := hP a _ he
  have hr : r = (C, T, M) := Option.some.inj (h1.symm.trans f2)
  subst hr
  obtain ⟨hSk, hfc, kC, hkC, hkind⟩ := hK.1 ci _ f2
  obtain ⟨cf, kf, fi, f, hi, hsl⟩ := hSk j f3
  have hlay := hts _ (f1 _ (u_in_lay f3))
  unfold u_lay at hlay
  rw [if_neg (by rw [g4]; decide)] at hlay
  have hst := (u_facts hfc hkC (u_lays hts f1 f3) hi).1
  have h6 := u_store hfc hkC hkind hlay hi g5 (hn bs).1 (hn bs).2
  refine W.putK S.1 S.2.1 (f := f) ⟨S.2.2.2.2.2.1, hts _ f4, ⟨_, _, _, hi⟩, hst⟩ (by rw [q2]; exact h6) q1 q3 (by rw [hsl]; exact k2_hasslot (q4 j f3)) rfl rfl hd fun H1 e1 z e3 => ?_
  rw [hsl] at e1 ⊢
  have hP1 := hP.set am_D he (e := .inr (ci, (fs.map (am_v bs)).set j (am_v bs v))) ⟨_, f2, t_OB.to (V := updV (vp_V (fs.map (am_v bs))) j (am_v bs v)) ⟨_, e1, q2, q3, t_set q4 hap f3 (am_v bs v)⟩ (fun j' _ => vp_updV_set (by rw [List.length_map]; exact hl2) (am_v bs v) j')⟩ e3
  rw [am_w_set (e := am_O ci fs2) (by subst h2; rw [← List.map_set]; rfl)] at hP1
  exact kk _ am_ueq am_une p l e s m args below meth c bs D dA S H1 _ ls hP1 (z.trans hz) (hS.put z e3 (am_D.2 a _ he)) hl
theorem ap_putN {idx ci j a : Nat} {fs fs2 : List Value} {v : Value} {ty : FieldType} (hf : am_fn Y.1.cls idx ci j) (hc : am_fc ci j false ty) (hd : decode (am_c Y) pc = .ok (.putfield idx, 3)) (ha : a < N) (hm : μ a = am_O ci fs) (hn : ∀ bs : Nat, narrow ty (am_v bs v) = am_v bs v ∧ fits ty (am_v bs v) = true) (hl2 : j < fs.length) (h2 : fs.set j v = fs2) (kk : ∀ μ2 : am_M, μ2 a = am_O ci fs2 → (∀ b, b ≠ a → μ2 b = μ b) → am_W Y Q k n (pc + 3) lv st N μ2) : am_W Y Q k n pc lv (v :: .ref a :: st) N μ := by
  intro p l e s m args below meth c bs D dA S H locs ls hP hz hS hl
  obtain ⟨C, T, M, host, f1, f2, f3, f4⟩ := hf
  obtain ⟨C', T', M', ty0, g1, g2, g3, g4, g5, g6⟩ := hc
  cases f2.symm.trans g1
  have hts := S.2.2.2.2.2.2.1
  have hK := S.2.2.2.2.2.2.2.1
  have he : (am_w bs dA N μ)[a]? = some (bs + a, .inr (ci, fs.map (am_v bs))) := by rw [am_w_get ha, hm]; rfl
  have hap := va_apart (own := Y.1.cls) hts f1 ty0 g2 g3 hK f2
  obtain ⟨r, h1, cell, q1, q2, q3, q4⟩ := hP a _ he
  have hr : r = (C, T, M) := Option.some.inj (h1.symm.trans f2)
  subst hr
  obtain ⟨hSk, hfc, kC, hkC, hkind⟩ := hK.1 ci _ f2
  obtain ⟨cf, kf, fi, f, hi, hsl⟩ := hSk j f3
  have hlay := hts _ (f1 _ (u_in_lay f3))
  unfold u_lay at hlay
  rw [if_neg (by rw [g4]; decide)] at hlay
  have hst := (u_facts hfc hkC (u_lays hts f1 f3) hi).1
  have h6 := u_store hfc hkC hkind hlay hi g5 (hn bs).1 (hn bs).2
  refine va_WputK S.1 S.2.1 (f := f) S.2.2.2.2.2.1 (va_Nw.use rfl (S.2.2.2.2.2.2.2.2.2.2.1 _ f4)) hi hst (by rw [q2]; exact h6) q1 q3 (by rw [hsl]; exact k2_hasslot (q4 j f3)) rfl rfl hd fun H1 e1 z e3 => ?_
  rw [hsl] at e1 ⊢
  have hP1 := hP.set am_D he (e := .inr (ci, (fs.map (am_v bs)).set j (am_v bs v))) ⟨_, f2, t_OB.to (V := updV (vp_V (fs.map (am_v bs))) j (am_v bs v)) ⟨_, e1, q2, q3, t_set q4 hap f3 (am_v bs v)⟩ (fun j' _ => vp_updV_set (by rw [List.length_map]; exact hl2) (am_v bs v) j')⟩ e3
  rw [am_w_set (e := am_O ci fs2) (by subst h2; rw [← List.map_set]; rfl)] at hP1
  exact kk _ am_ueq am_une p l e s m args below meth c bs D dA S H1 _ ls hP1 (z.trans hz) (hS.put z e3 (am_D.2 a _ he)) hl
theorem ap_putF {idx ci j a : Nat} {fs fs2 : List Value} {v : Value} {ty : FieldType} (hf : am_ff Y.1.cls idx ci j) (hc : am_fc ci j true ty) (hd : decode (am_c Y) pc = .ok (.putfield idx, 3)) (ha : a < N) (hm : μ a = am_O ci fs) (hn : ∀ bs : Nat, narrow ty (am_v bs v) = am_v bs v ∧ fits ty (am_v bs v) = true) (hl2 : j < fs.length) (h2 : fs.set j v = fs2) (hini : am_z Y = true) (ho : ∀ C T M, am_cl[ci]? = some (C, T, M) → C = Y.1.cls) (kk : ∀ μ2 : am_M, μ2 a = am_O ci fs2 → (∀ b, b ≠ a → μ2 b = μ b) → am_W Y Q k n (pc + 3) lv st N μ2) : am_W Y Q k n pc lv (v :: .ref a :: st) N μ := by
  intro p l e s m args below meth c bs D dA S H locs ls hP hz hS hl
  obtain ⟨C, T, M, f1, f2, f3, f4⟩ := hf
  obtain ⟨C', T', M', ty0, g1, g2, g3, g4, g5, g6⟩ := hc
  cases f2.symm.trans g1
  have hts := S.2.2.2.2.2.2.1
  have hK := S.2.2.2.2.2.2.2.1
  have he : (am_w bs dA N μ)[a]? = some (bs + a, .inr (ci, fs.map (am_v bs))) := by rw [am_w_get ha, hm]; rfl
  have hap := va_apart (own := Y.1.cls) hts f1 ty0 g2 g3 hK f2
  obtain ⟨r, h1, cell, q1, q2, q3, q4⟩ := hP a _ he
  have hr : r = (C, T, M) := Option.some.inj (h1.symm.trans f2)
  subst hr
  obtain ⟨hSk, hfc, kC, hkC, hkind⟩ := hK.1 ci _ f2
  obtain ⟨cf, kf, fi, f, hi, hsl⟩ := hSk j f3
  have hlay := hts _ (f1 _ (u_in_lay f3))
  unfold u_lay at hlay
  rw [if_pos g4] at hlay
  have hst := (u_facts hfc hkC (u_lays hts f1 f3) hi).1
  have hcf : m.cls = cf := by
    obtain ⟨_, _, c', _, _, _, -, -, hf', -, -, -, hown2, -⟩ := Cond.laysFinal_spec hlay
    have e1 : c' = cf := by have := hi.symm.trans hf'; simp at this; exact this.1.symm
    rw [g6, ho C T M f2] at hown2
    rw [← e1]; exact Option.some.inj (S.2.2.2.2.2.1.symm.trans hown2)
  have h6 := u_fits hfc hkC hkind (Or.inr hlay) hi g5 (hn bs).1 (hn bs).2
  refine W.putFinK S.1 S.2.1 S.2.2.2.2.2.1 (hts _ f4) hi hst hcf (S.2.2.2.2.2.2.2.2.2.1 hini) (by rw [q2]; exact h6) q1 q3 (by rw [hsl]; exact k2_hasslot (q4 j f3)) rfl rfl hd fun H1 e1 z e3 => ?_
  rw [hsl] at e1 ⊢
  have hP1 := hP.set am_D he (e := .inr (ci, (fs.map (am_v bs)).set j (am_v bs v))) ⟨_, f2, t_OB.to (V := updV (vp_V (fs.map (am_v bs))) j (am_v bs v)) ⟨_, e1, q2, q3, t_set q4 hap f3 (am_v bs v)⟩ (fun j' _ => vp_updV_set (by rw [List.length_map]; exact hl2) (am_v bs v) j')⟩ e3
  rw [am_w_set (e := am_O ci fs2) (by subst h2; rw [← List.map_set]; rfl)] at hP1
  exact kk _ am_ueq am_une p l e s m args below meth c bs D dA S H1 _ ls hP1 (z.trans hz) (hS.put z e3 (am_D.2 a _ he)) hl
theorem ap_iald {a j L : Nat} {z : Int} {f : Nat → Int} (hd : decode (am_c Y) pc = .ok (.iaload, 1)) (ha : a < N) (hm : μ a = am_I 0 L f) (hj : z = (j : Int) ∧ j < L) (hL : L < 2147483648) (kk : am_W Y Q k n (pc + 1) lv (am_i (f j) :: st) N μ) : am_W Y Q k n pc lv (am_i z :: .ref a :: st) N μ := by
  intro p l e s m args below meth c bs D dA S H locs ls hP hz hS hl
  obtain ⟨rfl, hj⟩ := hj
  refine va_iald S.1 S.2.1 S.2.2.2.2.2.2.2.1 hP a 0 (by rw [am_w_get ha, hm]; rfl) rfl (am_in3 rfl hj hL) hd ?_
  rw [am_tn3 (by omega)]
  exact kk p l e s m args below meth c bs D dA S H locs ls hP hz hS hl
theorem ap_cald {a j L : Nat} {z : Int} {f : Nat → Int} (hd : decode (am_c Y) pc = .ok (.caload, 1)) (ha : a < N) (hm : μ a = am_I 2 L f) (hj : z = (j : Int) ∧ j < L) (hL : L < 2147483648) (kk : am_W Y Q k n (pc + 1) lv (am_i (f j) :: st) N μ) : am_W Y Q k n pc lv (am_i z :: .ref a :: st) N μ := by
  intro p l e s m args below meth c bs D dA S H locs ls hP hz hS hl
  obtain ⟨rfl, hj⟩ := hj
  refine va_cald S.1 S.2.1 S.2.2.2.2.2.2.2.1 hP a 2 (by rw [am_w_get ha, hm]; rfl) rfl (am_in3 rfl hj hL) hd ?_
  rw [am_tn3 (by omega)]
  exact kk p l e s m args below meth c bs D dA S H locs ls hP hz hS hl
theorem ap_zald {a j L : Nat} {z : Int} {f : Nat → Int} (hd : decode (am_c Y) pc = .ok (.baload, 1)) (ha : a < N) (hm : μ a = am_I 3 L f) (hj : z = (j : Int) ∧ j < L) (hL : L < 2147483648) (kk : am_W Y Q k n (pc + 1) lv (am_i (f j) :: st) N μ) : am_W Y Q k n pc lv (am_i z :: .ref a :: st) N μ := by
  intro p l e s m args below meth c bs D dA S H locs ls hP hz hS hl
  obtain ⟨rfl, hj⟩ := hj
  refine va_zald S.1 S.2.1 S.2.2.2.2.2.2.2.1 hP a 3 (by rw [am_w_get ha, hm]; rfl) rfl (am_in3 rfl hj hL) hd ?_
  rw [am_tn3 (by omega)]
  exact kk p l e s m args below meth c bs D dA S H locs ls hP hz hS hl
theorem ap_lald {a j L : Nat} {z : Int} {f : Nat → Int} (hd : decode (am_c Y) pc = .ok (.laload, 1)) (ha : a < N) (hm : μ a = am_L L f) (hj : z = (j : Int) ∧ j < L) (hL : L < 2147483648) (kk : am_W Y Q k n (pc + 1) lv (am_l (f j) :: st) N μ) : am_W Y Q k n pc lv (am_i z :: .ref a :: st) N μ := by
  intro p l e s m args below meth c bs D dA S H locs ls hP hz hS hl
  obtain ⟨rfl, hj⟩ := hj
  refine va_lald S.1 S.2.1 S.2.2.2.2.2.2.2.1 hP a 1 (by rw [am_w_get ha, hm]; rfl) rfl (am_in3 rfl hj hL) hd ?_
  rw [am_tn3 (by omega)]
  exact kk p l e s m args below meth c bs D dA S H locs ls hP hz hS hl
theorem ap_aald4 {a j L r : Nat} {z : Int} {f : Nat → Option Nat} (hd : decode (am_c Y) pc = .ok (.aaload, 1)) (ha : a < N) (hm : μ a = am_R 4 L f) (hj : z = (j : Int) ∧ j < L) (hL : L < 2147483648) (hr : f j = some r) (kk : am_W Y Q k n (pc + 1) lv (.ref r :: st) N μ) : am_W Y Q k n pc lv (am_i z :: .ref a :: st) N μ := by
  intro p l e s m args below meth c bs D dA S H locs ls hP hz hS hl
  obtain ⟨rfl, hj⟩ := hj
  refine va_aldq S.1 S.2.1 S.2.2.2.2.2.2.2.1 hP a 4 (by rw [am_w_get ha, hm]; rfl) rfl (am_in3 rfl hj hL) hd ?_
  rw [am_tn3 (by omega), hr]
  exact kk p l e s m args below meth c bs D dA S H locs ls hP hz hS hl
theorem ap_aald5 {a j L r : Nat} {z : Int} {f : Nat → Option Nat} (hd : decode (am_c Y) pc = .ok (.aaload, 1)) (ha : a < N) (hm : μ a = am_R 5 L f) (hj : z = (j : Int) ∧ j < L) (hL : L < 2147483648) (hr : f j = some r) (kk : am_W Y Q k n (pc + 1) lv (.ref r :: st) N μ) : am_W Y Q k n pc lv (am_i z :: .ref a :: st) N μ := by
  intro p l e s m args below meth c bs D dA S H locs ls hP hz hS hl
  obtain ⟨rfl, hj⟩ := hj
  refine va_aldq S.1 S.2.1 S.2.2.2.2.2.2.2.1 hP a 5 (by rw [am_w_get ha, hm]; rfl) rfl (am_in3 rfl hj hL) hd ?_
  rw [am_tn3 (by omega), hr]
  exact kk p l e s m args below meth c bs D dA S H locs ls hP hz hS hl
theorem ap_aald6 {a j L r : Nat} {z : Int} {f : Nat → Option Nat} (hd : decode (am_c Y) pc = .ok (.aaload, 1)) (ha : a < N) (hm : μ a = am_R 6 L f) (hj : z = (j : Int) ∧ j < L) (hL : L < 2147483648) (hr : f j = some r) (kk : am_W Y Q k n (pc + 1) lv (.ref r :: st) N μ) : am_W Y Q k n pc lv (am_i z :: .ref a :: st) N μ := by
  intro p l e s m args below meth c bs D dA S H locs ls hP hz hS hl
  obtain ⟨rfl, hj⟩ := hj
  refine va_aldq S.1 S.2.1 S.2.2.2.2.2.2.2.1 hP a 6 (by rw [am_w_get ha, hm]; rfl) rfl (am_in3 rfl hj hL) hd ?_
  rw [am_tn3 (by omega), hr]
  exact kk p l e s m args below meth c bs D dA S H locs ls hP hz hS hl
theorem ap_iast {a j L : Nat} {z x : Int} {f : Nat → Int} (hd : decode (am_c Y) pc = .ok (.iastore, 1)) (ha : a < N) (hm : μ a = am_I 0 L f) (hj : z = (j : Int) ∧ j < L) (hL : L < 2147483648) (kk : ∀ μ2 : am_M, μ2 a = am_I 0 L (va_up f j x) → (∀ b, b ≠ a → μ2 b = μ b) → am_W Y Q k n (pc + 1) lv st N μ2) : am_W Y Q k n pc lv (am_i x :: am_i z :: .ref a :: st) N μ := by
  intro p l e s m args below meth c bs D dA S H locs ls hP hz hS hl
  obtain ⟨rfl, hj⟩ := hj
  have hK := S.2.2.2.2.2.2.2.1
  have he : (am_w bs dA N μ)[a]? = some (bs + a, .inl (dA 0, L, .inl (fun j => Int32.ofInt (f j)))) := by rw [am_w_get ha, hm]; rfl
  have hin : vp_in (Int32.ofInt (j : Int)) L := am_in3 rfl hj hL
  refine W.iast S.1 S.2.1 (hP a _ he) ((hK.2 0 _ rfl).1 L (fun j => .int (Int32.ofInt (f j)))) (fun q => by cases q) (by show ¬ (_ ∨ (arrV _ _ _).slots.size ≤ _); rw [arrV_size]; exact hin) rfl rfl hd fun H1 e1 z1 oq => ?_
  rw [am_tn3 (by omega)] at e1 ⊢
  have hP1 := hP.set am_D he (e := am_e bs dA (am_I 0 L (va_up f j x))) (by
    show H1[bs + a]? = some (vp_cell _ _)
    rw [e1]
    rw [vp_cell_i, vp_cell_i, arrV_store]
    congr 2
    funext q
    by_cases hq : q = j
    · subst hq
      simp [updV, va_up]
    · simp [updV, va_up, hq]) oq
  rw [am_w_set rfl] at hP1
  exact kk _ am_ueq am_une p l e s m args below meth c bs D dA S H1 _ ls hP1 (z1.trans hz) (hS.put z1 oq (am_D.2 a _ he)) hl
theorem ap_last {a j L : Nat} {z x : Int} {f : Nat → Int} (hd : decode (am_c Y) pc = .ok (.lastore, 1)) (ha : a < N) (hm : μ a = am_L L f) (hj : z = (j : Int) ∧ j < L) (hL : L < 2147483648) (kk : ∀ μ2 : am_M, μ2 a = am_L L (va_up f j x) → (∀ b, b ≠ a → μ2 b = μ b) → am_W Y Q k n (pc + 1) lv st N μ2) : am_W Y Q k n pc lv (am_l x :: am_i z :: .ref a :: st) N μ := by
  intro p l e s m args below meth c bs D dA S H locs ls hP hz hS hl
  obtain ⟨rfl, hj⟩ := hj
  have hK := S.2.2.2.2.2.2.2.1
  have he : (am_w bs dA N μ)[a]? = some (bs + a, .inl (dA 1, L, .inr (.inl (fun j => Int64.ofInt (f j))))) := by rw [am_w_get ha, hm]; rfl
  have hin : vp_in (Int32.ofInt (j : Int)) L := am_in3 rfl hj hL
  refine W.last S.1 S.2.1 (hP a _ he) ((hK.2 1 _ rfl).1 L (fun j => .long (Int64.ofInt (f j)))) (fun q => by cases q) (by show ¬ (_ ∨ (arrV _ _ _).slots.size ≤ _); rw [arrV_size]; exact hin) rfl rfl hd fun H1 e1 z1 oq => ?_
  rw [am_tn3 (by omega)] at e1 ⊢
  have hP1 := hP.set am_D he (e := am_e bs dA (am_L L (va_up f j x))) (by
    show H1[bs + a]? = some (vp_cell _ _)
    rw [e1]
    rw [vp_cell_l, vp_cell_l, arrV_store]
    congr 2
    funext q
    by_cases hq : q = j
    · subst hq
      simp [updV, va_up]
    · simp [updV, va_up, hq]) oq
  rw [am_w_set rfl] at hP1
  exact kk _ am_ueq am_une p l e s m args below meth c bs D dA S H1 _ ls hP1 (z1.trans hz) (hS.put z1 oq (am_D.2 a _ he)) hl
theorem ap_cast {a j L : Nat} {z x : Int} {f : Nat → Int} (hd : decode (am_c Y) pc = .ok (.castore, 1)) (ha : a < N) (hm : μ a = am_I 2 L f) (hj : z = (j : Int) ∧ j < L) (hL : L < 2147483648) (h : 0 ≤ x ∧ x ≤ 65535) (kk : ∀ μ2 : am_M, μ2 a = am_I 2 L (va_up f j x) → (∀ b, b ≠ a → μ2 b = μ b) → am_W Y Q k n (pc + 1) lv st N μ2) : am_W Y Q k n pc lv (am_i x :: am_i z :: .ref a :: st) N μ := by
  intro p l e s m args below meth c bs D dA S H locs ls hP hz hS hl
  obtain ⟨rfl, hj⟩ := hj
  have hK := S.2.2.2.2.2.2.2.1
  have he : (am_w bs dA N μ)[a]? = some (bs + a, .inl (dA 2, L, .inl (fun j => Int32.ofInt (f j)))) := by rw [am_w_get ha, hm]; rfl
  have hin : vp_in (Int32.ofInt (j : Int)) L := am_in3 rfl hj hL
  refine W.cast S.1 S.2.1 (hP a _ he) ((hK.2 2 _ rfl).1 L (fun j => .int (Int32.ofInt (f j)))) (fun q => by cases q) (by show ¬ (_ ∨ (arrV _ _ _).slots.size ≤ _); rw [arrV_size]; exact hin) rfl rfl hd fun H1 e1 z1 oq => ?_
  rw [am_tn3 (by omega)] at e1 ⊢
  have hP1 := hP.set am_D he (e := am_e bs dA (am_I 2 L (va_up f j x))) (by
    show H1[bs + a]? = some (vp_cell _ _)
    rw [e1]
    rw [vp_cell_i, vp_cell_i, arrV_store]
    congr 2
    funext q
    by_cases hq : q = j
    · subst hq
      simp [updV, va_up, narrow, am_c3b h]
    · simp [updV, va_up, hq]) oq
  rw [am_w_set rfl] at hP1
  exact kk _ am_ueq am_une p l e s m args below meth c bs D dA S H1 _ ls hP1 (z1.trans hz) (hS.put z1 oq (am_D.2 a _ he)) hl
theorem ap_zast {a j L : Nat} {z x : Int} {f : Nat → Int} (hd : decode (am_c Y) pc = .ok (.bastore, 1)) (ha : a < N) (hm : μ a = am_I 3 L f) (hj : z = (j : Int) ∧ j < L) (hL : L < 2147483648) (h : x = 0 ∨ x = 1) (kk : ∀ μ2 : am_M, μ2 a = am_I 3 L (va_up f j x) → (∀ b, b ≠ a → μ2 b = μ b) → am_W Y Q k n (pc + 1) lv st N μ2) : am_W Y Q k n pc lv (am_i x :: am_i z :: .ref a :: st) N μ := by
  intro p l e s m args below meth c bs D dA S H locs ls hP hz hS hl
  obtain ⟨rfl, hj⟩ := hj
  have hK := S.2.2.2.2.2.2.2.1
  have he : (am_w bs dA N μ)[a]? = some (bs + a, .inl (dA 3, L, .inl (fun j => Int32.ofInt (f j)))) := by rw [am_w_get ha, hm]; rfl
  have hin : vp_in (Int32.ofInt (j : Int)) L := am_in3 rfl hj hL
  refine W.zast S.1 S.2.1 (hP a _ he) ((hK.2 3 _ rfl).1 L (fun j => .int (Int32.ofInt (f j)))) (fun q => by cases q) (by show ¬ (_ ∨ (arrV _ _ _).slots.size ≤ _); rw [arrV_size]; exact hin) rfl rfl hd fun H1 e1 z1 oq => ?_
  rw [am_tn3 (by omega)] at e1 ⊢
  have hP1 := hP.set am_D he (e := am_e bs dA (am_I 3 L (va_up f j x))) (by
    show H1[bs + a]? = some (vp_cell _ _)
    rw [e1]
    rw [vp_cell_i, vp_cell_i, arrV_store]
    congr 2
    funext q
    by_cases hq : q = j
    · subst hq
      simp [updV, va_up, am_nz h]
    · simp [updV, va_up, hq]) oq
  rw [am_w_set rfl] at hP1
  exact kk _ am_ueq am_une p l e s m args below meth c bs D dA S H1 _ ls hP1 (z1.trans hz) (hS.put z1 oq (am_D.2 a _ he)) hl
theorem ap_aast4 {a j L r : Nat} {z : Int} {f : Nat → Option Nat} {vs : List Value} (hd : decode (am_c Y) pc = .ok (.aastore, 1)) (ha : a < N) (hm : μ a = am_R 4 L f) (hj : z = (j : Int) ∧ j < L) (hL : L < 2147483648) (hrN : r < N) (hr : μ r = am_O 3 vs) (kk : ∀ μ2 : am_M, μ2 a = am_R 4 L (va_up f j (some r)) → (∀ b, b ≠ a → μ2 b = μ b) → am_W Y Q k n (pc + 1) lv st N μ2) : am_W Y Q k n pc lv (.ref r :: am_i z :: .ref a :: st) N μ := by
  intro p l e s m args below meth c bs D dA S H locs ls hP hz hS hl
  obtain ⟨rfl, hj⟩ := hj
  have hK := S.2.2.2.2.2.2.2.1
  have he : (am_w bs dA N μ)[a]? = some (bs + a, .inl (dA 4, L, .inr (.inr (.inr (.inr (fun j => (f j).map (fun a => bs + a))))))) := by rw [am_w_get ha, hm]; rfl
  have hv : (am_w bs dA N μ)[r]? = some (bs + r, .inr (3, vs.map (am_v bs))) := by rw [am_w_get hrN, hr]; rfl
  have hin : vp_in (Int32.ofInt (j : Int)) L := am_in3 rfl hj hL
  have hlt : (Int32.ofInt (j : Int)).toNatClampNeg < L := Nat.not_le.mp fun q => hin (Or.inr q)
  have h0 : ¬ (Int32.ofInt (j : Int)) < 0 := fun q => hin (Or.inl q)
  obtain ⟨r', hr', cellV, g1, g2, g3, -⟩ := hP r _ hv
  have hcls := (hK.1 3 _ rfl).2
  obtain ⟨kA, comp, k1, k2, k3, -⟩ := (hK.2 4 _ rfl).2
  have hcomp : comp = D.1 3 := Option.some.inj (k3.symm.trans hcls.1)
  subst hcomp
  obtain ⟨kC, hkC, -⟩ := hcls.2
  refine W.aast S.1 S.2.1 (hP a _ he) (fun q h => by cases h) (fun h => by cases h) k1 k2 rfl hkC ⟨h0, by show _ < (arrV _ _ _).slots.size; rw [arrV_size]; exact hlt⟩ g1 (fun q h => by rw [g3] at h; cases h) (by rw [g2]; exact hkC) (by rw [g2]; exact va_assign hcls) rfl rfl hd fun H1 e1 z1 oq => ?_
  rw [am_tn3 (by omega)] at e1 ⊢
  have hP1 := hP.set am_D he (e := am_e bs dA (am_R 4 L (va_up f j (some r)))) (by
    show H1[bs + a]? = some (vp_cell _ _)
    rw [e1]
    rw [vp_cell_q, vp_cell_q, arrV_store]
    congr 2
    funext q
    by_cases hq : q = j
    · subst hq
      simp [updV, va_up, va_rf]
    · simp [updV, va_up, hq]) oq
  rw [am_w_set rfl] at hP1
  exact kk _ am_ueq am_une p l e s m args below meth c bs D dA S H1 _ ls hP1 (z1.trans hz) (hS.put z1 oq (am_D.2 a _ he)) hl
theorem ap_aast5 {a j L r : Nat} {z : Int} {f : Nat → Option Nat} {vs : List Value} (hd : decode (am_c Y) pc = .ok (.aastore, 1)) (ha : a < N) (hm : μ a = am_R 5 L f) (hj : z = (j : Int) ∧ j < L) (hL : L < 2147483648) (hrN : r < N) (hr : μ r = am_O 5 vs) (kk : ∀ μ2 : am_M, μ2 a = am_R 5 L (va_up f j (some r)) → (∀ b, b ≠ a → μ2 b = μ b) → am_W Y Q k n (pc + 1) lv st N μ2) : am_W Y Q k n pc lv (.ref r :: am_i z :: .ref a :: st) N μ := by
  intro p l e s m args below meth c bs D dA S H locs ls hP hz hS hl
  obtain ⟨rfl, hj⟩ := hj
  have hK := S.2.2.2.2.2.2.2.1
  have he : (am_w bs dA N μ)[a]? = some (bs + a, .inl (dA 5, L, .inr (.inr (.inr (.inr (fun j => (f j).map (fun a => bs + a))))))) := by rw [am_w_get ha, hm]; rfl
  have hv : (am_w bs dA N μ)[r]? = some (bs + r, .inr (5, vs.map (am_v bs))) := by rw [am_w_get hrN, hr]; rfl
  have hin : vp_in (Int32.ofInt (j : Int)) L := am_in3 rfl hj hL
  have hlt : (Int32.ofInt (j : Int)).toNatClampNeg < L := Nat.not_le.mp fun q => hin (Or.inr q)
  have h0 : ¬ (Int32.ofInt (j : Int)) < 0 := fun q => hin (Or.inl q)
  obtain ⟨r', hr', cellV, g1, g2, g3, -⟩ := hP r _ hv
  have hcls := (hK.1 5 _ rfl).2
  obtain ⟨kA, comp, k1, k2, k3, -⟩ := (hK.2 5 _ rfl).2
  have hcomp : comp = D.1 5 := Option.some.inj (k3.symm.trans hcls.1)
  subst hcomp
  obtain ⟨kC, hkC, -⟩ := hcls.2
  refine W.aast S.1 S.2.1 (hP a _ he) (fun q h => by cases h) (fun h => by cases h) k1 k2 rfl hkC ⟨h0, by show _ < (arrV _ _ _).slots.size; rw [arrV_size]; exact hlt⟩ g1 (fun q h => by rw [g3] at h; cases h) (by rw [g2]; exact hkC) (by rw [g2]; exact va_assign hcls) rfl rfl hd fun H1 e1 z1 oq => ?_
  rw [am_tn3 (by omega)] at e1 ⊢
  have hP1 := hP.set am_D he (e := am_e bs dA (am_R 5 L (va_up f j (some r)))) (by
    show H1[bs + a]? = some (vp_cell _ _)
    rw [e1]
    rw [vp_cell_q, vp_cell_q, arrV_store]
    congr 2
    funext q
    by_cases hq : q = j
    · subst hq
      simp [updV, va_up, va_rf]
    · simp [updV, va_up, hq]) oq
  rw [am_w_set rfl] at hP1
  exact kk _ am_ueq am_une p l e s m args below meth c bs D dA S H1 _ ls hP1 (z1.trans hz) (hS.put z1 oq (am_D.2 a _ he)) hl
theorem ap_aast6 {a j L r : Nat} {z : Int} {f : Nat → Option Nat} {vs : List Value} (hd : decode (am_c Y) pc = .ok (.aastore, 1)) (ha : a < N) (hm : μ a = am_R 6 L f) (hj : z = (j : Int) ∧ j < L) (hL : L < 2147483648) (hrN : r < N) (hr : μ r = am_O 6 vs) (kk : ∀ μ2 : am_M, μ2 a = am_R 6 L (va_up f j (some r)) → (∀ b, b ≠ a → μ2 b = μ b) → am_W Y Q k n (pc + 1) lv st N μ2) : am_W Y Q k n pc lv (.ref r :: am_i z :: .ref a :: st) N μ := by
  intro p l e s m args below meth c bs D dA S H locs ls hP hz hS hl
  obtain ⟨rfl, hj⟩ := hj
  have hK := S.2.2.2.2.2.2.2.1
  have he : (am_w bs dA N μ)[a]? = some (bs + a, .inl (dA 6, L, .inr (.inr (.inr (.inr (fun j => (f j).map (fun a => bs + a))))))) := by rw [am_w_get ha, hm]; rfl
  have hv : (am_w bs dA N μ)[r]? = some (bs + r, .inr (6, vs.map (am_v bs))) := by rw [am_w_get hrN, hr]; rfl
  have hin : vp_in (Int32.ofInt (j : Int)) L := am_in3 rfl hj hL
  have hlt : (Int32.ofInt (j : Int)).toNatClampNeg < L := Nat.not_le.mp fun q => hin (Or.inr q)
  have h0 : ¬ (Int32.ofInt (j : Int)) < 0 := fun q => hin (Or.inl q)
  obtain ⟨r', hr', cellV, g1, g2, g3, -⟩ := hP r _ hv
  have hcls := (hK.1 6 _ rfl).2
  obtain ⟨kA, comp, k1, k2, k3, -⟩ := (hK.2 6 _ rfl).2
  have hcomp : comp = D.1 6 := Option.some.inj (k3.symm.trans hcls.1)
  subst hcomp
  obtain ⟨kC, hkC, -⟩ := hcls.2
  refine W.aast S.1 S.2.1 (hP a _ he) (fun q h => by cases h) (fun h => by cases h) k1 k2 rfl hkC ⟨h0, by show _ < (arrV _ _ _).slots.size; rw [arrV_size]; exact hlt⟩ g1 (fun q h => by rw [g3] at h; cases h) (by rw [g2]; exact hkC) (by rw [g2]; exact va_assign hcls) rfl rfl hd fun H1 e1 z1 oq => ?_
  rw [am_tn3 (by omega)] at e1 ⊢
  have hP1 := hP.set am_D he (e := am_e bs dA (am_R 6 L (va_up f j (some r)))) (by
    show H1[bs + a]? = some (vp_cell _ _)
    rw [e1]
    rw [vp_cell_q, vp_cell_q, arrV_store]
    congr 2
    funext q
    by_cases hq : q = j
    · subst hq
      simp [updV, va_up, va_rf]
    · simp [updV, va_up, hq]) oq
  rw [am_w_set rfl] at hP1
  exact kk _ am_ueq am_une p l e s m args below meth c bs D dA S H1 _ ls hP1 (z1.trans hz) (hS.put z1 oq (am_D.2 a _ he)) hl
theorem ap_alen {a t L : Nat} {w : (Nat → Int) ⊕ (Nat → Int) ⊕ (Nat → Option Nat)} (hd : decode (am_c Y) pc = .ok (.arraylength, 1)) (ha : a < N) (hm : μ a = .inl (t, L, w)) (ht : t < 7) (kk : am_W Y Q k n (pc + 1) lv (am_i (L : Int) :: st) N μ) : am_W Y Q k n pc lv (.ref a :: st) N μ := by
  intro p l e s m args below meth c bs D dA S H locs ls hP hz hS hl
  obtain ⟨ty, hty⟩ := am_ty (dA := dA) ht
  have he : ∃ x : vp_A, (am_w bs dA N μ)[a]? = some (bs + a, .inl (dA t, x)) ∧ x.1 = L := by
    rw [am_w_get ha, hm]
    rcases w with f | f | f
    · exact ⟨_, rfl, rfl⟩
    · exact ⟨_, rfl, rfl⟩
    · exact ⟨_, rfl, rfl⟩
  obtain ⟨x, he, hx⟩ := he
  exact va_alen S.1 S.2.1 S.2.2.2.2.2.2.2.1 hP a t he hty (v := Int32.ofInt (L : Int)) (by rw [hx, Int32.ofInt_eq_ofNat]) hd (kk p l e s m args below meth c bs D dA S H locs ls hP hz hS hl)
end
