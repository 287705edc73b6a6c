/-! rows with sorted locals, calls that make nothing, the static array -/
def am_p1 (lv : List (Nat × Value)) (i : Nat) (v : Value) : List (Nat × Value) := lv.filter (fun q => Nat.blt q.1 i && !(q.1 + 1 == i && q.2.category == 2)) ++ (i, v) :: lv.filter (fun q => Nat.blt i q.1)
def am_p2 (lv : List (Nat × Value)) (i : Nat) (v : Value) : List (Nat × Value) := lv.filter (fun q => Nat.blt q.1 i && !(q.1 + 1 == i && q.2.category == 2)) ++ (i, v) :: lv.filter (fun q => Nat.blt (i + 1) q.1)
theorem am_p1_in {lv : List (Nat × Value)} {i : Nat} {v : Value} : ∀ q ∈ am_p1 lv i v, q ∈ am_s1 lv i v := by
  intro q hq
  unfold am_p1 at hq
  unfold am_s1
  rcases List.mem_append.mp hq with h | h
  · obtain ⟨h1, h2⟩ := List.mem_filter.mp h
    simp only [Bool.and_eq_true, Nat.blt_eq] at h2
    refine List.mem_cons_of_mem _ (List.mem_filter.mpr ⟨h1, ?_⟩)
    have h3 : ¬ q.1 = i := by omega
    simpa [h3] using h2.2
  · rcases List.mem_cons.mp h with h | h
    · exact List.mem_cons.mpr (Or.inl h)
    · obtain ⟨h1, h2⟩ := List.mem_filter.mp h
      simp only [Nat.blt_eq] at h2
      refine List.mem_cons_of_mem _ (List.mem_filter.mpr ⟨h1, ?_⟩)
      have h3 : ¬ q.1 = i := by omega
      have h4 : ¬ q.1 + 1 = i := by omega
      simp [h3, h4]
theorem am_p2_in {lv : List (Nat × Value)} {i : Nat} {v : Value} : ∀ q ∈ am_p2 lv i v, q ∈ am_s2 lv i v := by
  intro q hq
  unfold am_p2 at hq
  unfold am_s2
  rcases List.mem_append.mp hq with h | h
  · obtain ⟨h1, h2⟩ := List.mem_filter.mp h
    simp only [Bool.and_eq_true, Nat.blt_eq] at h2
    refine List.mem_cons_of_mem _ (List.mem_filter.mpr ⟨h1, ?_⟩)
    have h3 : ¬ q.1 = i := by omega
    have h4 : ¬ q.1 = i + 1 := by omega
    simpa [h3, h4] using h2.2
  · rcases List.mem_cons.mp h with h | h
    · exact List.mem_cons.mpr (Or.inl h)
    · obtain ⟨h1, h2⟩ := List.mem_filter.mp h
      simp only [Nat.blt_eq] at h2
      refine List.mem_cons_of_mem _ (List.mem_filter.mpr ⟨h1, ?_⟩)
      have h3 : ¬ q.1 = i := by omega
      have h4 : ¬ q.1 + 1 = i := by omega
      have h5 : ¬ q.1 = i + 1 := by omega
      simp [h3, h4, h5]
section
variable {Y : am_Y} {Q : Option Value → Nat → am_M → Prop} {k n pc N : Nat} {lv lv2 : List (Nat × Value)} {st : List Value} {μ : am_M}
theorem ap_pick (ks : List Nat) (h : lv_pick lv ks = lv2) (kk : am_W Y Q k n pc lv2 st N μ) : am_W Y Q k n pc lv st N μ := by
  refine ap_lvs (fun q hq => ?_) kk
  rw [← h] at hq
  obtain ⟨i, -, hi⟩ := List.mem_filterMap.mp hq
  exact List.mem_of_getElem? hi
theorem ap_cv {st2 : List Value} (h : lv = lv2) (h2 : st = st2) (kk : am_W Y Q k n pc lv2 st2 N μ) : am_W Y Q k n pc lv st N μ := by
  subst h; subst h2; exact kk
theorem ap_Istore_n {j : Fin 4} {i : Nat} {z : Int} (hd : decode (am_c Y) pc = .ok (.istore_n j, 1)) (hi : (j : Nat) = i) (hb : i < am_n Y) (h : am_p1 lv i (am_i z) = lv2) (kk : am_W Y Q k n (pc + 1) lv2 st N μ) : am_W Y Q k n pc lv (am_i z :: st) N μ := ap_istore_n hd hi hb rfl (ap_lvs (by subst h; exact am_p1_in) kk)
theorem ap_Istore {i : Nat} {z : Int} (hd : decode (am_c Y) pc = .ok (.istore i, 2)) (hb : i < am_n Y) (h : am_p1 lv i (am_i z) = lv2) (kk : am_W Y Q k n (pc + 2) lv2 st N μ) : am_W Y Q k n pc lv (am_i z :: st) N μ := ap_istore hd hb rfl (ap_lvs (by subst h; exact am_p1_in) kk)
theorem ap_Astore_n {j : Fin 4} {i a : Nat} (hd : decode (am_c Y) pc = .ok (.astore_n j, 1)) (hi : (j : Nat) = i) (hb : i < am_n Y) (h : am_p1 lv i (.ref a) = lv2) (kk : am_W Y Q k n (pc + 1) lv2 st N μ) : am_W Y Q k n pc lv (.ref a :: st) N μ := ap_astore_n hd hi hb rfl (ap_lvs (by subst h; exact am_p1_in) kk)
theorem ap_Astore {i a : Nat} (hd : decode (am_c Y) pc = .ok (.astore i, 2)) (hb : i < am_n Y) (h : am_p1 lv i (.ref a) = lv2) (kk : am_W Y Q k n (pc + 2) lv2 st N μ) : am_W Y Q k n pc lv (.ref a :: st) N μ := ap_astore hd hb rfl (ap_lvs (by subst h; exact am_p1_in) kk)
theorem ap_Astore_nN {j : Fin 4} {i : Nat} (hd : decode (am_c Y) pc = .ok (.astore_n j, 1)) (hi : (j : Nat) = i) (hb : i < am_n Y) (h : am_p1 lv i .null = lv2) (kk : am_W Y Q k n (pc + 1) lv2 st N μ) : am_W Y Q k n pc lv (.null :: st) N μ := ap_astore_nN hd hi hb rfl (ap_lvs (by subst h; exact am_p1_in) kk)
theorem ap_AstoreN {i : Nat} (hd : decode (am_c Y) pc = .ok (.astore i, 2)) (hb : i < am_n Y) (h : am_p1 lv i .null = lv2) (kk : am_W Y Q k n (pc + 2) lv2 st N μ) : am_W Y Q k n pc lv (.null :: st) N μ := ap_astoreN hd hb rfl (ap_lvs (by subst h; exact am_p1_in) kk)
theorem ap_Lstore_n {j : Fin 4} {i : Nat} {z : Int} (hd : decode (am_c Y) pc = .ok (.lstore_n j, 1)) (hi : (j : Nat) = i) (hb : i + 1 < am_n Y) (h : am_p2 lv i (am_l z) = lv2) (kk : am_W Y Q k n (pc + 1) lv2 st N μ) : am_W Y Q k n pc lv (am_l z :: st) N μ := ap_lstore_n hd hi hb rfl (ap_lvs (by subst h; exact am_p2_in) kk)
theorem ap_Lstore {i : Nat} {z : Int} (hd : decode (am_c Y) pc = .ok (.lstore i, 2)) (hb : i + 1 < am_n Y) (h : am_p2 lv i (am_l z) = lv2) (kk : am_W Y Q k n (pc + 2) lv2 st N μ) : am_W Y Q k n pc lv (am_l z :: st) N μ := ap_lstore hd hb rfl (ap_lvs (by subst h; exact am_p2_in) kk)
theorem ap_Iinc {i : Nat} {d z : Int} (hd : decode (am_c Y) pc = .ok (.iinc i d, 3)) (hk : am_lk lv i = some (am_i z)) (hb : i < am_n Y) (h : am_p1 lv i (am_i (z + d)) = lv2) (kk : am_W Y Q k n (pc + 3) lv2 st N μ) : am_W Y Q k n pc lv st N μ := ap_iinc hd hk hb rfl (ap_lvs (by subst h; exact am_p1_in) kk)
theorem ap_cS {Y2 : am_Y} {idx : Nat} {As rest st0 : List Value} {Q2 : Option Value → Nat → am_M → Prop} (hM : am_Met Y2 As N μ Q2) (hd : decode (am_c Y) pc = .ok (.invokestatic idx, 3)) (hw : Cond.methodLink Y.1.cls idx Y2.1 ∈ am_tb ∧ Cond.initialized Y2.1.cls ∈ am_tb ∧ Cond.code Y2.1 (am_c Y2) (am_n Y2) (am_t Y2) ∈ am_tb ∧ Cond.static Y2.1 ∈ am_tb) (hy : Y2.1.cls ≠ "java/lang/invoke/MethodHandle" ∧ Y2.1.cls ≠ "java/lang/invoke/VarHandle" ∧ (parseMethodDescriptor Y2.1.desc).map (fun d => d.parameters.length) = some As.length) (hst : st0 = As.reverse ++ rest) (hrest : (rest.map fun v => v.category).sum ≤ 8) (hR : (am_r Y2).frames + 1 ≤ (am_r Y).frames ∧ 8 + (am_n Y2 + 11) + (am_r Y2).locals ≤ (am_r Y).locals) (hz : (am_r Y2).cells = 0 ∧ (am_r Y2).slots = 0) (hk : k ≤ (am_r Y).cells ∧ n ≤ (am_r Y).slots)
    (kk : ∀ (r : Option Value) (N2 : Nat) (μ2 : am_M), Q2 r N2 μ2 → am_W Y Q k n (pc + 3) lv (r.toList ++ rest) N2 μ2) : am_W Y Q k n pc lv st0 N μ :=
  ap_callS hM hd hw hy hst hrest hR (by rw [hz.1, hz.2]; exact hk) (fun r N2 μ2 h => by rw [hz.1, hz.2]; exact kk r N2 μ2 h)
theorem ap_cV {Y2 : am_Y} {idx b ci : Nat} {fs : List Value} {As rest st0 : List Value} {Q2 : Option Value → Nat → am_M → Prop} (hM : am_Met Y2 (.ref b :: As) N μ Q2) (hd : decode (am_c Y) pc = .ok (.invokevirtual idx, 3)) (hw : Cond.methodLink Y.1.cls idx Y2.1 ∈ am_tb ∧ Cond.initialized Y2.1.cls ∈ am_tb ∧ Cond.code Y2.1 (am_c Y2) (am_n Y2) (am_t Y2) ∈ am_tb ∧ Cond.instanceMethod Y2.1 ∈ am_tb ∧ Cond.selects Y2.1.cls Y2.1 Y2.1 ∈ am_tb) (hy : Y2.1.cls ≠ "java/lang/invoke/MethodHandle" ∧ Y2.1.cls ≠ "java/lang/invoke/VarHandle" ∧ (parseMethodDescriptor Y2.1.desc).map (fun d => d.parameters.length) = some As.length) (hst : st0 = As.reverse ++ .ref b :: rest) (hb : b < N) (hm : μ b = am_O ci fs) (hC : ∃ T M, am_cl[ci]? = some (Y2.1.cls, T, M)) (hrest : (rest.map fun v => v.category).sum ≤ 8) (hR : (am_r Y2).frames + 1 ≤ (am_r Y).frames ∧ 8 + (am_n Y2 + 11) + (am_r Y2).locals ≤ (am_r Y).locals) (hz : (am_r Y2).cells = 0 ∧ (am_r Y2).slots = 0) (hk : k ≤ (am_r Y).cells ∧ n ≤ (am_r Y).slots)
    (kk : ∀ (r : Option Value) (N2 : Nat) (μ2 : am_M), Q2 r N2 μ2 → am_W Y Q k n (pc + 3) lv (r.toList ++ rest) N2 μ2) : am_W Y Q k n pc lv st0 N μ :=
  ap_callV hM hd hw hy hst hb hm hC hrest hR (by rw [hz.1, hz.2]; exact hk) (fun r N2 μ2 h => by rw [hz.1, hz.2]; exact kk r N2 μ2 h)
theorem ap_topi {a b : Int} (h : a = b) (kk : am_W Y Q k n pc lv (am_i b :: st) N μ) : am_W Y Q k n pc lv (am_i a :: st) N μ := by subst h; exact kk
theorem ap_topl {a b : Int} (h : a = b) (kk : am_W Y Q k n pc lv (am_l b :: st) N μ) : am_W Y Q k n pc lv (am_l a :: st) N μ := by subst h; exact kk
end
