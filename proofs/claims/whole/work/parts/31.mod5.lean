theorem sp_skip {us : List Int} {k : Nat} (h1 : us.getD k 0 ≠ 124) (h2 : us.getD k 0 ≠ 123) (h3 : us.getD k 0 ≠ 125) (h4 : ¬ 0 ≤ hv (us.getD k 0)) : sp us (k + 1) = sp us k := by
  show stp us k (sp us k) = _
  unfold stp
  rw [if_neg h1, if_neg h2, if_neg h3, if_neg h4]
theorem lets_skip {us : List Int} {k : Nat} (h : k < us.length) (h4 : ¬ 0 ≤ hv (us.getD k 0)) : lets (us.take (k + 1)) = lets (us.take k) := by
  rw [lets_take h, if_neg h4]; rfl
theorem hv_no {c : Int} (h : c < 101) : ¬ 0 ≤ hv c := fun q => by have := hv_c q; omega
theorem sp_tup {us : List Int} {A : Nat → GS} (h : acc us A) {k : Nat} (hk : k < us.length) (hc : us.getD k 0 = 123) : sp us (k + 4) = pTs (sp us k) (p_ts (sp us k) ++ [(dg (us.getD (k + 1) 0), dg (us.getD (k + 3) 0))]) ∧ lets (us.take (k + 4)) = lets (us.take k) := by
  obtain ⟨t1, t2, t3, t4, t5, t6, t7⟩ := acc_tup h hk hc
  have c1 := dg_c (show 1 ≤ dg (us.getD (k + 1) 0) by omega)
  have c3 := dg_c (show 1 ≤ dg (us.getD (k + 3) 0) by omega)
  have n0 : ¬ 0 ≤ hv (us.getD k 0) := fun q => by have := hv_c q; omega
  have n1 : ¬ 0 ≤ hv (us.getD (k + 1) 0) := hv_no (by omega)
  have n2 : ¬ 0 ≤ hv (us.getD (k + 2) 0) := hv_no (by omega)
  have n3 : ¬ 0 ≤ hv (us.getD (k + 3) 0) := hv_no (by omega)
  refine ⟨?_, ?_⟩
  · rw [sp_skip (k := k + 3) (by omega) (by omega) (by omega) n3, sp_skip (k := k + 2) (by omega) (by omega) (by omega) n2, sp_skip (k := k + 1) (by omega) (by omega) (by omega) n1]
    show stp us k (sp us k) = _
    unfold stp
    rw [if_neg (by omega), if_pos hc, tat_lt (k := k + 1) (by omega) (by omega), tat_lt (k := k + 3) (by omega) (by omega)]
  · rw [lets_skip (k := k + 3) (by omega) n3, lets_skip (k := k + 2) (by omega) n2, lets_skip (k := k + 1) (by omega) n1, lets_skip hk n0]
theorem sp_dots {us : List Int} {k : Nat} : ∀ j, (∀ i, i < j → k + 1 + i < us.length ∧ us.getD (k + 1 + i) 0 = 46) → sp us (k + 1 + j) = sp us (k + 1) ∧ lets (us.take (k + 1 + j)) = lets (us.take (k + 1)) := by
  intro j
  induction j with
  | zero => intro _; exact ⟨rfl, rfl⟩
  | succ j ih =>
    intro h
    have h1 := h j (by omega)
    have h2 := ih (fun i hi => h i (by omega))
    have n1 : ¬ 0 ≤ hv (us.getD (k + 1 + j) 0) := hv_no (by omega)
    exact ⟨(sp_skip (k := k + 1 + j) (by omega) (by omega) (by omega) n1).trans h2.1, (lets_skip h1.1 n1).trans h2.2⟩
theorem sp_let {us : List Int} {A : Nat → GS} (h : acc us A) {k : Nat} (hk : k < us.length) (ha : (A k).1 ≤ 2) (hc : 0 ≤ hv (us.getD k 0)) {zac zre : Int} (hac : zac = if (A k).1 = 1 then 1 else 0) (hre : zre = if (A k).1 = 2 then 1 else 0) :
    sp us (k + 1 + dts us k) = (if zre = 1 then pAdv (sp us k) (tk (hv (us.getD k 0)) (dts us k) (p_ts (sp us k))) 0 else pAdv (pNote (sp us k) (tk (hv (us.getD k 0)) (dts us k) (p_ts (sp us k))) zac) (tk (hv (us.getD k 0)) (dts us k) (p_ts (sp us k))) (if k + 1 + dts us k < us.length ∧ us.getD (k + 1 + dts us k) 0 = 126 then 1 else 0)) ∧
    lets (us.take (k + 1 + dts us k)) = lets (us.take k) + 1 := by
  obtain ⟨e1, e2⟩ := sp_dots (us := us) (k := k) (dts us k) (acc_dts h hk ha hc).1
  rw [e1, e2, lets_take hk, if_pos hc]
  refine ⟨?_, rfl⟩
  have hcc := hv_c hc
  show stp us k (sp us k) = _
  unfold stp
  rw [if_neg (by omega), if_neg (by omega), if_neg (by omega), if_pos hc]
  have p1 : (tat us ((k : Int) - 1) = 114) ↔ zre = 1 := by
    cases k with
    | zero =>
      rw [h.1] at hre
      rw [tat, if_neg (by omega), hre]; decide
    | succ k =>
      rw [tat_lt (k := k) (by omega) (by omega), hre, ← (acc_prev h (show k < us.length by omega)).2]
      split <;> omega
  have p2 : (if tat us ((k : Int) - 1) = 94 then (1 : Int) else 0) = zac := by
    cases k with
    | zero =>
      rw [h.1] at hac
      rw [tat, if_neg (by omega), hac]; decide
    | succ k =>
      rw [tat_lt (k := k) (by omega) (by omega), hac]
      simp only [(acc_prev h (show k < us.length by omega)).1]
  have p3 : (if tat us ((k : Int) + 1 + dts us k) = 126 then (1 : Int) else 0) = (if k + 1 + dts us k < us.length ∧ us.getD (k + 1 + dts us k) 0 = 126 then 1 else 0) := by
    rcases Nat.lt_or_ge (k + 1 + dts us k) us.length with hq | hq
    · rw [tat_lt (k := k + 1 + dts us k) (by omega) hq]
      simp only [hq, true_and]
    · rw [tat_ge (k := k + 1 + dts us k) (by omega) hq, if_neg (by omega), if_neg (by omega)]
  rw [p2, p3]
  unfold pSnd
  by_cases hz : zre = 1
  · rw [if_pos hz, if_pos (by simpa using p1.mpr hz)]
  · rw [if_neg hz, if_neg (by simpa using fun q => hz (p1.mp q))]
theorem wsr_push {ts : List (Int × Int)} {fu fw : Nat → Int} {m n : Int} (h : wsr ts fu fw) : wsr (ts ++ [(m, n)]) (va_up fu ts.length n) (va_up fw ts.length m) := by
  intro j hj
  rw [List.length_append, List.length_singleton] at hj
  by_cases hq : j = ts.length
  · subst hq; rw [va_upe, va_upe]; simp [List.getD_eq_getElem?_getD]
  · rw [va_upn hq, va_upn hq, List.getD_eq_getElem?_getD, List.getElem?_append_left (by omega), ← List.getD_eq_getElem?_getD]
    exact h j (by omega)
theorem wsr_pop {ts : List (Int × Int)} {fu fw : Nat → Int} (h : wsr ts fu fw) : wsr ts.dropLast fu fw := by
  intro j hj
  rw [List.length_dropLast] at hj
  rw [List.getD_eq_getElem?_getD, List.getElem?_dropLast, if_pos (by omega), ← List.getD_eq_getElem?_getD]
  exact h j (by omega)
theorem wbr_bar {P : PS} {bl be : Nat → Int} (h : wbr P bl be) : wbr (pBar P) (va_up bl (p_nb P) 0) (va_up be (p_nb P) 1) := by
  intro j hj
  have hj2 : j < p_nb P + 1 := hj
  show va_up bl (p_nb P) 0 j = va_up (p_BL P) (p_nb P) 0 j ∧ va_up be (p_nb P) 1 j = (if va_up (p_BL P) (p_nb P) 0 j = 0 then 1 else 0)
  by_cases hq : j = p_nb P
  · subst hq; rw [va_upe, va_upe, va_upe]; exact ⟨rfl, rfl⟩
  · rw [va_upn hq, va_upn hq, va_upn hq]; exact h j (by omega)
theorem wbr_adv {P Q : PS} {bl be : Nat → Int} {x td : Int} (h : wbr P bl be) (hx : 0 < x) (hn : p_nb Q = p_nb P) (hb : p_BL Q = p_BL P) (h0 : ∀ j, j < p_nb P → 0 ≤ p_BL P j ∧ p_BL P j ≤ p_tot P) : wbr (pAdv Q x td) (va_up bl (p_nb P - 1) (bl (p_nb P - 1) + x)) (va_up be (p_nb P - 1) 0) := by
  intro j hj
  have hj2 : j < p_nb P := by rw [← hn]; exact hj
  show va_up bl (p_nb P - 1) (bl (p_nb P - 1) + x) j = va_up (p_BL Q) (p_nb Q - 1) (p_BL Q (p_nb Q - 1) + x) j ∧ va_up be (p_nb P - 1) 0 j = (if va_up (p_BL Q) (p_nb Q - 1) (p_BL Q (p_nb Q - 1) + x) j = 0 then 1 else 0)
  rw [hn, hb]
  have g1 := h j hj2
  have g2 := h0 j hj2
  by_cases hq : j = p_nb P - 1
  · rw [← hq, va_upe, va_upe, va_upe, if_neg (by omega)]
    exact ⟨by omega, rfl⟩
  · rw [va_upn hq, va_upn hq, va_upn hq]; exact g1
/-- the end of works -/
def wkq (N : Nat) (μ0 : am_M) (zp zt zm zd ze zi zg : Int) (us : List Int) (p : Nat) (fo fs fa fb fn fm fl : Nat → Int) : Option Value → Nat → am_M → Prop := fun r N2 μ2 => r = none ∧ N = N2 ∧ (∀ x, ¬ (x = 120 ∨ (126 ≤ x ∧ x ≤ 137)) → μ2 x = μ0 x) ∧
  ∃ zcc fo2 fs2 fa2 fb2 fn2 fm2 fl2 fc2 bl2 be2 up2 lo2, μ2 120 = mcl zp zt zm zd ze zi (us.length : Int) zcc zg ∧ (μ2 126 = am_L 1200 fo2 ∧ μ2 127 = am_L 1200 fs2 ∧ μ2 128 = am_I 0 1200 fa2 ∧ μ2 129 = am_I 0 1200 fb2 ∧ μ2 130 = am_I 0 1200 fn2 ∧ μ2 131 = am_I 0 4 fm2) ∧ (μ2 132 = am_L 4 fl2 ∧ μ2 133 = am_I 0 4 fc2 ∧ μ2 134 = am_L 1200 bl2 ∧ μ2 135 = am_I 3 1200 be2 ∧ μ2 136 = am_I 0 3 up2 ∧ μ2 137 = am_I 0 3 lo2) ∧
    wof p fo fs fa fb fn fo2 fs2 fa2 fb2 fn2 ∧ (∀ q, q ≠ p → fm2 q = fm q ∧ fl2 q = fl q) ∧ zcc = (if lets us ≤ 300 then (lets us : Int) else 301) ∧
    (lets us ≤ 300 → wrl p (sp us us.length) fo2 fs2 fa2 fb2 fn2 ∧ fm2 p = (p_cnt (sp us us.length) : Int) ∧ fl2 p = p_tot (sp us us.length) ∧ fc2 p = (p_nb (sp us us.length) : Int) ∧ wbr (sp us us.length) bl2 be2)
theorem wk_fin {N : Nat} {μ0 μ μ9 : am_M} {zp zt zm zd ze zi zg : Int} {us : List Int} {p : Nat} {fo0 fs0 fa0 fb0 fn0 fm0 fo fs fa fb fn fm fl fc bl be up lo : Nat → Int} {zcc ztm zba : Int} (hf : ∀ x, ¬ (x = 120 ∨ (126 ≤ x ∧ x ≤ 131) ∨ (134 ≤ x ∧ x ≤ 137)) → μ x = μ0 x) (hM : μ 120 = mcl zp zt zm zd ze zi (us.length : Int) zcc zg) (b1 : μ 126 = am_L 1200 fo) (b2 : μ 127 = am_L 1200 fs) (b3 : μ 128 = am_I 0 1200 fa) (b4 : μ 129 = am_I 0 1200 fb) (b5 : μ 130 = am_I 0 1200 fn) (b6 : μ 131 = am_I 0 4 fm) (d1 : μ 134 = am_L 1200 bl) (d2 : μ 135 = am_I 3 1200 be) (d3 : μ 136 = am_I 0 3 up) (d4 : μ 137 = am_I 0 3 lo) (hO : wof p fo0 fs0 fa0 fb0 fn0 fo fs fa fb fn) (hm2 : ∀ q, q ≠ p → fm q = fm0 q)
  (hcc : zcc = (if lets us ≤ 300 then (lets us : Int) else 301)) (hfin : lets us ≤ 300 → wrl p (sp us us.length) fo fs fa fb fn ∧ fm p = (p_cnt (sp us us.length) : Int) ∧ ztm = p_tot (sp us us.length) ∧ zba + 1 = (p_nb (sp us us.length) : Int) ∧ wbr (sp us us.length) bl be)
  (x1 : μ9 132 = am_L 4 (va_up fl p ztm)) (x2 : μ9 133 = am_I 0 4 (va_up fc p (zba + 1))) (x3 : ∀ x, x ≠ 132 → x ≠ 133 → μ9 x = μ x) : wkq N μ0 zp zt zm zd ze zi zg us p fo0 fs0 fa0 fb0 fn0 fm0 fl none N μ9 := by
  refine ⟨rfl, rfl, fun x hx => (x3 x (by omega) (by omega)).trans (hf x (by omega)), zcc, fo, fs, fa, fb, fn, fm, _, _, bl, be, up, lo, (x3 120 (by omega) (by omega)).trans hM, ⟨(x3 126 (by omega) (by omega)).trans b1, (x3 127 (by omega) (by omega)).trans b2, (x3 128 (by omega) (by omega)).trans b3, (x3 129 (by omega) (by omega)).trans b4, (x3 130 (by omega) (by omega)).trans b5, (x3 131 (by omega) (by omega)).trans b6⟩, ⟨x1, x2, (x3 134 (by omega) (by omega)).trans d1, (x3 135 (by omega) (by omega)).trans d2, (x3 136 (by omega) (by omega)).trans d3, (x3 137 (by omega) (by omega)).trans d4⟩, hO, fun q hq => ⟨hm2 q hq, va_upn hq⟩, hcc, fun hl => ?_⟩
  obtain ⟨y1, y2, y3, y4, y5⟩ := hfin hl
  exact ⟨y1, y2, by rw [va_upe]; exact y3, by rw [va_upe]; exact y4, y5⟩
set_option maxHeartbeats 4000000 in
set_option maxRecDepth 100000 in
theorem wm_wend {N : Nat} {μ : am_M} {zp zt zm zd ze zi zu zcc zg : Int} {p : Nat} {fl fc : Nat → Int} {ztm zba : Int} (hM : μ 120 = mcl zp zt zm zd ze zi zu zcc zg) (e1 : μ 132 = am_L 4 fl) (e2 : μ 133 = am_I 0 4 fc) (hN : 141 ≤ N) (hp : p < 4) {Q : Option Value → Nat → am_M → Prop} (hq : ∀ μ9 : am_M, μ9 132 = am_L 4 (va_up fl p ztm) → μ9 133 = am_I 0 4 (va_up fc p (zba + 1)) → (∀ x, x ≠ 132 → x ≠ 133 → μ9 x = μ x) → Q none N μ9) : am_W YX10_works Q 0 0 371 [(0, .ref 120), (1, am_i (p : Int)), (2, am_l ztm), (5, am_i zba)] [] N μ := by
  refine ap_aload_n dX10_works_371 rfl rfl ?_
  refine ap_get ff_X10_44 dX10_works_372 (by omega) hM rfl ?_
  refine ap_iload_n dX10_works_375 rfl rfl ?_
  refine ap_lload_n dX10_works_376 rfl rfl ?_
  refine ap_last (j := p) dX10_works_377 (by omega) e1 (by omega) (by omega) (fun μ1 xe2 xf3 => ?_)
  refine ap_aload_n dX10_works_378 rfl rfl ?_
  have xm4 : μ1 120 = am_O 10 [.ref 121, .ref 122, am_i zp, .ref 123, am_i zt, am_i zm, am_i zd, am_i ze, am_i zi, .ref 124, .ref 125, am_i zu, .ref 126, .ref 127, .ref 128, .ref 129, .ref 130, .ref 131, .ref 132, .ref 133, .ref 134, .ref 135, am_i zcc, .ref 136, .ref 137, .ref 138, .ref 139, .ref 140, am_i zg] := (xf3 _ (by omega)).trans hM
  refine ap_get ff_X10_47 dX10_works_379 (by omega) xm4 rfl ?_
  refine ap_iload_n dX10_works_382 rfl rfl ?_
  refine ap_iload dX10_works_383 rfl ?_
  refine ap_iconst dX10_works_385 ?_
  refine ap_iadd dX10_works_386 ?_
  have xm5 : μ1 133 = am_I 0 4 fc := (xf3 _ (by omega)).trans e2
  refine ap_iast (j := p) dX10_works_387 (by omega) xm5 (by omega) (by omega) (fun μ6 xe7 xf8 => ?_)
  have xm9 : μ6 132 = am_L 4 (va_up fl p ztm) := (xf8 _ (by omega)).trans xe2
  exact ap_vret dX10_works_388 rfl (Nat.le_of_ble_eq_true rfl) (Nat.le_of_ble_eq_true rfl) (hq _ xm9 xe7 (fun x y1 y2 => (xf8 x (by omega)).trans ((xf3 x (by omega)))))
set_option maxHeartbeats 4000000 in
set_option maxRecDepth 100000 in
theorem wm_over {N : Nat} {μ : am_M} {zp zt zm zd ze zi zu zcc zg : Int} {p : Nat} {fl fc : Nat → Int} {ztm zba : Int} (hM : μ 120 = mcl zp zt zm zd ze zi zu zcc zg) (e1 : μ 132 = am_L 4 fl) (e2 : μ 133 = am_I 0 4 fc) (hN : 141 ≤ N) (hp : p < 4) {zop ztd zac zre z : Int} (hz : 0 ≤ z ∧ z ≤ 2000) (hzu : 0 ≤ zu ∧ zu ≤ 2000) (h9 : 300 < zcc ∧ zcc ≤ 301) {Q : Option Value → Nat → am_M → Prop} (hq : ∀ μ9 : am_M, μ9 132 = am_L 4 (va_up fl p ztm) → μ9 133 = am_I 0 4 (va_up fc p (zba + 1)) → (∀ x, x ≠ 132 → x ≠ 133 → μ9 x = μ x) → Q none N μ9) : am_W YX10_works Q 0 0 51 [(0, .ref 120), (1, am_i (p : Int)), (2, am_l ztm), (4, am_i zop), (5, am_i zba), (6, am_i ztd), (7, am_i zac), (8, am_i zre), (9, am_i z)] [] N μ := by
  refine ap_iload dX10_works_51 rfl ?_
  refine ap_aload_n dX10_works_53 rfl rfl ?_
  refine ap_get ff_X10_124 dX10_works_54 (by omega) hM rfl ?_
  refine ap_icmp_ge (tgt := 371) dX10_works_57 (by decide) (by omega) (fun c57 => ?_) (fun c57 => ?_)
  · refine ap_pick (lv2 := [(0, .ref 120), (1, am_i (p : Int)), (2, am_l ztm), (5, am_i zba)]) [0, 1, 2, 4] rfl ?_
    exact wm_wend hM e1 e2 hN hp hq
  · refine ap_aload_n dX10_works_60 rfl rfl ?_
    refine ap_get ff_X10_152 dX10_works_61 (by omega) hM rfl ?_
    refine ap_sipush dX10_works_64 (by decide) ?_
    refine ap_icmp_gt (tgt := 371) dX10_works_67 (by decide) (by omega) (fun c67 => ?_) (fun c67 => (by exfalso; omega))
    refine ap_pick (lv2 := [(0, .ref 120), (1, am_i (p : Int)), (2, am_l ztm), (5, am_i zba)]) [0, 1, 2, 4] rfl ?_
    exact wm_wend hM e1 e2 hN hp hq
set_option maxHeartbeats 4000000 in
set_option maxRecDepth 100000 in
theorem lm_dots {N : Nat} {μ : am_M} {zp zt zm zd ze zi zcc zg : Int} {us : List Int} {h : Nat → Int} {p k : Nat} {ztm zop zba ztd zac zre ch : Int} {Q : Option Value → Nat → am_M → Prop} (hM : μ 120 = mcl zp zt zm zd ze zi (us.length : Int) zcc zg) (hH : μ 125 = am_I 0 1200 h) (hu : unr h us) (hch : ∀ c ∈ us, 0 ≤ c ∧ c ≤ 126) (hl : us.length ≤ 900) (hN : 141 ≤ N) (hk : k < us.length) (hD1 : ∀ j, j < dts us k → k + 1 + j < us.length ∧ us.getD (k + 1 + j) 0 = 46) (hD2 : ¬ (k + 1 + dts us k < us.length ∧ us.getD (k + 1 + dts us k) 0 = 46)) (hd2 : dts us k ≤ 2) (hk9 : am_W YX10_works Q 0 0 246 [(0, .ref 120), (1, am_i (p : Int)), (2, am_l ztm), (4, am_i zop), (5, am_i zba), (6, am_i ztd), (7, am_i zac), (8, am_i zre), (9, am_i ((k + dts us k : Nat) : Int)), (10, am_i ch), (11, am_i ((dts us k : Nat) : Int))] [] N μ) : ∀ (nn : Nat) (j : Nat) (z : Int) (zj : Int), z = ((k + j : Nat) : Int) → zj = (j : Int) → j ≤ dts us k → dts us k - j < nn → am_W YX10_works (Q) 0 0 212 [(0, .ref 120), (1, am_i (p : Int)), (2, am_l ztm), (4, am_i zop), (5, am_i zba), (6, am_i ztd), (7, am_i zac), (8, am_i zre), (9, am_i z), (10, am_i ch), (11, am_i zj)] [] N μ := by
  intro nn
  induction nn with
  | zero =>
    intro j z zj hz hzj hj hm
    exfalso; omega
  | succ nn ih =>
    intro j z zj hz hzj hj hm
    refine ap_iload dX10_works_212 rfl ?_
    refine ap_iconst dX10_works_214 ?_
    refine ap_iadd dX10_works_215 ?_
    refine ap_aload_n dX10_works_216 rfl rfl ?_
    refine ap_get ff_X10_124 dX10_works_217 (by omega) hM rfl ?_
    refine ap_icmp_ge (tgt := 246) dX10_works_220 (by decide) (by omega) (fun c220 => ?_) (fun c220 => ?_)
    · have hjd : j = dts us k := by
        rcases Nat.lt_or_ge j (dts us k) with q | q
        · have := hD1 j q; omega
        · omega
      rw [hz, hzj, hjd]
      exact hk9
    · have hlt : k + 1 + j < us.length := by omega
      have hcr := hch _ (am_gd hlt)
      refine ap_aload_n dX10_works_223 rfl rfl ?_
      refine ap_get ff_X10_22 dX10_works_224 (by omega) hM rfl ?_
      refine ap_iload dX10_works_227 rfl ?_
      refine ap_iconst dX10_works_229 ?_
      refine ap_iadd dX10_works_230 ?_
      refine ap_iald (j := k + 1 + j) dX10_works_231 (by omega) hH (by omega) (by omega) ?_
      refine ap_topi (b := us.getD (k + 1 + j) 0) (show (h (k + 1 + j)) = (us.getD (k + 1 + j) 0) from hu _ hlt) ?_
      refine ap_bipush dX10_works_232 (by decide) ?_
      refine ap_icmp_ne (tgt := 246) dX10_works_234 (by decide) (by omega) (fun c234 => ?_) (fun c234 => ?_)
      · have hjd : j = dts us k := by
          rcases Nat.lt_or_ge j (dts us k) with q | q
          · have := hD1 j q; omega
          · omega
        rw [hz, hzj, hjd]
        exact hk9
      · refine ap_Iinc (lv2 := [(0, .ref 120), (1, am_i (p : Int)), (2, am_l ztm), (4, am_i zop), (5, am_i zba), (6, am_i ztd), (7, am_i zac), (8, am_i zre), (9, am_i z), (10, am_i ch), (11, am_i (zj + 1))]) dX10_works_237 rfl (by decide) rfl ?_
        refine ap_Iinc (lv2 := [(0, .ref 120), (1, am_i (p : Int)), (2, am_l ztm), (4, am_i zop), (5, am_i zba), (6, am_i ztd), (7, am_i zac), (8, am_i zre), (9, am_i (z + 1)), (10, am_i ch), (11, am_i (zj + 1))]) dX10_works_240 rfl (by decide) rfl ?_
        refine ap_goto (tgt := 212) dX10_works_243 (by decide) ?_
        exact ih (j + 1) _ _ (by omega) (by omega) (by
          rcases Nat.lt_or_ge j (dts us k) with q | q
          · exact q
          · exfalso; apply hD2; rw [show dts us k = j by omega]; exact ⟨hlt, by omega⟩) (by
          rcases Nat.lt_or_ge j (dts us k) with q | q
          · omega
          · exfalso; apply hD2; rw [show dts us k = j by omega]; exact ⟨hlt, by omega⟩)

set_option maxHeartbeats 16000000 in
set_option maxRecDepth 100000 in
theorem lm_works {N : Nat} {μ0 : am_M} {zp zt zm zd ze zi zg : Int} {us : List Int} {A : Nat → GS} {p : Nat} {h fl fc fo0 fs0 fa0 fb0 fn0 fm0 : Nat → Int} (hH0 : μ0 125 = am_I 0 1200 h) (h132 : μ0 132 = am_L 4 fl) (h133 : μ0 133 = am_I 0 4 fc) (hu : unr h us) (hA : acc us A) (hl : us.length ≤ 900) (hch : ∀ c ∈ us, 0 ≤ c ∧ c ≤ 126) (hN : 141 ≤ N) (hp : p < 4) : ∀ (nn : Nat) (k : Nat) (z : Int) (μ : am_M) (P : PS) (zcc : Int) (fo : Nat → Int) (fs : Nat → Int) (fa : Nat → Int) (fb : Nat → Int) (fn : Nat → Int) (fm : Nat → Int) (bl : Nat → Int) (be : Nat → Int) (up : Nat → Int) (lo : Nat → Int) (ztm : Int) (zop : Int) (zba : Int) (ztd : Int) (zac : Int) (zre : Int), z = (k : Int) → k ≤ us.length → (∀ x, ¬ (x = 120 ∨ (126 ≤ x ∧ x ≤ 131) ∨ (134 ≤ x ∧ x ≤ 137)) → μ x = μ0 x) → μ 120 = mcl zp zt zm zd ze zi (us.length : Int) zcc zg → μ 126 = am_L 1200 fo → μ 127 = am_L 1200 fs → μ 128 = am_I 0 1200 fa → μ 129 = am_I 0 1200 fb → μ 130 = am_I 0 1200 fn → μ 131 = am_I 0 4 fm → μ 134 = am_L 1200 bl → μ 135 = am_I 3 1200 be → μ 136 = am_I 0 3 up → μ 137 = am_I 0 3 lo → sp us k = P → zcc = (lets (us.take k) : Int) → zcc ≤ 300 → wrl p P fo fs fa fb fn → wof p fo0 fs0 fa0 fb0 fn0 fo fs fa fb fn → fm p = (p_cnt P : Int) → (∀ q, q ≠ p → fm q = fm0 q) → wbr P bl be → wsr (p_ts P) up lo → ztm = p_tot P → zop = ((p_ts P).length : Int) → zba = (p_nb P : Int) - 1 → ztd = p_td P → (A k).1 ≤ 2 → zac = (if (A k).1 = 1 then 1 else 0) → zre = (if (A k).1 = 2 then 1 else 0) → us.length - k < nn → am_W YX10_works (wkq N μ0 zp zt zm zd ze zi zg us p fo0 fs0 fa0 fb0 fn0 fm0 fl) 0 0 51 [(0, .ref 120), (1, am_i (p : Int)), (2, am_l ztm), (4, am_i zop), (5, am_i zba), (6, am_i ztd), (7, am_i zac), (8, am_i zre), (9, am_i z)] [] N μ := by
  intro nn
  induction nn with
  | zero =>
    intro k z μ P zcc fo fs fa fb fn fm bl be up lo ztm zop zba ztd zac zre hz hk hf hM b1 b2 b3 b4 b5 b6 d1 d2 d3 d4 hP hcc hc3 hW hO hm1 hm2 hB hT htm hop hba htd hA1 hac hre hm
    exfalso; omega
  | succ nn ih =>
    intro k z μ P zcc fo fs fa fb fn fm bl be up lo ztm zop zba ztd zac zre hz hk hf hM b1 b2 b3 b4 b5 b6 d1 d2 d3 d4 hP hcc hc3 hW hO hm1 hm2 hB hT htm hop hba htd hA1 hac hre hm
    have hg := acc_pgd hA hl k hk (by omega)
    rw [hP] at hg
    obtain ⟨⟨g1, g2, g3, g4, g5, g6, g7, g8, g9⟩, q2, q3, q4, q5, q6, q7⟩ := id hg
    have hH : μ 125 = am_I 0 1200 h := (hf 125 (by omega)).trans hH0
    have e1 : μ 132 = am_L 4 fl := (hf 132 (by omega)).trans h132
    have e2 : μ 133 = am_I 0 4 fc := (hf 133 (by omega)).trans h133
    have hac1 : zac = 0 ∨ zac = 1 := by rw [hac]; split <;> omega
    have hre1 : zre = 0 ∨ zre = 1 := by rw [hre]; split <;> omega
    have hA0 := (acc_ok hA k hk).1
    refine ap_iload dX10_works_51 rfl ?_
    refine ap_aload_n dX10_works_53 rfl rfl ?_
    refine ap_get ff_X10_124 dX10_works_54 (by omega) hM rfl ?_
    refine ap_icmp_ge (tgt := 371) dX10_works_57 (by decide) (by omega) (fun c57 => ?_) (fun c57 => ?_)
    · refine ap_pick (lv2 := [(0, .ref 120), (1, am_i (p : Int)), (2, am_l ztm), (5, am_i zba)]) [0, 1, 2, 4] rfl ?_
      have hke : k = us.length := by omega
      rw [hke, List.take_length] at hcc
      rw [hke] at hP
      refine wm_wend hM e1 e2 hN hp (fun μ9 x1 x2 x3 => wk_fin hf hM b1 b2 b3 b4 b5 b6 d1 d2 d3 d4 hO hm2 (by rw [if_pos (by omega)]; exact hcc) (fun _ => ?_) x1 x2 x3)
      rw [hP]
      exact ⟨hW, hm1, htm, by omega, hB⟩
    · have hlt : k < us.length := by omega
      have hcr := hch _ (am_gd hlt)
      have hvr := hv_r (us.getD k 0)
      refine ap_aload_n dX10_works_60 rfl rfl ?_
      refine ap_get ff_X10_152 dX10_works_61 (by omega) hM rfl ?_
      refine ap_sipush dX10_works_64 (by decide) ?_
      refine ap_icmp_gt (tgt := 371) dX10_works_67 (by decide) (by omega) (fun c67 => (by exfalso; omega)) (fun c67 => ?_)
      refine ap_aload_n dX10_works_70 rfl rfl ?_
      refine ap_get ff_X10_22 dX10_works_71 (by omega) hM rfl ?_
      refine ap_iload dX10_works_74 rfl ?_
      refine ap_iald (j := k) dX10_works_76 (by omega) hH (by omega) (by omega) ?_
      refine ap_topi (b := us.getD k 0) (show (h k) = (us.getD k 0) from hu k hlt) ?_
      refine ap_Istore (lv2 := [(0, .ref 120), (1, am_i (p : Int)), (2, am_l ztm), (4, am_i zop), (5, am_i zba), (6, am_i ztd), (7, am_i zac), (8, am_i zre), (9, am_i z), (10, am_i (us.getD k 0))]) dX10_works_77 (by decide) rfl ?_
      refine ap_iload dX10_works_79 rfl ?_
      refine ap_bipush dX10_works_81 (by decide) ?_
      refine ap_icmp_ne (tgt := 133) dX10_works_83 (by decide) (by omega) (fun c83 => ?_) (fun c83 => ?_)
      · refine ap_iload dX10_works_133 rfl ?_
        refine ap_bipush dX10_works_135 (by decide) ?_
        refine ap_icmp_ne (tgt := 146) dX10_works_137 (by decide) (by omega) (fun c137 => ?_) (fun c137 => ?_)
        · refine ap_iload dX10_works_146 rfl ?_
          refine ap_bipush dX10_works_148 (by decide) ?_
          refine ap_icmp_ne (tgt := 175) dX10_works_150 (by decide) (by omega) (fun c150 => ?_) (fun c150 => ?_)
          · refine ap_iload dX10_works_175 rfl ?_
            refine ap_bipush dX10_works_177 (by decide) ?_
            refine ap_icmp_ne (tgt := 188) dX10_works_179 (by decide) (by omega) (fun c179 => ?_) (fun c179 => ?_)
            · refine ap_iload dX10_works_188 rfl ?_
              refine ap_bipush dX10_works_190 (by decide) ?_
              refine ap_icmp_ne (tgt := 201) dX10_works_192 (by decide) (by omega) (fun c192 => ?_) (fun c192 => ?_)
              · refine ap_iload dX10_works_201 rfl ?_
                refine ap_cS (As := [am_i (us.getD k 0)]) (rest := []) (cm_halvings (ch := us.getD k 0) (by omega)) dX10_works_203 lk_X10_83 hy_X10_halvings rfl (Nat.le_of_ble_eq_true rfl) ⟨Nat.le_of_ble_eq_true rfl, Nat.le_of_ble_eq_true rfl⟩ ⟨rfl, rfl⟩ ⟨Nat.le_of_ble_eq_true rfl, Nat.le_of_ble_eq_true rfl⟩ (fun xr1 xN2 μ3 xq4 => ?_)
                obtain ⟨rfl, rfl, rfl⟩ := xq4
                refine ap_if_lt (tgt := 365) dX10_works_206 (by decide) (by omega) (fun c206 => ?_) (fun c206 => ?_)
                · obtain ⟨n0, n2⟩ := (acc_head hA hlt hA1).2 (by omega)
                  have z7 : zac = 0 := by rw [hac, if_neg (by omega)]
                  have z8 : zre = 0 := by rw [hre, if_neg (by omega)]
                  have hpv := acc_prev hA hlt
                  have hlk := lets_skip hlt (by omega)
                  refine ap_Iinc (lv2 := [(0, .ref 120), (1, am_i (p : Int)), (2, am_l ztm), (4, am_i zop), (5, am_i zba), (6, am_i ztd), (7, am_i zac), (8, am_i zre), (9, am_i (z + 1)), (10, am_i (us.getD k 0))]) dX10_works_365 rfl (by decide) rfl ?_
                  refine ap_goto (tgt := 51) dX10_works_368 (by decide) ?_
                  refine ap_pick (lv2 := [(0, .ref 120), (1, am_i (p : Int)), (2, am_l ztm), (4, am_i zop), (5, am_i zba), (6, am_i ztd), (7, am_i zac), (8, am_i zre), (9, am_i (z + 1))]) [0, 1, 2, 3, 4, 5, 6, 7, 8] rfl ?_
                  have s1 : sp us (k + 1) = P := by rw [sp_skip (by omega) (by omega) (by omega) (by omega)]; exact hP
                  exact ih (k + 1) _ μ (P) _ _ _ _ _ _ _ _ _ _ _ _ _ _ _ _ _ (by omega) (by omega) (fun x hx => (rfl).trans (hf x hx)) hM b1 b2 b3 b4 b5 b6 d1 d2 d3 d4 (s1) (by rw [hlk]; exact hcc) (hc3) (hW) (hO) (hm1) (hm2) (hB) (hT) (htm) (hop) (hba) (htd) (n2 (by omega)) (by rw [if_neg (by omega)]; exact z7) (by rw [if_neg (by omega)]; exact z8) (by omega)
                · have hlv : 0 ≤ hv (us.getD k 0) := by omega
                  obtain ⟨D1, D2, D3, D4, D5⟩ := acc_dts hA hlt hA1 hlv
                  obtain ⟨s1, s2⟩ := sp_let hA hlt hA1 hlv hac hre
                  rw [hP] at s1
                  have hx1 := tk_pos (d := dts us k) ⟨hlv, hvr.2⟩ g6 g7
                  have hx2 := (tk_r (d := dts us k) ⟨hlv, hvr.2⟩ g6 g7).2
                  refine ap_iconst dX10_works_209 ?_
                  refine ap_Istore (lv2 := [(0, .ref 120), (1, am_i (p : Int)), (2, am_l ztm), (4, am_i zop), (5, am_i zba), (6, am_i ztd), (7, am_i zac), (8, am_i zre), (9, am_i z), (10, am_i (us.getD k 0)), (11, am_i 0)]) dX10_works_210 (by decide) rfl ?_
                  refine lm_dots hM hH hu hch hl hN hlt D1 D2 D5 ?_ 4 0 _ 0 (by omega) rfl (Nat.zero_le _) (by omega)
                  refine ap_aload_n dX10_works_246 rfl rfl ?_
                  refine ap_iload dX10_works_247 rfl ?_
                  refine ap_iload dX10_works_249 rfl ?_
                  refine ap_iload dX10_works_251 rfl ?_
                  refine ap_cV (As := [am_i (us.getD k 0), am_i ((dts us k : Nat) : Int), am_i zop]) (rest := []) (cm_lengthAt hM d3 d4 hN hT g6 g7 (ch := us.getD k 0) (d := dts us k) (by omega) ⟨hlv, hvr.2⟩ rfl D5 hop) dX10_works_253 lk_X10_155 hy_X10_lengthAt rfl (by omega) hM ⟨_, _, rfl⟩ (Nat.le_of_ble_eq_true rfl) ⟨Nat.le_of_ble_eq_true rfl, Nat.le_of_ble_eq_true rfl⟩ ⟨rfl, rfl⟩ ⟨Nat.le_of_ble_eq_true rfl, Nat.le_of_ble_eq_true rfl⟩ (fun xr5 xN6 μ7 xq8 => ?_)
                  obtain ⟨rfl, rfl, rfl⟩ := xq8
                  generalize htk : tk (hv (us.getD k 0)) (dts us k) (p_ts P) = zx at hx1 hx2 s1 ⊢
                  refine ap_Lstore (lv2 := [(0, .ref 120), (1, am_i (p : Int)), (2, am_l ztm), (4, am_i zop), (5, am_i zba), (6, am_i ztd), (7, am_i zac), (8, am_i zre), (9, am_i ((k + dts us k : Nat) : Int)), (10, am_i (us.getD k 0)), (11, am_i ((dts us k : Nat) : Int)), (12, am_l zx)]) dX10_works_256 (by decide) rfl ?_
                  refine ap_aload_n dX10_works_258 rfl rfl ?_
                  refine ap_dup dX10_works_259 rfl ?_
                  refine ap_get ff_X10_152 dX10_works_260 (by omega) hM rfl ?_
                  refine ap_iconst dX10_works_263 ?_
                  refine ap_iadd dX10_works_264 ?_
                  refine ap_put (fs2 := [.ref 121, .ref 122, am_i zp, .ref 123, am_i zt, am_i zm, am_i zd, am_i ze, am_i zi, .ref 124, .ref 125, am_i (us.length : Int), .ref 126, .ref 127, .ref 128, .ref 129, .ref 130, .ref 131, .ref 132, .ref 133, .ref 134, .ref 135, am_i (zcc + 1), .ref 136, .ref 137, .ref 138, .ref 139, .ref 140, am_i zg]) ff_X10_152 fc_X10_22 dX10_works_265 (by omega) hM (fun _ => ⟨rfl, rfl⟩) (Nat.le_of_ble_eq_true rfl) rfl (fun μ9 xe10 xf11 => ?_)
                  refine ap_iload dX10_works_268 rfl ?_
                  refine ap_if_ne (tgt := 297) dX10_works_270 (by decide) (by omega) (fun c270 => ?_) (fun c270 => ?_)
                  · refine ap_iload dX10_works_297 rfl ?_
                    refine ap_if_ne (tgt := 331) dX10_works_299 (by decide) (by omega) (fun c299 => ?_) (fun c299 => (by exfalso; omega))
                    refine ap_iconst dX10_works_331 ?_
                    refine ap_Istore (lv2 := [(0, .ref 120), (1, am_i (p : Int)), (2, am_l ztm), (4, am_i zop), (5, am_i zba), (6, am_i 0), (7, am_i zac), (8, am_i zre), (9, am_i ((k + dts us k : Nat) : Int)), (10, am_i (us.getD k 0)), (11, am_i ((dts us k : Nat) : Int)), (12, am_l zx)]) dX10_works_332 (by decide) rfl ?_
                    refine ap_iconst dX10_works_334 ?_
                    refine ap_Istore (lv2 := [(0, .ref 120), (1, am_i (p : Int)), (2, am_l ztm), (4, am_i zop), (5, am_i zba), (6, am_i 0), (7, am_i zac), (8, am_i 0), (9, am_i ((k + dts us k : Nat) : Int)), (10, am_i (us.getD k 0)), (11, am_i ((dts us k : Nat) : Int)), (12, am_l zx)]) dX10_works_335 (by decide) rfl ?_
                    refine ap_iconst dX10_works_337 ?_
                    refine ap_Istore (lv2 := [(0, .ref 120), (1, am_i (p : Int)), (2, am_l ztm), (4, am_i zop), (5, am_i zba), (6, am_i 0), (7, am_i 0), (8, am_i 0), (9, am_i ((k + dts us k : Nat) : Int)), (10, am_i (us.getD k 0)), (11, am_i ((dts us k : Nat) : Int)), (12, am_l zx)]) dX10_works_338 (by decide) rfl ?_
                    refine ap_lload_n dX10_works_340 rfl rfl ?_
                    refine ap_lload dX10_works_341 rfl ?_
                    refine ap_ladd dX10_works_343 ?_
                    refine ap_Lstore_n (lv2 := [(0, .ref 120), (1, am_i (p : Int)), (2, am_l (ztm + zx)), (4, am_i zop), (5, am_i zba), (6, am_i 0), (7, am_i 0), (8, am_i 0), (9, am_i ((k + dts us k : Nat) : Int)), (10, am_i (us.getD k 0)), (11, am_i ((dts us k : Nat) : Int)), (12, am_l zx)]) dX10_works_344 rfl (by decide) rfl ?_
                    refine ap_aload_n dX10_works_345 rfl rfl ?_
                    refine ap_get ff_X10_50 dX10_works_346 (by omega) xe10 rfl ?_
                    refine ap_iload dX10_works_349 rfl ?_
                    refine ap_dup2 dX10_works_351 rfl rfl ?_
                    have xm12 : μ9 134 = am_L 1200 bl := (xf11 _ (by omega)).trans d1
                    refine ap_lald (j := p_nb P - 1) dX10_works_352 (by omega) xm12 (by omega) (by omega) ?_
                    refine ap_lload dX10_works_353 rfl ?_
                    refine ap_ladd dX10_works_355 ?_
                    refine ap_last (j := p_nb P - 1) dX10_works_356 (by omega) xm12 (by omega) (by omega) (fun μ13 xe14 xf15 => ?_)
                    refine ap_aload_n dX10_works_357 rfl rfl ?_
                    have xm16 : μ13 120 = am_O 10 [.ref 121, .ref 122, am_i zp, .ref 123, am_i zt, am_i zm, am_i zd, am_i ze, am_i zi, .ref 124, .ref 125, am_i (us.length : Int), .ref 126, .ref 127, .ref 128, .ref 129, .ref 130, .ref 131, .ref 132, .ref 133, .ref 134, .ref 135, am_i (zcc + 1), .ref 136, .ref 137, .ref 138, .ref 139, .ref 140, am_i zg] := (xf15 _ (by omega)).trans xe10
                    refine ap_get ff_X10_53 dX10_works_358 (by omega) xm16 rfl ?_
                    refine ap_iload dX10_works_361 rfl ?_
                    refine ap_iconst dX10_works_363 ?_
                    have xm17 : μ13 135 = am_I 3 1200 be := (xf15 _ (by omega)).trans ((xf11 _ (by omega)).trans d2)
                    refine ap_zast (j := p_nb P - 1) dX10_works_364 (by omega) xm17 (by omega) (by omega) (by omega) (fun μ18 xe19 xf20 => ?_)
                    refine ap_Iinc (lv2 := [(0, .ref 120), (1, am_i (p : Int)), (2, am_l (ztm + zx)), (4, am_i zop), (5, am_i zba), (6, am_i 0), (7, am_i 0), (8, am_i 0), (9, am_i (((k + dts us k : Nat) : Int) + 1)), (10, am_i (us.getD k 0)), (11, am_i ((dts us k : Nat) : Int)), (12, am_l zx)]) dX10_works_365 rfl (by decide) rfl ?_
                    refine ap_goto (tgt := 51) dX10_works_368 (by decide) ?_
                    refine ap_pick (lv2 := [(0, .ref 120), (1, am_i (p : Int)), (2, am_l (ztm + zx)), (4, am_i zop), (5, am_i zba), (6, am_i 0), (7, am_i 0), (8, am_i 0), (9, am_i (((k + dts us k : Nat) : Int) + 1))]) [0, 1, 2, 3, 4, 5, 6, 7, 8] rfl ?_
                    have xm21 : μ18 120 = am_O 10 [.ref 121, .ref 122, am_i zp, .ref 123, am_i zt, am_i zm, am_i zd, am_i ze, am_i zi, .ref 124, .ref 125, am_i (us.length : Int), .ref 126, .ref 127, .ref 128, .ref 129, .ref 130, .ref 131, .ref 132, .ref 133, .ref 134, .ref 135, am_i (zcc + 1), .ref 136, .ref 137, .ref 138, .ref 139, .ref 140, am_i zg] := (xf20 _ (by omega)).trans xm16
                    have xm22 : μ18 126 = am_L 1200 fo := (xf20 _ (by omega)).trans ((xf15 _ (by omega)).trans ((xf11 _ (by omega)).trans b1))
                    have xm23 : μ18 127 = am_L 1200 fs := (xf20 _ (by omega)).trans ((xf15 _ (by omega)).trans ((xf11 _ (by omega)).trans b2))
                    have xm24 : μ18 128 = am_I 0 1200 fa := (xf20 _ (by omega)).trans ((xf15 _ (by omega)).trans ((xf11 _ (by omega)).trans b3))
                    have xm25 : μ18 129 = am_I 0 1200 fb := (xf20 _ (by omega)).trans ((xf15 _ (by omega)).trans ((xf11 _ (by omega)).trans b4))
                    have xm26 : μ18 130 = am_I 0 1200 fn := (xf20 _ (by omega)).trans ((xf15 _ (by omega)).trans ((xf11 _ (by omega)).trans b5))
                    have xm27 : μ18 131 = am_I 0 4 fm := (xf20 _ (by omega)).trans ((xf15 _ (by omega)).trans ((xf11 _ (by omega)).trans b6))
                    have xm28 : μ18 134 = am_L 1200 (va_up bl (p_nb P - 1) ((bl (p_nb P - 1)) + zx)) := (xf20 _ (by omega)).trans xe14
                    have xm29 : μ18 136 = am_I 0 3 up := (xf20 _ (by omega)).trans ((xf15 _ (by omega)).trans ((xf11 _ (by omega)).trans d3))
                    have xm30 : μ18 137 = am_I 0 3 lo := (xf20 _ (by omega)).trans ((xf15 _ (by omega)).trans ((xf11 _ (by omega)).trans d4))
                    have xm31 : μ18 132 = am_L 4 fl := (xf20 _ (by omega)).trans ((xf15 _ (by omega)).trans ((xf11 _ (by omega)).trans e1))
                    have xm32 : μ18 133 = am_I 0 4 fc := (xf20 _ (by omega)).trans ((xf15 _ (by omega)).trans ((xf11 _ (by omega)).trans e2))
                    have hl3 := lets_mono (us := us) _ (k + 1 + dts us k) us.length (Nat.le_refl _) D4 (Nat.le_refl _)
                    rw [List.take_length] at hl3
                    by_cases h9 : zcc + 1 ≤ 300
                    · rw [if_pos (by omega)] at s1
                      exact ih (k + 1 + dts us k) _ μ18 (pAdv P zx 0) _ _ _ _ _ _ _ _ _ _ _ _ _ _ _ _ _ (by omega) (by omega) (fun x hx => ((xf20 x (by omega)).trans ((xf15 x (by omega)).trans ((xf11 x (by omega))))).trans (hf x hx)) xm21 xm22 xm23 xm24 xm25 xm26 xm27 xm28 xe19 xm29 xm30 (s1) (by rw [s2]; omega) (h9) (hW) (hO) (hm1) (hm2) (wbr_adv hB hx1 rfl rfl g9) (hT) (by show _ = p_tot P + zx; omega) (hop) (hba) (rfl) (by omega) (by rw [if_neg (by omega)]) (by rw [if_neg (by omega)]) (by omega)
                    · refine wm_over xm21 xm31 xm32 hN hp (by omega) (by omega) (by omega) (fun μ9 x1 x2 x3 => wk_fin (fun x hx => ((xf20 x (by omega)).trans ((xf15 x (by omega)).trans ((xf11 x (by omega))))).trans (hf x hx)) xm21 xm22 xm23 xm24 xm25 xm26 xm27 xm28 xe19 xm29 xm30 hO hm2 (by rw [if_neg (by omega)]; omega) (fun q => by exfalso; omega) x1 x2 x3)
                  · refine ap_aload_n dX10_works_273 rfl rfl ?_
                    refine ap_get ff_X10_152 dX10_works_274 (by omega) xe10 rfl ?_
                    refine ap_sipush dX10_works_277 (by decide) ?_
                    refine ap_icmp_gt (tgt := 297) dX10_works_280 (by decide) (by omega) (fun c280 => ?_) (fun c280 => ?_)
                    · refine ap_iload dX10_works_297 rfl ?_
                      refine ap_if_ne (tgt := 331) dX10_works_299 (by decide) (by omega) (fun c299 => (by exfalso; omega)) (fun c299 => ?_)
                      refine ap_iload dX10_works_302 rfl ?_
                      refine ap_iconst dX10_works_304 ?_
                      refine ap_iadd dX10_works_305 ?_
                      refine ap_aload_n dX10_works_306 rfl rfl ?_
                      refine ap_get ff_X10_124 dX10_works_307 (by omega) xe10 rfl ?_
                      refine ap_icmp_ge (tgt := 331) dX10_works_310 (by decide) (by omega) (fun c310 => ?_) (fun c310 => ?_)
                      · refine ap_iconst dX10_works_331 ?_
                        refine ap_Istore (lv2 := [(0, .ref 120), (1, am_i (p : Int)), (2, am_l ztm), (4, am_i zop), (5, am_i zba), (6, am_i 0), (7, am_i zac), (8, am_i zre), (9, am_i ((k + dts us k : Nat) : Int)), (10, am_i (us.getD k 0)), (11, am_i ((dts us k : Nat) : Int)), (12, am_l zx)]) dX10_works_332 (by decide) rfl ?_
                        refine ap_iconst dX10_works_334 ?_
                        refine ap_Istore (lv2 := [(0, .ref 120), (1, am_i (p : Int)), (2, am_l ztm), (4, am_i zop), (5, am_i zba), (6, am_i 0), (7, am_i zac), (8, am_i 0), (9, am_i ((k + dts us k : Nat) : Int)), (10, am_i (us.getD k 0)), (11, am_i ((dts us k : Nat) : Int)), (12, am_l zx)]) dX10_works_335 (by decide) rfl ?_
                        refine ap_iconst dX10_works_337 ?_
                        refine ap_Istore (lv2 := [(0, .ref 120), (1, am_i (p : Int)), (2, am_l ztm), (4, am_i zop), (5, am_i zba), (6, am_i 0), (7, am_i 0), (8, am_i 0), (9, am_i ((k + dts us k : Nat) : Int)), (10, am_i (us.getD k 0)), (11, am_i ((dts us k : Nat) : Int)), (12, am_l zx)]) dX10_works_338 (by decide) rfl ?_
                        refine ap_lload_n dX10_works_340 rfl rfl ?_
                        refine ap_lload dX10_works_341 rfl ?_
                        refine ap_ladd dX10_works_343 ?_
                        refine ap_Lstore_n (lv2 := [(0, .ref 120), (1, am_i (p : Int)), (2, am_l (ztm + zx)), (4, am_i zop), (5, am_i zba), (6, am_i 0), (7, am_i 0), (8, am_i 0), (9, am_i ((k + dts us k : Nat) : Int)), (10, am_i (us.getD k 0)), (11, am_i ((dts us k : Nat) : Int)), (12, am_l zx)]) dX10_works_344 rfl (by decide) rfl ?_
                        refine ap_aload_n dX10_works_345 rfl rfl ?_
                        refine ap_get ff_X10_50 dX10_works_346 (by omega) xe10 rfl ?_
                        refine ap_iload dX10_works_349 rfl ?_
                        refine ap_dup2 dX10_works_351 rfl rfl ?_
                        have xm33 : μ9 134 = am_L 1200 bl := (xf11 _ (by omega)).trans d1
                        refine ap_lald (j := p_nb P - 1) dX10_works_352 (by omega) xm33 (by omega) (by omega) ?_
                        refine ap_lload dX10_works_353 rfl ?_
                        refine ap_ladd dX10_works_355 ?_
                        refine ap_last (j := p_nb P - 1) dX10_works_356 (by omega) xm33 (by omega) (by omega) (fun μ34 xe35 xf36 => ?_)
                        refine ap_aload_n dX10_works_357 rfl rfl ?_
                        have xm37 : μ34 120 = am_O 10 [.ref 121, .ref 122, am_i zp, .ref 123, am_i zt, am_i zm, am_i zd, am_i ze, am_i zi, .ref 124, .ref 125, am_i (us.length : Int), .ref 126, .ref 127, .ref 128, .ref 129, .ref 130, .ref 131, .ref 132, .ref 133, .ref 134, .ref 135, am_i (zcc + 1), .ref 136, .ref 137, .ref 138, .ref 139, .ref 140, am_i zg] := (xf36 _ (by omega)).trans xe10
                        refine ap_get ff_X10_53 dX10_works_358 (by omega) xm37 rfl ?_
                        refine ap_iload dX10_works_361 rfl ?_
                        refine ap_iconst dX10_works_363 ?_
                        have xm38 : μ34 135 = am_I 3 1200 be := (xf36 _ (by omega)).trans ((xf11 _ (by omega)).trans d2)
                        refine ap_zast (j := p_nb P - 1) dX10_works_364 (by omega) xm38 (by omega) (by omega) (by omega) (fun μ39 xe40 xf41 => ?_)
                        refine ap_Iinc (lv2 := [(0, .ref 120), (1, am_i (p : Int)), (2, am_l (ztm + zx)), (4, am_i zop), (5, am_i zba), (6, am_i 0), (7, am_i 0), (8, am_i 0), (9, am_i (((k + dts us k : Nat) : Int) + 1)), (10, am_i (us.getD k 0)), (11, am_i ((dts us k : Nat) : Int)), (12, am_l zx)]) dX10_works_365 rfl (by decide) rfl ?_
                        refine ap_goto (tgt := 51) dX10_works_368 (by decide) ?_
                        refine ap_pick (lv2 := [(0, .ref 120), (1, am_i (p : Int)), (2, am_l (ztm + zx)), (4, am_i zop), (5, am_i zba), (6, am_i 0), (7, am_i 0), (8, am_i 0), (9, am_i (((k + dts us k : Nat) : Int) + 1))]) [0, 1, 2, 3, 4, 5, 6, 7, 8] rfl ?_
                        have xm42 : μ39 120 = am_O 10 [.ref 121, .ref 122, am_i zp, .ref 123, am_i zt, am_i zm, am_i zd, am_i ze, am_i zi, .ref 124, .ref 125, am_i (us.length : Int), .ref 126, .ref 127, .ref 128, .ref 129, .ref 130, .ref 131, .ref 132, .ref 133, .ref 134, .ref 135, am_i (zcc + 1), .ref 136, .ref 137, .ref 138, .ref 139, .ref 140, am_i zg] := (xf41 _ (by omega)).trans xm37
                        have xm43 : μ39 132 = am_L 4 fl := (xf41 _ (by omega)).trans ((xf36 _ (by omega)).trans ((xf11 _ (by omega)).trans e1))
                        have xm44 : μ39 133 = am_I 0 4 fc := (xf41 _ (by omega)).trans ((xf36 _ (by omega)).trans ((xf11 _ (by omega)).trans e2))
                        have xm45 : μ39 126 = am_L 1200 fo := (xf41 _ (by omega)).trans ((xf36 _ (by omega)).trans ((xf11 _ (by omega)).trans b1))
                        have xm46 : μ39 127 = am_L 1200 fs := (xf41 _ (by omega)).trans ((xf36 _ (by omega)).trans ((xf11 _ (by omega)).trans b2))
                        have xm47 : μ39 128 = am_I 0 1200 fa := (xf41 _ (by omega)).trans ((xf36 _ (by omega)).trans ((xf11 _ (by omega)).trans b3))
                        have xm48 : μ39 129 = am_I 0 1200 fb := (xf41 _ (by omega)).trans ((xf36 _ (by omega)).trans ((xf11 _ (by omega)).trans b4))
                        have xm49 : μ39 130 = am_I 0 1200 fn := (xf41 _ (by omega)).trans ((xf36 _ (by omega)).trans ((xf11 _ (by omega)).trans b5))
                        have xm50 : μ39 131 = am_I 0 4 fm := (xf41 _ (by omega)).trans ((xf36 _ (by omega)).trans ((xf11 _ (by omega)).trans b6))
                        have xm51 : μ39 134 = am_L 1200 (va_up bl (p_nb P - 1) ((bl (p_nb P - 1)) + zx)) := (xf41 _ (by omega)).trans xe35
                        have xm52 : μ39 136 = am_I 0 3 up := (xf41 _ (by omega)).trans ((xf36 _ (by omega)).trans ((xf11 _ (by omega)).trans d3))
                        have xm53 : μ39 137 = am_I 0 3 lo := (xf41 _ (by omega)).trans ((xf36 _ (by omega)).trans ((xf11 _ (by omega)).trans d4))
                        have hl3 := lets_mono (us := us) _ (k + 1 + dts us k) us.length (Nat.le_refl _) D4 (Nat.le_refl _)
                        rw [List.take_length] at hl3
                        refine wm_over xm42 xm43 xm44 hN hp (by omega) (by omega) (by omega) (fun μ9 x1 x2 x3 => wk_fin (fun x hx => ((xf41 x (by omega)).trans ((xf36 x (by omega)).trans ((xf11 x (by omega))))).trans (hf x hx)) xm42 xm45 xm46 xm47 xm48 xm49 xm50 xm51 xe40 xm52 xm53 hO hm2 (by rw [if_neg (by omega)]; omega) (fun q => by exfalso; omega) x1 x2 x3)
                      · have hlt2 : k + dts us k + 1 < us.length := by omega
                        have hcr2 := hch _ (am_gd hlt2)
                        refine ap_aload_n dX10_works_313 rfl rfl ?_
                        refine ap_get ff_X10_22 dX10_works_314 (by omega) xe10 rfl ?_
                        refine ap_iload dX10_works_317 rfl ?_
                        refine ap_iconst dX10_works_319 ?_
                        refine ap_iadd dX10_works_320 ?_
                        have xm54 : μ9 125 = am_I 0 1200 h := (xf11 _ (by omega)).trans hH
                        refine ap_iald (j := k + dts us k + 1) dX10_works_321 (by omega) xm54 (by omega) (by omega) ?_
                        refine ap_topi (b := us.getD (k + dts us k + 1) 0) (show (h (k + dts us k + 1)) = (us.getD (k + dts us k + 1) 0) from hu _ hlt2) ?_
                        refine ap_bipush dX10_works_322 (by decide) ?_
                        refine ap_icmp_ne (tgt := 331) dX10_works_324 (by decide) (by omega) (fun c324 => ?_) (fun c324 => ?_)
                        · refine ap_iconst dX10_works_331 ?_
                          refine ap_Istore (lv2 := [(0, .ref 120), (1, am_i (p : Int)), (2, am_l ztm), (4, am_i zop), (5, am_i zba), (6, am_i 0), (7, am_i zac), (8, am_i zre), (9, am_i ((k + dts us k : Nat) : Int)), (10, am_i (us.getD k 0)), (11, am_i ((dts us k : Nat) : Int)), (12, am_l zx)]) dX10_works_332 (by decide) rfl ?_
                          refine ap_iconst dX10_works_334 ?_
                          refine ap_Istore (lv2 := [(0, .ref 120), (1, am_i (p : Int)), (2, am_l ztm), (4, am_i zop), (5, am_i zba), (6, am_i 0), (7, am_i zac), (8, am_i 0), (9, am_i ((k + dts us k : Nat) : Int)), (10, am_i (us.getD k 0)), (11, am_i ((dts us k : Nat) : Int)), (12, am_l zx)]) dX10_works_335 (by decide) rfl ?_
                          refine ap_iconst dX10_works_337 ?_
                          refine ap_Istore (lv2 := [(0, .ref 120), (1, am_i (p : Int)), (2, am_l ztm), (4, am_i zop), (5, am_i zba), (6, am_i 0), (7, am_i 0), (8, am_i 0), (9, am_i ((k + dts us k : Nat) : Int)), (10, am_i (us.getD k 0)), (11, am_i ((dts us k : Nat) : Int)), (12, am_l zx)]) dX10_works_338 (by decide) rfl ?_
                          refine ap_lload_n dX10_works_340 rfl rfl ?_
                          refine ap_lload dX10_works_341 rfl ?_
                          refine ap_ladd dX10_works_343 ?_
                          refine ap_Lstore_n (lv2 := [(0, .ref 120), (1, am_i (p : Int)), (2, am_l (ztm + zx)), (4, am_i zop), (5, am_i zba), (6, am_i 0), (7, am_i 0), (8, am_i 0), (9, am_i ((k + dts us k : Nat) : Int)), (10, am_i (us.getD k 0)), (11, am_i ((dts us k : Nat) : Int)), (12, am_l zx)]) dX10_works_344 rfl (by decide) rfl ?_
                          refine ap_aload_n dX10_works_345 rfl rfl ?_
                          refine ap_get ff_X10_50 dX10_works_346 (by omega) xe10 rfl ?_
                          refine ap_iload dX10_works_349 rfl ?_
                          refine ap_dup2 dX10_works_351 rfl rfl ?_
                          have xm55 : μ9 134 = am_L 1200 bl := (xf11 _ (by omega)).trans d1
                          refine ap_lald (j := p_nb P - 1) dX10_works_352 (by omega) xm55 (by omega) (by omega) ?_
                          refine ap_lload dX10_works_353 rfl ?_
                          refine ap_ladd dX10_works_355 ?_
                          refine ap_last (j := p_nb P - 1) dX10_works_356 (by omega) xm55 (by omega) (by omega) (fun μ56 xe57 xf58 => ?_)
                          refine ap_aload_n dX10_works_357 rfl rfl ?_
                          have xm59 : μ56 120 = am_O 10 [.ref 121, .ref 122, am_i zp, .ref 123, am_i zt, am_i zm, am_i zd, am_i ze, am_i zi, .ref 124, .ref 125, am_i (us.length : Int), .ref 126, .ref 127, .ref 128, .ref 129, .ref 130, .ref 131, .ref 132, .ref 133, .ref 134, .ref 135, am_i (zcc + 1), .ref 136, .ref 137, .ref 138, .ref 139, .ref 140, am_i zg] := (xf58 _ (by omega)).trans xe10
                          refine ap_get ff_X10_53 dX10_works_358 (by omega) xm59 rfl ?_
                          refine ap_iload dX10_works_361 rfl ?_
                          refine ap_iconst dX10_works_363 ?_
                          have xm60 : μ56 135 = am_I 3 1200 be := (xf58 _ (by omega)).trans ((xf11 _ (by omega)).trans d2)
                          refine ap_zast (j := p_nb P - 1) dX10_works_364 (by omega) xm60 (by omega) (by omega) (by omega) (fun μ61 xe62 xf63 => ?_)
                          refine ap_Iinc (lv2 := [(0, .ref 120), (1, am_i (p : Int)), (2, am_l (ztm + zx)), (4, am_i zop), (5, am_i zba), (6, am_i 0), (7, am_i 0), (8, am_i 0), (9, am_i (((k + dts us k : Nat) : Int) + 1)), (10, am_i (us.getD k 0)), (11, am_i ((dts us k : Nat) : Int)), (12, am_l zx)]) dX10_works_365 rfl (by decide) rfl ?_
                          refine ap_goto (tgt := 51) dX10_works_368 (by decide) ?_
                          refine ap_pick (lv2 := [(0, .ref 120), (1, am_i (p : Int)), (2, am_l (ztm + zx)), (4, am_i zop), (5, am_i zba), (6, am_i 0), (7, am_i 0), (8, am_i 0), (9, am_i (((k + dts us k : Nat) : Int) + 1))]) [0, 1, 2, 3, 4, 5, 6, 7, 8] rfl ?_
                          have xm64 : μ61 120 = am_O 10 [.ref 121, .ref 122, am_i zp, .ref 123, am_i zt, am_i zm, am_i zd, am_i ze, am_i zi, .ref 124, .ref 125, am_i (us.length : Int), .ref 126, .ref 127, .ref 128, .ref 129, .ref 130, .ref 131, .ref 132, .ref 133, .ref 134, .ref 135, am_i (zcc + 1), .ref 136, .ref 137, .ref 138, .ref 139, .ref 140, am_i zg] := (xf63 _ (by omega)).trans xm59
                          have xm65 : μ61 132 = am_L 4 fl := (xf63 _ (by omega)).trans ((xf58 _ (by omega)).trans ((xf11 _ (by omega)).trans e1))
                          have xm66 : μ61 133 = am_I 0 4 fc := (xf63 _ (by omega)).trans ((xf58 _ (by omega)).trans ((xf11 _ (by omega)).trans e2))
                          have xm67 : μ61 126 = am_L 1200 fo := (xf63 _ (by omega)).trans ((xf58 _ (by omega)).trans ((xf11 _ (by omega)).trans b1))
                          have xm68 : μ61 127 = am_L 1200 fs := (xf63 _ (by omega)).trans ((xf58 _ (by omega)).trans ((xf11 _ (by omega)).trans b2))
                          have xm69 : μ61 128 = am_I 0 1200 fa := (xf63 _ (by omega)).trans ((xf58 _ (by omega)).trans ((xf11 _ (by omega)).trans b3))
                          have xm70 : μ61 129 = am_I 0 1200 fb := (xf63 _ (by omega)).trans ((xf58 _ (by omega)).trans ((xf11 _ (by omega)).trans b4))
                          have xm71 : μ61 130 = am_I 0 1200 fn := (xf63 _ (by omega)).trans ((xf58 _ (by omega)).trans ((xf11 _ (by omega)).trans b5))
                          have xm72 : μ61 131 = am_I 0 4 fm := (xf63 _ (by omega)).trans ((xf58 _ (by omega)).trans ((xf11 _ (by omega)).trans b6))
                          have xm73 : μ61 134 = am_L 1200 (va_up bl (p_nb P - 1) ((bl (p_nb P - 1)) + zx)) := (xf63 _ (by omega)).trans xe57
                          have xm74 : μ61 136 = am_I 0 3 up := (xf63 _ (by omega)).trans ((xf58 _ (by omega)).trans ((xf11 _ (by omega)).trans d3))
                          have xm75 : μ61 137 = am_I 0 3 lo := (xf63 _ (by omega)).trans ((xf58 _ (by omega)).trans ((xf11 _ (by omega)).trans d4))
                          have hl3 := lets_mono (us := us) _ (k + 1 + dts us k) us.length (Nat.le_refl _) D4 (Nat.le_refl _)
                          rw [List.take_length] at hl3
                          refine wm_over xm64 xm65 xm66 hN hp (by omega) (by omega) (by omega) (fun μ9 x1 x2 x3 => wk_fin (fun x hx => ((xf63 x (by omega)).trans ((xf58 x (by omega)).trans ((xf11 x (by omega))))).trans (hf x hx)) xm64 xm67 xm68 xm69 xm70 xm71 xm72 xm73 xe62 xm74 xm75 hO hm2 (by rw [if_neg (by omega)]; omega) (fun q => by exfalso; omega) x1 x2 x3)
                        · refine ap_iconst dX10_works_327 ?_
                          refine ap_goto (tgt := 332) dX10_works_328 (by decide) ?_
                          refine ap_Istore (lv2 := [(0, .ref 120), (1, am_i (p : Int)), (2, am_l ztm), (4, am_i zop), (5, am_i zba), (6, am_i 1), (7, am_i zac), (8, am_i zre), (9, am_i ((k + dts us k : Nat) : Int)), (10, am_i (us.getD k 0)), (11, am_i ((dts us k : Nat) : Int)), (12, am_l zx)]) dX10_works_332 (by decide) rfl ?_
                          refine ap_iconst dX10_works_334 ?_
                          refine ap_Istore (lv2 := [(0, .ref 120), (1, am_i (p : Int)), (2, am_l ztm), (4, am_i zop), (5, am_i zba), (6, am_i 1), (7, am_i zac), (8, am_i 0), (9, am_i ((k + dts us k : Nat) : Int)), (10, am_i (us.getD k 0)), (11, am_i ((dts us k : Nat) : Int)), (12, am_l zx)]) dX10_works_335 (by decide) rfl ?_
                          refine ap_iconst dX10_works_337 ?_
                          refine ap_Istore (lv2 := [(0, .ref 120), (1, am_i (p : Int)), (2, am_l ztm), (4, am_i zop), (5, am_i zba), (6, am_i 1), (7, am_i 0), (8, am_i 0), (9, am_i ((k + dts us k : Nat) : Int)), (10, am_i (us.getD k 0)), (11, am_i ((dts us k : Nat) : Int)), (12, am_l zx)]) dX10_works_338 (by decide) rfl ?_
                          refine ap_lload_n dX10_works_340 rfl rfl ?_
                          refine ap_lload dX10_works_341 rfl ?_
                          refine ap_ladd dX10_works_343 ?_
                          refine ap_Lstore_n (lv2 := [(0, .ref 120), (1, am_i (p : Int)), (2, am_l (ztm + zx)), (4, am_i zop), (5, am_i zba), (6, am_i 1), (7, am_i 0), (8, am_i 0), (9, am_i ((k + dts us k : Nat) : Int)), (10, am_i (us.getD k 0)), (11, am_i ((dts us k : Nat) : Int)), (12, am_l zx)]) dX10_works_344 rfl (by decide) rfl ?_
                          refine ap_aload_n dX10_works_345 rfl rfl ?_
                          refine ap_get ff_X10_50 dX10_works_346 (by omega) xe10 rfl ?_
                          refine ap_iload dX10_works_349 rfl ?_
                          refine ap_dup2 dX10_works_351 rfl rfl ?_
                          have xm76 : μ9 134 = am_L 1200 bl := (xf11 _ (by omega)).trans d1
                          refine ap_lald (j := p_nb P - 1) dX10_works_352 (by omega) xm76 (by omega) (by omega) ?_
                          refine ap_lload dX10_works_353 rfl ?_
                          refine ap_ladd dX10_works_355 ?_
                          refine ap_last (j := p_nb P - 1) dX10_works_356 (by omega) xm76 (by omega) (by omega) (fun μ77 xe78 xf79 => ?_)
                          refine ap_aload_n dX10_works_357 rfl rfl ?_
                          have xm80 : μ77 120 = am_O 10 [.ref 121, .ref 122, am_i zp, .ref 123, am_i zt, am_i zm, am_i zd, am_i ze, am_i zi, .ref 124, .ref 125, am_i (us.length : Int), .ref 126, .ref 127, .ref 128, .ref 129, .ref 130, .ref 131, .ref 132, .ref 133, .ref 134, .ref 135, am_i (zcc + 1), .ref 136, .ref 137, .ref 138, .ref 139, .ref 140, am_i zg] := (xf79 _ (by omega)).trans xe10
                          refine ap_get ff_X10_53 dX10_works_358 (by omega) xm80 rfl ?_
                          refine ap_iload dX10_works_361 rfl ?_
                          refine ap_iconst dX10_works_363 ?_
                          have xm81 : μ77 135 = am_I 3 1200 be := (xf79 _ (by omega)).trans ((xf11 _ (by omega)).trans d2)
                          refine ap_zast (j := p_nb P - 1) dX10_works_364 (by omega) xm81 (by omega) (by omega) (by omega) (fun μ82 xe83 xf84 => ?_)
                          refine ap_Iinc (lv2 := [(0, .ref 120), (1, am_i (p : Int)), (2, am_l (ztm + zx)), (4, am_i zop), (5, am_i zba), (6, am_i 1), (7, am_i 0), (8, am_i 0), (9, am_i (((k + dts us k : Nat) : Int) + 1)), (10, am_i (us.getD k 0)), (11, am_i ((dts us k : Nat) : Int)), (12, am_l zx)]) dX10_works_365 rfl (by decide) rfl ?_
                          refine ap_goto (tgt := 51) dX10_works_368 (by decide) ?_
                          refine ap_pick (lv2 := [(0, .ref 120), (1, am_i (p : Int)), (2, am_l (ztm + zx)), (4, am_i zop), (5, am_i zba), (6, am_i 1), (7, am_i 0), (8, am_i 0), (9, am_i (((k + dts us k : Nat) : Int) + 1))]) [0, 1, 2, 3, 4, 5, 6, 7, 8] rfl ?_
                          have xm85 : μ82 120 = am_O 10 [.ref 121, .ref 122, am_i zp, .ref 123, am_i zt, am_i zm, am_i zd, am_i ze, am_i zi, .ref 124, .ref 125, am_i (us.length : Int), .ref 126, .ref 127, .ref 128, .ref 129, .ref 130, .ref 131, .ref 132, .ref 133, .ref 134, .ref 135, am_i (zcc + 1), .ref 136, .ref 137, .ref 138, .ref 139, .ref 140, am_i zg] := (xf84 _ (by omega)).trans xm80
                          have xm86 : μ82 132 = am_L 4 fl := (xf84 _ (by omega)).trans ((xf79 _ (by omega)).trans ((xf11 _ (by omega)).trans e1))
                          have xm87 : μ82 133 = am_I 0 4 fc := (xf84 _ (by omega)).trans ((xf79 _ (by omega)).trans ((xf11 _ (by omega)).trans e2))
                          have xm88 : μ82 126 = am_L 1200 fo := (xf84 _ (by omega)).trans ((xf79 _ (by omega)).trans ((xf11 _ (by omega)).trans b1))
                          have xm89 : μ82 127 = am_L 1200 fs := (xf84 _ (by omega)).trans ((xf79 _ (by omega)).trans ((xf11 _ (by omega)).trans b2))
                          have xm90 : μ82 128 = am_I 0 1200 fa := (xf84 _ (by omega)).trans ((xf79 _ (by omega)).trans ((xf11 _ (by omega)).trans b3))
                          have xm91 : μ82 129 = am_I 0 1200 fb := (xf84 _ (by omega)).trans ((xf79 _ (by omega)).trans ((xf11 _ (by omega)).trans b4))
                          have xm92 : μ82 130 = am_I 0 1200 fn := (xf84 _ (by omega)).trans ((xf79 _ (by omega)).trans ((xf11 _ (by omega)).trans b5))
                          have xm93 : μ82 131 = am_I 0 4 fm := (xf84 _ (by omega)).trans ((xf79 _ (by omega)).trans ((xf11 _ (by omega)).trans b6))
                          have xm94 : μ82 134 = am_L 1200 (va_up bl (p_nb P - 1) ((bl (p_nb P - 1)) + zx)) := (xf84 _ (by omega)).trans xe78
                          have xm95 : μ82 136 = am_I 0 3 up := (xf84 _ (by omega)).trans ((xf79 _ (by omega)).trans ((xf11 _ (by omega)).trans d3))
                          have xm96 : μ82 137 = am_I 0 3 lo := (xf84 _ (by omega)).trans ((xf79 _ (by omega)).trans ((xf11 _ (by omega)).trans d4))
                          have hl3 := lets_mono (us := us) _ (k + 1 + dts us k) us.length (Nat.le_refl _) D4 (Nat.le_refl _)
                          rw [List.take_length] at hl3
                          refine wm_over xm85 xm86 xm87 hN hp (by omega) (by omega) (by omega) (fun μ9 x1 x2 x3 => wk_fin (fun x hx => ((xf84 x (by omega)).trans ((xf79 x (by omega)).trans ((xf11 x (by omega))))).trans (hf x hx)) xm85 xm88 xm89 xm90 xm91 xm92 xm93 xm94 xe83 xm95 xm96 hO hm2 (by rw [if_neg (by omega)]; omega) (fun q => by exfalso; omega) x1 x2 x3)
                    · refine ap_aload_n dX10_works_283 rfl rfl ?_
                      refine ap_iload_n dX10_works_284 rfl rfl ?_
                      refine ap_lload_n dX10_works_285 rfl rfl ?_
                      refine ap_lload dX10_works_286 rfl ?_
                      refine ap_iload dX10_works_288 rfl ?_
                      refine ap_iload dX10_works_290 rfl ?_
                      refine ap_iload dX10_works_292 rfl ?_
                      have xm97 : μ9 126 = am_L 1200 fo := (xf11 _ (by omega)).trans b1
                      have xm98 : μ9 127 = am_L 1200 fs := (xf11 _ (by omega)).trans b2
                      have xm99 : μ9 128 = am_I 0 1200 fa := (xf11 _ (by omega)).trans b3
                      have xm100 : μ9 129 = am_I 0 1200 fb := (xf11 _ (by omega)).trans b4
                      have xm101 : μ9 130 = am_I 0 1200 fn := (xf11 _ (by omega)).trans b5
                      have xm102 : μ9 131 = am_I 0 4 fm := (xf11 _ (by omega)).trans b6
                      refine ap_cV (As := [am_i (p : Int), am_l ztm, am_l zx, am_i zac, am_i zba, am_i ztd]) (rest := []) (cm_addsEvent xe10 xm97 xm98 xm99 xm100 xm101 xm102 hN hp hW hm1 (by omega) htm hba hac1 htd g4 g5) dX10_works_294 lk_X10_159 hy_X10_addsEvent rfl (by omega) xe10 ⟨_, _, rfl⟩ (Nat.le_of_ble_eq_true rfl) ⟨Nat.le_of_ble_eq_true rfl, Nat.le_of_ble_eq_true rfl⟩ ⟨rfl, rfl⟩ ⟨Nat.le_of_ble_eq_true rfl, Nat.le_of_ble_eq_true rfl⟩ (fun xr103 xN104 μy xq105 => ?_)
                      obtain ⟨rfl, rfl, hy1, fo2, fs2, fa2, fb2, fn2, fm2, y1, y2, y3, y4, y5, y6, y7, y8, y9, y10⟩ := xq105
                      refine ap_iload dX10_works_297 rfl ?_
                      refine ap_if_ne (tgt := 331) dX10_works_299 (by decide) (by omega) (fun c299 => (by exfalso; omega)) (fun c299 => ?_)
                      refine ap_iload dX10_works_302 rfl ?_
                      refine ap_iconst dX10_works_304 ?_
                      refine ap_iadd dX10_works_305 ?_
                      refine ap_aload_n dX10_works_306 rfl rfl ?_
                      have xm106 : μy 120 = am_O 10 [.ref 121, .ref 122, am_i zp, .ref 123, am_i zt, am_i zm, am_i zd, am_i ze, am_i zi, .ref 124, .ref 125, am_i (us.length : Int), .ref 126, .ref 127, .ref 128, .ref 129, .ref 130, .ref 131, .ref 132, .ref 133, .ref 134, .ref 135, am_i (zcc + 1), .ref 136, .ref 137, .ref 138, .ref 139, .ref 140, am_i zg] := (hy1 _ (by omega)).trans xe10
                      refine ap_get ff_X10_124 dX10_works_307 (by omega) xm106 rfl ?_
                      refine ap_icmp_ge (tgt := 331) dX10_works_310 (by decide) (by omega) (fun c310 => ?_) (fun c310 => ?_)
                      · refine ap_iconst dX10_works_331 ?_
                        refine ap_Istore (lv2 := [(0, .ref 120), (1, am_i (p : Int)), (2, am_l ztm), (4, am_i zop), (5, am_i zba), (6, am_i 0), (7, am_i zac), (8, am_i zre), (9, am_i ((k + dts us k : Nat) : Int)), (10, am_i (us.getD k 0)), (11, am_i ((dts us k : Nat) : Int)), (12, am_l zx)]) dX10_works_332 (by decide) rfl ?_
                        refine ap_iconst dX10_works_334 ?_
                        refine ap_Istore (lv2 := [(0, .ref 120), (1, am_i (p : Int)), (2, am_l ztm), (4, am_i zop), (5, am_i zba), (6, am_i 0), (7, am_i zac), (8, am_i 0), (9, am_i ((k + dts us k : Nat) : Int)), (10, am_i (us.getD k 0)), (11, am_i ((dts us k : Nat) : Int)), (12, am_l zx)]) dX10_works_335 (by decide) rfl ?_
                        refine ap_iconst dX10_works_337 ?_
                        refine ap_Istore (lv2 := [(0, .ref 120), (1, am_i (p : Int)), (2, am_l ztm), (4, am_i zop), (5, am_i zba), (6, am_i 0), (7, am_i 0), (8, am_i 0), (9, am_i ((k + dts us k : Nat) : Int)), (10, am_i (us.getD k 0)), (11, am_i ((dts us k : Nat) : Int)), (12, am_l zx)]) dX10_works_338 (by decide) rfl ?_
                        refine ap_lload_n dX10_works_340 rfl rfl ?_
                        refine ap_lload dX10_works_341 rfl ?_
                        refine ap_ladd dX10_works_343 ?_
                        refine ap_Lstore_n (lv2 := [(0, .ref 120), (1, am_i (p : Int)), (2, am_l (ztm + zx)), (4, am_i zop), (5, am_i zba), (6, am_i 0), (7, am_i 0), (8, am_i 0), (9, am_i ((k + dts us k : Nat) : Int)), (10, am_i (us.getD k 0)), (11, am_i ((dts us k : Nat) : Int)), (12, am_l zx)]) dX10_works_344 rfl (by decide) rfl ?_
                        refine ap_aload_n dX10_works_345 rfl rfl ?_
                        refine ap_get ff_X10_50 dX10_works_346 (by omega) xm106 rfl ?_
                        refine ap_iload dX10_works_349 rfl ?_
                        refine ap_dup2 dX10_works_351 rfl rfl ?_
                        have xm107 : μy 134 = am_L 1200 bl := (hy1 _ (by omega)).trans ((xf11 _ (by omega)).trans d1)
                        refine ap_lald (j := p_nb P - 1) dX10_works_352 (by omega) xm107 (by omega) (by omega) ?_
                        refine ap_lload dX10_works_353 rfl ?_
                        refine ap_ladd dX10_works_355 ?_
                        refine ap_last (j := p_nb P - 1) dX10_works_356 (by omega) xm107 (by omega) (by omega) (fun μ108 xe109 xf110 => ?_)
                        refine ap_aload_n dX10_works_357 rfl rfl ?_
                        have xm111 : μ108 120 = am_O 10 [.ref 121, .ref 122, am_i zp, .ref 123, am_i zt, am_i zm, am_i zd, am_i ze, am_i zi, .ref 124, .ref 125, am_i (us.length : Int), .ref 126, .ref 127, .ref 128, .ref 129, .ref 130, .ref 131, .ref 132, .ref 133, .ref 134, .ref 135, am_i (zcc + 1), .ref 136, .ref 137, .ref 138, .ref 139, .ref 140, am_i zg] := (xf110 _ (by omega)).trans xm106
                        refine ap_get ff_X10_53 dX10_works_358 (by omega) xm111 rfl ?_
                        refine ap_iload dX10_works_361 rfl ?_
                        refine ap_iconst dX10_works_363 ?_
                        have xm112 : μ108 135 = am_I 3 1200 be := (xf110 _ (by omega)).trans ((hy1 _ (by omega)).trans ((xf11 _ (by omega)).trans d2))
                        refine ap_zast (j := p_nb P - 1) dX10_works_364 (by omega) xm112 (by omega) (by omega) (by omega) (fun μ113 xe114 xf115 => ?_)
                        refine ap_Iinc (lv2 := [(0, .ref 120), (1, am_i (p : Int)), (2, am_l (ztm + zx)), (4, am_i zop), (5, am_i zba), (6, am_i 0), (7, am_i 0), (8, am_i 0), (9, am_i (((k + dts us k : Nat) : Int) + 1)), (10, am_i (us.getD k 0)), (11, am_i ((dts us k : Nat) : Int)), (12, am_l zx)]) dX10_works_365 rfl (by decide) rfl ?_
                        refine ap_goto (tgt := 51) dX10_works_368 (by decide) ?_
                        refine ap_pick (lv2 := [(0, .ref 120), (1, am_i (p : Int)), (2, am_l (ztm + zx)), (4, am_i zop), (5, am_i zba), (6, am_i 0), (7, am_i 0), (8, am_i 0), (9, am_i (((k + dts us k : Nat) : Int) + 1))]) [0, 1, 2, 3, 4, 5, 6, 7, 8] rfl ?_
                        have xm116 : μ113 120 = am_O 10 [.ref 121, .ref 122, am_i zp, .ref 123, am_i zt, am_i zm, am_i zd, am_i ze, am_i zi, .ref 124, .ref 125, am_i (us.length : Int), .ref 126, .ref 127, .ref 128, .ref 129, .ref 130, .ref 131, .ref 132, .ref 133, .ref 134, .ref 135, am_i (zcc + 1), .ref 136, .ref 137, .ref 138, .ref 139, .ref 140, am_i zg] := (xf115 _ (by omega)).trans xm111
                        have xm117 : μ113 126 = am_L 1200 fo2 := (xf115 _ (by omega)).trans ((xf110 _ (by omega)).trans y1)
                        have xm118 : μ113 127 = am_L 1200 fs2 := (xf115 _ (by omega)).trans ((xf110 _ (by omega)).trans y2)
                        have xm119 : μ113 128 = am_I 0 1200 fa2 := (xf115 _ (by omega)).trans ((xf110 _ (by omega)).trans y3)
                        have xm120 : μ113 129 = am_I 0 1200 fb2 := (xf115 _ (by omega)).trans ((xf110 _ (by omega)).trans y4)
                        have xm121 : μ113 130 = am_I 0 1200 fn2 := (xf115 _ (by omega)).trans ((xf110 _ (by omega)).trans y5)
                        have xm122 : μ113 131 = am_I 0 4 fm2 := (xf115 _ (by omega)).trans ((xf110 _ (by omega)).trans y6)
                        have xm123 : μ113 134 = am_L 1200 (va_up bl (p_nb P - 1) ((bl (p_nb P - 1)) + zx)) := (xf115 _ (by omega)).trans xe109
                        have xm124 : μ113 136 = am_I 0 3 up := (xf115 _ (by omega)).trans ((xf110 _ (by omega)).trans ((hy1 _ (by omega)).trans ((xf11 _ (by omega)).trans d3)))
                        have xm125 : μ113 137 = am_I 0 3 lo := (xf115 _ (by omega)).trans ((xf110 _ (by omega)).trans ((hy1 _ (by omega)).trans ((xf11 _ (by omega)).trans d4)))
                        have hnb := pNote_nb P zx zac
                        rw [if_neg (by omega), if_neg (by omega)] at s1
                        exact ih (k + 1 + dts us k) _ μ113 (pAdv (pNote P zx zac) zx 0) _ _ _ _ _ _ _ _ _ _ _ _ _ _ _ _ _ (by omega) (by omega) (fun x hx => ((xf115 x (by omega)).trans ((xf110 x (by omega)).trans ((hy1 x (by omega)).trans ((xf11 x (by omega)))))).trans (hf x hx)) xm116 xm117 xm118 xm119 xm120 xm121 xm122 xm123 xe114 xm124 xm125 (s1) (by rw [s2]; omega) (by omega) (y7) (hO.trans y8) (y9) (fun q hq => (y10 q hq).trans (hm2 q hq)) (wbr_adv hB hx1 hnb.1 hnb.2.2.2.1 g9) (by show wsr (p_ts (pNote P zx zac)) _ _; rw [hnb.2.2.2.2]; exact hT) (by show _ = p_tot (pNote P zx zac) + zx; rw [hnb.2.1]; omega) (by show _ = ((p_ts (pNote P zx zac)).length : Int); rw [hnb.2.2.2.2]; exact hop) (by show _ = (p_nb (pNote P zx zac) : Int) - 1; rw [hnb.1]; exact hba) (rfl) (by omega) (by rw [if_neg (by omega)]) (by rw [if_neg (by omega)]) (by omega)
                      · have hlt2 : k + dts us k + 1 < us.length := by omega
                        have hcr2 := hch _ (am_gd hlt2)
                        refine ap_aload_n dX10_works_313 rfl rfl ?_
                        refine ap_get ff_X10_22 dX10_works_314 (by omega) xm106 rfl ?_
                        refine ap_iload dX10_works_317 rfl ?_
                        refine ap_iconst dX10_works_319 ?_
                        refine ap_iadd dX10_works_320 ?_
                        have xm126 : μy 125 = am_I 0 1200 h := (hy1 _ (by omega)).trans ((xf11 _ (by omega)).trans hH)
                        refine ap_iald (j := k + dts us k + 1) dX10_works_321 (by omega) xm126 (by omega) (by omega) ?_
                        refine ap_topi (b := us.getD (k + dts us k + 1) 0) (show (h (k + dts us k + 1)) = (us.getD (k + dts us k + 1) 0) from hu _ hlt2) ?_
                        refine ap_bipush dX10_works_322 (by decide) ?_
                        refine ap_icmp_ne (tgt := 331) dX10_works_324 (by decide) (by omega) (fun c324 => ?_) (fun c324 => ?_)
                        · refine ap_iconst dX10_works_331 ?_
                          refine ap_Istore (lv2 := [(0, .ref 120), (1, am_i (p : Int)), (2, am_l ztm), (4, am_i zop), (5, am_i zba), (6, am_i 0), (7, am_i zac), (8, am_i zre), (9, am_i ((k + dts us k : Nat) : Int)), (10, am_i (us.getD k 0)), (11, am_i ((dts us k : Nat) : Int)), (12, am_l zx)]) dX10_works_332 (by decide) rfl ?_
                          refine ap_iconst dX10_works_334 ?_
                          refine ap_Istore (lv2 := [(0, .ref 120), (1, am_i (p : Int)), (2, am_l ztm), (4, am_i zop), (5, am_i zba), (6, am_i 0), (7, am_i zac), (8, am_i 0), (9, am_i ((k + dts us k : Nat) : Int)), (10, am_i (us.getD k 0)), (11, am_i ((dts us k : Nat) : Int)), (12, am_l zx)]) dX10_works_335 (by decide) rfl ?_
                          refine ap_iconst dX10_works_337 ?_
                          refine ap_Istore (lv2 := [(0, .ref 120), (1, am_i (p : Int)), (2, am_l ztm), (4, am_i zop), (5, am_i zba), (6, am_i 0), (7, am_i 0), (8, am_i 0), (9, am_i ((k + dts us k : Nat) : Int)), (10, am_i (us.getD k 0)), (11, am_i ((dts us k : Nat) : Int)), (12, am_l zx)]) dX10_works_338 (by decide) rfl ?_
                          refine ap_lload_n dX10_works_340 rfl rfl ?_
                          refine ap_lload dX10_works_341 rfl ?_
                          refine ap_ladd dX10_works_343 ?_
                          refine ap_Lstore_n (lv2 := [(0, .ref 120), (1, am_i (p : Int)), (2, am_l (ztm + zx)), (4, am_i zop), (5, am_i zba), (6, am_i 0), (7, am_i 0), (8, am_i 0), (9, am_i ((k + dts us k : Nat) : Int)), (10, am_i (us.getD k 0)), (11, am_i ((dts us k : Nat) : Int)), (12, am_l zx)]) dX10_works_344 rfl (by decide) rfl ?_
                          refine ap_aload_n dX10_works_345 rfl rfl ?_
                          refine ap_get ff_X10_50 dX10_works_346 (by omega) xm106 rfl ?_
                          refine ap_iload dX10_works_349 rfl ?_
                          refine ap_dup2 dX10_works_351 rfl rfl ?_
                          have xm127 : μy 134 = am_L 1200 bl := (hy1 _ (by omega)).trans ((xf11 _ (by omega)).trans d1)
                          refine ap_lald (j := p_nb P - 1) dX10_works_352 (by omega) xm127 (by omega) (by omega) ?_
                          refine ap_lload dX10_works_353 rfl ?_
                          refine ap_ladd dX10_works_355 ?_
                          refine ap_last (j := p_nb P - 1) dX10_works_356 (by omega) xm127 (by omega) (by omega) (fun μ128 xe129 xf130 => ?_)
                          refine ap_aload_n dX10_works_357 rfl rfl ?_
                          have xm131 : μ128 120 = am_O 10 [.ref 121, .ref 122, am_i zp, .ref 123, am_i zt, am_i zm, am_i zd, am_i ze, am_i zi, .ref 124, .ref 125, am_i (us.length : Int), .ref 126, .ref 127, .ref 128, .ref 129, .ref 130, .ref 131, .ref 132, .ref 133, .ref 134, .ref 135, am_i (zcc + 1), .ref 136, .ref 137, .ref 138, .ref 139, .ref 140, am_i zg] := (xf130 _ (by omega)).trans xm106
                          refine ap_get ff_X10_53 dX10_works_358 (by omega) xm131 rfl ?_
                          refine ap_iload dX10_works_361 rfl ?_
                          refine ap_iconst dX10_works_363 ?_
                          have xm132 : μ128 135 = am_I 3 1200 be := (xf130 _ (by omega)).trans ((hy1 _ (by omega)).trans ((xf11 _ (by omega)).trans d2))
                          refine ap_zast (j := p_nb P - 1) dX10_works_364 (by omega) xm132 (by omega) (by omega) (by omega) (fun μ133 xe134 xf135 => ?_)
                          refine ap_Iinc (lv2 := [(0, .ref 120), (1, am_i (p : Int)), (2, am_l (ztm + zx)), (4, am_i zop), (5, am_i zba), (6, am_i 0), (7, am_i 0), (8, am_i 0), (9, am_i (((k + dts us k : Nat) : Int) + 1)), (10, am_i (us.getD k 0)), (11, am_i ((dts us k : Nat) : Int)), (12, am_l zx)]) dX10_works_365 rfl (by decide) rfl ?_
                          refine ap_goto (tgt := 51) dX10_works_368 (by decide) ?_
                          refine ap_pick (lv2 := [(0, .ref 120), (1, am_i (p : Int)), (2, am_l (ztm + zx)), (4, am_i zop), (5, am_i zba), (6, am_i 0), (7, am_i 0), (8, am_i 0), (9, am_i (((k + dts us k : Nat) : Int) + 1))]) [0, 1, 2, 3, 4, 5, 6, 7, 8] rfl ?_
                          have xm136 : μ133 120 = am_O 10 [.ref 121, .ref 122, am_i zp, .ref 123, am_i zt, am_i zm, am_i zd, am_i ze, am_i zi, .ref 124, .ref 125, am_i (us.length : Int), .ref 126, .ref 127, .ref 128, .ref 129, .ref 130, .ref 131, .ref 132, .ref 133, .ref 134, .ref 135, am_i (zcc + 1), .ref 136, .ref 137, .ref 138, .ref 139, .ref 140, am_i zg] := (xf135 _ (by omega)).trans xm131
                          have xm137 : μ133 126 = am_L 1200 fo2 := (xf135 _ (by omega)).trans ((xf130 _ (by omega)).trans y1)
                          have xm138 : μ133 127 = am_L 1200 fs2 := (xf135 _ (by omega)).trans ((xf130 _ (by omega)).trans y2)
                          have xm139 : μ133 128 = am_I 0 1200 fa2 := (xf135 _ (by omega)).trans ((xf130 _ (by omega)).trans y3)
                          have xm140 : μ133 129 = am_I 0 1200 fb2 := (xf135 _ (by omega)).trans ((xf130 _ (by omega)).trans y4)
                          have xm141 : μ133 130 = am_I 0 1200 fn2 := (xf135 _ (by omega)).trans ((xf130 _ (by omega)).trans y5)
                          have xm142 : μ133 131 = am_I 0 4 fm2 := (xf135 _ (by omega)).trans ((xf130 _ (by omega)).trans y6)
                          have xm143 : μ133 134 = am_L 1200 (va_up bl (p_nb P - 1) ((bl (p_nb P - 1)) + zx)) := (xf135 _ (by omega)).trans xe129
                          have xm144 : μ133 136 = am_I 0 3 up := (xf135 _ (by omega)).trans ((xf130 _ (by omega)).trans ((hy1 _ (by omega)).trans ((xf11 _ (by omega)).trans d3)))
                          have xm145 : μ133 137 = am_I 0 3 lo := (xf135 _ (by omega)).trans ((xf130 _ (by omega)).trans ((hy1 _ (by omega)).trans ((xf11 _ (by omega)).trans d4)))
                          have hnb := pNote_nb P zx zac
                          rw [if_neg (by omega), if_neg (by rw [show k + 1 + dts us k = k + dts us k + 1 by omega]; omega)] at s1
                          exact ih (k + 1 + dts us k) _ μ133 (pAdv (pNote P zx zac) zx 0) _ _ _ _ _ _ _ _ _ _ _ _ _ _ _ _ _ (by omega) (by omega) (fun x hx => ((xf135 x (by omega)).trans ((xf130 x (by omega)).trans ((hy1 x (by omega)).trans ((xf11 x (by omega)))))).trans (hf x hx)) xm136 xm137 xm138 xm139 xm140 xm141 xm142 xm143 xe134 xm144 xm145 (s1) (by rw [s2]; omega) (by omega) (y7) (hO.trans y8) (y9) (fun q hq => (y10 q hq).trans (hm2 q hq)) (wbr_adv hB hx1 hnb.1 hnb.2.2.2.1 g9) (by show wsr (p_ts (pNote P zx zac)) _ _; rw [hnb.2.2.2.2]; exact hT) (by show _ = p_tot (pNote P zx zac) + zx; rw [hnb.2.1]; omega) (by show _ = ((p_ts (pNote P zx zac)).length : Int); rw [hnb.2.2.2.2]; exact hop) (by show _ = (p_nb (pNote P zx zac) : Int) - 1; rw [hnb.1]; exact hba) (rfl) (by omega) (by rw [if_neg (by omega)]) (by rw [if_neg (by omega)]) (by omega)
                        · refine ap_iconst dX10_works_327 ?_
                          refine ap_goto (tgt := 332) dX10_works_328 (by decide) ?_
                          refine ap_Istore (lv2 := [(0, .ref 120), (1, am_i (p : Int)), (2, am_l ztm), (4, am_i zop), (5, am_i zba), (6, am_i 1), (7, am_i zac), (8, am_i zre), (9, am_i ((k + dts us k : Nat) : Int)), (10, am_i (us.getD k 0)), (11, am_i ((dts us k : Nat) : Int)), (12, am_l zx)]) dX10_works_332 (by decide) rfl ?_
                          refine ap_iconst dX10_works_334 ?_
                          refine ap_Istore (lv2 := [(0, .ref 120), (1, am_i (p : Int)), (2, am_l ztm), (4, am_i zop), (5, am_i zba), (6, am_i 1), (7, am_i zac), (8, am_i 0), (9, am_i ((k + dts us k : Nat) : Int)), (10, am_i (us.getD k 0)), (11, am_i ((dts us k : Nat) : Int)), (12, am_l zx)]) dX10_works_335 (by decide) rfl ?_
                          refine ap_iconst dX10_works_337 ?_
                          refine ap_Istore (lv2 := [(0, .ref 120), (1, am_i (p : Int)), (2, am_l ztm), (4, am_i zop), (5, am_i zba), (6, am_i 1), (7, am_i 0), (8, am_i 0), (9, am_i ((k + dts us k : Nat) : Int)), (10, am_i (us.getD k 0)), (11, am_i ((dts us k : Nat) : Int)), (12, am_l zx)]) dX10_works_338 (by decide) rfl ?_
                          refine ap_lload_n dX10_works_340 rfl rfl ?_
                          refine ap_lload dX10_works_341 rfl ?_
                          refine ap_ladd dX10_works_343 ?_
                          refine ap_Lstore_n (lv2 := [(0, .ref 120), (1, am_i (p : Int)), (2, am_l (ztm + zx)), (4, am_i zop), (5, am_i zba), (6, am_i 1), (7, am_i 0), (8, am_i 0), (9, am_i ((k + dts us k : Nat) : Int)), (10, am_i (us.getD k 0)), (11, am_i ((dts us k : Nat) : Int)), (12, am_l zx)]) dX10_works_344 rfl (by decide) rfl ?_
                          refine ap_aload_n dX10_works_345 rfl rfl ?_
                          refine ap_get ff_X10_50 dX10_works_346 (by omega) xm106 rfl ?_
                          refine ap_iload dX10_works_349 rfl ?_
                          refine ap_dup2 dX10_works_351 rfl rfl ?_
                          have xm146 : μy 134 = am_L 1200 bl := (hy1 _ (by omega)).trans ((xf11 _ (by omega)).trans d1)
                          refine ap_lald (j := p_nb P - 1) dX10_works_352 (by omega) xm146 (by omega) (by omega) ?_
                          refine ap_lload dX10_works_353 rfl ?_
                          refine ap_ladd dX10_works_355 ?_
                          refine ap_last (j := p_nb P - 1) dX10_works_356 (by omega) xm146 (by omega) (by omega) (fun μ147 xe148 xf149 => ?_)
                          refine ap_aload_n dX10_works_357 rfl rfl ?_
                          have xm150 : μ147 120 = am_O 10 [.ref 121, .ref 122, am_i zp, .ref 123, am_i zt, am_i zm, am_i zd, am_i ze, am_i zi, .ref 124, .ref 125, am_i (us.length : Int), .ref 126, .ref 127, .ref 128, .ref 129, .ref 130, .ref 131, .ref 132, .ref 133, .ref 134, .ref 135, am_i (zcc + 1), .ref 136, .ref 137, .ref 138, .ref 139, .ref 140, am_i zg] := (xf149 _ (by omega)).trans xm106
                          refine ap_get ff_X10_53 dX10_works_358 (by omega) xm150 rfl ?_
                          refine ap_iload dX10_works_361 rfl ?_
                          refine ap_iconst dX10_works_363 ?_
                          have xm151 : μ147 135 = am_I 3 1200 be := (xf149 _ (by omega)).trans ((hy1 _ (by omega)).trans ((xf11 _ (by omega)).trans d2))
                          refine ap_zast (j := p_nb P - 1) dX10_works_364 (by omega) xm151 (by omega) (by omega) (by omega) (fun μ152 xe153 xf154 => ?_)
                          refine ap_Iinc (lv2 := [(0, .ref 120), (1, am_i (p : Int)), (2, am_l (ztm + zx)), (4, am_i zop), (5, am_i zba), (6, am_i 1), (7, am_i 0), (8, am_i 0), (9, am_i (((k + dts us k : Nat) : Int) + 1)), (10, am_i (us.getD k 0)), (11, am_i ((dts us k : Nat) : Int)), (12, am_l zx)]) dX10_works_365 rfl (by decide) rfl ?_
                          refine ap_goto (tgt := 51) dX10_works_368 (by decide) ?_
                          refine ap_pick (lv2 := [(0, .ref 120), (1, am_i (p : Int)), (2, am_l (ztm + zx)), (4, am_i zop), (5, am_i zba), (6, am_i 1), (7, am_i 0), (8, am_i 0), (9, am_i (((k + dts us k : Nat) : Int) + 1))]) [0, 1, 2, 3, 4, 5, 6, 7, 8] rfl ?_
                          have xm155 : μ152 120 = am_O 10 [.ref 121, .ref 122, am_i zp, .ref 123, am_i zt, am_i zm, am_i zd, am_i ze, am_i zi, .ref 124, .ref 125, am_i (us.length : Int), .ref 126, .ref 127, .ref 128, .ref 129, .ref 130, .ref 131, .ref 132, .ref 133, .ref 134, .ref 135, am_i (zcc + 1), .ref 136, .ref 137, .ref 138, .ref 139, .ref 140, am_i zg] := (xf154 _ (by omega)).trans xm150
                          have xm156 : μ152 126 = am_L 1200 fo2 := (xf154 _ (by omega)).trans ((xf149 _ (by omega)).trans y1)
                          have xm157 : μ152 127 = am_L 1200 fs2 := (xf154 _ (by omega)).trans ((xf149 _ (by omega)).trans y2)
                          have xm158 : μ152 128 = am_I 0 1200 fa2 := (xf154 _ (by omega)).trans ((xf149 _ (by omega)).trans y3)
                          have xm159 : μ152 129 = am_I 0 1200 fb2 := (xf154 _ (by omega)).trans ((xf149 _ (by omega)).trans y4)
                          have xm160 : μ152 130 = am_I 0 1200 fn2 := (xf154 _ (by omega)).trans ((xf149 _ (by omega)).trans y5)
                          have xm161 : μ152 131 = am_I 0 4 fm2 := (xf154 _ (by omega)).trans ((xf149 _ (by omega)).trans y6)
                          have xm162 : μ152 134 = am_L 1200 (va_up bl (p_nb P - 1) ((bl (p_nb P - 1)) + zx)) := (xf154 _ (by omega)).trans xe148
                          have xm163 : μ152 136 = am_I 0 3 up := (xf154 _ (by omega)).trans ((xf149 _ (by omega)).trans ((hy1 _ (by omega)).trans ((xf11 _ (by omega)).trans d3)))
                          have xm164 : μ152 137 = am_I 0 3 lo := (xf154 _ (by omega)).trans ((xf149 _ (by omega)).trans ((hy1 _ (by omega)).trans ((xf11 _ (by omega)).trans d4)))
                          have hnb := pNote_nb P zx zac
                          rw [if_neg (by omega), if_pos ⟨by omega, by rw [show k + 1 + dts us k = k + dts us k + 1 by omega]; omega⟩] at s1
                          exact ih (k + 1 + dts us k) _ μ152 (pAdv (pNote P zx zac) zx 1) _ _ _ _ _ _ _ _ _ _ _ _ _ _ _ _ _ (by omega) (by omega) (fun x hx => ((xf154 x (by omega)).trans ((xf149 x (by omega)).trans ((hy1 x (by omega)).trans ((xf11 x (by omega)))))).trans (hf x hx)) xm155 xm156 xm157 xm158 xm159 xm160 xm161 xm162 xe153 xm163 xm164 (s1) (by rw [s2]; omega) (by omega) (y7) (hO.trans y8) (y9) (fun q hq => (y10 q hq).trans (hm2 q hq)) (wbr_adv hB hx1 hnb.1 hnb.2.2.2.1 g9) (by show wsr (p_ts (pNote P zx zac)) _ _; rw [hnb.2.2.2.2]; exact hT) (by show _ = p_tot (pNote P zx zac) + zx; rw [hnb.2.1]; omega) (by show _ = ((p_ts (pNote P zx zac)).length : Int); rw [hnb.2.2.2.2]; exact hop) (by show _ = (p_nb (pNote P zx zac) : Int) - 1; rw [hnb.1]; exact hba) (rfl) (by omega) (by rw [if_neg (by omega)]) (by rw [if_neg (by omega)]) (by omega)
              · obtain ⟨n0, n2⟩ := (acc_head hA hlt hA1).2 (fun q => by have := hv_c q; omega)
                have z7 : zac = 0 := by rw [hac, if_neg (by omega)]
                have z8 : zre = 0 := by rw [hre, if_neg (by omega)]
                have hpv := acc_prev hA hlt
                have hlk := lets_skip hlt (fun q => by have := hv_c q; omega)
                refine ap_iconst dX10_works_195 ?_
                refine ap_Istore (lv2 := [(0, .ref 120), (1, am_i (p : Int)), (2, am_l ztm), (4, am_i zop), (5, am_i zba), (6, am_i ztd), (7, am_i zac), (8, am_i 1), (9, am_i z), (10, am_i (us.getD k 0))]) dX10_works_196 (by decide) rfl ?_
                refine ap_goto (tgt := 365) dX10_works_198 (by decide) ?_
                refine ap_Iinc (lv2 := [(0, .ref 120), (1, am_i (p : Int)), (2, am_l ztm), (4, am_i zop), (5, am_i zba), (6, am_i ztd), (7, am_i zac), (8, am_i 1), (9, am_i (z + 1)), (10, am_i (us.getD k 0))]) dX10_works_365 rfl (by decide) rfl ?_
                refine ap_goto (tgt := 51) dX10_works_368 (by decide) ?_
                refine ap_pick (lv2 := [(0, .ref 120), (1, am_i (p : Int)), (2, am_l ztm), (4, am_i zop), (5, am_i zba), (6, am_i ztd), (7, am_i zac), (8, am_i 1), (9, am_i (z + 1))]) [0, 1, 2, 3, 4, 5, 6, 7, 8] rfl ?_
                have s1 : sp us (k + 1) = P := by rw [sp_skip (by omega) (by omega) (by omega) (fun q => by have := hv_c q; omega)]; exact hP
                exact ih (k + 1) _ μ (P) _ _ _ _ _ _ _ _ _ _ _ _ _ _ _ _ _ (by omega) (by omega) (fun x hx => (rfl).trans (hf x hx)) hM b1 b2 b3 b4 b5 b6 d1 d2 d3 d4 (s1) (by rw [hlk]; exact hcc) (hc3) (hW) (hO) (hm1) (hm2) (hB) (hT) (htm) (hop) (hba) (htd) (n2 (by omega)) (by rw [if_neg (by omega)]; exact z7) (by rw [if_pos (hpv.2.mpr (by omega))]) (by omega)
            · obtain ⟨n0, n2⟩ := (acc_head hA hlt hA1).2 (fun q => by have := hv_c q; omega)
              have z7 : zac = 0 := by rw [hac, if_neg (by omega)]
              have z8 : zre = 0 := by rw [hre, if_neg (by omega)]
              have hpv := acc_prev hA hlt
              have hlk := lets_skip hlt (fun q => by have := hv_c q; omega)
              refine ap_iconst dX10_works_182 ?_
              refine ap_Istore (lv2 := [(0, .ref 120), (1, am_i (p : Int)), (2, am_l ztm), (4, am_i zop), (5, am_i zba), (6, am_i ztd), (7, am_i 1), (8, am_i zre), (9, am_i z), (10, am_i (us.getD k 0))]) dX10_works_183 (by decide) rfl ?_
              refine ap_goto (tgt := 365) dX10_works_185 (by decide) ?_
              refine ap_Iinc (lv2 := [(0, .ref 120), (1, am_i (p : Int)), (2, am_l ztm), (4, am_i zop), (5, am_i zba), (6, am_i ztd), (7, am_i 1), (8, am_i zre), (9, am_i (z + 1)), (10, am_i (us.getD k 0))]) dX10_works_365 rfl (by decide) rfl ?_
              refine ap_goto (tgt := 51) dX10_works_368 (by decide) ?_
              refine ap_pick (lv2 := [(0, .ref 120), (1, am_i (p : Int)), (2, am_l ztm), (4, am_i zop), (5, am_i zba), (6, am_i ztd), (7, am_i 1), (8, am_i zre), (9, am_i (z + 1))]) [0, 1, 2, 3, 4, 5, 6, 7, 8] rfl ?_
              have s1 : sp us (k + 1) = P := by rw [sp_skip (by omega) (by omega) (by omega) (fun q => by have := hv_c q; omega)]; exact hP
              exact ih (k + 1) _ μ (P) _ _ _ _ _ _ _ _ _ _ _ _ _ _ _ _ _ (by omega) (by omega) (fun x hx => (rfl).trans (hf x hx)) hM b1 b2 b3 b4 b5 b6 d1 d2 d3 d4 (s1) (by rw [hlk]; exact hcc) (hc3) (hW) (hO) (hm1) (hm2) (hB) (hT) (htm) (hop) (hba) (htd) (n2 (by omega)) (by rw [if_pos (hpv.1.mpr (by omega))]) (by rw [if_neg (by omega)]; exact z8) (by omega)
          · obtain ⟨n0, n2⟩ := (acc_head hA hlt hA1).2 (fun q => by have := hv_c q; omega)
            have z7 : zac = 0 := by rw [hac, if_neg (by omega)]
            have z8 : zre = 0 := by rw [hre, if_neg (by omega)]
            have hpv := acc_prev hA hlt
            have hlk := lets_skip hlt (fun q => by have := hv_c q; omega)
            refine ap_Iinc (lv2 := [(0, .ref 120), (1, am_i (p : Int)), (2, am_l ztm), (4, am_i zop), (5, am_i (zba + 1)), (6, am_i ztd), (7, am_i zac), (8, am_i zre), (9, am_i z), (10, am_i (us.getD k 0))]) dX10_works_153 rfl (by decide) rfl ?_
            refine ap_aload_n dX10_works_156 rfl rfl ?_
            refine ap_get ff_X10_50 dX10_works_157 (by omega) hM rfl ?_
            refine ap_iload dX10_works_160 rfl ?_
            refine ap_lconst (v := 0) dX10_works_162 rfl ?_
            refine ap_last (j := p_nb P) dX10_works_163 (by omega) d1 (by omega) (by omega) (fun μ165 xe166 xf167 => ?_)
            refine ap_aload_n dX10_works_164 rfl rfl ?_
            have xm168 : μ165 120 = am_O 10 [.ref 121, .ref 122, am_i zp, .ref 123, am_i zt, am_i zm, am_i zd, am_i ze, am_i zi, .ref 124, .ref 125, am_i (us.length : Int), .ref 126, .ref 127, .ref 128, .ref 129, .ref 130, .ref 131, .ref 132, .ref 133, .ref 134, .ref 135, am_i zcc, .ref 136, .ref 137, .ref 138, .ref 139, .ref 140, am_i zg] := (xf167 _ (by omega)).trans hM
            refine ap_get ff_X10_53 dX10_works_165 (by omega) xm168 rfl ?_
            refine ap_iload dX10_works_168 rfl ?_
            refine ap_iconst dX10_works_170 ?_
            have xm169 : μ165 135 = am_I 3 1200 be := (xf167 _ (by omega)).trans d2
            refine ap_zast (j := p_nb P) dX10_works_171 (by omega) xm169 (by omega) (by omega) (by omega) (fun μ170 xe171 xf172 => ?_)
            refine ap_goto (tgt := 365) dX10_works_172 (by decide) ?_
            refine ap_Iinc (lv2 := [(0, .ref 120), (1, am_i (p : Int)), (2, am_l ztm), (4, am_i zop), (5, am_i (zba + 1)), (6, am_i ztd), (7, am_i zac), (8, am_i zre), (9, am_i (z + 1)), (10, am_i (us.getD k 0))]) dX10_works_365 rfl (by decide) rfl ?_
            refine ap_goto (tgt := 51) dX10_works_368 (by decide) ?_
            refine ap_pick (lv2 := [(0, .ref 120), (1, am_i (p : Int)), (2, am_l ztm), (4, am_i zop), (5, am_i (zba + 1)), (6, am_i ztd), (7, am_i zac), (8, am_i zre), (9, am_i (z + 1))]) [0, 1, 2, 3, 4, 5, 6, 7, 8] rfl ?_
            have xm173 : μ170 120 = am_O 10 [.ref 121, .ref 122, am_i zp, .ref 123, am_i zt, am_i zm, am_i zd, am_i ze, am_i zi, .ref 124, .ref 125, am_i (us.length : Int), .ref 126, .ref 127, .ref 128, .ref 129, .ref 130, .ref 131, .ref 132, .ref 133, .ref 134, .ref 135, am_i zcc, .ref 136, .ref 137, .ref 138, .ref 139, .ref 140, am_i zg] := (xf172 _ (by omega)).trans xm168
            have xm174 : μ170 126 = am_L 1200 fo := (xf172 _ (by omega)).trans ((xf167 _ (by omega)).trans b1)
            have xm175 : μ170 127 = am_L 1200 fs := (xf172 _ (by omega)).trans ((xf167 _ (by omega)).trans b2)
            have xm176 : μ170 128 = am_I 0 1200 fa := (xf172 _ (by omega)).trans ((xf167 _ (by omega)).trans b3)
            have xm177 : μ170 129 = am_I 0 1200 fb := (xf172 _ (by omega)).trans ((xf167 _ (by omega)).trans b4)
            have xm178 : μ170 130 = am_I 0 1200 fn := (xf172 _ (by omega)).trans ((xf167 _ (by omega)).trans b5)
            have xm179 : μ170 131 = am_I 0 4 fm := (xf172 _ (by omega)).trans ((xf167 _ (by omega)).trans b6)
            have xm180 : μ170 134 = am_L 1200 (va_up bl (p_nb P) 0) := (xf172 _ (by omega)).trans xe166
            have xm181 : μ170 136 = am_I 0 3 up := (xf172 _ (by omega)).trans ((xf167 _ (by omega)).trans d3)
            have xm182 : μ170 137 = am_I 0 3 lo := (xf172 _ (by omega)).trans ((xf167 _ (by omega)).trans d4)
            have s1 : sp us (k + 1) = pBar P := by
              show stp us k (sp us k) = _
              unfold stp
              rw [hP, if_pos (by omega)]
            exact ih (k + 1) _ μ170 (pBar P) _ _ _ _ _ _ _ _ _ _ _ _ _ _ _ _ _ (by omega) (by omega) (fun x hx => ((xf172 x (by omega)).trans ((xf167 x (by omega)))).trans (hf x hx)) xm173 xm174 xm175 xm176 xm177 xm178 xm179 xm180 xe171 xm181 xm182 (s1) (by rw [hlk]; exact hcc) (hc3) (hW) (hO) (hm1) (hm2) (wbr_bar hB) (hT) (htm) (hop) (by show _ = ((p_nb P + 1 : Nat) : Int) - 1; omega) (htd) (n2 (by omega)) (by rw [if_neg (by omega)]; exact z7) (by rw [if_neg (by omega)]; exact z8) (by omega)
        · obtain ⟨n0, n2⟩ := (acc_head hA hlt hA1).2 (fun q => by have := hv_c q; omega)
          have z7 : zac = 0 := by rw [hac, if_neg (by omega)]
          have z8 : zre = 0 := by rw [hre, if_neg (by omega)]
          have hpv := acc_prev hA hlt
          have hlk := lets_skip hlt (fun q => by have := hv_c q; omega)
          refine ap_Iinc (lv2 := [(0, .ref 120), (1, am_i (p : Int)), (2, am_l ztm), (4, am_i (zop + (-1))), (5, am_i zba), (6, am_i ztd), (7, am_i zac), (8, am_i zre), (9, am_i z), (10, am_i (us.getD k 0))]) dX10_works_140 rfl (by decide) rfl ?_
          refine ap_goto (tgt := 365) dX10_works_143 (by decide) ?_
          refine ap_Iinc (lv2 := [(0, .ref 120), (1, am_i (p : Int)), (2, am_l ztm), (4, am_i (zop + (-1))), (5, am_i zba), (6, am_i ztd), (7, am_i zac), (8, am_i zre), (9, am_i (z + 1)), (10, am_i (us.getD k 0))]) dX10_works_365 rfl (by decide) rfl ?_
          refine ap_goto (tgt := 51) dX10_works_368 (by decide) ?_
          refine ap_pick (lv2 := [(0, .ref 120), (1, am_i (p : Int)), (2, am_l ztm), (4, am_i (zop + (-1))), (5, am_i zba), (6, am_i ztd), (7, am_i zac), (8, am_i zre), (9, am_i (z + 1))]) [0, 1, 2, 3, 4, 5, 6, 7, 8] rfl ?_
          have s1 : sp us (k + 1) = pTs P (p_ts P).dropLast := by
            show stp us k (sp us k) = _
            unfold stp
            rw [hP, if_neg (by omega), if_neg (by omega), if_pos (by omega)]
          have s2 := (acc_b hA hlt).2 (by omega)
          exact ih (k + 1) _ μ (pTs P (p_ts P).dropLast) _ _ _ _ _ _ _ _ _ _ _ _ _ _ _ _ _ (by omega) (by omega) (fun x hx => (rfl).trans (hf x hx)) hM b1 b2 b3 b4 b5 b6 d1 d2 d3 d4 (s1) (by rw [hlk]; exact hcc) (hc3) (hW) (hO) (hm1) (hm2) (hB) (wsr_pop hT) (htm) (by show _ = (((p_ts P).dropLast.length : Nat) : Int); rw [List.length_dropLast]; omega) (hba) (htd) (n2 (by omega)) (by rw [if_neg (by omega)]; exact z7) (by rw [if_neg (by omega)]; exact z8) (by omega)
      · have hc9 : us.getD k 0 = 123 := by omega
        obtain ⟨t1, t2, t3, t4, t5, t6, t7⟩ := acc_tup hA hlt hc9
        obtain ⟨s1, s2⟩ := sp_tup hA hlt hc9
        rw [hP] at s1
        have c1 := dg_c (show 1 ≤ dg (us.getD (k + 1) 0) by omega)
        have c3 := dg_c (show 1 ≤ dg (us.getD (k + 3) 0) by omega)
        have z7 : zac = 0 := by rw [hac, if_neg (by omega)]
        have z8 : zre = 0 := by rw [hre, if_neg (by omega)]
        refine ap_aload_n dX10_works_86 rfl rfl ?_
        refine ap_get ff_X10_60 dX10_works_87 (by omega) hM rfl ?_
        refine ap_iload dX10_works_90 rfl ?_
        refine ap_aload_n dX10_works_92 rfl rfl ?_
        refine ap_get ff_X10_22 dX10_works_93 (by omega) hM rfl ?_
        refine ap_iload dX10_works_96 rfl ?_
        refine ap_iconst dX10_works_98 ?_
        refine ap_iadd dX10_works_99 ?_
        refine ap_iald (j := k + 1) dX10_works_100 (by omega) hH (by omega) (by omega) ?_
        refine ap_topi (b := us.getD (k + 1) 0) (show (h (k + 1)) = (us.getD (k + 1) 0) from hu _ (by omega)) ?_
        refine ap_bipush dX10_works_101 (by decide) ?_
        refine ap_isub dX10_works_103 ?_
        refine ap_topi (b := dg (us.getD (k + 1) 0)) (show ((us.getD (k + 1) 0) - 48) = (dg (us.getD (k + 1) 0)) from by omega) ?_
        refine ap_iast (j := (p_ts P).length) dX10_works_104 (by omega) d4 (by omega) (by omega) (fun μ183 xe184 xf185 => ?_)
        refine ap_aload_n dX10_works_105 rfl rfl ?_
        have xm186 : μ183 120 = am_O 10 [.ref 121, .ref 122, am_i zp, .ref 123, am_i zt, am_i zm, am_i zd, am_i ze, am_i zi, .ref 124, .ref 125, am_i (us.length : Int), .ref 126, .ref 127, .ref 128, .ref 129, .ref 130, .ref 131, .ref 132, .ref 133, .ref 134, .ref 135, am_i zcc, .ref 136, .ref 137, .ref 138, .ref 139, .ref 140, am_i zg] := (xf185 _ (by omega)).trans hM
        refine ap_get ff_X10_57 dX10_works_106 (by omega) xm186 rfl ?_
        refine ap_iload dX10_works_109 rfl ?_
        refine ap_aload_n dX10_works_111 rfl rfl ?_
        refine ap_get ff_X10_22 dX10_works_112 (by omega) xm186 rfl ?_
        refine ap_iload dX10_works_115 rfl ?_
        refine ap_iconst dX10_works_117 ?_
        refine ap_iadd dX10_works_118 ?_
        have xm187 : μ183 125 = am_I 0 1200 h := (xf185 _ (by omega)).trans hH
        refine ap_iald (j := k + 3) dX10_works_119 (by omega) xm187 (by omega) (by omega) ?_
        refine ap_topi (b := us.getD (k + 3) 0) (show (h (k + 3)) = (us.getD (k + 3) 0) from hu _ (by omega)) ?_
        refine ap_bipush dX10_works_120 (by decide) ?_
        refine ap_isub dX10_works_122 ?_
        refine ap_topi (b := dg (us.getD (k + 3) 0)) (show ((us.getD (k + 3) 0) - 48) = (dg (us.getD (k + 3) 0)) from by omega) ?_
        have xm188 : μ183 136 = am_I 0 3 up := (xf185 _ (by omega)).trans d3
        refine ap_iast (j := (p_ts P).length) dX10_works_123 (by omega) xm188 (by omega) (by omega) (fun μ189 xe190 xf191 => ?_)
        refine ap_Iinc (lv2 := [(0, .ref 120), (1, am_i (p : Int)), (2, am_l ztm), (4, am_i (zop + 1)), (5, am_i zba), (6, am_i ztd), (7, am_i zac), (8, am_i zre), (9, am_i z), (10, am_i (us.getD k 0))]) dX10_works_124 rfl (by decide) rfl ?_
        refine ap_Iinc (lv2 := [(0, .ref 120), (1, am_i (p : Int)), (2, am_l ztm), (4, am_i (zop + 1)), (5, am_i zba), (6, am_i ztd), (7, am_i zac), (8, am_i zre), (9, am_i (z + 3)), (10, am_i (us.getD k 0))]) dX10_works_127 rfl (by decide) rfl ?_
        refine ap_goto (tgt := 365) dX10_works_130 (by decide) ?_
        refine ap_Iinc (lv2 := [(0, .ref 120), (1, am_i (p : Int)), (2, am_l ztm), (4, am_i (zop + 1)), (5, am_i zba), (6, am_i ztd), (7, am_i zac), (8, am_i zre), (9, am_i ((z + 3) + 1)), (10, am_i (us.getD k 0))]) dX10_works_365 rfl (by decide) rfl ?_
        refine ap_goto (tgt := 51) dX10_works_368 (by decide) ?_
        refine ap_pick (lv2 := [(0, .ref 120), (1, am_i (p : Int)), (2, am_l ztm), (4, am_i (zop + 1)), (5, am_i zba), (6, am_i ztd), (7, am_i zac), (8, am_i zre), (9, am_i ((z + 3) + 1))]) [0, 1, 2, 3, 4, 5, 6, 7, 8] rfl ?_
        have xm192 : μ189 120 = am_O 10 [.ref 121, .ref 122, am_i zp, .ref 123, am_i zt, am_i zm, am_i zd, am_i ze, am_i zi, .ref 124, .ref 125, am_i (us.length : Int), .ref 126, .ref 127, .ref 128, .ref 129, .ref 130, .ref 131, .ref 132, .ref 133, .ref 134, .ref 135, am_i zcc, .ref 136, .ref 137, .ref 138, .ref 139, .ref 140, am_i zg] := (xf191 _ (by omega)).trans xm186
        have xm193 : μ189 126 = am_L 1200 fo := (xf191 _ (by omega)).trans ((xf185 _ (by omega)).trans b1)
        have xm194 : μ189 127 = am_L 1200 fs := (xf191 _ (by omega)).trans ((xf185 _ (by omega)).trans b2)
        have xm195 : μ189 128 = am_I 0 1200 fa := (xf191 _ (by omega)).trans ((xf185 _ (by omega)).trans b3)
        have xm196 : μ189 129 = am_I 0 1200 fb := (xf191 _ (by omega)).trans ((xf185 _ (by omega)).trans b4)
        have xm197 : μ189 130 = am_I 0 1200 fn := (xf191 _ (by omega)).trans ((xf185 _ (by omega)).trans b5)
        have xm198 : μ189 131 = am_I 0 4 fm := (xf191 _ (by omega)).trans ((xf185 _ (by omega)).trans b6)
        have xm199 : μ189 134 = am_L 1200 bl := (xf191 _ (by omega)).trans ((xf185 _ (by omega)).trans d1)
        have xm200 : μ189 135 = am_I 3 1200 be := (xf191 _ (by omega)).trans ((xf185 _ (by omega)).trans d2)
        have xm201 : μ189 137 = am_I 0 3 (va_up lo ((p_ts P).length) (dg (us.getD (k + 1) 0))) := (xf191 _ (by omega)).trans xe184
        exact ih (k + 4) _ μ189 (pTs P (p_ts P ++ [(dg (us.getD (k + 1) 0), dg (us.getD (k + 3) 0))])) _ _ _ _ _ _ _ _ _ _ _ _ _ _ _ _ _ (by omega) (by omega) (fun x hx => ((xf191 x (by omega)).trans ((xf185 x (by omega)))).trans (hf x hx)) xm192 xm193 xm194 xm195 xm196 xm197 xm198 xm199 xm200 xe190 xm201 (s1) (by rw [s2]; exact hcc) (hc3) (hW) (hO) (hm1) (hm2) (hB) (wsr_push hT) (htm) (by show _ = (((p_ts P ++ [(dg (us.getD (k + 1) 0), dg (us.getD (k + 3) 0))]).length : Nat) : Int); rw [List.length_append, List.length_singleton]; omega) (hba) (htd) (by omega) (by rw [if_neg (by omega)]; exact z7) (by rw [if_neg (by omega)]; exact z8) (by omega)

