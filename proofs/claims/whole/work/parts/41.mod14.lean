theorem nx_all {X : Nat → PS} (hX : ∀ k, k < 4 → pok (X k)) (m : Nat) : lst X (ose X m).1 4 = (if (ose X (m + 1)).2.2 = 0 then -1 else (ose X (m + 1)).2.1) ∧ (if lst X (ose X m).1 4 < 0 then 0 else tgs X (ose X m).1 (lst X (ose X m).1 4) 4) = (ose X (m + 1)).2.2 ∧ ∀ k, k < 4 → (if lst X (ose X m).1 4 < 0 then (ose X m).1 k else stpn X (ose X m).1 (lst X (ose X m).1 4) k) = (ose X (m + 1)).1 k := by
  have hb : ∀ k, k < 4 → (ose X m).1 k < p_cnt (X k) → 0 ≤ p_B (X k) ((ose X m).1 k) := fun k hk hc => ((hX k hk).2.2.2.2.2.2.2.1 _ hc).1.1
  obtain ⟨h1, h2⟩ := ovk_lst (ose X m).2.1 hb 4 (Nat.le_refl 4)
  have hst := fun k hk => onx_stp (X := X) (S := ose X m) hb (k := k) hk
  show lst X (ose X m).1 4 = (if (ovk X (ose X m).1 (ose X m).2.1 4).2 = 0 then -1 else (ovk X (ose X m).1 (ose X m).2.1 4).1) ∧ _ = (ovk X (ose X m).1 (ose X m).2.1 4).2 ∧ ∀ k, k < 4 → _ = (onx X (ose X m)).1 k
  by_cases hs : (ovk X (ose X m).1 (ose X m).2.1 4).2 = 0
  · have e1 := (h1 hs).1
    refine ⟨by rw [if_pos hs]; exact e1, by rw [if_pos (by omega)]; exact hs.symm, fun k hk => ?_⟩
    rw [hst k hk, if_pos (show (onx X (ose X m)).2.2 = 0 from hs), if_pos (by omega)]
  · obtain ⟨e1, e2, e3, e4⟩ := h2 hs
    refine ⟨by rw [if_neg hs]; exact e1, by rw [if_neg (by omega), e1]; exact e3.symm, fun k hk => ?_⟩
    rw [hst k hk, if_neg (show ¬ (onx X (ose X m)).2.2 = 0 from hs), if_neg (by omega), e1]
    rfl
set_option maxHeartbeats 4000000 in
set_option maxRecDepth 100000 in
theorem wm_next0 {N : Nat} {μ : am_M} {zp zt zm zd ze zi zu zc : Int} {X : Nat → PS} {ah : Nat → Nat} {fo fm : Nat → Int} (m1 : μ 126 = am_L 1200 fo) (m6 : μ 131 = am_I 0 4 fm) (hN : 141 ≤ N) (hX : ∀ k, k < 4 → pok (X k)) (hfo : ∀ k, k < 4 → ∀ i, i < p_cnt (X k) → fo (300 * k + i) = p_B (X k) i) (hfm : ∀ k, k < 4 → fm k = (p_cnt (X k) : Int)) (hah : ∀ k, k < 4 → ah k ≤ p_cnt (X k)) {zg : Int} {fx : Nat → Int} (hM : μ 120 = mcl zp zt zm zd ze zi zu zc zg) (hx : μ 140 = am_I 0 4 fx) (hfx : ∀ k, k < 4 → fx k = (ah k : Int)) : am_W YX10_nextTime (fun r N2 μ2 => r = some (am_l (lst X ah 4)) ∧ N = N2 ∧ (∀ x, x ≠ 120 → x ≠ 140 → μ2 x = μ x) ∧ μ2 120 = mcl zp zt zm zd ze zi zu zc (if lst X ah 4 < 0 then 0 else tgs X ah (lst X ah 4) 4) ∧ ∃ f2 : Nat → Int, μ2 140 = am_I 0 4 f2 ∧ ∀ k, k < 4 → f2 k = ((if lst X ah 4 < 0 then ah k else stpn X ah (lst X ah 4) k : Nat) : Int)) 0 0 0 [(0, .ref 120)] [] N μ := by
  show am_W YX10_nextTime _ 0 0 0 [(0, .ref 120)] [] _ _
  refine ap_ldc2 dX10_nextTime_0 kl_X10_184 ?_
  refine ap_Lstore_n (lv2 := [(0, .ref 120), (1, am_l (-1))]) dX10_nextTime_3 rfl (by decide) rfl ?_
  refine ap_iconst dX10_nextTime_4 ?_
  refine ap_Istore_n (lv2 := [(0, .ref 120), (1, am_l (-1)), (3, am_i 0)]) dX10_nextTime_5 rfl (by decide) rfl ?_
  refine lm_least4 m1 m6 hN hX hfo hfm hah hM hx hfx ?_ 5 0 _ _ rfl (by omega) rfl (by omega)
  refine ap_aload_n dX10_nextTime_84 rfl rfl ?_
  refine ap_iconst dX10_nextTime_85 ?_
  refine ap_put (fs2 := [.ref 121, .ref 122, am_i zp, .ref 123, am_i zt, am_i zm, am_i zd, am_i ze, am_i zi, .ref 124, .ref 125, am_i zu, .ref 126, .ref 127, .ref 128, .ref 129, .ref 130, .ref 131, .ref 132, .ref 133, .ref 134, .ref 135, am_i zc, .ref 136, .ref 137, .ref 138, .ref 139, .ref 140, am_i 0]) ff_X10_214 fc_X10_28 dX10_nextTime_86 (by omega) hM (fun _ => ⟨rfl, rfl⟩) (Nat.le_of_ble_eq_true rfl) rfl (fun μ1 xe2 xf3 => ?_)
  refine ap_iconst dX10_nextTime_89 ?_
  refine ap_Istore_n (lv2 := [(0, .ref 120), (1, am_l (lst X ah 4)), (3, am_i 0)]) dX10_nextTime_90 rfl (by decide) rfl ?_
  have xm4 : μ1 140 = am_I 0 4 fx := (xf3 _ (by omega)).trans hx
  have hlr := lst_r (ah := ah) hX 4 (Nat.le_refl 4)
  exact am_mono (lm_next2 (μ0 := μ) m1 m6 hN hX hfo hfm hah hlr 5 0 _ μ1 0 fx rfl (by omega) (fun x y1 y2 => (xf3 x (by omega))) xe2 xm4 rfl (fun j hj => absurd hj (Nat.not_lt_zero j)) (fun j _ hj => hfx j hj) (fun _ => rfl) (by omega)) (fun r N2 μ2 hq => hq)

def ntx (N : Nat) (μ : am_M) (b : List Int) (C : Snap) (rem : Nat) (hs : Nat → Snap) (m : Nat) : Option Value → Nat → am_M → Prop := fun r N2 μ2 => r = some (am_l (if (ose (xs_ C) (m + 1)).2.2 = 0 then -1 else (ose (xs_ C) (m + 1)).2.1)) ∧ N = N2 ∧ Mx μ2 b C rem hs ∧ (∀ q, q < 4 → Wd μ2 q (xs_ C q)) ∧ (∃ f : Nat → Int, μ2 140 = am_I 0 4 f ∧ ∀ k, k < 4 → f k = ((ose (xs_ C) (m + 1)).1 k : Int)) ∧ (∃ zm zd ze zi zu zc, μ2 120 = mcl (rem : Int) (b.length : Int) zm zd ze zi zu zc (ose (xs_ C) (m + 1)).2.2) ∧ ∀ x, x < 120 → μ2 x = μ x
theorem cm_nextX {N : Nat} {μ : am_M} {b : List Int} {C : Snap} {rem : Nat} {hs : Nat → Snap} (hX : Mx μ b C rem hs) (hN : 141 ≤ N) (hW : ∀ q, q < 4 → Wd μ q (xs_ C q)) {f : Nat → Int} {m : Nat} (h140 : μ 140 = am_I 0 4 f) (hf : ∀ k, k < 4 → f k = ((ose (xs_ C) m).1 k : Int)) : am_Met YX10_nextTime [.ref 120] N μ (ntx N μ b C rem hs m) := by
  obtain ⟨⟨zm, zd, ze, zi, zu, zc, zg, hM⟩, -, -, -, -, -, -, -, -, -, -, -, hC, -⟩ := id hX
  obtain ⟨fo, fs, fa, fb, fn, fm, fl, ⟨m1, m2, m3, m4, m5, m6, m7⟩, -⟩ := id (hW 0 (by omega))
  have hA := fun q hq => Wd_fn (hW q hq) m1 m2 m3 m4 m5 m6 m7
  have hP : ∀ k, k < 4 → pok (xs_ C k) := fun k hk => gtx_pok (hC.1 k hk)
  obtain ⟨n1, n2, n3⟩ := nx_all hP m
  refine am_met (by first | decide | rfl) (Nat.le_of_ble_eq_true rfl) (fun h => by first | rfl | cases h) ?_
  refine am_mono (wm_next0 m1 m6 hN hP (fun k hk i hi => ((hA k hk).1 i hi).1) (fun k hk => (hA k hk).2.1) (ose_ok (xs_ C) m) hM h140 hf) (fun r N2 μ2 hq => ?_)
  obtain ⟨q1, q2, q3, q4, f2, q5, q6⟩ := hq
  rw [n2] at q4
  refine ⟨by rw [q1, n1], q2, hX.upd ⟨_, _, _, _, _, _, _, q4⟩ ⟨_, q5⟩ q3, fun q hq => (hW q hq).kept (fun x y1 y2 => q3 x (by omega) (by omega)), ⟨f2, q5, fun k hk => by rw [q6 k hk, n3 k hk]⟩, ⟨_, _, _, _, _, _, q4⟩, fun x hx => q3 x (by omega) (by omega)⟩
theorem tml_0 {X : Nat → PS} {m : Nat} (h : (ose X (m + 1)).2.2 = 0) (hm : m ≤ 1200) : tml X m = m := by
  rw [tml]
  by_cases h1 : m < 1200
  · rw [if_pos h1, if_pos h]
  · rw [if_neg h1]; omega
theorem tml_1 {X : Nat → PS} {m : Nat} (h : (ose X (m + 1)).2.2 ≠ 0) (hm : m < 1200) : tml X m = tml X (m + 1) := by
  conv => lhs; rw [tml]
  rw [if_pos hm, if_neg h]
theorem itn {P : Prop} [Decidable P] {x : Int} (hx : 0 ≤ x) : ((if P then (-1 : Int) else x) < 0) ↔ P := by
  split <;> constructor <;> intro h <;> first | assumption | omega | (exact absurd h (by assumption))
set_option maxHeartbeats 4000000 in
set_option maxRecDepth 100000 in
theorem lm_times {N : Nat} {μ0 : am_M} {b : List Int} {C : Snap} {rem : Nat} {hs : Nat → Snap} (hN : 141 ≤ N) {R : Nat} : ∀ (nn : Nat) (m : Nat) (z : Int) (μ : am_M) (f : Nat → Int), z = (m : Int) → Mx μ b C rem hs → (∀ q, q < 4 → Wd μ q (xs_ C q)) → μ 140 = am_I 0 4 f → (∀ k, k < 4 → f k = ((ose (xs_ C) m).1 k : Int)) → (∀ x, x < 120 → μ x = μ0 x) → m ≤ osum (ose (xs_ C) m) → tml (xs_ C) m = R → 1201 - m < nn → am_W YX10_times (mq N μ0 (am_i (R : Int)) b C rem hs) 0 0 6 [(0, .ref 120), (1, am_i z)] [] N μ := by
  intro nn
  induction nn with
  | zero =>
    intro m z μ f hz hX hW h140 hf hF hmo hR hw
    exfalso; have hos := osum_le (X := xs_ C) (fun k hk => gtx_pok (hX.2.2.2.2.2.2.2.2.2.2.2.2.1.1 k hk)) m; omega
  | succ nn ih =>
    intro m z μ f hz hX hW h140 hf hF hmo hR hw
    obtain ⟨⟨zm, zd, ze, zi, zu, zc, zg, hM⟩, -, -, -, -, -, -, -, -, -, -, -, hC, -⟩ := id hX
    have hP : ∀ k, k < 4 → pok (xs_ C k) := fun k hk => gtx_pok (hC.1 k hk)
    have hos := osum_le hP m
    have hos1 := osum_le hP (m + 1)
    have hop := ose_p hP (m + 1)
    have hsm : (ose (xs_ C) (m + 1)).2.2 ≠ 0 → osum (ose (xs_ C) m) + 1 ≤ osum (ose (xs_ C) (m + 1)) := fun h => onx_sum h
    refine ap_aload_n dX10_times_6 rfl rfl ?_
    refine ap_cV (As := []) (rest := []) (cm_nextX hX hN hW h140 hf) dX10_times_7 lk_X10_220 hy_X10_nextTime rfl (by omega) hM ⟨_, _, rfl⟩ (Nat.le_of_ble_eq_true rfl) ⟨Nat.le_of_ble_eq_true rfl, Nat.le_of_ble_eq_true rfl⟩ ⟨rfl, rfl⟩ ⟨Nat.le_of_ble_eq_true rfl, Nat.le_of_ble_eq_true rfl⟩ (fun xr1 xN2 μy xq3 => ?_)
    obtain ⟨rfl, rfl, hY, hWy, ⟨fy, h140y, hfy⟩, ⟨ym, yd, ye, yi, yu, yc, hMy⟩, hFy⟩ := xq3
    refine ap_lconst (v := 0) dX10_times_10 rfl ?_
    refine ap_lcmp_lt (tgt := 21) dX10_times_11 dX10_times_12 (by decide) (⟨by split <;> omega, by omega⟩) (fun c11 => ?_) (fun c11 => ?_)
    · refine ap_iload_n dX10_times_21 rfl rfl ?_
      exact ap_iret dX10_times_22 rfl rfl (Nat.le_of_ble_eq_true rfl) (Nat.le_of_ble_eq_true rfl) (⟨by rw [hz, ← hR, tml_0 ((itn hop.1).mp c11) (by omega)], rfl, hY, fun x hx => (hFy x hx).trans (hF x hx)⟩)
    · have hs9 : (ose (xs_ C) (m + 1)).2.2 ≠ 0 := fun q => c11 ((itn hop.1).mpr q)
      have hs8 := hsm hs9
      refine ap_Iinc (lv2 := [(0, .ref 120), (1, am_i (z + 1))]) dX10_times_15 rfl (by decide) rfl ?_
      refine ap_goto (tgt := 6) dX10_times_18 (by decide) ?_
      exact ih (m + 1) _ μy fy (by omega) hY hWy h140y hfy (fun x hx => (hFy x hx).trans (hF x hx)) (by omega) (by rw [← tml_1 hs9 (by omega)]; exact hR) (by omega)

set_option maxHeartbeats 4000000 in
set_option maxRecDepth 100000 in
theorem cy_times {N : Nat} {μ : am_M} {b : List Int} {C : Snap} {rem : Nat} {hs : Nat → Snap} (hX : Mx μ b C rem hs) (hN : 141 ≤ N) : am_Met YX10_times [.ref 120] N μ (mq N μ (am_i (tml (xs_ C) 0 : Int)) b C rem hs) := by
  obtain ⟨⟨zm, zd, ze, zi, zu, zc, zg, hM⟩, ⟨g, hV, hv1⟩, ⟨h, hH, hh1⟩, ⟨tg, hT, ht1⟩, ⟨fi, hI⟩, hS, ⟨f8, h138⟩, ⟨f9, h139⟩, ⟨f0, h140⟩, hr5, hb1, hb2, hC, hhs⟩ := id hX
  refine am_met (by first | decide | rfl) (Nat.le_of_ble_eq_true rfl) (fun h => by first | rfl | cases h) ?_
  show am_W YX10_times _ 0 0 0 [(0, .ref 120)] [] _ _
  refine ap_aload_n dX10_times_0 rfl rfl ?_
  refine ap_cV (As := []) (rest := []) (cm_startsAll hX hN) dX10_times_1 lk_X10_217 hy_X10_startsAll rfl (by omega) hM ⟨_, _, rfl⟩ (Nat.le_of_ble_eq_true rfl) ⟨Nat.le_of_ble_eq_true rfl, Nat.le_of_ble_eq_true rfl⟩ ⟨rfl, rfl⟩ ⟨Nat.le_of_ble_eq_true rfl, Nat.le_of_ble_eq_true rfl⟩ (fun xr1 xN2 μs xq3 => ?_)
  obtain ⟨rfl, rfl, hX2, hW2, ⟨f2, h140b, hf2⟩, hF2⟩ := xq3
  obtain ⟨⟨xm, xd, xe_, xi, xu, xc, xg, hMa⟩, -⟩ := id hX2
  refine ap_iconst dX10_times_4 ?_
  refine ap_Istore_n (lv2 := [(0, .ref 120), (1, am_i 0)]) dX10_times_5 rfl (by decide) rfl ?_
  exact lm_times hN (μ0 := μ) 1202 0 _ μs f2 rfl hX2 hW2 h140b (fun k hk => by rw [hf2 k hk]; rfl) hF2 (Nat.zero_le _) rfl (by omega)

set_option maxHeartbeats 4000000 in
set_option maxRecDepth 100000 in
theorem cy_timeN {N : Nat} {μ : am_M} {b : List Int} {C : Snap} {rem : Nat} {hs : Nat → Snap} (hX : Mx μ b C rem hs) (hN : 141 ≤ N) {i w : Int} (hi : -2147483648 ≤ i ∧ i ≤ 2147483647) (hw : -2147483648 ≤ w ∧ w ≤ 2147483647) (hn : ¬ (0 ≤ i ∧ 0 ≤ w ∧ w ≤ 2)) : am_Met YX10_time [.ref 120, am_i i, am_i w] N μ (mq N μ (am_l (-1)) b C rem hs) := by
  obtain ⟨⟨zm, zd, ze, zi, zu, zc, zg, hM⟩, ⟨g, hV, hv1⟩, ⟨h, hH, hh1⟩, ⟨tg, hT, ht1⟩, ⟨fi, hI⟩, hS, ⟨f8, h138⟩, ⟨f9, h139⟩, ⟨f0, h140⟩, hr5, hb1, hb2, hC, hhs⟩ := id hX
  refine am_met (by first | decide | rfl) (Nat.le_of_ble_eq_true rfl) (fun h => by first | rfl | cases h) ?_
  show am_W YX10_time _ 0 0 0 [(0, .ref 120), (1, am_i i), (2, am_i w)] [] _ _
  refine ap_iload_n dX10_time_0 rfl rfl ?_
  refine ap_if_lt (tgt := 13) dX10_time_1 (by decide) (by omega) (fun c1 => ?_) (fun c1 => ?_)
  · refine ap_ldc2 dX10_time_13 kl_X10_184 ?_
    exact ap_lret dX10_time_16 rfl (Nat.le_of_ble_eq_true rfl) (Nat.le_of_ble_eq_true rfl) (⟨rfl, rfl, hX, fun x hx => rfl⟩)
  · refine ap_iload_n dX10_time_4 rfl rfl ?_
    refine ap_iconst dX10_time_5 ?_
    refine ap_iconst dX10_time_6 ?_
    refine ap_cS (As := [am_i w, am_i 0, am_i 2]) (rest := []) (cm_in hw (by omega) (by omega)) dX10_time_7 lk_X10_76 hy_X10_in rfl (Nat.le_of_ble_eq_true rfl) ⟨Nat.le_of_ble_eq_true rfl, Nat.le_of_ble_eq_true rfl⟩ ⟨rfl, rfl⟩ ⟨Nat.le_of_ble_eq_true rfl, Nat.le_of_ble_eq_true rfl⟩ (fun xr1 xN2 μ3 xq4 => ?_)
    obtain ⟨rfl, rfl, rfl⟩ := xq4
    refine ap_topi (b := 0) (show (if 0 ≤ w ∧ w ≤ 2 then 1 else 0) = 0 from if_neg (by omega)) ?_
    refine ap_if_ne (tgt := 17) dX10_time_10 (by decide) (by omega) (fun c10 => (by exfalso; omega)) (fun c10 => ?_)
    refine ap_ldc2 dX10_time_13 kl_X10_184 ?_
    exact ap_lret dX10_time_16 rfl (Nat.le_of_ble_eq_true rfl) (Nat.le_of_ble_eq_true rfl) (⟨rfl, rfl, hX, fun x hx => rfl⟩)

theorem tmo_0 {X : Nat → PS} {i m : Nat} {w : Int} (h : (ose X (m + 1)).2.2 = 0) (hm : m ≤ i) : tmo X i w m = -1 := by rw [tmo, if_pos hm, if_pos h]
theorem tmo_1 {X : Nat → PS} {i m : Nat} {w : Int} (h : (ose X (m + 1)).2.2 ≠ 0) (hm : m ≤ i) : tmo X i w m = tmo X i w (m + 1) := by
  conv => lhs; rw [tmo]
  rw [if_pos hm, if_neg h]
theorem tmo_e {X : Nat → PS} {i m : Nat} {w : Int} (hm : i < m) : tmo X i w m = if w = 2 then (ose X m).2.2 else sd ((ose X m).2.1).toNat 812851200 w := by rw [tmo, if_neg (by omega)]
set_option maxHeartbeats 4000000 in
set_option maxRecDepth 100000 in
theorem lm_time {N : Nat} {μ0 : am_M} {b : List Int} {C : Snap} {rem : Nat} {hs : Nat → Snap} (hN : 141 ≤ N) {i : Nat} {w R : Int} (hi : i ≤ 2147483647) (hw : 0 ≤ w ∧ w ≤ 2) : ∀ (nn : Nat) (m : Nat) (z : Int) (μ : am_M) (f : Nat → Int) (zm : Int) (zd : Int) (ze : Int) (zi : Int) (zu : Int) (zc : Int), z = (m : Int) → Mx μ b C rem hs → (∀ q, q < 4 → Wd μ q (xs_ C q)) → μ 140 = am_I 0 4 f → (∀ k, k < 4 → f k = ((ose (xs_ C) (m + 1)).1 k : Int)) → μ 120 = mcl (rem : Int) (b.length : Int) zm zd ze zi zu zc (ose (xs_ C) (m + 1)).2.2 → (∀ x, x < 120 → μ x = μ0 x) → m ≤ i → m ≤ osum (ose (xs_ C) m) → tmo (xs_ C) i w m = R → 1201 - m < nn → am_W YX10_time (mq N μ0 (am_l R) b C rem hs) 0 0 29 [(0, .ref 120), (1, am_i (i : Int)), (2, am_i w), (3, am_l (if (ose (xs_ C) (m + 1)).2.2 = 0 then -1 else (ose (xs_ C) (m + 1)).2.1)), (5, am_i z)] [] N μ := by
  intro nn
  induction nn with
  | zero =>
    intro m z μ f zm zd ze zi zu zc hz hX hW h140 hf hM hF hmi hmo hR hm
    exfalso; have hos := osum_le (X := xs_ C) (fun k hk => gtx_pok (hX.2.2.2.2.2.2.2.2.2.2.2.2.1.1 k hk)) m; omega
  | succ nn ih =>
    intro m z μ f zm zd ze zi zu zc hz hX hW h140 hf hM hF hmi hmo hR hm
    obtain ⟨-, -, -, -, -, -, -, -, -, -, -, -, hC, -⟩ := id hX
    have hP : ∀ k, k < 4 → pok (xs_ C k) := fun k hk => gtx_pok (hC.1 k hk)
    have hop := ose_p hP (m + 1)
    have hop2 := ose_p hP (m + 1 + 1)
    have hos := osum_le hP m
    have hss := ose_s (xs_ C) (m + 1)
    refine ap_iload dX10_time_29 rfl ?_
    refine ap_iload_n dX10_time_31 rfl rfl ?_
    refine ap_icmp_ge (tgt := 52) dX10_time_32 (by decide) (by omega) (fun c32 => ?_) (fun c32 => ?_)
    · refine ap_lload_n dX10_time_52 rfl rfl ?_
      refine ap_lconst (v := 0) dX10_time_53 rfl ?_
      refine ap_lcmp_ge (tgt := 64) dX10_time_54 dX10_time_55 (by decide) (⟨by split <;> omega, by omega⟩) (fun c54 => ?_) (fun c54 => ?_)
      · have hs9 : (ose (xs_ C) (m + 1)).2.2 ≠ 0 := fun q => by have := (itn hop.1).mpr q; omega
        have hs8 : osum (ose (xs_ C) m) + 1 ≤ osum (ose (xs_ C) (m + 1)) := onx_sum hs9
        rw [tmo_1 hs9 (by omega)] at hR
        refine ap_iload_n dX10_time_64 rfl rfl ?_
        refine ap_iconst dX10_time_65 ?_
        refine ap_icmp_ne (tgt := 77) dX10_time_66 (by decide) (by omega) (fun c66 => ?_) (fun c66 => ?_)
        · refine ap_lload_n dX10_time_77 rfl rfl ?_
          refine ap_topl (b := (((ose (xs_ C) (m + 1)).2.1.toNat : Nat) : Int)) (show (if (ose (xs_ C) (m + 1)).2.2 = 0 then -1 else (ose (xs_ C) (m + 1)).2.1) = (((ose (xs_ C) (m + 1)).2.1.toNat : Nat) : Int) from by rw [if_neg hs9]; omega) ?_
          refine ap_ldc2 dX10_time_78 kl_X10_138 ?_
          refine ap_iload_n dX10_time_81 rfl rfl ?_
          refine ap_cS (As := [am_l (((ose (xs_ C) (m + 1)).2.1.toNat : Nat) : Int), am_l 812851200, am_i w]) (rest := []) (cm_told (x := (ose (xs_ C) (m + 1)).2.1.toNat) (d := 812851200) rfl rfl (by omega) (by omega) (by omega)) dX10_time_82 lk_X10_186 hy_X10_told rfl (Nat.le_of_ble_eq_true rfl) ⟨Nat.le_of_ble_eq_true rfl, Nat.le_of_ble_eq_true rfl⟩ ⟨rfl, rfl⟩ ⟨Nat.le_of_ble_eq_true rfl, Nat.le_of_ble_eq_true rfl⟩ (fun xr1 xN2 μ3 xq4 => ?_)
          obtain ⟨rfl, rfl, rfl⟩ := xq4
          exact ap_lret dX10_time_85 rfl (Nat.le_of_ble_eq_true rfl) (Nat.le_of_ble_eq_true rfl) (⟨by rw [← hR, tmo_e (by omega), if_neg (by omega)], rfl, hX, hF⟩)
        · refine ap_aload_n dX10_time_69 rfl rfl ?_
          refine ap_get ff_X10_214 dX10_time_70 (by omega) hM rfl ?_
          refine ap_i2l dX10_time_73 (by omega) ?_
          refine ap_goto (tgt := 85) dX10_time_74 (by decide) ?_
          exact ap_lret dX10_time_85 rfl (Nat.le_of_ble_eq_true rfl) (Nat.le_of_ble_eq_true rfl) (⟨by rw [← hR, tmo_e (by omega), if_pos (by omega)], rfl, hX, hF⟩)
      · refine ap_ldc2 dX10_time_58 kl_X10_184 ?_
        refine ap_goto (tgt := 85) dX10_time_61 (by decide) ?_
        exact ap_lret dX10_time_85 rfl (Nat.le_of_ble_eq_true rfl) (Nat.le_of_ble_eq_true rfl) (⟨by rw [← hR, tmo_0 ((itn hop.1).mp (by omega)) (by omega)], rfl, hX, hF⟩)
    · refine ap_lload_n dX10_time_35 rfl rfl ?_
      refine ap_lconst (v := 0) dX10_time_36 rfl ?_
      refine ap_lcmp_lt (tgt := 52) dX10_time_37 dX10_time_38 (by decide) (⟨by split <;> omega, by omega⟩) (fun c37 => ?_) (fun c37 => ?_)
      · refine ap_lload_n dX10_time_52 rfl rfl ?_
        refine ap_lconst (v := 0) dX10_time_53 rfl ?_
        refine ap_lcmp_ge (tgt := 64) dX10_time_54 dX10_time_55 (by decide) (⟨by split <;> omega, by omega⟩) (fun c54 => (by exfalso; omega)) (fun c54 => ?_)
        refine ap_ldc2 dX10_time_58 kl_X10_184 ?_
        refine ap_goto (tgt := 85) dX10_time_61 (by decide) ?_
        exact ap_lret dX10_time_85 rfl (Nat.le_of_ble_eq_true rfl) (Nat.le_of_ble_eq_true rfl) (⟨by rw [← hR, tmo_0 ((itn hop.1).mp c37) (by omega)], rfl, hX, hF⟩)
      · have hs9 : (ose (xs_ C) (m + 1)).2.2 ≠ 0 := fun q => c37 ((itn hop.1).mpr q)
        have hs8 : osum (ose (xs_ C) m) + 1 ≤ osum (ose (xs_ C) (m + 1)) := onx_sum hs9
        refine ap_aload_n dX10_time_41 rfl rfl ?_
        refine ap_cV (As := []) (rest := []) (cm_nextX (m := m + 1) hX hN hW h140 hf) dX10_time_42 lk_X10_220 hy_X10_nextTime rfl (by omega) hM ⟨_, _, rfl⟩ (Nat.le_of_ble_eq_true rfl) ⟨Nat.le_of_ble_eq_true rfl, Nat.le_of_ble_eq_true rfl⟩ ⟨rfl, rfl⟩ ⟨Nat.le_of_ble_eq_true rfl, Nat.le_of_ble_eq_true rfl⟩ (fun xr5 xN6 μy xq7 => ?_)
        obtain ⟨rfl, rfl, hY, hWy, ⟨fy, h140y, hfy⟩, ⟨ym, yd, ye, yi, yu, yc, hMy⟩, hFy⟩ := xq7
        refine ap_Lstore_n (lv2 := [(0, .ref 120), (1, am_i (i : Int)), (2, am_i w), (3, am_l (if (ose (xs_ C) (m + 1 + 1)).2.2 = 0 then -1 else (ose (xs_ C) (m + 1 + 1)).2.1)), (5, am_i z)]) dX10_time_45 rfl (by decide) rfl ?_
        refine ap_Iinc (lv2 := [(0, .ref 120), (1, am_i (i : Int)), (2, am_i w), (3, am_l (if (ose (xs_ C) (m + 1 + 1)).2.2 = 0 then -1 else (ose (xs_ C) (m + 1 + 1)).2.1)), (5, am_i (z + 1))]) dX10_time_46 rfl (by decide) rfl ?_
        refine ap_goto (tgt := 29) dX10_time_49 (by decide) ?_
        exact ih (m + 1) _ μy fy ym yd ye yi yu yc (by omega) hY hWy h140y hfy hMy (fun x hx => (hFy x hx).trans (hF x hx)) (by omega) (by omega) (by rw [← tmo_1 hs9 (by omega)]; exact hR) (by omega)

set_option maxHeartbeats 4000000 in
set_option maxRecDepth 100000 in
theorem cy_time {N : Nat} {μ : am_M} {b : List Int} {C : Snap} {rem : Nat} {hs : Nat → Snap} (hX : Mx μ b C rem hs) (hN : 141 ≤ N) {i : Nat} {w : Int} (hi : i ≤ 2147483647) (hw : 0 ≤ w ∧ w ≤ 2) : am_Met YX10_time [.ref 120, am_i (i : Int), am_i w] N μ (mq N μ (am_l (tmo (xs_ C) i w 0)) b C rem hs) := by
  obtain ⟨⟨zm, zd, ze, zi, zu, zc, zg, hM⟩, ⟨g, hV, hv1⟩, ⟨h, hH, hh1⟩, ⟨tg, hT, ht1⟩, ⟨fi, hI⟩, hS, ⟨f8, h138⟩, ⟨f9, h139⟩, ⟨f0, h140⟩, hr5, hb1, hb2, hC, hhs⟩ := id hX
  refine am_met (by first | decide | rfl) (Nat.le_of_ble_eq_true rfl) (fun h => by first | rfl | cases h) ?_
  show am_W YX10_time _ 0 0 0 [(0, .ref 120), (1, am_i (i : Int)), (2, am_i w)] [] _ _
  refine ap_iload_n dX10_time_0 rfl rfl ?_
  refine ap_if_lt (tgt := 13) dX10_time_1 (by decide) (by omega) (fun c1 => (by exfalso; omega)) (fun c1 => ?_)
  refine ap_iload_n dX10_time_4 rfl rfl ?_
  refine ap_iconst dX10_time_5 ?_
  refine ap_iconst dX10_time_6 ?_
  refine ap_cS (As := [am_i w, am_i 0, am_i 2]) (rest := []) (cm_in (by omega) (by omega) (by omega)) dX10_time_7 lk_X10_76 hy_X10_in rfl (Nat.le_of_ble_eq_true rfl) ⟨Nat.le_of_ble_eq_true rfl, Nat.le_of_ble_eq_true rfl⟩ ⟨rfl, rfl⟩ ⟨Nat.le_of_ble_eq_true rfl, Nat.le_of_ble_eq_true rfl⟩ (fun xr1 xN2 μ3 xq4 => ?_)
  obtain ⟨rfl, rfl, rfl⟩ := xq4
  refine ap_topi (b := 1) (show (if 0 ≤ w ∧ w ≤ 2 then 1 else 0) = 1 from if_pos (by omega)) ?_
  refine ap_if_ne (tgt := 17) dX10_time_10 (by decide) (by omega) (fun c10 => ?_) (fun c10 => (by exfalso; omega))
  refine ap_aload_n dX10_time_17 rfl rfl ?_
  refine ap_cV (As := []) (rest := []) (cm_startsAll hX hN) dX10_time_18 lk_X10_217 hy_X10_startsAll rfl (by omega) hM ⟨_, _, rfl⟩ (Nat.le_of_ble_eq_true rfl) ⟨Nat.le_of_ble_eq_true rfl, Nat.le_of_ble_eq_true rfl⟩ ⟨rfl, rfl⟩ ⟨Nat.le_of_ble_eq_true rfl, Nat.le_of_ble_eq_true rfl⟩ (fun xr5 xN6 μs xq7 => ?_)
  obtain ⟨rfl, rfl, hX2, hW2, ⟨f2, h140b, hf2⟩, hF2⟩ := xq7
  obtain ⟨⟨xm, xd, xe_, xi, xu, xc, xg, hMa⟩, -⟩ := id hX2
  refine ap_aload_n dX10_time_21 rfl rfl ?_
  refine ap_cV (As := []) (rest := []) (cm_nextX (m := 0) hX2 hN hW2 h140b (fun k hk => by rw [hf2 k hk]; rfl)) dX10_time_22 lk_X10_220 hy_X10_nextTime rfl (by omega) hMa ⟨_, _, rfl⟩ (Nat.le_of_ble_eq_true rfl) ⟨Nat.le_of_ble_eq_true rfl, Nat.le_of_ble_eq_true rfl⟩ ⟨rfl, rfl⟩ ⟨Nat.le_of_ble_eq_true rfl, Nat.le_of_ble_eq_true rfl⟩ (fun xr8 xN9 μy xq10 => ?_)
  obtain ⟨rfl, rfl, hY, hWy, ⟨fy, h140y, hfy⟩, ⟨ym, yd, ye, yi, yu, yc, hMy⟩, hFy⟩ := xq10
  refine ap_Lstore_n (lv2 := [(0, .ref 120), (1, am_i (i : Int)), (2, am_i w), (3, am_l (if (ose (xs_ C) (0 + 1)).2.2 = 0 then -1 else (ose (xs_ C) (0 + 1)).2.1))]) dX10_time_25 rfl (by decide) rfl ?_
  refine ap_iconst dX10_time_26 ?_
  refine ap_Istore (lv2 := [(0, .ref 120), (1, am_i (i : Int)), (2, am_i w), (3, am_l (if (ose (xs_ C) (0 + 1)).2.2 = 0 then -1 else (ose (xs_ C) (0 + 1)).2.1)), (5, am_i 0)]) dX10_time_27 (by decide) rfl ?_
  exact lm_time hN hi hw (μ0 := μ) 1202 0 _ μy fy ym yd ye yi yu yc rfl hY hWy h140y hfy hMy (fun x hx => (hFy x hx).trans (hF2 x hx)) (Nat.zero_le _) (Nat.zero_le _) rfl (by omega)

