set_option maxHeartbeats 4000000 in
set_option maxRecDepth 100000 in
theorem cy_readN {N : Nat} {μ : am_M} {b : List Int} {C : Snap} {rem : Nat} {hs : Nat → Snap} (hX : Mx μ b C rem hs) (hN : 141 ≤ N) {k : Int} (hk : -2147483648 ≤ k ∧ k ≤ 2147483647) (hn : ¬ (0 ≤ k ∧ k < 4)) : am_Met YX10_read [.ref 120, am_i k] N μ (mq N μ (am_i (-1)) b C rem hs) := by
  obtain ⟨⟨zm, zd, ze, zi, zu, zc, zg, hM⟩, ⟨g, hV, hv1⟩, ⟨h, hH, hh1⟩, ⟨tg, hT, ht1⟩, ⟨fi, hI⟩, hS, ⟨f8, h138⟩, ⟨f9, h139⟩, ⟨f0, h140⟩, hr5, hb1, hb2, hC, hhs⟩ := id hX
  refine am_met (by first | decide | rfl) (Nat.le_of_ble_eq_true rfl) (fun h => by first | rfl | cases h) ?_
  show am_W YX10_read _ 0 0 0 [(0, .ref 120), (1, am_i k)] [] _ _
  refine ap_iload_n dX10_read_0 rfl rfl ?_
  refine ap_cS (As := [am_i k]) (rest := []) (cm_isPart (by omega)) dX10_read_1 lk_X10_163 hy_X10_isPart rfl (Nat.le_of_ble_eq_true rfl) ⟨Nat.le_of_ble_eq_true rfl, Nat.le_of_ble_eq_true rfl⟩ ⟨rfl, rfl⟩ ⟨Nat.le_of_ble_eq_true rfl, Nat.le_of_ble_eq_true rfl⟩ (fun xr1 xN2 μ3 xq4 => ?_)
  obtain ⟨rfl, rfl, rfl⟩ := xq4
  refine ap_topi (b := 0) (show (if 0 ≤ k ∧ k ≤ 3 then 1 else 0) = 0 from if_neg (by omega)) ?_
  refine ap_if_ne (tgt := 9) dX10_read_4 (by decide) (by omega) (fun c4 => (by exfalso; omega)) (fun c4 => ?_)
  refine ap_iconst dX10_read_7 ?_
  exact ap_iret dX10_read_8 rfl rfl (Nat.le_of_ble_eq_true rfl) (Nat.le_of_ble_eq_true rfl) (⟨rfl, rfl, hX, fun x hx => rfl⟩)

theorem gw_rr : ∀ (xs : List Int) (s : GS) (k : Int), 0 ≤ k → gw s xs k = -9 ∨ (0 ≤ gw s xs k ∧ gw s xs k ≤ k + xs.length) := by
  intro xs
  induction xs with
  | nil => intro s k hk; simp only [gw]; split <;> simp <;> omega
  | cons c r ih =>
    intro s k hk
    simp only [gw]
    split
    · right; simp only [List.length_cons]; omega
    · rename_i s2 _
      have := ih s2 (k + 1) (by omega)
      simp only [List.length_cons]
      omega
set_option maxHeartbeats 4000000 in
set_option maxRecDepth 100000 in
theorem cy_readW {N : Nat} {μ : am_M} {b : List Int} {C : Snap} {rem : Nat} {hs : Nat → Snap} (hX : Mx μ b C rem hs) (hN : 141 ≤ N) {p : Nat} (hp : p < 4) (hg : gwb b ≠ -9) : am_Met YX10_read [.ref 120, am_i (p : Int)] N μ (mq N μ (am_i (-100 - gwb b)) b C rem hs) := by
  obtain ⟨⟨zm, zd, ze, zi, zu, zc, zg, hM⟩, ⟨g, hV, hv1⟩, ⟨h, hH, hh1⟩, ⟨tg, hT, ht1⟩, ⟨fi, hI⟩, hS, ⟨f8, h138⟩, ⟨f9, h139⟩, ⟨f0, h140⟩, hr5, hb1, hb2, hC, hhs⟩ := id hX
  have hgr := gw_rr b (0, 0, 0, 0, 0, 0) 0 (by omega)
  rw [show gw (0, 0, 0, 0, 0, 0) b 0 = gwb b from rfl] at hgr
  refine am_met (by first | decide | rfl) (Nat.le_of_ble_eq_true rfl) (fun h => by first | rfl | cases h) ?_
  show am_W YX10_read _ 0 0 0 [(0, .ref 120), (1, am_i (p : Int))] [] _ _
  refine ap_iload_n dX10_read_0 rfl rfl ?_
  refine ap_cS (As := [am_i (p : Int)]) (rest := []) (cm_isPart (by omega)) dX10_read_1 lk_X10_163 hy_X10_isPart rfl (Nat.le_of_ble_eq_true rfl) ⟨Nat.le_of_ble_eq_true rfl, Nat.le_of_ble_eq_true rfl⟩ ⟨rfl, rfl⟩ ⟨Nat.le_of_ble_eq_true rfl, Nat.le_of_ble_eq_true rfl⟩ (fun xr1 xN2 μ3 xq4 => ?_)
  obtain ⟨rfl, rfl, rfl⟩ := xq4
  refine ap_topi (b := 1) (show (if 0 ≤ (p : Int) ∧ (p : Int) ≤ 3 then 1 else 0) = 1 from if_pos (by omega)) ?_
  refine ap_if_ne (tgt := 9) dX10_read_4 (by decide) (by omega) (fun c4 => ?_) (fun c4 => (by exfalso; omega))
  refine ap_aload_n dX10_read_9 rfl rfl ?_
  refine ap_cV (As := []) (rest := []) (cm_wrongAt hT ht1 hb1 hb2 hN hM hI) dX10_read_10 lk_X10_166 hy_X10_wrongAt rfl (by omega) hM ⟨_, _, rfl⟩ (Nat.le_of_ble_eq_true rfl) ⟨Nat.le_of_ble_eq_true rfl, Nat.le_of_ble_eq_true rfl⟩ ⟨rfl, rfl⟩ ⟨Nat.le_of_ble_eq_true rfl, Nat.le_of_ble_eq_true rfl⟩ (fun xr5 xN6 μw xq7 => ?_)
  obtain ⟨rfl, rfl, hw1, zm2, zd2, ze2, zi2, fi2, hw2, hw3⟩ := xq7
  
  refine ap_topi (b := gwb b) (show (if gwb b = -9 then -1 else gwb b) = (gwb b) from if_neg hg) ?_
  refine ap_Istore_n (lv2 := [(0, .ref 120), (1, am_i (p : Int)), (2, am_i (gwb b))]) dX10_read_13 rfl (by decide) rfl ?_
  refine ap_iload_n dX10_read_14 rfl rfl ?_
  refine ap_if_lt (tgt := 23) dX10_read_15 (by decide) (by omega) (fun c15 => (by exfalso; omega)) (fun c15 => ?_)
  refine ap_bipush dX10_read_18 (by decide) ?_
  refine ap_iload_n dX10_read_20 rfl rfl ?_
  refine ap_isub dX10_read_21 ?_
  have xm8 : μw 121 = am_I 0 420 g := (hw1 _ (by omega)).trans hV
  have xm9 : μw 122 = am_I 0 2100 h := (hw1 _ (by omega)).trans hH
  have xm10 : μw 123 = am_I 0 100 tg := (hw1 _ (by omega)).trans hT
  have xm11 : μw 138 = am_I 0 101 f8 := (hw1 _ (by omega)).trans h138
  have xm12 : μw 139 = am_I 0 100 f9 := (hw1 _ (by omega)).trans h139
  have xm13 : μw 140 = am_I 0 4 f0 := (hw1 _ (by omega)).trans h140
  exact ap_iret dX10_read_22 rfl rfl (Nat.le_of_ble_eq_true rfl) (Nat.le_of_ble_eq_true rfl) (⟨rfl, rfl, ⟨⟨_, _, _, _, _, _, _, hw2⟩, ⟨_, xm8, hv1⟩, ⟨_, xm9, hh1⟩, ⟨_, xm10, ht1⟩, ⟨_, hw3⟩, hS.kept (fun x y1 y2 => (hw1 x (by omega))), ⟨_, xm11⟩, ⟨_, xm12⟩, ⟨_, xm13⟩, hr5, hb1, hb2, hC, hhs⟩, fun x hx => (hw1 x (by omega))⟩)

set_option maxHeartbeats 4000000 in
set_option maxRecDepth 100000 in
theorem lm_had {N : Nat} {μ0 : am_M} {zp zt zm zd ze zi zu zc zg z2 : Int} {g : Nat → Int} {p : Nat} {Q : Option Value → Nat → am_M → Prop} (hM0 : μ0 120 = mcl zp zt zm zd ze zi zu zc zg) (hV0 : μ0 121 = am_I 0 420 g) (hN : 141 ≤ N) (hp : p < 4) (hk : ∀ (μ : am_M) (f : Nat → Int), (∀ x, x ≠ 138 → μ x = μ0 x) → μ 138 = am_I 0 101 f → (∀ j, j < 101 → f j = g (101 * p + j)) → am_W YX10_read Q 0 0 54 [(0, .ref 120), (1, am_i (p : Int)), (2, am_i z2), (3, am_i 101)] [] N μ) : ∀ (nn : Nat) (i : Nat) (z : Int) (μ : am_M) (f : Nat → Int), z = (i : Int) → i ≤ 101 → (∀ x, x ≠ 138 → μ x = μ0 x) → μ 138 = am_I 0 101 f → (∀ j, j < i → f j = g (101 * p + j)) → 101 - i < nn → am_W YX10_read (Q) 0 0 25 [(0, .ref 120), (1, am_i (p : Int)), (2, am_i z2), (3, am_i z)] [] N μ := by
  intro nn
  induction nn with
  | zero =>
    intro i z μ f hz hi hf hF h1 hm
    exfalso; omega
  | succ nn ih =>
    intro i z μ f hz hi hf hF h1 hm
    have hM : μ 120 = mcl zp zt zm zd ze zi zu zc zg := (hf 120 (by omega)).trans hM0
    have hV : μ 121 = am_I 0 420 g := (hf 121 (by omega)).trans hV0
    refine ap_iload_n dX10_read_25 rfl rfl ?_
    refine ap_bipush dX10_read_26 (by decide) ?_
    refine ap_icmp_ge (tgt := 54) dX10_read_28 (by decide) (by omega) (fun c28 => ?_) (fun c28 => ?_)
    · obtain rfl : i = 101 := by omega
      rw [hz]
      exact hk μ f hf hF h1
    · refine ap_aload_n dX10_read_31 rfl rfl ?_
      refine ap_get ff_X10_63 dX10_read_32 (by omega) hM rfl ?_
      refine ap_iload_n dX10_read_35 rfl rfl ?_
      refine ap_aload_n dX10_read_36 rfl rfl ?_
      refine ap_get ff_X10_7 dX10_read_37 (by omega) hM rfl ?_
      refine ap_bipush dX10_read_40 (by decide) ?_
      refine ap_iload_n dX10_read_42 rfl rfl ?_
      refine ap_imul dX10_read_43 ?_
      refine ap_iload_n dX10_read_44 rfl rfl ?_
      refine ap_iadd dX10_read_45 ?_
      refine ap_iald (j := 101 * p + i) dX10_read_46 (by omega) hV (by omega) (by omega) ?_
      refine ap_iast (j := i) dX10_read_47 (by omega) hF (by omega) (by omega) (fun μ1 xe2 xf3 => ?_)
      refine ap_Iinc (lv2 := [(0, .ref 120), (1, am_i (p : Int)), (2, am_i z2), (3, am_i (z + 1))]) dX10_read_48 rfl (by decide) rfl ?_
      refine ap_goto (tgt := 25) dX10_read_51 (by decide) ?_
      exact ih (i + 1) _ μ1 _ (by omega) (by omega) (fun x hx => ((xf3 x (by omega))).trans (hf x hx)) xe2 (fun j hj => by
        by_cases hq : j = i
        · rw [hq, va_upe]
        · rw [va_upn hq]; exact h1 j (by omega)) (by omega)

set_option maxHeartbeats 4000000 in
set_option maxRecDepth 100000 in
theorem lm_back {N : Nat} {μ0 : am_M} {zp zt zm zd ze zi zu zc zg z2 z3 : Int} {f g0 : Nat → Int} {p : Nat} {Q : Option Value → Nat → am_M → Prop} (hM0 : μ0 120 = mcl zp zt zm zd ze zi zu zc zg) (hF0 : μ0 138 = am_I 0 101 f) (hN : 141 ≤ N) (hp : p < 4) (hk : ∀ (μ : am_M) (g : Nat → Int), (∀ x, x ≠ 121 → μ x = μ0 x) → μ 121 = am_I 0 420 g → (∀ j, j < 101 → g (101 * p + j) = f (j)) → (∀ j, ¬ (101 * p ≤ j ∧ j < 101 * p + 101) → g j = g0 j) → am_W YX10_read Q 0 0 123 [(0, .ref 120), (1, am_i (p : Int)), (2, am_i z2), (3, am_i z3), (4, am_i 101)] [] N μ) : ∀ (nn : Nat) (i : Nat) (z : Int) (μ : am_M) (g : Nat → Int), z = (i : Int) → i ≤ 101 → (∀ x, x ≠ 121 → μ x = μ0 x) → μ 121 = am_I 0 420 g → (∀ j, j < i → g (101 * p + j) = f j) → (∀ j, ¬ (101 * p ≤ j ∧ j < 101 * p + 101) → g j = g0 j) → 101 - i < nn → am_W YX10_read (Q) 0 0 91 [(0, .ref 120), (1, am_i (p : Int)), (2, am_i z2), (3, am_i z3), (4, am_i z)] [] N μ := by
  intro nn
  induction nn with
  | zero =>
    intro i z μ g hz hi hf hV h1 h2 hm
    exfalso; omega
  | succ nn ih =>
    intro i z μ g hz hi hf hV h1 h2 hm
    have hM : μ 120 = mcl zp zt zm zd ze zi zu zc zg := (hf 120 (by omega)).trans hM0
    have hF : μ 138 = am_I 0 101 f := (hf 138 (by omega)).trans hF0
    refine ap_iload dX10_read_91 rfl ?_
    refine ap_bipush dX10_read_93 (by decide) ?_
    refine ap_icmp_ge (tgt := 123) dX10_read_95 (by decide) (by omega) (fun c95 => ?_) (fun c95 => ?_)
    · obtain rfl : i = 101 := by omega
      rw [hz]
      exact hk μ g hf hV h1 h2
    · refine ap_aload_n dX10_read_98 rfl rfl ?_
      refine ap_get ff_X10_7 dX10_read_99 (by omega) hM rfl ?_
      refine ap_bipush dX10_read_102 (by decide) ?_
      refine ap_iload_n dX10_read_104 rfl rfl ?_
      refine ap_imul dX10_read_105 ?_
      refine ap_iload dX10_read_106 rfl ?_
      refine ap_iadd dX10_read_108 ?_
      refine ap_aload_n dX10_read_109 rfl rfl ?_
      refine ap_get ff_X10_63 dX10_read_110 (by omega) hM rfl ?_
      refine ap_iload dX10_read_113 rfl ?_
      refine ap_iald (j := i) dX10_read_115 (by omega) hF (by omega) (by omega) ?_
      refine ap_iast (j := 101 * p + i) dX10_read_116 (by omega) hV (by omega) (by omega) (fun μ1 xe2 xf3 => ?_)
      refine ap_Iinc (lv2 := [(0, .ref 120), (1, am_i (p : Int)), (2, am_i z2), (3, am_i z3), (4, am_i (z + 1))]) dX10_read_117 rfl (by decide) rfl ?_
      refine ap_goto (tgt := 91) dX10_read_120 (by decide) ?_
      exact ih (i + 1) _ μ1 _ (by omega) (by omega) (fun x hx => ((xf3 x (by omega))).trans (hf x hx)) xe2 (fun j hj => by
        by_cases hq : j = i
        · rw [hq, va_upe]
        · rw [va_upn (by omega)]; exact h1 j (by omega)) (fun j hj => by rw [va_upn (by omega)]; exact h2 j hj) (by omega)

set_option maxHeartbeats 4000000 in
set_option maxRecDepth 100000 in
theorem cy_readF {N : Nat} {μ : am_M} {b : List Int} {C : Snap} {rem : Nat} {hs : Nat → Snap} (hX : Mx μ b C rem hs) (hN : 141 ≤ N) {p : Nat} (hp : p < 4) (hgt : gtu b) (hg : gwb b = -9) (hl : 300 < lets (uf b 0)) : am_Met YX10_read [.ref 120, am_i (p : Int)] N μ (mq N μ (am_i (-3)) b C rem hs) := by
  obtain ⟨⟨zm, zd, ze, zi, zu, zc, zg, hM⟩, ⟨g, hV, hv1⟩, ⟨h, hH, hh1⟩, ⟨tg, hT, ht1⟩, ⟨fi, hI⟩, hS, ⟨f8, h138⟩, ⟨f9, h139⟩, ⟨f0, h140⟩, hr5, hb1, hb2, hC, hhs⟩ := id hX
  refine am_met (by first | decide | rfl) (Nat.le_of_ble_eq_true rfl) (fun h => by first | rfl | cases h) ?_
  show am_W YX10_read _ 0 0 0 [(0, .ref 120), (1, am_i (p : Int))] [] _ _
  refine ap_iload_n dX10_read_0 rfl rfl ?_
  refine ap_cS (As := [am_i (p : Int)]) (rest := []) (cm_isPart (by omega)) dX10_read_1 lk_X10_163 hy_X10_isPart rfl (Nat.le_of_ble_eq_true rfl) ⟨Nat.le_of_ble_eq_true rfl, Nat.le_of_ble_eq_true rfl⟩ ⟨rfl, rfl⟩ ⟨Nat.le_of_ble_eq_true rfl, Nat.le_of_ble_eq_true rfl⟩ (fun xr1 xN2 μ3 xq4 => ?_)
  obtain ⟨rfl, rfl, rfl⟩ := xq4
  refine ap_topi (b := 1) (show (if 0 ≤ (p : Int) ∧ (p : Int) ≤ 3 then 1 else 0) = 1 from if_pos (by omega)) ?_
  refine ap_if_ne (tgt := 9) dX10_read_4 (by decide) (by omega) (fun c4 => ?_) (fun c4 => (by exfalso; omega))
  refine ap_aload_n dX10_read_9 rfl rfl ?_
  refine ap_cV (As := []) (rest := []) (cm_wrongAt hT ht1 hb1 hb2 hN hM hI) dX10_read_10 lk_X10_166 hy_X10_wrongAt rfl (by omega) hM ⟨_, _, rfl⟩ (Nat.le_of_ble_eq_true rfl) ⟨Nat.le_of_ble_eq_true rfl, Nat.le_of_ble_eq_true rfl⟩ ⟨rfl, rfl⟩ ⟨Nat.le_of_ble_eq_true rfl, Nat.le_of_ble_eq_true rfl⟩ (fun xr5 xN6 μw xq7 => ?_)
  obtain ⟨rfl, rfl, hw1, zm2, zd2, ze2, zi2, fi2, hw2, hw3⟩ := xq7
  
  refine ap_topi (b := -1) (show (if gwb b = -9 then -1 else gwb b) = (-1) from if_pos hg) ?_
  refine ap_Istore_n (lv2 := [(0, .ref 120), (1, am_i (p : Int)), (2, am_i (-1))]) dX10_read_13 rfl (by decide) rfl ?_
  refine ap_iload_n dX10_read_14 rfl rfl ?_
  refine ap_if_lt (tgt := 23) dX10_read_15 (by decide) (by omega) (fun c15 => ?_) (fun c15 => (by exfalso; omega))
  refine ap_iconst dX10_read_23 ?_
  refine ap_Istore_n (lv2 := [(0, .ref 120), (1, am_i (p : Int)), (2, am_i (-1)), (3, am_i 0)]) dX10_read_24 rfl (by decide) rfl ?_
  have xm8 : μw 121 = am_I 0 420 g := (hw1 _ (by omega)).trans hV
  have xm9 : μw 138 = am_I 0 101 f8 := (hw1 _ (by omega)).trans h138
  refine lm_had (g := g) (p := p) hw2 xm8 hN hp ?_ 102 0 _ μw f8 rfl (by omega) (fun x hx => rfl) xm9 (fun j hj => absurd hj (Nat.not_lt_zero j)) (by omega)
  intro μy fy hy1 hy2 hy3
  refine ap_aload_n dX10_read_54 rfl rfl ?_
  refine ap_iload_n dX10_read_55 rfl rfl ?_
  refine ap_aload_n dX10_read_56 rfl rfl ?_
  have xm10 : μy 120 = am_O 10 [.ref 121, .ref 122, am_i (rem : Int), .ref 123, am_i (b.length : Int), am_i zm2, am_i zd2, am_i ze2, am_i zi2, .ref 124, .ref 125, am_i zu, .ref 126, .ref 127, .ref 128, .ref 129, .ref 130, .ref 131, .ref 132, .ref 133, .ref 134, .ref 135, am_i zc, .ref 136, .ref 137, .ref 138, .ref 139, .ref 140, am_i zg] := (hy1 _ (by omega)).trans hw2
  refine ap_get ff_X10_16 dX10_read_57 (by omega) xm10 rfl ?_
  refine ap_aload_n dX10_read_60 rfl rfl ?_
  refine ap_get ff_X10_114 dX10_read_61 (by omega) xm10 rfl ?_
  have xm11 : μy 121 = am_I 0 420 g := (hy1 _ (by omega)).trans xm8
  have xm12 : μy 123 = am_I 0 100 tg := (hy1 _ (by omega)).trans ((hw1 _ (by omega)).trans hT)
  refine ap_cV (As := [am_i (p : Int), .ref 123, am_i (b.length : Int)]) (rest := []) (cm_takes (p := p) (n := b.length) (q := 123) xm10 xm11 xm12 ⟨by omega, by omega⟩ hN hp hb1) dX10_read_64 lk_X10_170 hy_X10_takes rfl (by omega) xm10 ⟨_, _, rfl⟩ (Nat.le_of_ble_eq_true rfl) ⟨Nat.le_of_ble_eq_true rfl, Nat.le_of_ble_eq_true rfl⟩ ⟨rfl, rfl⟩ ⟨Nat.le_of_ble_eq_true rfl, Nat.le_of_ble_eq_true rfl⟩ (fun xr13 xN14 μu xq15 => ?_)
  obtain ⟨rfl, rfl, hu1, gu, hu2, hu3, hu4, hu5⟩ := xq15
  have hvx : vtx gu p b := ⟨hu3, fun k hk => (hu4 k hk).trans (ht1 k hk), hb1, hb2⟩
  refine ap_aload_n dX10_read_67 rfl rfl ?_
  refine ap_iload_n dX10_read_68 rfl rfl ?_
  have xm16 : μu 120 = am_O 10 [.ref 121, .ref 122, am_i (rem : Int), .ref 123, am_i (b.length : Int), am_i zm2, am_i zd2, am_i ze2, am_i zi2, .ref 124, .ref 125, am_i zu, .ref 126, .ref 127, .ref 128, .ref 129, .ref 130, .ref 131, .ref 132, .ref 133, .ref 134, .ref 135, am_i zc, .ref 136, .ref 137, .ref 138, .ref 139, .ref 140, am_i zg] := (hu1 _ (by omega)).trans xm10
  refine ap_cV (As := [am_i (p : Int)]) (rest := []) (cm_works (p := p) (xs := b) xm16 hu2 hN hp hvx (hS.kept (fun x y1 y2 => (hu1 x (by omega)).trans ((hy1 x (by omega)).trans ((hw1 x (by omega)))))) hgt) dX10_read_69 lk_X10_174 hy_X10_works rfl (by omega) xm16 ⟨_, _, rfl⟩ (Nat.le_of_ble_eq_true rfl) ⟨Nat.le_of_ble_eq_true rfl, Nat.le_of_ble_eq_true rfl⟩ ⟨rfl, rfl⟩ ⟨Nat.le_of_ble_eq_true rfl, Nat.le_of_ble_eq_true rfl⟩ (fun xr17 xN18 μv xq19 => ?_)
  obtain ⟨rfl, rfl, ⟨zu2, zc2, hk1, hk2⟩, hk3, hk4, hk5, hk6⟩ := xq19
  rw [if_neg (by omega)] at hk2
  refine ap_aload_n dX10_read_72 rfl rfl ?_
  refine ap_get ff_X10_152 dX10_read_73 (by omega) hk1 rfl ?_
  refine ap_sipush dX10_read_76 (by decide) ?_
  refine ap_icmp_le (tgt := 86) dX10_read_79 (by decide) (by omega) (fun c79 => (by exfalso; omega)) (fun c79 => ?_)
  refine ap_iconst dX10_read_82 ?_
  refine ap_goto (tgt := 87) dX10_read_83 (by decide) ?_
  refine ap_Istore_n (lv2 := [(0, .ref 120), (1, am_i (p : Int)), (2, am_i (-1)), (3, am_i 1)]) dX10_read_87 rfl (by decide) rfl ?_
  refine ap_iconst dX10_read_88 ?_
  refine ap_Istore (lv2 := [(0, .ref 120), (1, am_i (p : Int)), (2, am_i (-1)), (3, am_i 1), (4, am_i 0)]) dX10_read_89 (by decide) rfl ?_
  have xm20 : μv 138 = am_I 0 101 fy := (hk4 _ (by omega)).trans ((hu1 _ (by omega)).trans hy2)
  have xm21 : μv 121 = am_I 0 420 gu := (hk4 _ (by omega)).trans hu2
  refine lm_back (f := fy) (g0 := gu) (p := p) hk1 xm20 hN hp ?_ 102 0 _ μv gu rfl (by omega) (fun x hx => rfl) xm21 (fun j hj => absurd hj (Nat.not_lt_zero j)) (fun j hj => rfl) (by omega)
  intro μs gs hs1 hs2 hs3 hs4
  have hvs : vrel gs C := vrel_congr hv1 (fun j hj => by
    by_cases hq : 101 * p ≤ j ∧ j < 101 * p + 101
    · have q1 := hs3 (j - 101 * p) (by omega)
      have q2 := hy3 (j - 101 * p) (by omega)
      rw [show 101 * p + (j - 101 * p) = j by omega] at q1 q2
      exact q1.trans q2
    · exact (hs4 j hq).trans (hu5 j hq))
  refine ap_iload_n dX10_read_123 rfl rfl ?_
  refine ap_if_eq (tgt := 130) dX10_read_124 (by decide) (by omega) (fun c124 => (by exfalso; omega)) (fun c124 => ?_)
  refine ap_bipush dX10_read_127 (by decide) ?_
  have xm22 : μs 120 = am_O 10 [.ref 121, .ref 122, am_i (rem : Int), .ref 123, am_i (b.length : Int), am_i zm2, am_i zd2, am_i ze2, am_i zi2, .ref 124, .ref 125, am_i zu2, .ref 126, .ref 127, .ref 128, .ref 129, .ref 130, .ref 131, .ref 132, .ref 133, .ref 134, .ref 135, am_i zc2, .ref 136, .ref 137, .ref 138, .ref 139, .ref 140, am_i zg] := (hs1 _ (by omega)).trans hk1
  have xm23 : μs 122 = am_I 0 2100 h := (hs1 _ (by omega)).trans ((hk4 _ (by omega)).trans ((hu1 _ (by omega)).trans ((hy1 _ (by omega)).trans ((hw1 _ (by omega)).trans hH))))
  have xm24 : μs 123 = am_I 0 100 tg := (hs1 _ (by omega)).trans ((hk4 _ (by omega)).trans ((hu1 _ (by omega)).trans xm12))
  have xm25 : μs 124 = am_I 0 4 fi2 := (hs1 _ (by omega)).trans ((hk4 _ (by omega)).trans ((hu1 _ (by omega)).trans ((hy1 _ (by omega)).trans hw3)))
  have xm26 : μs 138 = am_I 0 101 fy := (hs1 _ (by omega)).trans xm20
  have xm27 : μs 139 = am_I 0 100 f9 := (hs1 _ (by omega)).trans ((hk4 _ (by omega)).trans ((hu1 _ (by omega)).trans ((hy1 _ (by omega)).trans ((hw1 _ (by omega)).trans h139))))
  have xm28 : μs 140 = am_I 0 4 f0 := (hs1 _ (by omega)).trans ((hk4 _ (by omega)).trans ((hu1 _ (by omega)).trans ((hy1 _ (by omega)).trans ((hw1 _ (by omega)).trans h140))))
  exact ap_iret dX10_read_129 rfl rfl (Nat.le_of_ble_eq_true rfl) (Nat.le_of_ble_eq_true rfl) (⟨rfl, rfl, ⟨⟨_, _, _, _, _, _, _, xm22⟩, ⟨_, hs2, hvs⟩, ⟨_, xm23, hh1⟩, ⟨_, xm24, ht1⟩, ⟨_, xm25⟩, hk3.kept (fun x y1 y2 => hs1 x (by omega)), ⟨_, xm26⟩, ⟨_, xm27⟩, ⟨_, xm28⟩, hr5, hb1, hb2, hC, hhs⟩, fun x hx => (hs1 x (by omega)).trans ((hk4 x (by omega)).trans ((hu1 x (by omega)).trans ((hy1 x (by omega)).trans ((hw1 x (by omega))))))⟩)

set_option maxHeartbeats 4000000 in
set_option maxRecDepth 100000 in
theorem cy_readP {N : Nat} {μ : am_M} {b : List Int} {C : Snap} {rem : Nat} {hs : Nat → Snap} (hX : Mx μ b C rem hs) (hN : 141 ≤ N) {p : Nat} (hp : p < 4) (hgt : gtu b) (hg : gwb b = -9) (hl : lets (uf b 0) ≤ 300) : am_Met YX10_read [.ref 120, am_i (p : Int)] N μ (mq N μ (am_i (cnt b)) [] (va_up (s_t C) p b, s_b C, s_v C, s_a C, s_w C) (rnx rem) (hnx rem hs C)) := by
  obtain ⟨⟨zm, zd, ze, zi, zu, zc, zg, hM⟩, ⟨g, hV, hv1⟩, ⟨h, hH, hh1⟩, ⟨tg, hT, ht1⟩, ⟨fi, hI⟩, hS, ⟨f8, h138⟩, ⟨f9, h139⟩, ⟨f0, h140⟩, hr5, hb1, hb2, hC, hhs⟩ := id hX
  refine am_met (by first | decide | rfl) (Nat.le_of_ble_eq_true rfl) (fun h => by first | rfl | cases h) ?_
  show am_W YX10_read _ 0 0 0 [(0, .ref 120), (1, am_i (p : Int))] [] _ _
  refine ap_iload_n dX10_read_0 rfl rfl ?_
  refine ap_cS (As := [am_i (p : Int)]) (rest := []) (cm_isPart (by omega)) dX10_read_1 lk_X10_163 hy_X10_isPart rfl (Nat.le_of_ble_eq_true rfl) ⟨Nat.le_of_ble_eq_true rfl, Nat.le_of_ble_eq_true rfl⟩ ⟨rfl, rfl⟩ ⟨Nat.le_of_ble_eq_true rfl, Nat.le_of_ble_eq_true rfl⟩ (fun xr1 xN2 μ3 xq4 => ?_)
  obtain ⟨rfl, rfl, rfl⟩ := xq4
  refine ap_topi (b := 1) (show (if 0 ≤ (p : Int) ∧ (p : Int) ≤ 3 then 1 else 0) = 1 from if_pos (by omega)) ?_
  refine ap_if_ne (tgt := 9) dX10_read_4 (by decide) (by omega) (fun c4 => ?_) (fun c4 => (by exfalso; omega))
  refine ap_aload_n dX10_read_9 rfl rfl ?_
  refine ap_cV (As := []) (rest := []) (cm_wrongAt hT ht1 hb1 hb2 hN hM hI) dX10_read_10 lk_X10_166 hy_X10_wrongAt rfl (by omega) hM ⟨_, _, rfl⟩ (Nat.le_of_ble_eq_true rfl) ⟨Nat.le_of_ble_eq_true rfl, Nat.le_of_ble_eq_true rfl⟩ ⟨rfl, rfl⟩ ⟨Nat.le_of_ble_eq_true rfl, Nat.le_of_ble_eq_true rfl⟩ (fun xr5 xN6 μw xq7 => ?_)
  obtain ⟨rfl, rfl, hw1, zm2, zd2, ze2, zi2, fi2, hw2, hw3⟩ := xq7
  
  refine ap_topi (b := -1) (show (if gwb b = -9 then -1 else gwb b) = (-1) from if_pos hg) ?_
  refine ap_Istore_n (lv2 := [(0, .ref 120), (1, am_i (p : Int)), (2, am_i (-1))]) dX10_read_13 rfl (by decide) rfl ?_
  refine ap_iload_n dX10_read_14 rfl rfl ?_
  refine ap_if_lt (tgt := 23) dX10_read_15 (by decide) (by omega) (fun c15 => ?_) (fun c15 => (by exfalso; omega))
  refine ap_iconst dX10_read_23 ?_
  refine ap_Istore_n (lv2 := [(0, .ref 120), (1, am_i (p : Int)), (2, am_i (-1)), (3, am_i 0)]) dX10_read_24 rfl (by decide) rfl ?_
  have xm8 : μw 121 = am_I 0 420 g := (hw1 _ (by omega)).trans hV
  have xm9 : μw 138 = am_I 0 101 f8 := (hw1 _ (by omega)).trans h138
  refine lm_had (g := g) (p := p) hw2 xm8 hN hp ?_ 102 0 _ μw f8 rfl (by omega) (fun x hx => rfl) xm9 (fun j hj => absurd hj (Nat.not_lt_zero j)) (by omega)
  intro μy fy hy1 hy2 hy3
  refine ap_aload_n dX10_read_54 rfl rfl ?_
  refine ap_iload_n dX10_read_55 rfl rfl ?_
  refine ap_aload_n dX10_read_56 rfl rfl ?_
  have xm10 : μy 120 = am_O 10 [.ref 121, .ref 122, am_i (rem : Int), .ref 123, am_i (b.length : Int), am_i zm2, am_i zd2, am_i ze2, am_i zi2, .ref 124, .ref 125, am_i zu, .ref 126, .ref 127, .ref 128, .ref 129, .ref 130, .ref 131, .ref 132, .ref 133, .ref 134, .ref 135, am_i zc, .ref 136, .ref 137, .ref 138, .ref 139, .ref 140, am_i zg] := (hy1 _ (by omega)).trans hw2
  refine ap_get ff_X10_16 dX10_read_57 (by omega) xm10 rfl ?_
  refine ap_aload_n dX10_read_60 rfl rfl ?_
  refine ap_get ff_X10_114 dX10_read_61 (by omega) xm10 rfl ?_
  have xm11 : μy 121 = am_I 0 420 g := (hy1 _ (by omega)).trans xm8
  have xm12 : μy 123 = am_I 0 100 tg := (hy1 _ (by omega)).trans ((hw1 _ (by omega)).trans hT)
  refine ap_cV (As := [am_i (p : Int), .ref 123, am_i (b.length : Int)]) (rest := []) (cm_takes (p := p) (n := b.length) (q := 123) xm10 xm11 xm12 ⟨by omega, by omega⟩ hN hp hb1) dX10_read_64 lk_X10_170 hy_X10_takes rfl (by omega) xm10 ⟨_, _, rfl⟩ (Nat.le_of_ble_eq_true rfl) ⟨Nat.le_of_ble_eq_true rfl, Nat.le_of_ble_eq_true rfl⟩ ⟨rfl, rfl⟩ ⟨Nat.le_of_ble_eq_true rfl, Nat.le_of_ble_eq_true rfl⟩ (fun xr13 xN14 μu xq15 => ?_)
  obtain ⟨rfl, rfl, hu1, gu, hu2, hu3, hu4, hu5⟩ := xq15
  have hvx : vtx gu p b := ⟨hu3, fun k hk => (hu4 k hk).trans (ht1 k hk), hb1, hb2⟩
  refine ap_aload_n dX10_read_67 rfl rfl ?_
  refine ap_iload_n dX10_read_68 rfl rfl ?_
  have xm16 : μu 120 = am_O 10 [.ref 121, .ref 122, am_i (rem : Int), .ref 123, am_i (b.length : Int), am_i zm2, am_i zd2, am_i ze2, am_i zi2, .ref 124, .ref 125, am_i zu, .ref 126, .ref 127, .ref 128, .ref 129, .ref 130, .ref 131, .ref 132, .ref 133, .ref 134, .ref 135, am_i zc, .ref 136, .ref 137, .ref 138, .ref 139, .ref 140, am_i zg] := (hu1 _ (by omega)).trans xm10
  refine ap_cV (As := [am_i (p : Int)]) (rest := []) (cm_works (p := p) (xs := b) xm16 hu2 hN hp hvx (hS.kept (fun x y1 y2 => (hu1 x (by omega)).trans ((hy1 x (by omega)).trans ((hw1 x (by omega)))))) hgt) dX10_read_69 lk_X10_174 hy_X10_works rfl (by omega) xm16 ⟨_, _, rfl⟩ (Nat.le_of_ble_eq_true rfl) ⟨Nat.le_of_ble_eq_true rfl, Nat.le_of_ble_eq_true rfl⟩ ⟨rfl, rfl⟩ ⟨Nat.le_of_ble_eq_true rfl, Nat.le_of_ble_eq_true rfl⟩ (fun xr17 xN18 μv xq19 => ?_)
  obtain ⟨rfl, rfl, ⟨zu2, zc2, hk1, hk2⟩, hk3, hk4, hk5, hk6⟩ := xq19
  obtain ⟨⟨fo, fs, fa, fb, fn, fm, fl, ⟨m1, m2, m3, m4, m5, m6, m7⟩, m8, m9, m10, m11⟩, hbd⟩ := hk5 hl
  rw [if_pos hl] at hk2
  refine ap_aload_n dX10_read_72 rfl rfl ?_
  refine ap_get ff_X10_152 dX10_read_73 (by omega) hk1 rfl ?_
  refine ap_sipush dX10_read_76 (by decide) ?_
  refine ap_icmp_le (tgt := 86) dX10_read_79 (by decide) (by omega) (fun c79 => ?_) (fun c79 => (by exfalso; omega))
  refine ap_iconst dX10_read_86 ?_
  refine ap_Istore_n (lv2 := [(0, .ref 120), (1, am_i (p : Int)), (2, am_i (-1)), (3, am_i 0)]) dX10_read_87 rfl (by decide) rfl ?_
  refine ap_iconst dX10_read_88 ?_
  refine ap_Istore (lv2 := [(0, .ref 120), (1, am_i (p : Int)), (2, am_i (-1)), (3, am_i 0), (4, am_i 0)]) dX10_read_89 (by decide) rfl ?_
  have xm20 : μv 138 = am_I 0 101 fy := (hk4 _ (by omega)).trans ((hu1 _ (by omega)).trans hy2)
  have xm21 : μv 121 = am_I 0 420 gu := (hk4 _ (by omega)).trans hu2
  refine lm_back (f := fy) (g0 := gu) (p := p) hk1 xm20 hN hp ?_ 102 0 _ μv gu rfl (by omega) (fun x hx => rfl) xm21 (fun j hj => absurd hj (Nat.not_lt_zero j)) (fun j hj => rfl) (by omega)
  intro μs gs hs1 hs2 hs3 hs4
  have hvs : vrel gs C := vrel_congr hv1 (fun j hj => by
    by_cases hq : 101 * p ≤ j ∧ j < 101 * p + 101
    · have q1 := hs3 (j - 101 * p) (by omega)
      have q2 := hy3 (j - 101 * p) (by omega)
      rw [show 101 * p + (j - 101 * p) = j by omega] at q1 q2
      exact q1.trans q2
    · exact (hs4 j hq).trans (hu5 j hq))
  refine ap_iload_n dX10_read_123 rfl rfl ?_
  refine ap_if_eq (tgt := 130) dX10_read_124 (by decide) (by omega) (fun c124 => ?_) (fun c124 => (by exfalso; omega))
  refine ap_aload_n dX10_read_130 rfl rfl ?_
  have xm22 : μs 120 = am_O 10 [.ref 121, .ref 122, am_i (rem : Int), .ref 123, am_i (b.length : Int), am_i zm2, am_i zd2, am_i ze2, am_i zi2, .ref 124, .ref 125, am_i zu2, .ref 126, .ref 127, .ref 128, .ref 129, .ref 130, .ref 131, .ref 132, .ref 133, .ref 134, .ref 135, am_i zc2, .ref 136, .ref 137, .ref 138, .ref 139, .ref 140, am_i zg] := (hs1 _ (by omega)).trans hk1
  have xm23 : μs 122 = am_I 0 2100 h := (hs1 _ (by omega)).trans ((hk4 _ (by omega)).trans ((hu1 _ (by omega)).trans ((hy1 _ (by omega)).trans ((hw1 _ (by omega)).trans hH))))
  refine ap_cV (As := []) (rest := []) (cm_act (C := C) (hs := hs) xm22 hs2 xm23 hN hr5 hvs hh1) dX10_read_131 lk_X10_177 hy_X10_act rfl (by omega) xm22 ⟨_, _, rfl⟩ (Nat.le_of_ble_eq_true rfl) ⟨Nat.le_of_ble_eq_true rfl, Nat.le_of_ble_eq_true rfl⟩ ⟨rfl, rfl⟩ ⟨Nat.le_of_ble_eq_true rfl, Nat.le_of_ble_eq_true rfl⟩ (fun xr24 xN25 μt xq26 => ?_)
  obtain ⟨rfl, rfl, hx1, hx2, h9, hx3, hx4⟩ := xq26
  refine ap_aload_n dX10_read_134 rfl rfl ?_
  refine ap_iload_n dX10_read_135 rfl rfl ?_
  refine ap_aload_n dX10_read_136 rfl rfl ?_
  refine ap_get ff_X10_16 dX10_read_137 (by omega) hx2 rfl ?_
  refine ap_aload_n dX10_read_140 rfl rfl ?_
  refine ap_get ff_X10_114 dX10_read_141 (by omega) hx2 rfl ?_
  have xm27 : μt 121 = am_I 0 420 gs := (hx1 _ (by omega)).trans hs2
  have xm28 : μt 123 = am_I 0 100 tg := (hx1 _ (by omega)).trans ((hs1 _ (by omega)).trans ((hk4 _ (by omega)).trans ((hu1 _ (by omega)).trans xm12)))
  refine ap_cV (As := [am_i (p : Int), .ref 123, am_i (b.length : Int)]) (rest := []) (cm_takes (p := p) (n := b.length) (q := 123) hx2 xm27 xm28 ⟨by omega, by omega⟩ hN hp hb1) dX10_read_144 lk_X10_170 hy_X10_takes rfl (by omega) hx2 ⟨_, _, rfl⟩ (Nat.le_of_ble_eq_true rfl) ⟨Nat.le_of_ble_eq_true rfl, Nat.le_of_ble_eq_true rfl⟩ ⟨rfl, rfl⟩ ⟨Nat.le_of_ble_eq_true rfl, Nat.le_of_ble_eq_true rfl⟩ (fun xr29 xN30 μq xq31 => ?_)
  obtain ⟨rfl, rfl, hq1, gq, hq2, hq3, hq4, hq5⟩ := xq31
  have hvq : vtx gq p b := ⟨hq3, fun k hk => (hq4 k hk).trans (ht1 k hk), hb1, hb2⟩
  refine ap_aload_n dX10_read_147 rfl rfl ?_
  refine ap_iconst dX10_read_148 ?_
  have xm32 : μq 120 = am_O 10 [.ref 121, .ref 122, am_i ((rnx rem : Nat) : Int), .ref 123, am_i (b.length : Int), am_i zm2, am_i zd2, am_i ze2, am_i zi2, .ref 124, .ref 125, am_i zu2, .ref 126, .ref 127, .ref 128, .ref 129, .ref 130, .ref 131, .ref 132, .ref 133, .ref 134, .ref 135, am_i zc2, .ref 136, .ref 137, .ref 138, .ref 139, .ref 140, am_i zg] := (hq1 _ (by omega)).trans hx2
  refine ap_put (fs2 := [.ref 121, .ref 122, am_i ((rnx rem : Nat) : Int), .ref 123, am_i 0, am_i zm2, am_i zd2, am_i ze2, am_i zi2, .ref 124, .ref 125, am_i zu2, .ref 126, .ref 127, .ref 128, .ref 129, .ref 130, .ref 131, .ref 132, .ref 133, .ref 134, .ref 135, am_i zc2, .ref 136, .ref 137, .ref 138, .ref 139, .ref 140, am_i zg]) ff_X10_114 fc_X10_4 dX10_read_149 (by omega) xm32 (fun _ => ⟨rfl, rfl⟩) (Nat.le_of_ble_eq_true rfl) rfl (fun μ33 xe34 xf35 => ?_)
  refine ap_aload_n dX10_read_152 rfl rfl ?_
  refine ap_get ff_X10_41 dX10_read_153 (by omega) xe34 rfl ?_
  refine ap_iload_n dX10_read_156 rfl rfl ?_
  have xm36 : μ33 131 = am_I 0 4 fm := (xf35 _ (by omega)).trans ((hq1 _ (by omega)).trans ((hx1 _ (by omega)).trans ((hs1 _ (by omega)).trans m6)))
  refine ap_iald (j := p) dX10_read_157 (by omega) xm36 (by omega) (by omega) ?_
  refine ap_topi (b := cnt b) (show (fm p) = (cnt b) from m9) ?_
  have xm37 : μ33 121 = am_I 0 420 gq := (xf35 _ (by omega)).trans hq2
  have xm38 : μ33 122 = am_I 0 2100 h9 := (xf35 _ (by omega)).trans ((hq1 _ (by omega)).trans hx3)
  have xm39 : μ33 123 = am_I 0 100 tg := (xf35 _ (by omega)).trans ((hq1 _ (by omega)).trans xm28)
  have xm40 : μ33 124 = am_I 0 4 fi2 := (xf35 _ (by omega)).trans ((hq1 _ (by omega)).trans ((hx1 _ (by omega)).trans ((hs1 _ (by omega)).trans ((hk4 _ (by omega)).trans ((hu1 _ (by omega)).trans ((hy1 _ (by omega)).trans hw3))))))
  have xm41 : μ33 138 = am_I 0 101 fy := (xf35 _ (by omega)).trans ((hq1 _ (by omega)).trans ((hx1 _ (by omega)).trans ((hs1 _ (by omega)).trans xm20)))
  have xm42 : μ33 139 = am_I 0 100 f9 := (xf35 _ (by omega)).trans ((hq1 _ (by omega)).trans ((hx1 _ (by omega)).trans ((hs1 _ (by omega)).trans ((hk4 _ (by omega)).trans ((hu1 _ (by omega)).trans ((hy1 _ (by omega)).trans ((hw1 _ (by omega)).trans h139)))))))
  have xm43 : μ33 140 = am_I 0 4 f0 := (xf35 _ (by omega)).trans ((hq1 _ (by omega)).trans ((hx1 _ (by omega)).trans ((hs1 _ (by omega)).trans ((hk4 _ (by omega)).trans ((hu1 _ (by omega)).trans ((hy1 _ (by omega)).trans ((hw1 _ (by omega)).trans h140)))))))
  exact ap_iret dX10_read_158 rfl rfl (Nat.le_of_ble_eq_true rfl) (Nat.le_of_ble_eq_true rfl) (⟨rfl, rfl, ⟨⟨_, _, _, _, _, _, _, xe34⟩, ⟨_, xm37, vrel_take hvs hp hvq hq5⟩, ⟨_, xm38, hx4⟩, ⟨_, xm39, fun j hj => absurd hj (Nat.not_lt_zero j)⟩, ⟨_, xm40⟩, hk3.kept (fun x y1 y2 => ((xf35 x (by omega)).trans ((hq1 x (by omega)).trans ((hx1 x (by omega)).trans ((hs1 x (by omega))))))), ⟨_, xm41⟩, ⟨_, xm42⟩, ⟨_, xm43⟩, rnx_le, Nat.zero_le _, fun c hc => (by cases hc), csn_set hC ⟨hgt, hl⟩, hnx_cs hhs hC hr5⟩, fun x hx => (xf35 x (by omega)).trans ((hq1 x (by omega)).trans ((hx1 x (by omega)).trans ((hs1 x (by omega)).trans ((hk4 x (by omega)).trans ((hu1 x (by omega)).trans ((hy1 x (by omega)).trans ((hw1 x (by omega)))))))))⟩)

