theorem Shp.kept2 {μ μ2 : am_M} (h : Shp μ) (hf : ∀ x, 126 ≤ x → x ≤ 137 → μ2 x = μ x) : (∃ f, μ2 126 = am_L 1200 f) ∧ (∃ f, μ2 127 = am_L 1200 f) ∧ (∃ f, μ2 128 = am_I 0 1200 f) ∧ (∃ f, μ2 129 = am_I 0 1200 f) ∧ (∃ f, μ2 130 = am_I 0 1200 f) ∧ (∃ f, μ2 131 = am_I 0 4 f) ∧ (∃ f, μ2 132 = am_L 4 f) ∧ (∃ f, μ2 133 = am_I 0 4 f) ∧ (∃ f, μ2 134 = am_L 1200 f) ∧ (∃ f, μ2 135 = am_I 3 1200 f) ∧ (∃ f, μ2 136 = am_I 0 3 f) ∧ (∃ f, μ2 137 = am_I 0 3 f) := by
  obtain ⟨-, ⟨f0, h0⟩, ⟨f1, h1⟩, ⟨f2, h2⟩, ⟨f3, h3⟩, ⟨f4, h4⟩, ⟨f5, h5⟩, ⟨f6, h6⟩, ⟨f7, h7⟩, ⟨f8, h8⟩, ⟨f9, h9⟩, ⟨f10, h10⟩, ⟨f11, h11⟩⟩ := h
  exact ⟨⟨_, (hf _ (by omega) (by omega)).trans h0⟩, ⟨_, (hf _ (by omega) (by omega)).trans h1⟩, ⟨_, (hf _ (by omega) (by omega)).trans h2⟩, ⟨_, (hf _ (by omega) (by omega)).trans h3⟩, ⟨_, (hf _ (by omega) (by omega)).trans h4⟩, ⟨_, (hf _ (by omega) (by omega)).trans h5⟩, ⟨_, (hf _ (by omega) (by omega)).trans h6⟩, ⟨_, (hf _ (by omega) (by omega)).trans h7⟩, ⟨_, (hf _ (by omega) (by omega)).trans h8⟩, ⟨_, (hf _ (by omega) (by omega)).trans h9⟩, ⟨_, (hf _ (by omega) (by omega)).trans h10⟩, ⟨_, (hf _ (by omega) (by omega)).trans h11⟩⟩
set_option maxHeartbeats 4000000 in
set_option maxRecDepth 100000 in
theorem cy_eventsN {N : Nat} {μ : am_M} {b : List Int} {C : Snap} {rem : Nat} {hs : Nat → Snap} (hX : Mx μ b C rem hs) (hN : 141 ≤ N) {k : Int} (hk : -2147483648 ≤ k ∧ k ≤ 2147483647) (hn : ¬ (0 ≤ k ∧ k < 4)) : am_Met YX10_events [.ref 120, am_i k] N μ (mq N μ (am_i (-1)) b C rem hs) := by
  obtain ⟨⟨zm, zd, ze, zi, zu, zc, zg, hM⟩, ⟨g, hV, hv1⟩, ⟨h, hH, hh1⟩, ⟨tg, hT, ht1⟩, ⟨fi, hI⟩, hS, ⟨f8, h138⟩, ⟨f9, h139⟩, ⟨f0, h140⟩, hr5, hb1, hb2, hC, hhs⟩ := id hX
  refine am_met (by first | decide | rfl) (Nat.le_of_ble_eq_true rfl) (fun h => by first | rfl | cases h) ?_
  show am_W YX10_events _ 0 0 0 [(0, .ref 120), (1, am_i k)] [] _ _
  refine ap_iload_n dX10_events_0 rfl rfl ?_
  refine ap_cS (As := [am_i k]) (rest := []) (cm_isPart (by omega)) dX10_events_1 lk_X10_163 hy_X10_isPart rfl (Nat.le_of_ble_eq_true rfl) ⟨Nat.le_of_ble_eq_true rfl, Nat.le_of_ble_eq_true rfl⟩ ⟨rfl, rfl⟩ ⟨Nat.le_of_ble_eq_true rfl, Nat.le_of_ble_eq_true rfl⟩ (fun xr1 xN2 μ3 xq4 => ?_)
  obtain ⟨rfl, rfl, rfl⟩ := xq4
  refine ap_topi (b := 0) (show (if 0 ≤ k ∧ k ≤ 3 then 1 else 0) = 0 from if_neg (by omega)) ?_
  refine ap_if_ne (tgt := 9) dX10_events_4 (by decide) (by omega) (fun c4 => (by exfalso; omega)) (fun c4 => ?_)
  refine ap_iconst dX10_events_7 ?_
  exact ap_iret dX10_events_8 rfl rfl (Nat.le_of_ble_eq_true rfl) (Nat.le_of_ble_eq_true rfl) (⟨rfl, rfl, hX, fun x hx => rfl⟩)

set_option maxHeartbeats 4000000 in
set_option maxRecDepth 100000 in
theorem cy_barsN {N : Nat} {μ : am_M} {b : List Int} {C : Snap} {rem : Nat} {hs : Nat → Snap} (hX : Mx μ b C rem hs) (hN : 141 ≤ N) {k : Int} (hk : -2147483648 ≤ k ∧ k ≤ 2147483647) (hn : ¬ (0 ≤ k ∧ k < 4)) : am_Met YX10_bars [.ref 120, am_i k] N μ (mq N μ (am_i (-1)) b C rem hs) := by
  obtain ⟨⟨zm, zd, ze, zi, zu, zc, zg, hM⟩, ⟨g, hV, hv1⟩, ⟨h, hH, hh1⟩, ⟨tg, hT, ht1⟩, ⟨fi, hI⟩, hS, ⟨f8, h138⟩, ⟨f9, h139⟩, ⟨f0, h140⟩, hr5, hb1, hb2, hC, hhs⟩ := id hX
  refine am_met (by first | decide | rfl) (Nat.le_of_ble_eq_true rfl) (fun h => by first | rfl | cases h) ?_
  show am_W YX10_bars _ 0 0 0 [(0, .ref 120), (1, am_i k)] [] _ _
  refine ap_iload_n dX10_bars_0 rfl rfl ?_
  refine ap_cS (As := [am_i k]) (rest := []) (cm_isPart (by omega)) dX10_bars_1 lk_X10_163 hy_X10_isPart rfl (Nat.le_of_ble_eq_true rfl) ⟨Nat.le_of_ble_eq_true rfl, Nat.le_of_ble_eq_true rfl⟩ ⟨rfl, rfl⟩ ⟨Nat.le_of_ble_eq_true rfl, Nat.le_of_ble_eq_true rfl⟩ (fun xr1 xN2 μ3 xq4 => ?_)
  obtain ⟨rfl, rfl, rfl⟩ := xq4
  refine ap_topi (b := 0) (show (if 0 ≤ k ∧ k ≤ 3 then 1 else 0) = 0 from if_neg (by omega)) ?_
  refine ap_if_ne (tgt := 9) dX10_bars_4 (by decide) (by omega) (fun c4 => (by exfalso; omega)) (fun c4 => ?_)
  refine ap_iconst dX10_bars_7 ?_
  exact ap_iret dX10_bars_8 rfl rfl (Nat.le_of_ble_eq_true rfl) (Nat.le_of_ble_eq_true rfl) (⟨rfl, rfl, hX, fun x hx => rfl⟩)

set_option maxHeartbeats 4000000 in
set_option maxRecDepth 100000 in
theorem cy_wrongBarN {N : Nat} {μ : am_M} {b : List Int} {C : Snap} {rem : Nat} {hs : Nat → Snap} (hX : Mx μ b C rem hs) (hN : 141 ≤ N) {k : Int} (hk : -2147483648 ≤ k ∧ k ≤ 2147483647) (hn : ¬ (0 ≤ k ∧ k < 4)) : am_Met YX10_wrongBar [.ref 120, am_i k] N μ (mq N μ (am_i (-1)) b C rem hs) := by
  obtain ⟨⟨zm, zd, ze, zi, zu, zc, zg, hM⟩, ⟨g, hV, hv1⟩, ⟨h, hH, hh1⟩, ⟨tg, hT, ht1⟩, ⟨fi, hI⟩, hS, ⟨f8, h138⟩, ⟨f9, h139⟩, ⟨f0, h140⟩, hr5, hb1, hb2, hC, hhs⟩ := id hX
  refine am_met (by first | decide | rfl) (Nat.le_of_ble_eq_true rfl) (fun h => by first | rfl | cases h) ?_
  show am_W YX10_wrongBar _ 0 0 0 [(0, .ref 120), (1, am_i k)] [] _ _
  refine ap_iload_n dX10_wrongBar_0 rfl rfl ?_
  refine ap_cS (As := [am_i k]) (rest := []) (cm_isPart (by omega)) dX10_wrongBar_1 lk_X10_163 hy_X10_isPart rfl (Nat.le_of_ble_eq_true rfl) ⟨Nat.le_of_ble_eq_true rfl, Nat.le_of_ble_eq_true rfl⟩ ⟨rfl, rfl⟩ ⟨Nat.le_of_ble_eq_true rfl, Nat.le_of_ble_eq_true rfl⟩ (fun xr1 xN2 μ3 xq4 => ?_)
  obtain ⟨rfl, rfl, rfl⟩ := xq4
  refine ap_topi (b := 0) (show (if 0 ≤ k ∧ k ≤ 3 then 1 else 0) = 0 from if_neg (by omega)) ?_
  refine ap_if_ne (tgt := 9) dX10_wrongBar_4 (by decide) (by omega) (fun c4 => (by exfalso; omega)) (fun c4 => ?_)
  refine ap_iconst dX10_wrongBar_7 ?_
  exact ap_iret dX10_wrongBar_8 rfl rfl (Nat.le_of_ble_eq_true rfl) (Nat.le_of_ble_eq_true rfl) (⟨rfl, rfl, hX, fun x hx => rfl⟩)

set_option maxHeartbeats 4000000 in
set_option maxRecDepth 100000 in
theorem cy_syncopationN {N : Nat} {μ : am_M} {b : List Int} {C : Snap} {rem : Nat} {hs : Nat → Snap} (hX : Mx μ b C rem hs) (hN : 141 ≤ N) {k : Int} (hk : -2147483648 ≤ k ∧ k ≤ 2147483647) (hn : ¬ (0 ≤ k ∧ k < 4)) : am_Met YX10_syncopation [.ref 120, am_i k] N μ (mq N μ (am_i (-1)) b C rem hs) := by
  obtain ⟨⟨zm, zd, ze, zi, zu, zc, zg, hM⟩, ⟨g, hV, hv1⟩, ⟨h, hH, hh1⟩, ⟨tg, hT, ht1⟩, ⟨fi, hI⟩, hS, ⟨f8, h138⟩, ⟨f9, h139⟩, ⟨f0, h140⟩, hr5, hb1, hb2, hC, hhs⟩ := id hX
  refine am_met (by first | decide | rfl) (Nat.le_of_ble_eq_true rfl) (fun h => by first | rfl | cases h) ?_
  show am_W YX10_syncopation _ 0 0 0 [(0, .ref 120), (1, am_i k)] [] _ _
  refine ap_iload_n dX10_syncopation_0 rfl rfl ?_
  refine ap_cS (As := [am_i k]) (rest := []) (cm_isPart (by omega)) dX10_syncopation_1 lk_X10_163 hy_X10_isPart rfl (Nat.le_of_ble_eq_true rfl) ⟨Nat.le_of_ble_eq_true rfl, Nat.le_of_ble_eq_true rfl⟩ ⟨rfl, rfl⟩ ⟨Nat.le_of_ble_eq_true rfl, Nat.le_of_ble_eq_true rfl⟩ (fun xr1 xN2 μ3 xq4 => ?_)
  obtain ⟨rfl, rfl, rfl⟩ := xq4
  refine ap_topi (b := 0) (show (if 0 ≤ k ∧ k ≤ 3 then 1 else 0) = 0 from if_neg (by omega)) ?_
  refine ap_if_ne (tgt := 9) dX10_syncopation_4 (by decide) (by omega) (fun c4 => (by exfalso; omega)) (fun c4 => ?_)
  refine ap_iconst dX10_syncopation_7 ?_
  exact ap_iret dX10_syncopation_8 rfl rfl (Nat.le_of_ble_eq_true rfl) (Nat.le_of_ble_eq_true rfl) (⟨rfl, rfl, hX, fun x hx => rfl⟩)

set_option maxHeartbeats 4000000 in
set_option maxRecDepth 100000 in
theorem cy_leastGridN {N : Nat} {μ : am_M} {b : List Int} {C : Snap} {rem : Nat} {hs : Nat → Snap} (hX : Mx μ b C rem hs) (hN : 141 ≤ N) {k : Int} (hk : -2147483648 ≤ k ∧ k ≤ 2147483647) (hn : ¬ (0 ≤ k ∧ k < 4)) : am_Met YX10_leastGrid [.ref 120, am_i k] N μ (mq N μ (am_i (-1)) b C rem hs) := by
  obtain ⟨⟨zm, zd, ze, zi, zu, zc, zg, hM⟩, ⟨g, hV, hv1⟩, ⟨h, hH, hh1⟩, ⟨tg, hT, ht1⟩, ⟨fi, hI⟩, hS, ⟨f8, h138⟩, ⟨f9, h139⟩, ⟨f0, h140⟩, hr5, hb1, hb2, hC, hhs⟩ := id hX
  refine am_met (by first | decide | rfl) (Nat.le_of_ble_eq_true rfl) (fun h => by first | rfl | cases h) ?_
  show am_W YX10_leastGrid _ 0 0 0 [(0, .ref 120), (1, am_i k)] [] _ _
  refine ap_iload_n dX10_leastGrid_0 rfl rfl ?_
  refine ap_cS (As := [am_i k]) (rest := []) (cm_isPart (by omega)) dX10_leastGrid_1 lk_X10_163 hy_X10_isPart rfl (Nat.le_of_ble_eq_true rfl) ⟨Nat.le_of_ble_eq_true rfl, Nat.le_of_ble_eq_true rfl⟩ ⟨rfl, rfl⟩ ⟨Nat.le_of_ble_eq_true rfl, Nat.le_of_ble_eq_true rfl⟩ (fun xr1 xN2 μ3 xq4 => ?_)
  obtain ⟨rfl, rfl, rfl⟩ := xq4
  refine ap_topi (b := 0) (show (if 0 ≤ k ∧ k ≤ 3 then 1 else 0) = 0 from if_neg (by omega)) ?_
  refine ap_if_ne (tgt := 9) dX10_leastGrid_4 (by decide) (by omega) (fun c4 => (by exfalso; omega)) (fun c4 => ?_)
  refine ap_iconst dX10_leastGrid_7 ?_
  exact ap_iret dX10_leastGrid_8 rfl rfl (Nat.le_of_ble_eq_true rfl) (Nat.le_of_ble_eq_true rfl) (⟨rfl, rfl, hX, fun x hx => rfl⟩)

set_option maxHeartbeats 4000000 in
set_option maxRecDepth 100000 in
theorem cy_lengthN {N : Nat} {μ : am_M} {b : List Int} {C : Snap} {rem : Nat} {hs : Nat → Snap} (hX : Mx μ b C rem hs) (hN : 141 ≤ N) {k w : Int} (hk : -2147483648 ≤ k ∧ k ≤ 2147483647) (hw : -2147483648 ≤ w ∧ w ≤ 2147483647) (hn : ¬ (0 ≤ k ∧ k < 4)) : am_Met YX10_length [.ref 120, am_i k, am_i w] N μ (mq N μ (am_l (-1)) b C rem hs) := by
  obtain ⟨⟨zm, zd, ze, zi, zu, zc, zg, hM⟩, ⟨g, hV, hv1⟩, ⟨h, hH, hh1⟩, ⟨tg, hT, ht1⟩, ⟨fi, hI⟩, hS, ⟨f8, h138⟩, ⟨f9, h139⟩, ⟨f0, h140⟩, hr5, hb1, hb2, hC, hhs⟩ := id hX
  refine am_met (by first | decide | rfl) (Nat.le_of_ble_eq_true rfl) (fun h => by first | rfl | cases h) ?_
  show am_W YX10_length _ 0 0 0 [(0, .ref 120), (1, am_i k), (2, am_i w)] [] _ _
  refine ap_iload_n dX10_length_0 rfl rfl ?_
  refine ap_cS (As := [am_i k]) (rest := []) (cm_isPart (by omega)) dX10_length_1 lk_X10_163 hy_X10_isPart rfl (Nat.le_of_ble_eq_true rfl) ⟨Nat.le_of_ble_eq_true rfl, Nat.le_of_ble_eq_true rfl⟩ ⟨rfl, rfl⟩ ⟨Nat.le_of_ble_eq_true rfl, Nat.le_of_ble_eq_true rfl⟩ (fun xr1 xN2 μ3 xq4 => ?_)
  obtain ⟨rfl, rfl, rfl⟩ := xq4
  refine ap_topi (b := 0) (show (if 0 ≤ k ∧ k ≤ 3 then 1 else 0) = 0 from if_neg (by omega)) ?_
  refine ap_if_eq (tgt := 16) dX10_length_4 (by decide) (by omega) (fun c4 => ?_) (fun c4 => (by exfalso; omega))
  refine ap_ldc2 dX10_length_16 kl_X10_184 ?_
  exact ap_lret dX10_length_19 rfl (Nat.le_of_ble_eq_true rfl) (Nat.le_of_ble_eq_true rfl) (⟨rfl, rfl, hX, fun x hx => rfl⟩)

set_option maxHeartbeats 4000000 in
set_option maxRecDepth 100000 in
theorem cy_barN {N : Nat} {μ : am_M} {b : List Int} {C : Snap} {rem : Nat} {hs : Nat → Snap} (hX : Mx μ b C rem hs) (hN : 141 ≤ N) {k i w : Int} (hk : -2147483648 ≤ k ∧ k ≤ 2147483647) (hi : -2147483648 ≤ i ∧ i ≤ 2147483647) (hw : -2147483648 ≤ w ∧ w ≤ 2147483647) (hn : ¬ (0 ≤ k ∧ k < 4)) : am_Met YX10_bar [.ref 120, am_i k, am_i i, am_i w] N μ (mq N μ (am_l (-1)) b C rem hs) := by
  obtain ⟨⟨zm, zd, ze, zi, zu, zc, zg, hM⟩, ⟨g, hV, hv1⟩, ⟨h, hH, hh1⟩, ⟨tg, hT, ht1⟩, ⟨fi, hI⟩, hS, ⟨f8, h138⟩, ⟨f9, h139⟩, ⟨f0, h140⟩, hr5, hb1, hb2, hC, hhs⟩ := id hX
  refine am_met (by first | decide | rfl) (Nat.le_of_ble_eq_true rfl) (fun h => by first | rfl | cases h) ?_
  show am_W YX10_bar _ 0 0 0 [(0, .ref 120), (1, am_i k), (2, am_i i), (3, am_i w)] [] _ _
  refine ap_iload_n dX10_bar_0 rfl rfl ?_
  refine ap_cS (As := [am_i k]) (rest := []) (cm_isPart (by omega)) dX10_bar_1 lk_X10_163 hy_X10_isPart rfl (Nat.le_of_ble_eq_true rfl) ⟨Nat.le_of_ble_eq_true rfl, Nat.le_of_ble_eq_true rfl⟩ ⟨rfl, rfl⟩ ⟨Nat.le_of_ble_eq_true rfl, Nat.le_of_ble_eq_true rfl⟩ (fun xr1 xN2 μ3 xq4 => ?_)
  obtain ⟨rfl, rfl, rfl⟩ := xq4
  refine ap_topi (b := 0) (show (if 0 ≤ k ∧ k ≤ 3 then 1 else 0) = 0 from if_neg (by omega)) ?_
  refine ap_if_eq (tgt := 16) dX10_bar_4 (by decide) (by omega) (fun c4 => ?_) (fun c4 => (by exfalso; omega))
  refine ap_ldc2 dX10_bar_16 kl_X10_184 ?_
  exact ap_lret dX10_bar_19 rfl (Nat.le_of_ble_eq_true rfl) (Nat.le_of_ble_eq_true rfl) (⟨rfl, rfl, hX, fun x hx => rfl⟩)

set_option maxHeartbeats 4000000 in
set_option maxRecDepth 100000 in
theorem cy_offGridN {N : Nat} {μ : am_M} {b : List Int} {C : Snap} {rem : Nat} {hs : Nat → Snap} (hX : Mx μ b C rem hs) (hN : 141 ≤ N) {k gr : Int} (hk : -2147483648 ≤ k ∧ k ≤ 2147483647) (hgr : -2147483648 ≤ gr ∧ gr ≤ 2147483647) (hn : ¬ (0 ≤ k ∧ k < 4)) : am_Met YX10_offGrid [.ref 120, am_i k, am_i gr] N μ (mq N μ (am_i (-1)) b C rem hs) := by
  obtain ⟨⟨zm, zd, ze, zi, zu, zc, zg, hM⟩, ⟨g, hV, hv1⟩, ⟨h, hH, hh1⟩, ⟨tg, hT, ht1⟩, ⟨fi, hI⟩, hS, ⟨f8, h138⟩, ⟨f9, h139⟩, ⟨f0, h140⟩, hr5, hb1, hb2, hC, hhs⟩ := id hX
  refine am_met (by first | decide | rfl) (Nat.le_of_ble_eq_true rfl) (fun h => by first | rfl | cases h) ?_
  show am_W YX10_offGrid _ 0 0 0 [(0, .ref 120), (1, am_i k), (2, am_i gr)] [] _ _
  refine ap_iload_n dX10_offGrid_0 rfl rfl ?_
  refine ap_cS (As := [am_i k]) (rest := []) (cm_isPart (by omega)) dX10_offGrid_1 lk_X10_163 hy_X10_isPart rfl (Nat.le_of_ble_eq_true rfl) ⟨Nat.le_of_ble_eq_true rfl, Nat.le_of_ble_eq_true rfl⟩ ⟨rfl, rfl⟩ ⟨Nat.le_of_ble_eq_true rfl, Nat.le_of_ble_eq_true rfl⟩ (fun xr1 xN2 μ3 xq4 => ?_)
  obtain ⟨rfl, rfl, rfl⟩ := xq4
  refine ap_topi (b := 0) (show (if 0 ≤ k ∧ k ≤ 3 then 1 else 0) = 0 from if_neg (by omega)) ?_
  refine ap_if_eq (tgt := 18) dX10_offGrid_4 (by decide) (by omega) (fun c4 => ?_) (fun c4 => (by exfalso; omega))
  refine ap_iconst dX10_offGrid_18 ?_
  exact ap_iret dX10_offGrid_19 rfl rfl (Nat.le_of_ble_eq_true rfl) (Nat.le_of_ble_eq_true rfl) (⟨rfl, rfl, hX, fun x hx => rfl⟩)

set_option maxHeartbeats 4000000 in
set_option maxRecDepth 100000 in
theorem cy_textOfN {N : Nat} {μ : am_M} {b : List Int} {C : Snap} {rem : Nat} {hs : Nat → Snap} (hX : Mx μ b C rem hs) (hN : 141 ≤ N) {k j : Int} (hk : -2147483648 ≤ k ∧ k ≤ 2147483647) (hj : -2147483648 ≤ j ∧ j ≤ 2147483647) (hn : ¬ (0 ≤ k ∧ k < 4)) : am_Met YX10_textOf [.ref 120, am_i k, am_i j] N μ (mq N μ (am_i (-1)) b C rem hs) := by
  obtain ⟨⟨zm, zd, ze, zi, zu, zc, zg, hM⟩, ⟨g, hV, hv1⟩, ⟨h, hH, hh1⟩, ⟨tg, hT, ht1⟩, ⟨fi, hI⟩, hS, ⟨f8, h138⟩, ⟨f9, h139⟩, ⟨f0, h140⟩, hr5, hb1, hb2, hC, hhs⟩ := id hX
  refine am_met (by first | decide | rfl) (Nat.le_of_ble_eq_true rfl) (fun h => by first | rfl | cases h) ?_
  show am_W YX10_textOf _ 0 0 0 [(0, .ref 120), (1, am_i k), (2, am_i j)] [] _ _
  refine ap_iload_n dX10_textOf_0 rfl rfl ?_
  refine ap_cS (As := [am_i k]) (rest := []) (cm_isPart (by omega)) dX10_textOf_1 lk_X10_163 hy_X10_isPart rfl (Nat.le_of_ble_eq_true rfl) ⟨Nat.le_of_ble_eq_true rfl, Nat.le_of_ble_eq_true rfl⟩ ⟨rfl, rfl⟩ ⟨Nat.le_of_ble_eq_true rfl, Nat.le_of_ble_eq_true rfl⟩ (fun xr1 xN2 μ3 xq4 => ?_)
  obtain ⟨rfl, rfl, rfl⟩ := xq4
  refine ap_topi (b := 0) (show (if 0 ≤ k ∧ k ≤ 3 then 1 else 0) = 0 from if_neg (by omega)) ?_
  refine ap_if_eq (tgt := 11) dX10_textOf_4 (by decide) (by omega) (fun c4 => ?_) (fun c4 => (by exfalso; omega))
  refine ap_iconst dX10_textOf_11 ?_
  refine ap_goto (tgt := 46) dX10_textOf_12 (by decide) ?_
  exact ap_iret dX10_textOf_46 rfl rfl (Nat.le_of_ble_eq_true rfl) (Nat.le_of_ble_eq_true rfl) (⟨rfl, rfl, hX, fun x hx => rfl⟩)

set_option maxHeartbeats 4000000 in
set_option maxRecDepth 100000 in
theorem cy_unfoldedN {N : Nat} {μ : am_M} {b : List Int} {C : Snap} {rem : Nat} {hs : Nat → Snap} (hX : Mx μ b C rem hs) (hN : 141 ≤ N) {k j : Int} (hk : -2147483648 ≤ k ∧ k ≤ 2147483647) (hj : -2147483648 ≤ j ∧ j ≤ 2147483647) (hn : ¬ (0 ≤ k ∧ k < 4)) : am_Met YX10_unfolded [.ref 120, am_i k, am_i j] N μ (mq N μ (am_i (-1)) b C rem hs) := by
  obtain ⟨⟨zm, zd, ze, zi, zu, zc, zg, hM⟩, ⟨g, hV, hv1⟩, ⟨h, hH, hh1⟩, ⟨tg, hT, ht1⟩, ⟨fi, hI⟩, hS, ⟨f8, h138⟩, ⟨f9, h139⟩, ⟨f0, h140⟩, hr5, hb1, hb2, hC, hhs⟩ := id hX
  refine am_met (by first | decide | rfl) (Nat.le_of_ble_eq_true rfl) (fun h => by first | rfl | cases h) ?_
  show am_W YX10_unfolded _ 0 0 0 [(0, .ref 120), (1, am_i k), (2, am_i j)] [] _ _
  refine ap_iload_n dX10_unfolded_0 rfl rfl ?_
  refine ap_cS (As := [am_i k]) (rest := []) (cm_isPart (by omega)) dX10_unfolded_1 lk_X10_163 hy_X10_isPart rfl (Nat.le_of_ble_eq_true rfl) ⟨Nat.le_of_ble_eq_true rfl, Nat.le_of_ble_eq_true rfl⟩ ⟨rfl, rfl⟩ ⟨Nat.le_of_ble_eq_true rfl, Nat.le_of_ble_eq_true rfl⟩ (fun xr1 xN2 μ3 xq4 => ?_)
  obtain ⟨rfl, rfl, rfl⟩ := xq4
  refine ap_topi (b := 0) (show (if 0 ≤ k ∧ k ≤ 3 then 1 else 0) = 0 from if_neg (by omega)) ?_
  refine ap_if_eq (tgt := 11) dX10_unfolded_4 (by decide) (by omega) (fun c4 => ?_) (fun c4 => (by exfalso; omega))
  refine ap_iconst dX10_unfolded_11 ?_
  exact ap_iret dX10_unfolded_12 rfl rfl (Nat.le_of_ble_eq_true rfl) (Nat.le_of_ble_eq_true rfl) (⟨rfl, rfl, hX, fun x hx => rfl⟩)

set_option maxHeartbeats 4000000 in
set_option maxRecDepth 100000 in
theorem cm_isEventN {N : Nat} {μ : am_M} {k i : Int} (hk : -2147483648 ≤ k ∧ k ≤ 2147483647) (hn : ¬ (0 ≤ k ∧ k < 4)) : am_Met YX10_isEvent [.ref 120, am_i k, am_i i] N μ (am_pv (am_i 0) N μ) := by
  refine am_met (by first | decide | rfl) (Nat.le_of_ble_eq_true rfl) (fun h => by first | rfl | cases h) ?_
  show am_W YX10_isEvent _ 0 0 0 [(0, .ref 120), (1, am_i k), (2, am_i i)] [] _ _
  refine ap_iload_n dX10_isEvent_0 rfl rfl ?_
  refine ap_cS (As := [am_i k]) (rest := []) (cm_isPart (by omega)) dX10_isEvent_1 lk_X10_163 hy_X10_isPart rfl (Nat.le_of_ble_eq_true rfl) ⟨Nat.le_of_ble_eq_true rfl, Nat.le_of_ble_eq_true rfl⟩ ⟨rfl, rfl⟩ ⟨Nat.le_of_ble_eq_true rfl, Nat.le_of_ble_eq_true rfl⟩ (fun xr1 xN2 μ3 xq4 => ?_)
  obtain ⟨rfl, rfl, rfl⟩ := xq4
  refine ap_topi (b := 0) (show (if 0 ≤ k ∧ k ≤ 3 then 1 else 0) = 0 from if_neg (by omega)) ?_
  refine ap_if_ne (tgt := 9) dX10_isEvent_4 (by decide) (by omega) (fun c4 => (by exfalso; omega)) (fun c4 => ?_)
  refine ap_iconst dX10_isEvent_7 ?_
  exact ap_iret dX10_isEvent_8 rfl (am_nz (by first | omega | decide)) (Nat.le_of_ble_eq_true rfl) (Nat.le_of_ble_eq_true rfl) (⟨rfl, rfl, rfl⟩)

set_option maxHeartbeats 4000000 in
set_option maxRecDepth 100000 in
theorem cy_onsetN {N : Nat} {μ : am_M} {b : List Int} {C : Snap} {rem : Nat} {hs : Nat → Snap} (hX : Mx μ b C rem hs) (hN : 141 ≤ N) {k i w : Int} (hk : -2147483648 ≤ k ∧ k ≤ 2147483647) (hi : -2147483648 ≤ i ∧ i ≤ 2147483647) (hw : -2147483648 ≤ w ∧ w ≤ 2147483647) (hn : ¬ (0 ≤ k ∧ k < 4)) : am_Met YX10_onset [.ref 120, am_i k, am_i i, am_i w] N μ (mq N μ (am_l (-1)) b C rem hs) := by
  obtain ⟨⟨zm, zd, ze, zi, zu, zc, zg, hM⟩, ⟨g, hV, hv1⟩, ⟨h, hH, hh1⟩, ⟨tg, hT, ht1⟩, ⟨fi, hI⟩, hS, ⟨f8, h138⟩, ⟨f9, h139⟩, ⟨f0, h140⟩, hr5, hb1, hb2, hC, hhs⟩ := id hX
  refine am_met (by first | decide | rfl) (Nat.le_of_ble_eq_true rfl) (fun h => by first | rfl | cases h) ?_
  show am_W YX10_onset _ 0 0 0 [(0, .ref 120), (1, am_i k), (2, am_i i), (3, am_i w)] [] _ _
  refine ap_iload_n dX10_onset_0 rfl rfl ?_
  refine ap_iconst dX10_onset_1 ?_
  refine ap_iconst dX10_onset_2 ?_
  refine ap_cS (As := [am_i w, am_i 0, am_i 1]) (rest := []) (cm_in hw (by omega) (by omega)) dX10_onset_3 lk_X10_76 hy_X10_in rfl (Nat.le_of_ble_eq_true rfl) ⟨Nat.le_of_ble_eq_true rfl, Nat.le_of_ble_eq_true rfl⟩ ⟨rfl, rfl⟩ ⟨Nat.le_of_ble_eq_true rfl, Nat.le_of_ble_eq_true rfl⟩ (fun xr1 xN2 μ3 xq4 => ?_)
  obtain ⟨rfl, rfl, rfl⟩ := xq4
  refine ap_if_eq (tgt := 40) dX10_onset_6 (by decide) (itr) (fun c6 => ?_) (fun c6 => ?_)
  · refine ap_ldc2 dX10_onset_40 kl_X10_184 ?_
    exact ap_lret dX10_onset_43 rfl (Nat.le_of_ble_eq_true rfl) (Nat.le_of_ble_eq_true rfl) (⟨rfl, rfl, hX, fun x hx => rfl⟩)
  · refine ap_aload_n dX10_onset_9 rfl rfl ?_
    refine ap_iload_n dX10_onset_10 rfl rfl ?_
    refine ap_iload_n dX10_onset_11 rfl rfl ?_
    refine ap_cV (As := [am_i k, am_i i]) (rest := []) (cm_isEventN hk hn) dX10_onset_12 lk_X10_190 hy_X10_isEvent rfl (by omega) hM ⟨_, _, rfl⟩ (Nat.le_of_ble_eq_true rfl) ⟨Nat.le_of_ble_eq_true rfl, Nat.le_of_ble_eq_true rfl⟩ ⟨rfl, rfl⟩ ⟨Nat.le_of_ble_eq_true rfl, Nat.le_of_ble_eq_true rfl⟩ (fun xr5 xN6 μ7 xq8 => ?_)
    obtain ⟨rfl, rfl, rfl⟩ := xq8
    refine ap_if_eq (tgt := 40) dX10_onset_15 (by decide) (by omega) (fun c15 => ?_) (fun c15 => (by exfalso; omega))
    refine ap_ldc2 dX10_onset_40 kl_X10_184 ?_
    exact ap_lret dX10_onset_43 rfl (Nat.le_of_ble_eq_true rfl) (Nat.le_of_ble_eq_true rfl) (⟨rfl, rfl, hX, fun x hx => rfl⟩)

set_option maxHeartbeats 4000000 in
set_option maxRecDepth 100000 in
theorem cy_lastsN {N : Nat} {μ : am_M} {b : List Int} {C : Snap} {rem : Nat} {hs : Nat → Snap} (hX : Mx μ b C rem hs) (hN : 141 ≤ N) {k i w : Int} (hk : -2147483648 ≤ k ∧ k ≤ 2147483647) (hi : -2147483648 ≤ i ∧ i ≤ 2147483647) (hw : -2147483648 ≤ w ∧ w ≤ 2147483647) (hn : ¬ (0 ≤ k ∧ k < 4)) : am_Met YX10_lasts [.ref 120, am_i k, am_i i, am_i w] N μ (mq N μ (am_l (-1)) b C rem hs) := by
  obtain ⟨⟨zm, zd, ze, zi, zu, zc, zg, hM⟩, ⟨g, hV, hv1⟩, ⟨h, hH, hh1⟩, ⟨tg, hT, ht1⟩, ⟨fi, hI⟩, hS, ⟨f8, h138⟩, ⟨f9, h139⟩, ⟨f0, h140⟩, hr5, hb1, hb2, hC, hhs⟩ := id hX
  refine am_met (by first | decide | rfl) (Nat.le_of_ble_eq_true rfl) (fun h => by first | rfl | cases h) ?_
  show am_W YX10_lasts _ 0 0 0 [(0, .ref 120), (1, am_i k), (2, am_i i), (3, am_i w)] [] _ _
  refine ap_iload_n dX10_lasts_0 rfl rfl ?_
  refine ap_iconst dX10_lasts_1 ?_
  refine ap_iconst dX10_lasts_2 ?_
  refine ap_cS (As := [am_i w, am_i 0, am_i 1]) (rest := []) (cm_in hw (by omega) (by omega)) dX10_lasts_3 lk_X10_76 hy_X10_in rfl (Nat.le_of_ble_eq_true rfl) ⟨Nat.le_of_ble_eq_true rfl, Nat.le_of_ble_eq_true rfl⟩ ⟨rfl, rfl⟩ ⟨Nat.le_of_ble_eq_true rfl, Nat.le_of_ble_eq_true rfl⟩ (fun xr1 xN2 μ3 xq4 => ?_)
  obtain ⟨rfl, rfl, rfl⟩ := xq4
  refine ap_if_eq (tgt := 40) dX10_lasts_6 (by decide) (itr) (fun c6 => ?_) (fun c6 => ?_)
  · refine ap_ldc2 dX10_lasts_40 kl_X10_184 ?_
    exact ap_lret dX10_lasts_43 rfl (Nat.le_of_ble_eq_true rfl) (Nat.le_of_ble_eq_true rfl) (⟨rfl, rfl, hX, fun x hx => rfl⟩)
  · refine ap_aload_n dX10_lasts_9 rfl rfl ?_
    refine ap_iload_n dX10_lasts_10 rfl rfl ?_
    refine ap_iload_n dX10_lasts_11 rfl rfl ?_
    refine ap_cV (As := [am_i k, am_i i]) (rest := []) (cm_isEventN hk hn) dX10_lasts_12 lk_X10_190 hy_X10_isEvent rfl (by omega) hM ⟨_, _, rfl⟩ (Nat.le_of_ble_eq_true rfl) ⟨Nat.le_of_ble_eq_true rfl, Nat.le_of_ble_eq_true rfl⟩ ⟨rfl, rfl⟩ ⟨Nat.le_of_ble_eq_true rfl, Nat.le_of_ble_eq_true rfl⟩ (fun xr5 xN6 μ7 xq8 => ?_)
    obtain ⟨rfl, rfl, rfl⟩ := xq8
    refine ap_if_eq (tgt := 40) dX10_lasts_15 (by decide) (by omega) (fun c15 => ?_) (fun c15 => (by exfalso; omega))
    refine ap_ldc2 dX10_lasts_40 kl_X10_184 ?_
    exact ap_lret dX10_lasts_43 rfl (Nat.le_of_ble_eq_true rfl) (Nat.le_of_ble_eq_true rfl) (⟨rfl, rfl, hX, fun x hx => rfl⟩)

set_option maxHeartbeats 4000000 in
set_option maxRecDepth 100000 in
theorem cy_swungN {N : Nat} {μ : am_M} {b : List Int} {C : Snap} {rem : Nat} {hs : Nat → Snap} (hX : Mx μ b C rem hs) (hN : 141 ≤ N) {k i w : Int} (hk : -2147483648 ≤ k ∧ k ≤ 2147483647) (hi : -2147483648 ≤ i ∧ i ≤ 2147483647) (hw : -2147483648 ≤ w ∧ w ≤ 2147483647) (hn : ¬ (0 ≤ k ∧ k < 4)) : am_Met YX10_swung [.ref 120, am_i k, am_i i, am_i w] N μ (mq N μ (am_l (-1)) b C rem hs) := by
  obtain ⟨⟨zm, zd, ze, zi, zu, zc, zg, hM⟩, ⟨g, hV, hv1⟩, ⟨h, hH, hh1⟩, ⟨tg, hT, ht1⟩, ⟨fi, hI⟩, hS, ⟨f8, h138⟩, ⟨f9, h139⟩, ⟨f0, h140⟩, hr5, hb1, hb2, hC, hhs⟩ := id hX
  refine am_met (by first | decide | rfl) (Nat.le_of_ble_eq_true rfl) (fun h => by first | rfl | cases h) ?_
  show am_W YX10_swung _ 0 0 0 [(0, .ref 120), (1, am_i k), (2, am_i i), (3, am_i w)] [] _ _
  refine ap_iload_n dX10_swung_0 rfl rfl ?_
  refine ap_iconst dX10_swung_1 ?_
  refine ap_iconst dX10_swung_2 ?_
  refine ap_cS (As := [am_i w, am_i 0, am_i 1]) (rest := []) (cm_in hw (by omega) (by omega)) dX10_swung_3 lk_X10_76 hy_X10_in rfl (Nat.le_of_ble_eq_true rfl) ⟨Nat.le_of_ble_eq_true rfl, Nat.le_of_ble_eq_true rfl⟩ ⟨rfl, rfl⟩ ⟨Nat.le_of_ble_eq_true rfl, Nat.le_of_ble_eq_true rfl⟩ (fun xr1 xN2 μ3 xq4 => ?_)
  obtain ⟨rfl, rfl, rfl⟩ := xq4
  refine ap_if_eq (tgt := 18) dX10_swung_6 (by decide) (itr) (fun c6 => ?_) (fun c6 => ?_)
  · refine ap_ldc2 dX10_swung_18 kl_X10_184 ?_
    exact ap_lret dX10_swung_21 rfl (Nat.le_of_ble_eq_true rfl) (Nat.le_of_ble_eq_true rfl) (⟨rfl, rfl, hX, fun x hx => rfl⟩)
  · refine ap_aload_n dX10_swung_9 rfl rfl ?_
    refine ap_iload_n dX10_swung_10 rfl rfl ?_
    refine ap_iload_n dX10_swung_11 rfl rfl ?_
    refine ap_cV (As := [am_i k, am_i i]) (rest := []) (cm_isEventN hk hn) dX10_swung_12 lk_X10_190 hy_X10_isEvent rfl (by omega) hM ⟨_, _, rfl⟩ (Nat.le_of_ble_eq_true rfl) ⟨Nat.le_of_ble_eq_true rfl, Nat.le_of_ble_eq_true rfl⟩ ⟨rfl, rfl⟩ ⟨Nat.le_of_ble_eq_true rfl, Nat.le_of_ble_eq_true rfl⟩ (fun xr5 xN6 μ7 xq8 => ?_)
    obtain ⟨rfl, rfl, rfl⟩ := xq8
    refine ap_if_ne (tgt := 22) dX10_swung_15 (by decide) (by omega) (fun c15 => (by exfalso; omega)) (fun c15 => ?_)
    refine ap_ldc2 dX10_swung_18 kl_X10_184 ?_
    exact ap_lret dX10_swung_21 rfl (Nat.le_of_ble_eq_true rfl) (Nat.le_of_ble_eq_true rfl) (⟨rfl, rfl, hX, fun x hx => rfl⟩)

set_option maxHeartbeats 4000000 in
set_option maxRecDepth 100000 in
theorem cy_eventN {N : Nat} {μ : am_M} {b : List Int} {C : Snap} {rem : Nat} {hs : Nat → Snap} (hX : Mx μ b C rem hs) (hN : 141 ≤ N) {k i w : Int} (hk : -2147483648 ≤ k ∧ k ≤ 2147483647) (hi : -2147483648 ≤ i ∧ i ≤ 2147483647) (hw : -2147483648 ≤ w ∧ w ≤ 2147483647) (hn : ¬ (0 ≤ k ∧ k < 4)) : am_Met YX10_event [.ref 120, am_i k, am_i i, am_i w] N μ (mq N μ (am_i (-1)) b C rem hs) := by
  obtain ⟨⟨zm, zd, ze, zi, zu, zc, zg, hM⟩, ⟨g, hV, hv1⟩, ⟨h, hH, hh1⟩, ⟨tg, hT, ht1⟩, ⟨fi, hI⟩, hS, ⟨f8, h138⟩, ⟨f9, h139⟩, ⟨f0, h140⟩, hr5, hb1, hb2, hC, hhs⟩ := id hX
  refine am_met (by first | decide | rfl) (Nat.le_of_ble_eq_true rfl) (fun h => by first | rfl | cases h) ?_
  show am_W YX10_event _ 0 0 0 [(0, .ref 120), (1, am_i k), (2, am_i i), (3, am_i w)] [] _ _
  refine ap_iload_n dX10_event_0 rfl rfl ?_
  refine ap_iconst dX10_event_1 ?_
  refine ap_iconst dX10_event_2 ?_
  refine ap_cS (As := [am_i w, am_i 0, am_i 4]) (rest := []) (cm_in hw (by omega) (by omega)) dX10_event_3 lk_X10_76 hy_X10_in rfl (Nat.le_of_ble_eq_true rfl) ⟨Nat.le_of_ble_eq_true rfl, Nat.le_of_ble_eq_true rfl⟩ ⟨rfl, rfl⟩ ⟨Nat.le_of_ble_eq_true rfl, Nat.le_of_ble_eq_true rfl⟩ (fun xr1 xN2 μ3 xq4 => ?_)
  obtain ⟨rfl, rfl, rfl⟩ := xq4
  refine ap_if_eq (tgt := 18) dX10_event_6 (by decide) (itr) (fun c6 => ?_) (fun c6 => ?_)
  · refine ap_iconst dX10_event_18 ?_
    exact ap_iret dX10_event_19 rfl rfl (Nat.le_of_ble_eq_true rfl) (Nat.le_of_ble_eq_true rfl) (⟨rfl, rfl, hX, fun x hx => rfl⟩)
  · refine ap_aload_n dX10_event_9 rfl rfl ?_
    refine ap_iload_n dX10_event_10 rfl rfl ?_
    refine ap_iload_n dX10_event_11 rfl rfl ?_
    refine ap_cV (As := [am_i k, am_i i]) (rest := []) (cm_isEventN hk hn) dX10_event_12 lk_X10_190 hy_X10_isEvent rfl (by omega) hM ⟨_, _, rfl⟩ (Nat.le_of_ble_eq_true rfl) ⟨Nat.le_of_ble_eq_true rfl, Nat.le_of_ble_eq_true rfl⟩ ⟨rfl, rfl⟩ ⟨Nat.le_of_ble_eq_true rfl, Nat.le_of_ble_eq_true rfl⟩ (fun xr5 xN6 μ7 xq8 => ?_)
    obtain ⟨rfl, rfl, rfl⟩ := xq8
    refine ap_if_ne (tgt := 20) dX10_event_15 (by decide) (by omega) (fun c15 => (by exfalso; omega)) (fun c15 => ?_)
    refine ap_iconst dX10_event_18 ?_
    exact ap_iret dX10_event_19 rfl rfl (Nat.le_of_ble_eq_true rfl) (Nat.le_of_ble_eq_true rfl) (⟨rfl, rfl, hX, fun x hx => rfl⟩)

set_option maxHeartbeats 4000000 in
set_option maxRecDepth 100000 in
theorem cy_textOf {N : Nat} {μ : am_M} {b : List Int} {C : Snap} {rem : Nat} {hs : Nat → Snap} (hX : Mx μ b C rem hs) (hN : 141 ≤ N) {p : Nat} (hp : p < 4) {P : PS} (hPe : psc (s_t C p) = P) {j : Int} (hj : -2147483648 ≤ j ∧ j ≤ 2147483647) : am_Met YX10_textOf [.ref 120, am_i (p : Int), am_i j] N μ (mq N μ (am_i (if j < 0 then -1 else tat (s_t C p) j)) b C rem hs) := by
  obtain ⟨⟨zm, zd, ze, zi, zu, zc, zg, hM⟩, ⟨g, hV, hv1⟩, ⟨h, hH, hh1⟩, ⟨tg, hT, ht1⟩, ⟨fi, hI⟩, hS, ⟨f8, h138⟩, ⟨f9, h139⟩, ⟨f0, h140⟩, hr5, hb1, hb2, hC, hhs⟩ := id hX
  refine am_met (by first | decide | rfl) (Nat.le_of_ble_eq_true rfl) (fun h => by first | rfl | cases h) ?_
  show am_W YX10_textOf _ 0 0 0 [(0, .ref 120), (1, am_i (p : Int)), (2, am_i j)] [] _ _
  refine ap_iload_n dX10_textOf_0 rfl rfl ?_
  refine ap_cS (As := [am_i (p : Int)]) (rest := []) (cm_isPart (by omega)) dX10_textOf_1 lk_X10_163 hy_X10_isPart rfl (Nat.le_of_ble_eq_true rfl) ⟨Nat.le_of_ble_eq_true rfl, Nat.le_of_ble_eq_true rfl⟩ ⟨rfl, rfl⟩ ⟨Nat.le_of_ble_eq_true rfl, Nat.le_of_ble_eq_true rfl⟩ (fun xr1 xN2 μ3 xq4 => ?_)
  obtain ⟨rfl, rfl, rfl⟩ := xq4
  refine ap_topi (b := 1) (show (if 0 ≤ (p : Int) ∧ (p : Int) ≤ 3 then 1 else 0) = 1 from if_pos (by omega)) ?_
  refine ap_if_eq (tgt := 11) dX10_textOf_4 (by decide) (by omega) (fun c4 => (by exfalso; omega)) (fun c4 => ?_)
  refine ap_iload_n dX10_textOf_7 rfl rfl ?_
  refine ap_if_ge (tgt := 15) dX10_textOf_8 (by decide) (by omega) (fun c8 => ?_) (fun c8 => ?_)
  · have hvx := hv1.1 p hp
    have hvl := hvx.2.2.1
    refine ap_iload_n dX10_textOf_15 rfl rfl ?_
    refine ap_aload_n dX10_textOf_16 rfl rfl ?_
    refine ap_get ff_X10_7 dX10_textOf_17 (by omega) hM rfl ?_
    refine ap_bipush dX10_textOf_20 (by decide) ?_
    refine ap_iload_n dX10_textOf_22 rfl rfl ?_
    refine ap_imul dX10_textOf_23 ?_
    refine ap_iald (j := 101 * p) dX10_textOf_24 (by omega) hV (by omega) (by omega) ?_
    refine ap_topi (b := ((s_t C p).length : Int)) (show (g (101 * p)) = ((s_t C p).length : Int) from hvx.1) ?_
    refine ap_icmp_ge (tgt := 44) dX10_textOf_25 (by decide) (by omega) (fun c25 => ?_) (fun c25 => ?_)
    · refine ap_bipush dX10_textOf_44 (by decide) ?_
      exact ap_iret dX10_textOf_46 rfl rfl (Nat.le_of_ble_eq_true rfl) (Nat.le_of_ble_eq_true rfl) (⟨by rw [if_neg (by omega), tat, if_neg (by omega)], rfl, hX, fun x hx => rfl⟩)
    · refine ap_aload_n dX10_textOf_28 rfl rfl ?_
      refine ap_get ff_X10_7 dX10_textOf_29 (by omega) hM rfl ?_
      refine ap_bipush dX10_textOf_32 (by decide) ?_
      refine ap_iload_n dX10_textOf_34 rfl rfl ?_
      refine ap_imul dX10_textOf_35 ?_
      refine ap_iconst dX10_textOf_36 ?_
      refine ap_iadd dX10_textOf_37 ?_
      refine ap_iload_n dX10_textOf_38 rfl rfl ?_
      refine ap_iadd dX10_textOf_39 ?_
      refine ap_iald (j := 101 * p + 1 + j.toNat) dX10_textOf_40 (by omega) hV (by omega) (by omega) ?_
      refine ap_goto (tgt := 46) dX10_textOf_41 (by decide) ?_
      exact ap_iret dX10_textOf_46 rfl rfl (Nat.le_of_ble_eq_true rfl) (Nat.le_of_ble_eq_true rfl) (⟨by rw [if_neg (by omega), tat, if_pos (by omega), hvx.2.1 j.toNat (by omega)], rfl, hX, fun x hx => rfl⟩)
  · refine ap_iconst dX10_textOf_11 ?_
    refine ap_goto (tgt := 46) dX10_textOf_12 (by decide) ?_
    exact ap_iret dX10_textOf_46 rfl rfl (Nat.le_of_ble_eq_true rfl) (Nat.le_of_ble_eq_true rfl) (⟨by rw [if_pos (by omega)], rfl, hX, fun x hx => rfl⟩)

set_option maxHeartbeats 4000000 in
set_option maxRecDepth 100000 in
theorem cy_unfolded {N : Nat} {μ : am_M} {b : List Int} {C : Snap} {rem : Nat} {hs : Nat → Snap} (hX : Mx μ b C rem hs) (hN : 141 ≤ N) {p : Nat} (hp : p < 4) {P : PS} (hPe : psc (s_t C p) = P) {j : Int} (hj : -2147483648 ≤ j ∧ j ≤ 2147483647) : am_Met YX10_unfolded [.ref 120, am_i (p : Int), am_i j] N μ (mq N μ (am_i (if j < 0 then -1 else tat (uf (s_t C p) 0) j)) b C rem hs) := by
  obtain ⟨⟨zm, zd, ze, zi, zu, zc, zg, hM⟩, ⟨g, hV, hv1⟩, ⟨h, hH, hh1⟩, ⟨tg, hT, ht1⟩, ⟨fi, hI⟩, hS, ⟨f8, h138⟩, ⟨f9, h139⟩, ⟨f0, h140⟩, hr5, hb1, hb2, hC, hhs⟩ := id hX
  refine am_met (by first | decide | rfl) (Nat.le_of_ble_eq_true rfl) (fun h => by first | rfl | cases h) ?_
  show am_W YX10_unfolded _ 0 0 0 [(0, .ref 120), (1, am_i (p : Int)), (2, am_i j)] [] _ _
  refine ap_iload_n dX10_unfolded_0 rfl rfl ?_
  refine ap_cS (As := [am_i (p : Int)]) (rest := []) (cm_isPart (by omega)) dX10_unfolded_1 lk_X10_163 hy_X10_isPart rfl (Nat.le_of_ble_eq_true rfl) ⟨Nat.le_of_ble_eq_true rfl, Nat.le_of_ble_eq_true rfl⟩ ⟨rfl, rfl⟩ ⟨Nat.le_of_ble_eq_true rfl, Nat.le_of_ble_eq_true rfl⟩ (fun xr1 xN2 μ3 xq4 => ?_)
  obtain ⟨rfl, rfl, rfl⟩ := xq4
  refine ap_topi (b := 1) (show (if 0 ≤ (p : Int) ∧ (p : Int) ≤ 3 then 1 else 0) = 1 from if_pos (by omega)) ?_
  refine ap_if_eq (tgt := 11) dX10_unfolded_4 (by decide) (by omega) (fun c4 => (by exfalso; omega)) (fun c4 => ?_)
  refine ap_iload_n dX10_unfolded_7 rfl rfl ?_
  refine ap_if_ge (tgt := 13) dX10_unfolded_8 (by decide) (by omega) (fun c8 => ?_) (fun c8 => ?_)
  · obtain ⟨⟨f25, h125⟩, hS2⟩ := id hS
    have hgt := (hC.1 p hp).1
    have hul := hgt.2.2.2.1
    refine ap_aload_n dX10_unfolded_13 rfl rfl ?_
    refine ap_iload_n dX10_unfolded_14 rfl rfl ?_
    refine ap_cV (As := [am_i (p : Int)]) (rest := []) (cm_unfolds (p := p) (xs := s_t C p) hM hV hN hp (hv1.1 p hp) h125 hgt.2.1 hgt.2.2.1 (by omega)) dX10_unfolded_15 lk_X10_148 hy_X10_unfolds rfl (by omega) hM ⟨_, _, rfl⟩ (Nat.le_of_ble_eq_true rfl) ⟨Nat.le_of_ble_eq_true rfl, Nat.le_of_ble_eq_true rfl⟩ ⟨rfl, rfl⟩ ⟨Nat.le_of_ble_eq_true rfl, Nat.le_of_ble_eq_true rfl⟩ (fun xr5 xN6 μz xq7 => ?_)
    obtain ⟨rfl, rfl, hz2, h2, hz1, hz3, hz4⟩ := xq7
    refine ap_iload_n dX10_unfolded_18 rfl rfl ?_
    refine ap_aload_n dX10_unfolded_19 rfl rfl ?_
    refine ap_get ff_X10_124 dX10_unfolded_20 (by omega) hz1 rfl ?_
    refine ap_icmp_ge (tgt := 35) dX10_unfolded_23 (by decide) (by omega) (fun c23 => ?_) (fun c23 => ?_)
    · refine ap_bipush dX10_unfolded_35 (by decide) ?_
      have xm8 : μz 121 = am_I 0 420 g := (hz2 _ (by omega)).trans hV
      have xm9 : μz 122 = am_I 0 2100 h := (hz2 _ (by omega)).trans hH
      have xm10 : μz 123 = am_I 0 100 tg := (hz2 _ (by omega)).trans hT
      have xm11 : μz 124 = am_I 0 4 fi := (hz2 _ (by omega)).trans hI
      have xm12 : μz 138 = am_I 0 101 f8 := (hz2 _ (by omega)).trans h138
      have xm13 : μz 139 = am_I 0 100 f9 := (hz2 _ (by omega)).trans h139
      have xm14 : μz 140 = am_I 0 4 f0 := (hz2 _ (by omega)).trans h140
      exact ap_iret dX10_unfolded_37 rfl rfl (Nat.le_of_ble_eq_true rfl) (Nat.le_of_ble_eq_true rfl) (⟨by rw [if_neg (by omega), tat, if_neg (by omega)], rfl, ⟨⟨_, _, _, _, _, _, _, hz1⟩, ⟨_, xm8, hv1⟩, ⟨_, xm9, hh1⟩, ⟨_, xm10, ht1⟩, ⟨_, xm11⟩, ⟨⟨h2, hz3⟩, (hS.kept2 (fun x y1 y2 => hz2 x (by omega)))⟩, ⟨_, xm12⟩, ⟨_, xm13⟩, ⟨_, xm14⟩, hr5, hb1, hb2, hC, hhs⟩, fun x hx => (hz2 x (by omega))⟩)
    · refine ap_aload_n dX10_unfolded_26 rfl rfl ?_
      refine ap_get ff_X10_22 dX10_unfolded_27 (by omega) hz1 rfl ?_
      refine ap_iload_n dX10_unfolded_30 rfl rfl ?_
      refine ap_iald (j := j.toNat) dX10_unfolded_31 (by omega) hz3 (by omega) (by omega) ?_
      refine ap_goto (tgt := 37) dX10_unfolded_32 (by decide) ?_
      have xm15 : μz 121 = am_I 0 420 g := (hz2 _ (by omega)).trans hV
      have xm16 : μz 122 = am_I 0 2100 h := (hz2 _ (by omega)).trans hH
      have xm17 : μz 123 = am_I 0 100 tg := (hz2 _ (by omega)).trans hT
      have xm18 : μz 124 = am_I 0 4 fi := (hz2 _ (by omega)).trans hI
      have xm19 : μz 138 = am_I 0 101 f8 := (hz2 _ (by omega)).trans h138
      have xm20 : μz 139 = am_I 0 100 f9 := (hz2 _ (by omega)).trans h139
      have xm21 : μz 140 = am_I 0 4 f0 := (hz2 _ (by omega)).trans h140
      exact ap_iret dX10_unfolded_37 rfl rfl (Nat.le_of_ble_eq_true rfl) (Nat.le_of_ble_eq_true rfl) (⟨by rw [if_neg (by omega), tat, if_pos (by omega), hz4 j.toNat (by omega)], rfl, ⟨⟨_, _, _, _, _, _, _, hz1⟩, ⟨_, xm15, hv1⟩, ⟨_, xm16, hh1⟩, ⟨_, xm17, ht1⟩, ⟨_, xm18⟩, ⟨⟨h2, hz3⟩, (hS.kept2 (fun x y1 y2 => hz2 x (by omega)))⟩, ⟨_, xm19⟩, ⟨_, xm20⟩, ⟨_, xm21⟩, hr5, hb1, hb2, hC, hhs⟩, fun x hx => (hz2 x (by omega))⟩)
  · refine ap_iconst dX10_unfolded_11 ?_
    exact ap_iret dX10_unfolded_12 rfl rfl (Nat.le_of_ble_eq_true rfl) (Nat.le_of_ble_eq_true rfl) (⟨by rw [if_pos (by omega)], rfl, hX, fun x hx => rfl⟩)

set_option maxHeartbeats 4000000 in
set_option maxRecDepth 100000 in
theorem cy_events {N : Nat} {μ : am_M} {b : List Int} {C : Snap} {rem : Nat} {hs : Nat → Snap} (hX : Mx μ b C rem hs) (hN : 141 ≤ N) {p : Nat} (hp : p < 4) {P : PS} (hPe : psc (s_t C p) = P) : am_Met YX10_events [.ref 120, am_i (p : Int)] N μ (mq N μ (am_i (p_cnt P : Int)) b C rem hs) := by
  obtain ⟨⟨zm, zd, ze, zi, zu, zc, zg, hM⟩, ⟨g, hV, hv1⟩, ⟨h, hH, hh1⟩, ⟨tg, hT, ht1⟩, ⟨fi, hI⟩, hS, ⟨f8, h138⟩, ⟨f9, h139⟩, ⟨f0, h140⟩, hr5, hb1, hb2, hC, hhs⟩ := id hX
  have hpk := gtx_pok (hC.1 p hp)
  rw [hPe] at hpk
  obtain ⟨g1, g2, g3, g4, g5, g6, g7, g8, g9⟩ := id hpk
  obtain ⟨k1, k2, k3, k4⟩ := id hC.2
  refine am_met (by first | decide | rfl) (Nat.le_of_ble_eq_true rfl) (fun h => by first | rfl | cases h) ?_
  show am_W YX10_events _ 0 0 0 [(0, .ref 120), (1, am_i (p : Int))] [] _ _
  refine ap_iload_n dX10_events_0 rfl rfl ?_
  refine ap_cS (As := [am_i (p : Int)]) (rest := []) (cm_isPart (by omega)) dX10_events_1 lk_X10_163 hy_X10_isPart rfl (Nat.le_of_ble_eq_true rfl) ⟨Nat.le_of_ble_eq_true rfl, Nat.le_of_ble_eq_true rfl⟩ ⟨rfl, rfl⟩ ⟨Nat.le_of_ble_eq_true rfl, Nat.le_of_ble_eq_true rfl⟩ (fun xr1 xN2 μ3 xq4 => ?_)
  obtain ⟨rfl, rfl, rfl⟩ := xq4
  refine ap_topi (b := 1) (show (if 0 ≤ (p : Int) ∧ (p : Int) ≤ 3 then 1 else 0) = 1 from if_pos (by omega)) ?_
  refine ap_if_ne (tgt := 9) dX10_events_4 (by decide) (by omega) (fun c4 => ?_) (fun c4 => (by exfalso; omega))
  refine ap_aload_n dX10_events_9 rfl rfl ?_
  refine ap_iload_n dX10_events_10 rfl rfl ?_
  refine ap_cV (As := [am_i (p : Int)]) (rest := []) (cm_worksX hX hN hp) dX10_events_11 lk_X10_174 hy_X10_works rfl (by omega) hM ⟨_, _, rfl⟩ (Nat.le_of_ble_eq_true rfl) ⟨Nat.le_of_ble_eq_true rfl, Nat.le_of_ble_eq_true rfl⟩ ⟨rfl, rfl⟩ ⟨Nat.le_of_ble_eq_true rfl, Nat.le_of_ble_eq_true rfl⟩ (fun xr5 xN6 μw xq7 => ?_)
  obtain ⟨rfl, rfl, hY, hWd, hBd, hK, hF⟩ := xq7
  rw [hPe] at hWd hBd
  obtain ⟨⟨ym, yd, ye, yi, yu, yc, yg, hM2⟩, ⟨g2_, hV2, hv2⟩, -⟩ := id hY
  obtain ⟨fo, fs, fa, fb, fn, fm, fl, ⟨m1, m2, m3, m4, m5, m6, m7⟩, m8, m9, m10, m11⟩ := id hWd
  obtain ⟨fc, bl, be, ⟨n1, n2, n3⟩, n4, n5⟩ := id hBd
  refine ap_aload_n dX10_events_14 rfl rfl ?_
  refine ap_get ff_X10_41 dX10_events_15 (by omega) hM2 rfl ?_
  refine ap_iload_n dX10_events_18 rfl rfl ?_
  refine ap_iald (j := p) dX10_events_19 (by omega) m6 (by omega) (by omega) ?_
  refine ap_topi (b := (p_cnt P : Int)) (show (fm p) = (p_cnt P : Int) from m9) ?_
  exact ap_iret dX10_events_20 rfl rfl (Nat.le_of_ble_eq_true rfl) (Nat.le_of_ble_eq_true rfl) (⟨rfl, rfl, hY, fun x hx => hF x (by omega)⟩)

set_option maxHeartbeats 4000000 in
set_option maxRecDepth 100000 in
theorem cy_bars {N : Nat} {μ : am_M} {b : List Int} {C : Snap} {rem : Nat} {hs : Nat → Snap} (hX : Mx μ b C rem hs) (hN : 141 ≤ N) {p : Nat} (hp : p < 4) {P : PS} (hPe : psc (s_t C p) = P) : am_Met YX10_bars [.ref 120, am_i (p : Int)] N μ (mq N μ (am_i (p_nb P : Int)) b C rem hs) := by
  obtain ⟨⟨zm, zd, ze, zi, zu, zc, zg, hM⟩, ⟨g, hV, hv1⟩, ⟨h, hH, hh1⟩, ⟨tg, hT, ht1⟩, ⟨fi, hI⟩, hS, ⟨f8, h138⟩, ⟨f9, h139⟩, ⟨f0, h140⟩, hr5, hb1, hb2, hC, hhs⟩ := id hX
  have hpk := gtx_pok (hC.1 p hp)
  rw [hPe] at hpk
  obtain ⟨g1, g2, g3, g4, g5, g6, g7, g8, g9⟩ := id hpk
  obtain ⟨k1, k2, k3, k4⟩ := id hC.2
  refine am_met (by first | decide | rfl) (Nat.le_of_ble_eq_true rfl) (fun h => by first | rfl | cases h) ?_
  show am_W YX10_bars _ 0 0 0 [(0, .ref 120), (1, am_i (p : Int))] [] _ _
  refine ap_iload_n dX10_bars_0 rfl rfl ?_
  refine ap_cS (As := [am_i (p : Int)]) (rest := []) (cm_isPart (by omega)) dX10_bars_1 lk_X10_163 hy_X10_isPart rfl (Nat.le_of_ble_eq_true rfl) ⟨Nat.le_of_ble_eq_true rfl, Nat.le_of_ble_eq_true rfl⟩ ⟨rfl, rfl⟩ ⟨Nat.le_of_ble_eq_true rfl, Nat.le_of_ble_eq_true rfl⟩ (fun xr1 xN2 μ3 xq4 => ?_)
  obtain ⟨rfl, rfl, rfl⟩ := xq4
  refine ap_topi (b := 1) (show (if 0 ≤ (p : Int) ∧ (p : Int) ≤ 3 then 1 else 0) = 1 from if_pos (by omega)) ?_
  refine ap_if_ne (tgt := 9) dX10_bars_4 (by decide) (by omega) (fun c4 => ?_) (fun c4 => (by exfalso; omega))
  refine ap_aload_n dX10_bars_9 rfl rfl ?_
  refine ap_iload_n dX10_bars_10 rfl rfl ?_
  refine ap_cV (As := [am_i (p : Int)]) (rest := []) (cm_worksX hX hN hp) dX10_bars_11 lk_X10_174 hy_X10_works rfl (by omega) hM ⟨_, _, rfl⟩ (Nat.le_of_ble_eq_true rfl) ⟨Nat.le_of_ble_eq_true rfl, Nat.le_of_ble_eq_true rfl⟩ ⟨rfl, rfl⟩ ⟨Nat.le_of_ble_eq_true rfl, Nat.le_of_ble_eq_true rfl⟩ (fun xr5 xN6 μw xq7 => ?_)
  obtain ⟨rfl, rfl, hY, hWd, hBd, hK, hF⟩ := xq7
  rw [hPe] at hWd hBd
  obtain ⟨⟨ym, yd, ye, yi, yu, yc, yg, hM2⟩, ⟨g2_, hV2, hv2⟩, -⟩ := id hY
  obtain ⟨fo, fs, fa, fb, fn, fm, fl, ⟨m1, m2, m3, m4, m5, m6, m7⟩, m8, m9, m10, m11⟩ := id hWd
  obtain ⟨fc, bl, be, ⟨n1, n2, n3⟩, n4, n5⟩ := id hBd
  refine ap_aload_n dX10_bars_14 rfl rfl ?_
  refine ap_get ff_X10_47 dX10_bars_15 (by omega) hM2 rfl ?_
  refine ap_iload_n dX10_bars_18 rfl rfl ?_
  refine ap_iald (j := p) dX10_bars_19 (by omega) n1 (by omega) (by omega) ?_
  refine ap_topi (b := (p_nb P : Int)) (show (fc p) = (p_nb P : Int) from n4) ?_
  exact ap_iret dX10_bars_20 rfl rfl (Nat.le_of_ble_eq_true rfl) (Nat.le_of_ble_eq_true rfl) (⟨rfl, rfl, hY, fun x hx => hF x (by omega)⟩)

set_option maxHeartbeats 4000000 in
set_option maxRecDepth 100000 in
theorem cy_length {N : Nat} {μ : am_M} {b : List Int} {C : Snap} {rem : Nat} {hs : Nat → Snap} (hX : Mx μ b C rem hs) (hN : 141 ≤ N) {p : Nat} (hp : p < 4) {P : PS} (hPe : psc (s_t C p) = P) {w : Int} (hw : -2147483648 ≤ w ∧ w ≤ 2147483647) : am_Met YX10_length [.ref 120, am_i (p : Int), am_i w] N μ (mq N μ (am_l (if w = 0 ∨ w = 1 then sd (p_tot P).toNat 812851200 w else -1)) b C rem hs) := by
  obtain ⟨⟨zm, zd, ze, zi, zu, zc, zg, hM⟩, ⟨g, hV, hv1⟩, ⟨h, hH, hh1⟩, ⟨tg, hT, ht1⟩, ⟨fi, hI⟩, hS, ⟨f8, h138⟩, ⟨f9, h139⟩, ⟨f0, h140⟩, hr5, hb1, hb2, hC, hhs⟩ := id hX
  have hpk := gtx_pok (hC.1 p hp)
  rw [hPe] at hpk
  obtain ⟨g1, g2, g3, g4, g5, g6, g7, g8, g9⟩ := id hpk
  obtain ⟨k1, k2, k3, k4⟩ := id hC.2
  refine am_met (by first | decide | rfl) (Nat.le_of_ble_eq_true rfl) (fun h => by first | rfl | cases h) ?_
  show am_W YX10_length _ 0 0 0 [(0, .ref 120), (1, am_i (p : Int)), (2, am_i w)] [] _ _
  refine ap_iload_n dX10_length_0 rfl rfl ?_
  refine ap_cS (As := [am_i (p : Int)]) (rest := []) (cm_isPart (by omega)) dX10_length_1 lk_X10_163 hy_X10_isPart rfl (Nat.le_of_ble_eq_true rfl) ⟨Nat.le_of_ble_eq_true rfl, Nat.le_of_ble_eq_true rfl⟩ ⟨rfl, rfl⟩ ⟨Nat.le_of_ble_eq_true rfl, Nat.le_of_ble_eq_true rfl⟩ (fun xr1 xN2 μ3 xq4 => ?_)
  obtain ⟨rfl, rfl, rfl⟩ := xq4
  refine ap_topi (b := 1) (show (if 0 ≤ (p : Int) ∧ (p : Int) ≤ 3 then 1 else 0) = 1 from if_pos (by omega)) ?_
  refine ap_if_eq (tgt := 16) dX10_length_4 (by decide) (by omega) (fun c4 => (by exfalso; omega)) (fun c4 => ?_)
  refine ap_iload_n dX10_length_7 rfl rfl ?_
  refine ap_iconst dX10_length_8 ?_
  refine ap_iconst dX10_length_9 ?_
  refine ap_cS (As := [am_i w, am_i 0, am_i 1]) (rest := []) (cm_in hw (by omega) (by omega)) dX10_length_10 lk_X10_76 hy_X10_in rfl (Nat.le_of_ble_eq_true rfl) ⟨Nat.le_of_ble_eq_true rfl, Nat.le_of_ble_eq_true rfl⟩ ⟨rfl, rfl⟩ ⟨Nat.le_of_ble_eq_true rfl, Nat.le_of_ble_eq_true rfl⟩ (fun xr5 xN6 μ7 xq8 => ?_)
  obtain ⟨rfl, rfl, rfl⟩ := xq8
  refine ap_if_ne (tgt := 20) dX10_length_13 (by decide) (itr) (fun c13 => ?_) (fun c13 => ?_)
  · refine ap_aload_n dX10_length_20 rfl rfl ?_
    refine ap_iload_n dX10_length_21 rfl rfl ?_
    refine ap_cV (As := [am_i (p : Int)]) (rest := []) (cm_worksX hX hN hp) dX10_length_22 lk_X10_174 hy_X10_works rfl (by omega) hM ⟨_, _, rfl⟩ (Nat.le_of_ble_eq_true rfl) ⟨Nat.le_of_ble_eq_true rfl, Nat.le_of_ble_eq_true rfl⟩ ⟨rfl, rfl⟩ ⟨Nat.le_of_ble_eq_true rfl, Nat.le_of_ble_eq_true rfl⟩ (fun xr9 xN10 μw xq11 => ?_)
    obtain ⟨rfl, rfl, hY, hWd, hBd, hK, hF⟩ := xq11
    rw [hPe] at hWd hBd
    obtain ⟨⟨ym, yd, ye, yi, yu, yc, yg, hM2⟩, ⟨g2_, hV2, hv2⟩, -⟩ := id hY
    obtain ⟨fo, fs, fa, fb, fn, fm, fl, ⟨m1, m2, m3, m4, m5, m6, m7⟩, m8, m9, m10, m11⟩ := id hWd
    obtain ⟨fc, bl, be, ⟨n1, n2, n3⟩, n4, n5⟩ := id hBd
    refine ap_aload_n dX10_length_25 rfl rfl ?_
    refine ap_get ff_X10_44 dX10_length_26 (by omega) hM2 rfl ?_
    refine ap_iload_n dX10_length_29 rfl rfl ?_
    refine ap_lald (j := p) dX10_length_30 (by omega) m7 (by omega) (by omega) ?_
    refine ap_topl (b := p_tot P) (show (fl p) = (p_tot P) from m10) ?_
    refine ap_topl (b := (((p_tot P).toNat : Nat) : Int)) (show (p_tot P) = (((p_tot P).toNat : Nat) : Int) from by omega) ?_
    refine ap_ldc2 dX10_length_31 kl_X10_138 ?_
    refine ap_iload_n dX10_length_34 rfl rfl ?_
    refine ap_cS (As := [am_l (((p_tot P).toNat : Nat) : Int), am_l 812851200, am_i w]) (rest := []) (cm_told (x := (p_tot P).toNat) (d := 812851200) rfl rfl (by omega) (by omega) hw) dX10_length_35 lk_X10_186 hy_X10_told rfl (Nat.le_of_ble_eq_true rfl) ⟨Nat.le_of_ble_eq_true rfl, Nat.le_of_ble_eq_true rfl⟩ ⟨rfl, rfl⟩ ⟨Nat.le_of_ble_eq_true rfl, Nat.le_of_ble_eq_true rfl⟩ (fun xr12 xN13 μ14 xq15 => ?_)
    obtain ⟨rfl, rfl, rfl⟩ := xq15
    exact ap_lret dX10_length_38 rfl (Nat.le_of_ble_eq_true rfl) (Nat.le_of_ble_eq_true rfl) (⟨by rw [if_pos (by have := it1 c13; omega)], rfl, hY, fun x hx => hF x (by omega)⟩)
  · refine ap_ldc2 dX10_length_16 kl_X10_184 ?_
    exact ap_lret dX10_length_19 rfl (Nat.le_of_ble_eq_true rfl) (Nat.le_of_ble_eq_true rfl) (⟨by rw [if_neg (by have := it2 c13; omega)], rfl, hX, fun x hx => rfl⟩)

set_option maxHeartbeats 4000000 in
set_option maxRecDepth 100000 in
theorem cm_isEventP {N : Nat} {μ : am_M} {b : List Int} {C : Snap} {rem : Nat} {hs : Nat → Snap} (hX : Mx μ b C rem hs) (hN : 141 ≤ N) {p : Nat} (hp : p < 4) {P : PS} (hPe : psc (s_t C p) = P) {i : Int} (hi : -2147483648 ≤ i ∧ i ≤ 2147483647) : am_Met YX10_isEvent [.ref 120, am_i (p : Int), am_i i] N μ (fun r N2 μ2 => r = some (am_i (if 0 ≤ i ∧ i < (p_cnt P : Int) then 1 else 0)) ∧ N = N2 ∧ wx μ μ2 b C rem hs p) := by
  obtain ⟨⟨zm, zd, ze, zi, zu, zc, zg, hM⟩, ⟨g, hV, hv1⟩, ⟨h, hH, hh1⟩, ⟨tg, hT, ht1⟩, ⟨fi, hI⟩, hS, ⟨f8, h138⟩, ⟨f9, h139⟩, ⟨f0, h140⟩, hr5, hb1, hb2, hC, hhs⟩ := id hX
  have hpk := gtx_pok (hC.1 p hp)
  rw [hPe] at hpk
  obtain ⟨g1, g2, g3, g4, g5, g6, g7, g8, g9⟩ := id hpk
  obtain ⟨k1, k2, k3, k4⟩ := id hC.2
  refine am_met (by first | decide | rfl) (Nat.le_of_ble_eq_true rfl) (fun h => by first | rfl | cases h) ?_
  show am_W YX10_isEvent _ 0 0 0 [(0, .ref 120), (1, am_i (p : Int)), (2, am_i i)] [] _ _
  refine ap_iload_n dX10_isEvent_0 rfl rfl ?_
  refine ap_cS (As := [am_i (p : Int)]) (rest := []) (cm_isPart (by omega)) dX10_isEvent_1 lk_X10_163 hy_X10_isPart rfl (Nat.le_of_ble_eq_true rfl) ⟨Nat.le_of_ble_eq_true rfl, Nat.le_of_ble_eq_true rfl⟩ ⟨rfl, rfl⟩ ⟨Nat.le_of_ble_eq_true rfl, Nat.le_of_ble_eq_true rfl⟩ (fun xr1 xN2 μ3 xq4 => ?_)
  obtain ⟨rfl, rfl, rfl⟩ := xq4
  refine ap_topi (b := 1) (show (if 0 ≤ (p : Int) ∧ (p : Int) ≤ 3 then 1 else 0) = 1 from if_pos (by omega)) ?_
  refine ap_if_ne (tgt := 9) dX10_isEvent_4 (by decide) (by omega) (fun c4 => ?_) (fun c4 => (by exfalso; omega))
  refine ap_aload_n dX10_isEvent_9 rfl rfl ?_
  refine ap_iload_n dX10_isEvent_10 rfl rfl ?_
  refine ap_cV (As := [am_i (p : Int)]) (rest := []) (cm_worksX hX hN hp) dX10_isEvent_11 lk_X10_174 hy_X10_works rfl (by omega) hM ⟨_, _, rfl⟩ (Nat.le_of_ble_eq_true rfl) ⟨Nat.le_of_ble_eq_true rfl, Nat.le_of_ble_eq_true rfl⟩ ⟨rfl, rfl⟩ ⟨Nat.le_of_ble_eq_true rfl, Nat.le_of_ble_eq_true rfl⟩ (fun xr5 xN6 μw xq7 => ?_)
  have hq0 := xq7
  obtain ⟨rfl, rfl, hY, hWd, hBd, hK, hF⟩ := id xq7
  rw [hPe] at hWd hBd
  obtain ⟨⟨ym, yd, ye, yi, yu, yc, yg, hM2⟩, ⟨g2_, hV2, hv2⟩, -⟩ := id hY
  obtain ⟨fo, fs, fa, fb, fn, fm, fl, ⟨m1, m2, m3, m4, m5, m6, m7⟩, m8, m9, m10, m11⟩ := id hWd
  obtain ⟨fc, bl, be, ⟨n1, n2, n3⟩, n4, n5⟩ := id hBd
  refine ap_iload_n dX10_isEvent_14 rfl rfl ?_
  refine ap_iconst dX10_isEvent_15 ?_
  refine ap_aload_n dX10_isEvent_16 rfl rfl ?_
  refine ap_get ff_X10_41 dX10_isEvent_17 (by omega) hM2 rfl ?_
  refine ap_iload_n dX10_isEvent_20 rfl rfl ?_
  refine ap_iald (j := p) dX10_isEvent_21 (by omega) m6 (by omega) (by omega) ?_
  refine ap_topi (b := (p_cnt P : Int)) (show (fm p) = (p_cnt P : Int) from m9) ?_
  refine ap_iconst dX10_isEvent_22 ?_
  refine ap_isub dX10_isEvent_23 ?_
  refine ap_cS (As := [am_i i, am_i 0, am_i ((p_cnt P : Int) - 1)]) (rest := []) (cm_in hi (by omega) (by omega)) dX10_isEvent_24 lk_X10_76 hy_X10_in rfl (Nat.le_of_ble_eq_true rfl) ⟨Nat.le_of_ble_eq_true rfl, Nat.le_of_ble_eq_true rfl⟩ ⟨rfl, rfl⟩ ⟨Nat.le_of_ble_eq_true rfl, Nat.le_of_ble_eq_true rfl⟩ (fun xr8 xN9 μ10 xq11 => ?_)
  obtain ⟨rfl, rfl, rfl⟩ := xq11
  exact ap_iret dX10_isEvent_27 rfl (am_nz (by split <;> omega)) (Nat.le_of_ble_eq_true rfl) (Nat.le_of_ble_eq_true rfl) (⟨by simp only [show (i ≤ (p_cnt P : Int) - 1) ↔ i < (p_cnt P : Int) by omega], rfl, hq0.2.2⟩)

set_option maxHeartbeats 4000000 in
set_option maxRecDepth 100000 in
theorem cy_onset {N : Nat} {μ : am_M} {b : List Int} {C : Snap} {rem : Nat} {hs : Nat → Snap} (hX : Mx μ b C rem hs) (hN : 141 ≤ N) {p : Nat} (hp : p < 4) {P : PS} (hPe : psc (s_t C p) = P) {i w : Int} (hi : -2147483648 ≤ i ∧ i ≤ 2147483647) (hw : -2147483648 ≤ w ∧ w ≤ 2147483647) : am_Met YX10_onset [.ref 120, am_i (p : Int), am_i i, am_i w] N μ (mq N μ (am_l (q_ev P i w (p_B P))) b C rem hs) := by
  obtain ⟨⟨zm, zd, ze, zi, zu, zc, zg, hM⟩, ⟨g, hV, hv1⟩, ⟨h, hH, hh1⟩, ⟨tg, hT, ht1⟩, ⟨fi, hI⟩, hS, ⟨f8, h138⟩, ⟨f9, h139⟩, ⟨f0, h140⟩, hr5, hb1, hb2, hC, hhs⟩ := id hX
  have hpk := gtx_pok (hC.1 p hp)
  rw [hPe] at hpk
  obtain ⟨g1, g2, g3, g4, g5, g6, g7, g8, g9⟩ := id hpk
  obtain ⟨k1, k2, k3, k4⟩ := id hC.2
  refine am_met (by first | decide | rfl) (Nat.le_of_ble_eq_true rfl) (fun h => by first | rfl | cases h) ?_
  show am_W YX10_onset _ 0 0 0 [(0, .ref 120), (1, am_i (p : Int)), (2, am_i i), (3, am_i w)] [] _ _
  refine ap_iload_n dX10_onset_0 rfl rfl ?_
  refine ap_iconst dX10_onset_1 ?_
  refine ap_iconst dX10_onset_2 ?_
  refine ap_cS (As := [am_i w, am_i 0, am_i 1]) (rest := []) (cm_in hw (by omega) (by omega)) dX10_onset_3 lk_X10_76 hy_X10_in rfl (Nat.le_of_ble_eq_true rfl) ⟨Nat.le_of_ble_eq_true rfl, Nat.le_of_ble_eq_true rfl⟩ ⟨rfl, rfl⟩ ⟨Nat.le_of_ble_eq_true rfl, Nat.le_of_ble_eq_true rfl⟩ (fun xr1 xN2 μ3 xq4 => ?_)
  obtain ⟨rfl, rfl, rfl⟩ := xq4
  refine ap_if_eq (tgt := 40) dX10_onset_6 (by decide) (itr) (fun c6 => ?_) (fun c6 => ?_)
  · refine ap_ldc2 dX10_onset_40 kl_X10_184 ?_
    exact ap_lret dX10_onset_43 rfl (Nat.le_of_ble_eq_true rfl) (Nat.le_of_ble_eq_true rfl) (⟨by rw [q_ev, if_neg (by have := it2 c6; omega)], rfl, hX, fun x hx => rfl⟩)
  · refine ap_aload_n dX10_onset_9 rfl rfl ?_
    refine ap_iload_n dX10_onset_10 rfl rfl ?_
    refine ap_iload_n dX10_onset_11 rfl rfl ?_
    refine ap_cV (As := [am_i (p : Int), am_i i]) (rest := []) (cm_isEventP hX hN hp hPe hi) dX10_onset_12 lk_X10_190 hy_X10_isEvent rfl (by omega) hM ⟨_, _, rfl⟩ (Nat.le_of_ble_eq_true rfl) ⟨Nat.le_of_ble_eq_true rfl, Nat.le_of_ble_eq_true rfl⟩ ⟨rfl, rfl⟩ ⟨Nat.le_of_ble_eq_true rfl, Nat.le_of_ble_eq_true rfl⟩ (fun xr5 xN6 μw xq7 => ?_)
    obtain ⟨rfl, rfl, hY, hWd, hBd, hK, hF⟩ := xq7
    rw [hPe] at hWd hBd
    obtain ⟨⟨ym, yd, ye, yi, yu, yc, yg, hM2⟩, ⟨g2_, hV2, hv2⟩, -⟩ := id hY
    obtain ⟨fo, fs, fa, fb, fn, fm, fl, ⟨m1, m2, m3, m4, m5, m6, m7⟩, m8, m9, m10, m11⟩ := id hWd
    obtain ⟨fc, bl, be, ⟨n1, n2, n3⟩, n4, n5⟩ := id hBd
    refine ap_if_eq (tgt := 40) dX10_onset_15 (by decide) (itr) (fun c15 => ?_) (fun c15 => ?_)
    · refine ap_ldc2 dX10_onset_40 kl_X10_184 ?_
      exact ap_lret dX10_onset_43 rfl (Nat.le_of_ble_eq_true rfl) (Nat.le_of_ble_eq_true rfl) (⟨by rw [q_ev, if_neg (by have := it2 c15; omega)], rfl, hY, fun x hx => hF x (by omega)⟩)
    · have kw := it1 c6
      have ki := it1 c15
      have h8 := m8 i.toNat (by omega)
      have r8 := g8 i.toNat (by omega)
      refine ap_aload_n dX10_onset_18 rfl rfl ?_
      refine ap_get ff_X10_25 dX10_onset_19 (by omega) hM2 rfl ?_
      refine ap_sipush dX10_onset_22 (by decide) ?_
      refine ap_iload_n dX10_onset_25 rfl rfl ?_
      refine ap_imul dX10_onset_26 ?_
      refine ap_iload_n dX10_onset_27 rfl rfl ?_
      refine ap_iadd dX10_onset_28 ?_
      refine ap_lald (j := 300 * p + i.toNat) dX10_onset_29 (by omega) m1 (by omega) (by omega) ?_
      refine ap_topl (b := p_B P i.toNat) (show (fo (300 * p + i.toNat)) = (p_B P i.toNat) from h8.1) ?_
      refine ap_topl (b := (((p_B P i.toNat).toNat : Nat) : Int)) (show (p_B P i.toNat) = (((p_B P i.toNat).toNat : Nat) : Int) from by omega) ?_
      refine ap_ldc2 dX10_onset_30 kl_X10_138 ?_
      refine ap_iload_n dX10_onset_33 rfl rfl ?_
      refine ap_cS (As := [am_l (((p_B P i.toNat).toNat : Nat) : Int), am_l 812851200, am_i w]) (rest := []) (cm_told (x := (p_B P i.toNat).toNat) (d := 812851200) rfl rfl (by omega) (by omega) hw) dX10_onset_34 lk_X10_186 hy_X10_told rfl (Nat.le_of_ble_eq_true rfl) ⟨Nat.le_of_ble_eq_true rfl, Nat.le_of_ble_eq_true rfl⟩ ⟨rfl, rfl⟩ ⟨Nat.le_of_ble_eq_true rfl, Nat.le_of_ble_eq_true rfl⟩ (fun xr8 xN9 μ10 xq11 => ?_)
      obtain ⟨rfl, rfl, rfl⟩ := xq11
      refine ap_goto (tgt := 43) dX10_onset_37 (by decide) ?_
      exact ap_lret dX10_onset_43 rfl (Nat.le_of_ble_eq_true rfl) (Nat.le_of_ble_eq_true rfl) (⟨by rw [q_ev, if_pos (by omega)], rfl, hY, fun x hx => hF x (by omega)⟩)

set_option maxHeartbeats 4000000 in
set_option maxRecDepth 100000 in
theorem cy_lasts {N : Nat} {μ : am_M} {b : List Int} {C : Snap} {rem : Nat} {hs : Nat → Snap} (hX : Mx μ b C rem hs) (hN : 141 ≤ N) {p : Nat} (hp : p < 4) {P : PS} (hPe : psc (s_t C p) = P) {i w : Int} (hi : -2147483648 ≤ i ∧ i ≤ 2147483647) (hw : -2147483648 ≤ w ∧ w ≤ 2147483647) : am_Met YX10_lasts [.ref 120, am_i (p : Int), am_i i, am_i w] N μ (mq N μ (am_l (q_ev P i w (fun j => p_E P j - p_B P j))) b C rem hs) := by
  obtain ⟨⟨zm, zd, ze, zi, zu, zc, zg, hM⟩, ⟨g, hV, hv1⟩, ⟨h, hH, hh1⟩, ⟨tg, hT, ht1⟩, ⟨fi, hI⟩, hS, ⟨f8, h138⟩, ⟨f9, h139⟩, ⟨f0, h140⟩, hr5, hb1, hb2, hC, hhs⟩ := id hX
  have hpk := gtx_pok (hC.1 p hp)
  rw [hPe] at hpk
  obtain ⟨g1, g2, g3, g4, g5, g6, g7, g8, g9⟩ := id hpk
  obtain ⟨k1, k2, k3, k4⟩ := id hC.2
  refine am_met (by first | decide | rfl) (Nat.le_of_ble_eq_true rfl) (fun h => by first | rfl | cases h) ?_
  show am_W YX10_lasts _ 0 0 0 [(0, .ref 120), (1, am_i (p : Int)), (2, am_i i), (3, am_i w)] [] _ _
  refine ap_iload_n dX10_lasts_0 rfl rfl ?_
  refine ap_iconst dX10_lasts_1 ?_
  refine ap_iconst dX10_lasts_2 ?_
  refine ap_cS (As := [am_i w, am_i 0, am_i 1]) (rest := []) (cm_in hw (by omega) (by omega)) dX10_lasts_3 lk_X10_76 hy_X10_in rfl (Nat.le_of_ble_eq_true rfl) ⟨Nat.le_of_ble_eq_true rfl, Nat.le_of_ble_eq_true rfl⟩ ⟨rfl, rfl⟩ ⟨Nat.le_of_ble_eq_true rfl, Nat.le_of_ble_eq_true rfl⟩ (fun xr1 xN2 μ3 xq4 => ?_)
  obtain ⟨rfl, rfl, rfl⟩ := xq4
  refine ap_if_eq (tgt := 40) dX10_lasts_6 (by decide) (itr) (fun c6 => ?_) (fun c6 => ?_)
  · refine ap_ldc2 dX10_lasts_40 kl_X10_184 ?_
    exact ap_lret dX10_lasts_43 rfl (Nat.le_of_ble_eq_true rfl) (Nat.le_of_ble_eq_true rfl) (⟨by rw [q_ev, if_neg (by have := it2 c6; omega)], rfl, hX, fun x hx => rfl⟩)
  · refine ap_aload_n dX10_lasts_9 rfl rfl ?_
    refine ap_iload_n dX10_lasts_10 rfl rfl ?_
    refine ap_iload_n dX10_lasts_11 rfl rfl ?_
    refine ap_cV (As := [am_i (p : Int), am_i i]) (rest := []) (cm_isEventP hX hN hp hPe hi) dX10_lasts_12 lk_X10_190 hy_X10_isEvent rfl (by omega) hM ⟨_, _, rfl⟩ (Nat.le_of_ble_eq_true rfl) ⟨Nat.le_of_ble_eq_true rfl, Nat.le_of_ble_eq_true rfl⟩ ⟨rfl, rfl⟩ ⟨Nat.le_of_ble_eq_true rfl, Nat.le_of_ble_eq_true rfl⟩ (fun xr5 xN6 μw xq7 => ?_)
    obtain ⟨rfl, rfl, hY, hWd, hBd, hK, hF⟩ := xq7
    rw [hPe] at hWd hBd
    obtain ⟨⟨ym, yd, ye, yi, yu, yc, yg, hM2⟩, ⟨g2_, hV2, hv2⟩, -⟩ := id hY
    obtain ⟨fo, fs, fa, fb, fn, fm, fl, ⟨m1, m2, m3, m4, m5, m6, m7⟩, m8, m9, m10, m11⟩ := id hWd
    obtain ⟨fc, bl, be, ⟨n1, n2, n3⟩, n4, n5⟩ := id hBd
    refine ap_if_eq (tgt := 40) dX10_lasts_15 (by decide) (itr) (fun c15 => ?_) (fun c15 => ?_)
    · refine ap_ldc2 dX10_lasts_40 kl_X10_184 ?_
      exact ap_lret dX10_lasts_43 rfl (Nat.le_of_ble_eq_true rfl) (Nat.le_of_ble_eq_true rfl) (⟨by rw [q_ev, if_neg (by have := it2 c15; omega)], rfl, hY, fun x hx => hF x (by omega)⟩)
    · have kw := it1 c6
      have ki := it1 c15
      have h8 := m8 i.toNat (by omega)
      have r8 := g8 i.toNat (by omega)
      refine ap_aload_n dX10_lasts_18 rfl rfl ?_
      refine ap_get ff_X10_29 dX10_lasts_19 (by omega) hM2 rfl ?_
      refine ap_sipush dX10_lasts_22 (by decide) ?_
      refine ap_iload_n dX10_lasts_25 rfl rfl ?_
      refine ap_imul dX10_lasts_26 ?_
      refine ap_iload_n dX10_lasts_27 rfl rfl ?_
      refine ap_iadd dX10_lasts_28 ?_
      refine ap_lald (j := 300 * p + i.toNat) dX10_lasts_29 (by omega) m2 (by omega) (by omega) ?_
      refine ap_topl (b := p_E P i.toNat - p_B P i.toNat) (show (fs (300 * p + i.toNat)) = (p_E P i.toNat - p_B P i.toNat) from h8.2.1) ?_
      refine ap_topl (b := (((p_E P i.toNat - p_B P i.toNat).toNat : Nat) : Int)) (show (p_E P i.toNat - p_B P i.toNat) = (((p_E P i.toNat - p_B P i.toNat).toNat : Nat) : Int) from by omega) ?_
      refine ap_ldc2 dX10_lasts_30 kl_X10_138 ?_
      refine ap_iload_n dX10_lasts_33 rfl rfl ?_
      refine ap_cS (As := [am_l (((p_E P i.toNat - p_B P i.toNat).toNat : Nat) : Int), am_l 812851200, am_i w]) (rest := []) (cm_told (x := (p_E P i.toNat - p_B P i.toNat).toNat) (d := 812851200) rfl rfl (by omega) (by omega) hw) dX10_lasts_34 lk_X10_186 hy_X10_told rfl (Nat.le_of_ble_eq_true rfl) ⟨Nat.le_of_ble_eq_true rfl, Nat.le_of_ble_eq_true rfl⟩ ⟨rfl, rfl⟩ ⟨Nat.le_of_ble_eq_true rfl, Nat.le_of_ble_eq_true rfl⟩ (fun xr8 xN9 μ10 xq11 => ?_)
      obtain ⟨rfl, rfl, rfl⟩ := xq11
      refine ap_goto (tgt := 43) dX10_lasts_37 (by decide) ?_
      exact ap_lret dX10_lasts_43 rfl (Nat.le_of_ble_eq_true rfl) (Nat.le_of_ble_eq_true rfl) (⟨by rw [q_ev, if_pos (by omega)], rfl, hY, fun x hx => hF x (by omega)⟩)

set_option maxHeartbeats 4000000 in
set_option maxRecDepth 100000 in
theorem cy_swung {N : Nat} {μ : am_M} {b : List Int} {C : Snap} {rem : Nat} {hs : Nat → Snap} (hX : Mx μ b C rem hs) (hN : 141 ≤ N) {p : Nat} (hp : p < 4) {P : PS} (hPe : psc (s_t C p) = P) {i w : Int} (hi : -2147483648 ≤ i ∧ i ≤ 2147483647) (hw : -2147483648 ≤ w ∧ w ≤ 2147483647) : am_Met YX10_swung [.ref 120, am_i (p : Int), am_i i, am_i w] N μ (mq N μ (am_l (q_sw P i w (s_a C) (s_w C))) b C rem hs) := by
  obtain ⟨⟨zm, zd, ze, zi, zu, zc, zg, hM⟩, ⟨g, hV, hv1⟩, ⟨h, hH, hh1⟩, ⟨tg, hT, ht1⟩, ⟨fi, hI⟩, hS, ⟨f8, h138⟩, ⟨f9, h139⟩, ⟨f0, h140⟩, hr5, hb1, hb2, hC, hhs⟩ := id hX
  have hpk := gtx_pok (hC.1 p hp)
  rw [hPe] at hpk
  obtain ⟨g1, g2, g3, g4, g5, g6, g7, g8, g9⟩ := id hpk
  obtain ⟨k1, k2, k3, k4⟩ := id hC.2
  refine am_met (by first | decide | rfl) (Nat.le_of_ble_eq_true rfl) (fun h => by first | rfl | cases h) ?_
  show am_W YX10_swung _ 0 0 0 [(0, .ref 120), (1, am_i (p : Int)), (2, am_i i), (3, am_i w)] [] _ _
  refine ap_iload_n dX10_swung_0 rfl rfl ?_
  refine ap_iconst dX10_swung_1 ?_
  refine ap_iconst dX10_swung_2 ?_
  refine ap_cS (As := [am_i w, am_i 0, am_i 1]) (rest := []) (cm_in hw (by omega) (by omega)) dX10_swung_3 lk_X10_76 hy_X10_in rfl (Nat.le_of_ble_eq_true rfl) ⟨Nat.le_of_ble_eq_true rfl, Nat.le_of_ble_eq_true rfl⟩ ⟨rfl, rfl⟩ ⟨Nat.le_of_ble_eq_true rfl, Nat.le_of_ble_eq_true rfl⟩ (fun xr1 xN2 μ3 xq4 => ?_)
  obtain ⟨rfl, rfl, rfl⟩ := xq4
  refine ap_if_eq (tgt := 18) dX10_swung_6 (by decide) (itr) (fun c6 => ?_) (fun c6 => ?_)
  · refine ap_ldc2 dX10_swung_18 kl_X10_184 ?_
    exact ap_lret dX10_swung_21 rfl (Nat.le_of_ble_eq_true rfl) (Nat.le_of_ble_eq_true rfl) (⟨by rw [q_sw, if_neg (by have := it2 c6; omega)], rfl, hX, fun x hx => rfl⟩)
  · refine ap_aload_n dX10_swung_9 rfl rfl ?_
    refine ap_iload_n dX10_swung_10 rfl rfl ?_
    refine ap_iload_n dX10_swung_11 rfl rfl ?_
    refine ap_cV (As := [am_i (p : Int), am_i i]) (rest := []) (cm_isEventP hX hN hp hPe hi) dX10_swung_12 lk_X10_190 hy_X10_isEvent rfl (by omega) hM ⟨_, _, rfl⟩ (Nat.le_of_ble_eq_true rfl) ⟨Nat.le_of_ble_eq_true rfl, Nat.le_of_ble_eq_true rfl⟩ ⟨rfl, rfl⟩ ⟨Nat.le_of_ble_eq_true rfl, Nat.le_of_ble_eq_true rfl⟩ (fun xr5 xN6 μw xq7 => ?_)
    obtain ⟨rfl, rfl, hY, hWd, hBd, hK, hF⟩ := xq7
    rw [hPe] at hWd hBd
    obtain ⟨⟨ym, yd, ye, yi, yu, yc, yg, hM2⟩, ⟨g2_, hV2, hv2⟩, -⟩ := id hY
    obtain ⟨fo, fs, fa, fb, fn, fm, fl, ⟨m1, m2, m3, m4, m5, m6, m7⟩, m8, m9, m10, m11⟩ := id hWd
    obtain ⟨fc, bl, be, ⟨n1, n2, n3⟩, n4, n5⟩ := id hBd
    refine ap_if_ne (tgt := 22) dX10_swung_15 (by decide) (itr) (fun c15 => ?_) (fun c15 => ?_)
    · have kw := it1 c6
      have ki := it1 c15
      have h8 := m8 i.toNat (by omega)
      have r8 := g8 i.toNat (by omega)
      have hsr := swg_r (t := p_B P i.toNat) (by omega) k3 k4
      refine ap_aload_n dX10_swung_22 rfl rfl ?_
      refine ap_aload_n dX10_swung_23 rfl rfl ?_
      refine ap_get ff_X10_25 dX10_swung_24 (by omega) hM2 rfl ?_
      refine ap_sipush dX10_swung_27 (by decide) ?_
      refine ap_iload_n dX10_swung_30 rfl rfl ?_
      refine ap_imul dX10_swung_31 ?_
      refine ap_iload_n dX10_swung_32 rfl rfl ?_
      refine ap_iadd dX10_swung_33 ?_
      refine ap_lald (j := 300 * p + i.toNat) dX10_swung_34 (by omega) m1 (by omega) (by omega) ?_
      refine ap_topl (b := p_B P i.toNat) (show (fo (300 * p + i.toNat)) = (p_B P i.toNat) from h8.1) ?_
      refine ap_cV (As := [am_l (p_B P i.toNat)]) (rest := []) (cm_swungOf hM2 hV2 hN hv2 hC.2 (by omega)) dX10_swung_35 lk_X10_197 hy_X10_swungOf rfl (by omega) hM2 ⟨_, _, rfl⟩ (Nat.le_of_ble_eq_true rfl) ⟨Nat.le_of_ble_eq_true rfl, Nat.le_of_ble_eq_true rfl⟩ ⟨rfl, rfl⟩ ⟨Nat.le_of_ble_eq_true rfl, Nat.le_of_ble_eq_true rfl⟩ (fun xr8 xN9 μ10 xq11 => ?_)
      obtain ⟨rfl, rfl, rfl⟩ := xq11
      refine ap_topl (b := (((swg (p_B P i.toNat) (s_a C) (s_w C)).toNat : Nat) : Int)) (show (swg (p_B P i.toNat) (s_a C) (s_w C)) = (((swg (p_B P i.toNat) (s_a C) (s_w C)).toNat : Nat) : Int) from by omega) ?_
      refine ap_ldc2 dX10_swung_38 kl_X10_138 ?_
      refine ap_aload_n dX10_swung_41 rfl rfl ?_
      refine ap_get ff_X10_7 dX10_swung_42 (by omega) hM2 rfl ?_
      refine ap_sipush dX10_swung_45 (by decide) ?_
      refine ap_iald (j := 406) dX10_swung_48 (by omega) hV2 (by omega) (by omega) ?_
      refine ap_topi (b := s_a C) (show (g2_ 406) = (s_a C) from hv2.2.2.2.1) ?_
      refine ap_aload_n dX10_swung_49 rfl rfl ?_
      refine ap_get ff_X10_7 dX10_swung_50 (by omega) hM2 rfl ?_
      refine ap_sipush dX10_swung_53 (by decide) ?_
      refine ap_iald (j := 407) dX10_swung_56 (by omega) hV2 (by omega) (by omega) ?_
      refine ap_topi (b := s_w C) (show (g2_ 407) = (s_w C) from hv2.2.2.2.2) ?_
      refine ap_iadd dX10_swung_57 ?_
      refine ap_i2l dX10_swung_58 (by omega) ?_
      refine ap_lmul dX10_swung_59 ?_
      refine ap_topl (b := (((812851200 * (s_a C + s_w C)).toNat : Nat) : Int)) (show (812851200 * ((s_a C) + (s_w C))) = (((812851200 * (s_a C + s_w C)).toNat : Nat) : Int) from by omega) ?_
      refine ap_iload_n dX10_swung_60 rfl rfl ?_
      refine ap_cS (As := [am_l (((swg (p_B P i.toNat) (s_a C) (s_w C)).toNat : Nat) : Int), am_l (((812851200 * (s_a C + s_w C)).toNat : Nat) : Int), am_i w]) (rest := []) (cm_told (x := (swg (p_B P i.toNat) (s_a C) (s_w C)).toNat) (d := (812851200 * (s_a C + s_w C)).toNat) rfl rfl (by omega) (by omega) hw) dX10_swung_61 lk_X10_186 hy_X10_told rfl (Nat.le_of_ble_eq_true rfl) ⟨Nat.le_of_ble_eq_true rfl, Nat.le_of_ble_eq_true rfl⟩ ⟨rfl, rfl⟩ ⟨Nat.le_of_ble_eq_true rfl, Nat.le_of_ble_eq_true rfl⟩ (fun xr12 xN13 μ14 xq15 => ?_)
      obtain ⟨rfl, rfl, rfl⟩ := xq15
      exact ap_lret dX10_swung_64 rfl (Nat.le_of_ble_eq_true rfl) (Nat.le_of_ble_eq_true rfl) (⟨by rw [q_sw, if_pos (by omega)], rfl, hY, fun x hx => hF x (by omega)⟩)
    · refine ap_ldc2 dX10_swung_18 kl_X10_184 ?_
      exact ap_lret dX10_swung_21 rfl (Nat.le_of_ble_eq_true rfl) (Nat.le_of_ble_eq_true rfl) (⟨by rw [q_sw, if_neg (by have := it2 c15; omega)], rfl, hY, fun x hx => hF x (by omega)⟩)

set_option maxHeartbeats 4000000 in
set_option maxRecDepth 100000 in
theorem cy_event {N : Nat} {μ : am_M} {b : List Int} {C : Snap} {rem : Nat} {hs : Nat → Snap} (hX : Mx μ b C rem hs) (hN : 141 ≤ N) {p : Nat} (hp : p < 4) {P : PS} (hPe : psc (s_t C p) = P) {i w : Int} (hi : -2147483648 ≤ i ∧ i ≤ 2147483647) (hw : -2147483648 ≤ w ∧ w ≤ 2147483647) : am_Met YX10_event [.ref 120, am_i (p : Int), am_i i, am_i w] N μ (mq N μ (am_i (q_event P i w (mlen (s_b C) (s_v C)))) b C rem hs) := by
  obtain ⟨⟨zm, zd, ze, zi, zu, zc, zg, hM⟩, ⟨g, hV, hv1⟩, ⟨h, hH, hh1⟩, ⟨tg, hT, ht1⟩, ⟨fi, hI⟩, hS, ⟨f8, h138⟩, ⟨f9, h139⟩, ⟨f0, h140⟩, hr5, hb1, hb2, hC, hhs⟩ := id hX
  have hpk := gtx_pok (hC.1 p hp)
  rw [hPe] at hpk
  obtain ⟨g1, g2, g3, g4, g5, g6, g7, g8, g9⟩ := id hpk
  obtain ⟨k1, k2, k3, k4⟩ := id hC.2
  refine am_met (by first | decide | rfl) (Nat.le_of_ble_eq_true rfl) (fun h => by first | rfl | cases h) ?_
  show am_W YX10_event _ 0 0 0 [(0, .ref 120), (1, am_i (p : Int)), (2, am_i i), (3, am_i w)] [] _ _
  refine ap_iload_n dX10_event_0 rfl rfl ?_
  refine ap_iconst dX10_event_1 ?_
  refine ap_iconst dX10_event_2 ?_
  refine ap_cS (As := [am_i w, am_i 0, am_i 4]) (rest := []) (cm_in hw (by omega) (by omega)) dX10_event_3 lk_X10_76 hy_X10_in rfl (Nat.le_of_ble_eq_true rfl) ⟨Nat.le_of_ble_eq_true rfl, Nat.le_of_ble_eq_true rfl⟩ ⟨rfl, rfl⟩ ⟨Nat.le_of_ble_eq_true rfl, Nat.le_of_ble_eq_true rfl⟩ (fun xr1 xN2 μ3 xq4 => ?_)
  obtain ⟨rfl, rfl, rfl⟩ := xq4
  refine ap_if_eq (tgt := 18) dX10_event_6 (by decide) (itr) (fun c6 => ?_) (fun c6 => ?_)
  · refine ap_iconst dX10_event_18 ?_
    exact ap_iret dX10_event_19 rfl rfl (Nat.le_of_ble_eq_true rfl) (Nat.le_of_ble_eq_true rfl) (⟨by have := it2 c6; rw [q_event]; split <;> first | rfl | rw [if_neg (by omega), if_neg (by omega), if_neg (by omega), if_neg (by omega), if_neg (by omega)], rfl, hX, fun x hx => rfl⟩)
  · refine ap_aload_n dX10_event_9 rfl rfl ?_
    refine ap_iload_n dX10_event_10 rfl rfl ?_
    refine ap_iload_n dX10_event_11 rfl rfl ?_
    refine ap_cV (As := [am_i (p : Int), am_i i]) (rest := []) (cm_isEventP hX hN hp hPe hi) dX10_event_12 lk_X10_190 hy_X10_isEvent rfl (by omega) hM ⟨_, _, rfl⟩ (Nat.le_of_ble_eq_true rfl) ⟨Nat.le_of_ble_eq_true rfl, Nat.le_of_ble_eq_true rfl⟩ ⟨rfl, rfl⟩ ⟨Nat.le_of_ble_eq_true rfl, Nat.le_of_ble_eq_true rfl⟩ (fun xr5 xN6 μw xq7 => ?_)
    obtain ⟨rfl, rfl, hY, hWd, hBd, hK, hF⟩ := xq7
    rw [hPe] at hWd hBd
    obtain ⟨⟨ym, yd, ye, yi, yu, yc, yg, hM2⟩, ⟨g2_, hV2, hv2⟩, -⟩ := id hY
    obtain ⟨fo, fs, fa, fb, fn, fm, fl, ⟨m1, m2, m3, m4, m5, m6, m7⟩, m8, m9, m10, m11⟩ := id hWd
    obtain ⟨fc, bl, be, ⟨n1, n2, n3⟩, n4, n5⟩ := id hBd
    refine ap_if_ne (tgt := 20) dX10_event_15 (by decide) (itr) (fun c15 => ?_) (fun c15 => ?_)
    · have kw := it1 c6
      have ki := it1 c15
      have h8 := m8 i.toNat (by omega)
      have r8 := g8 i.toNat (by omega)
      refine ap_sipush dX10_event_20 (by decide) ?_
      refine ap_iload_n dX10_event_23 rfl rfl ?_
      refine ap_imul dX10_event_24 ?_
      refine ap_iload_n dX10_event_25 rfl rfl ?_
      refine ap_iadd dX10_event_26 ?_
      refine ap_Istore (lv2 := [(0, .ref 120), (1, am_i (p : Int)), (2, am_i i), (3, am_i w), (4, am_i ((300 * (p : Int)) + i))]) dX10_event_27 (by decide) rfl ?_
      refine ap_iload_n dX10_event_29 rfl rfl ?_
      by_cases c30_0 : w = 0
      · refine ap_tableIn (off := 30) (tgt := 60) dX10_event_30 (by omega) (by omega) (by rw [c30_0]; rfl) (by decide) ?_
        refine ap_aload_n dX10_event_60 rfl rfl ?_
        refine ap_get ff_X10_32 dX10_event_61 (by omega) hM2 rfl ?_
        refine ap_iload dX10_event_64 rfl ?_
        refine ap_iald (j := 300 * p + i.toNat) dX10_event_66 (by omega) m3 (by omega) (by omega) ?_
        refine ap_topi (b := p_AC P i.toNat) (show (fa (300 * p + i.toNat)) = (p_AC P i.toNat) from h8.2.2.1) ?_
        exact ap_iret dX10_event_67 rfl rfl (Nat.le_of_ble_eq_true rfl) (Nat.le_of_ble_eq_true rfl) (⟨by rw [q_event, if_pos (by omega), if_pos (by omega)], rfl, hY, fun x hx => hF x (by omega)⟩)
      · by_cases c30_1 : w = 1
        · refine ap_tableIn (off := 38) (tgt := 68) dX10_event_30 (by omega) (by omega) (by rw [c30_1]; rfl) (by decide) ?_
          refine ap_aload_n dX10_event_68 rfl rfl ?_
          refine ap_get ff_X10_35 dX10_event_69 (by omega) hM2 rfl ?_
          refine ap_iload dX10_event_72 rfl ?_
          refine ap_iald (j := 300 * p + i.toNat) dX10_event_74 (by omega) m4 (by omega) (by omega) ?_
          refine ap_topi (b := p_BN P i.toNat) (show (fb (300 * p + i.toNat)) = (p_BN P i.toNat) from h8.2.2.2.1) ?_
          exact ap_iret dX10_event_75 rfl rfl (Nat.le_of_ble_eq_true rfl) (Nat.le_of_ble_eq_true rfl) (⟨by rw [q_event, if_pos (by omega), if_neg (by omega), if_pos (by omega)], rfl, hY, fun x hx => hF x (by omega)⟩)
        · by_cases c30_2 : w = 2
          · refine ap_tableIn (off := 46) (tgt := 76) dX10_event_30 (by omega) (by omega) (by rw [c30_2]; rfl) (by decide) ?_
            refine ap_aload_n dX10_event_76 rfl rfl ?_
            refine ap_get ff_X10_38 dX10_event_77 (by omega) hM2 rfl ?_
            refine ap_iload dX10_event_80 rfl ?_
            refine ap_iald (j := 300 * p + i.toNat) dX10_event_82 (by omega) m5 (by omega) (by omega) ?_
            refine ap_topi (b := p_NC P i.toNat) (show (fn (300 * p + i.toNat)) = (p_NC P i.toNat) from h8.2.2.2.2) ?_
            exact ap_iret dX10_event_83 rfl rfl (Nat.le_of_ble_eq_true rfl) (Nat.le_of_ble_eq_true rfl) (⟨by rw [q_event, if_pos (by omega), if_neg (by omega), if_neg (by omega), if_pos (by omega)], rfl, hY, fun x hx => hF x (by omega)⟩)
          · by_cases c30_3 : w = 3
            · refine ap_tableIn (off := 54) (tgt := 84) dX10_event_30 (by omega) (by omega) (by rw [c30_3]; rfl) (by decide) ?_
              refine ap_aload_n dX10_event_84 rfl rfl ?_
              refine ap_aload_n dX10_event_85 rfl rfl ?_
              refine ap_get ff_X10_25 dX10_event_86 (by omega) hM2 rfl ?_
              refine ap_iload dX10_event_89 rfl ?_
              refine ap_lald (j := 300 * p + i.toNat) dX10_event_91 (by omega) m1 (by omega) (by omega) ?_
              refine ap_topl (b := p_B P i.toNat) (show (fo (300 * p + i.toNat)) = (p_B P i.toNat) from h8.1) ?_
              refine ap_cV (As := [am_l (p_B P i.toNat)]) (rest := []) (cm_levelOf hM2 hV2 hN hv2 hC.2 (by omega)) dX10_event_92 lk_X10_205 hy_X10_levelOf rfl (by omega) hM2 ⟨_, _, rfl⟩ (Nat.le_of_ble_eq_true rfl) ⟨Nat.le_of_ble_eq_true rfl, Nat.le_of_ble_eq_true rfl⟩ ⟨rfl, rfl⟩ ⟨Nat.le_of_ble_eq_true rfl, Nat.le_of_ble_eq_true rfl⟩ (fun xr8 xN9 μ10 xq11 => ?_)
              obtain ⟨rfl, rfl, rfl⟩ := xq11
              exact ap_iret dX10_event_95 rfl rfl (Nat.le_of_ble_eq_true rfl) (Nat.le_of_ble_eq_true rfl) (⟨by rw [q_event, if_pos (by omega), if_neg (by omega), if_neg (by omega), if_neg (by omega), if_pos (by omega)], rfl, hY, fun x hx => hF x (by omega)⟩)
            · refine ap_tableOut (tgt := 96) dX10_event_30 (by omega) (by omega) (by decide) ?_
              refine ap_aload_n dX10_event_96 rfl rfl ?_
              refine ap_iload dX10_event_97 rfl ?_
              refine ap_cV (As := [am_i ((300 * (p : Int)) + i)]) (rest := []) (cm_synOf (j := 300 * p + i.toNat) hM2 hV2 hN hv2 hC.2 m1 m2 (by omega) h8.1 h8.2.1 (by omega) (by omega)) dX10_event_99 lk_X10_209 hy_X10_syncopationOf rfl (by omega) hM2 ⟨_, _, rfl⟩ (Nat.le_of_ble_eq_true rfl) ⟨Nat.le_of_ble_eq_true rfl, Nat.le_of_ble_eq_true rfl⟩ ⟨rfl, rfl⟩ ⟨Nat.le_of_ble_eq_true rfl, Nat.le_of_ble_eq_true rfl⟩ (fun xr12 xN13 μ14 xq15 => ?_)
              obtain ⟨rfl, rfl, rfl⟩ := xq15
              exact ap_iret dX10_event_102 rfl rfl (Nat.le_of_ble_eq_true rfl) (Nat.le_of_ble_eq_true rfl) (⟨by rw [q_event, if_pos (by omega), if_neg (by omega), if_neg (by omega), if_neg (by omega), if_neg (by omega), if_pos (by omega)], rfl, hY, fun x hx => hF x (by omega)⟩)
    · refine ap_iconst dX10_event_18 ?_
      exact ap_iret dX10_event_19 rfl rfl (Nat.le_of_ble_eq_true rfl) (Nat.le_of_ble_eq_true rfl) (⟨by rw [q_event, if_neg (by have := it2 c15; omega)], rfl, hY, fun x hx => hF x (by omega)⟩)

set_option maxHeartbeats 4000000 in
set_option maxRecDepth 100000 in
theorem cy_bar {N : Nat} {μ : am_M} {b : List Int} {C : Snap} {rem : Nat} {hs : Nat → Snap} (hX : Mx μ b C rem hs) (hN : 141 ≤ N) {p : Nat} (hp : p < 4) {P : PS} (hPe : psc (s_t C p) = P) {i w : Int} (hi : -2147483648 ≤ i ∧ i ≤ 2147483647) (hw : -2147483648 ≤ w ∧ w ≤ 2147483647) : am_Met YX10_bar [.ref 120, am_i (p : Int), am_i i, am_i w] N μ (mq N μ (am_l (q_bar P i w)) b C rem hs) := by
  obtain ⟨⟨zm, zd, ze, zi, zu, zc, zg, hM⟩, ⟨g, hV, hv1⟩, ⟨h, hH, hh1⟩, ⟨tg, hT, ht1⟩, ⟨fi, hI⟩, hS, ⟨f8, h138⟩, ⟨f9, h139⟩, ⟨f0, h140⟩, hr5, hb1, hb2, hC, hhs⟩ := id hX
  have hpk := gtx_pok (hC.1 p hp)
  rw [hPe] at hpk
  obtain ⟨g1, g2, g3, g4, g5, g6, g7, g8, g9⟩ := id hpk
  obtain ⟨k1, k2, k3, k4⟩ := id hC.2
  refine am_met (by first | decide | rfl) (Nat.le_of_ble_eq_true rfl) (fun h => by first | rfl | cases h) ?_
  show am_W YX10_bar _ 0 0 0 [(0, .ref 120), (1, am_i (p : Int)), (2, am_i i), (3, am_i w)] [] _ _
  refine ap_iload_n dX10_bar_0 rfl rfl ?_
  refine ap_cS (As := [am_i (p : Int)]) (rest := []) (cm_isPart (by omega)) dX10_bar_1 lk_X10_163 hy_X10_isPart rfl (Nat.le_of_ble_eq_true rfl) ⟨Nat.le_of_ble_eq_true rfl, Nat.le_of_ble_eq_true rfl⟩ ⟨rfl, rfl⟩ ⟨Nat.le_of_ble_eq_true rfl, Nat.le_of_ble_eq_true rfl⟩ (fun xr1 xN2 μ3 xq4 => ?_)
  obtain ⟨rfl, rfl, rfl⟩ := xq4
  refine ap_topi (b := 1) (show (if 0 ≤ (p : Int) ∧ (p : Int) ≤ 3 then 1 else 0) = 1 from if_pos (by omega)) ?_
  refine ap_if_eq (tgt := 16) dX10_bar_4 (by decide) (by omega) (fun c4 => (by exfalso; omega)) (fun c4 => ?_)
  refine ap_iload_n dX10_bar_7 rfl rfl ?_
  refine ap_iconst dX10_bar_8 ?_
  refine ap_iconst dX10_bar_9 ?_
  refine ap_cS (As := [am_i w, am_i 0, am_i 1]) (rest := []) (cm_in hw (by omega) (by omega)) dX10_bar_10 lk_X10_76 hy_X10_in rfl (Nat.le_of_ble_eq_true rfl) ⟨Nat.le_of_ble_eq_true rfl, Nat.le_of_ble_eq_true rfl⟩ ⟨rfl, rfl⟩ ⟨Nat.le_of_ble_eq_true rfl, Nat.le_of_ble_eq_true rfl⟩ (fun xr5 xN6 μ7 xq8 => ?_)
  obtain ⟨rfl, rfl, rfl⟩ := xq8
  refine ap_if_ne (tgt := 20) dX10_bar_13 (by decide) (itr) (fun c13 => ?_) (fun c13 => ?_)
  · refine ap_aload_n dX10_bar_20 rfl rfl ?_
    refine ap_iload_n dX10_bar_21 rfl rfl ?_
    refine ap_cV (As := [am_i (p : Int)]) (rest := []) (cm_worksX hX hN hp) dX10_bar_22 lk_X10_174 hy_X10_works rfl (by omega) hM ⟨_, _, rfl⟩ (Nat.le_of_ble_eq_true rfl) ⟨Nat.le_of_ble_eq_true rfl, Nat.le_of_ble_eq_true rfl⟩ ⟨rfl, rfl⟩ ⟨Nat.le_of_ble_eq_true rfl, Nat.le_of_ble_eq_true rfl⟩ (fun xr9 xN10 μw xq11 => ?_)
    obtain ⟨rfl, rfl, hY, hWd, hBd, hK, hF⟩ := xq11
    rw [hPe] at hWd hBd
    obtain ⟨⟨ym, yd, ye, yi, yu, yc, yg, hM2⟩, ⟨g2_, hV2, hv2⟩, -⟩ := id hY
    obtain ⟨fo, fs, fa, fb, fn, fm, fl, ⟨m1, m2, m3, m4, m5, m6, m7⟩, m8, m9, m10, m11⟩ := id hWd
    obtain ⟨fc, bl, be, ⟨n1, n2, n3⟩, n4, n5⟩ := id hBd
    refine ap_iload_n dX10_bar_25 rfl rfl ?_
    refine ap_iconst dX10_bar_26 ?_
    refine ap_aload_n dX10_bar_27 rfl rfl ?_
    refine ap_get ff_X10_47 dX10_bar_28 (by omega) hM2 rfl ?_
    refine ap_iload_n dX10_bar_31 rfl rfl ?_
    refine ap_iald (j := p) dX10_bar_32 (by omega) n1 (by omega) (by omega) ?_
    refine ap_topi (b := (p_nb P : Int)) (show (fc p) = (p_nb P : Int) from n4) ?_
    refine ap_iconst dX10_bar_33 ?_
    refine ap_isub dX10_bar_34 ?_
    refine ap_cS (As := [am_i i, am_i 0, am_i ((p_nb P : Int) - 1)]) (rest := []) (cm_in hi (by omega) (by omega)) dX10_bar_35 lk_X10_76 hy_X10_in rfl (Nat.le_of_ble_eq_true rfl) ⟨Nat.le_of_ble_eq_true rfl, Nat.le_of_ble_eq_true rfl⟩ ⟨rfl, rfl⟩ ⟨Nat.le_of_ble_eq_true rfl, Nat.le_of_ble_eq_true rfl⟩ (fun xr12 xN13 μ14 xq15 => ?_)
    obtain ⟨rfl, rfl, rfl⟩ := xq15
    refine ap_if_eq (tgt := 57) dX10_bar_38 (by decide) (itr) (fun c38 => ?_) (fun c38 => ?_)
    · refine ap_ldc2 dX10_bar_57 kl_X10_184 ?_
      exact ap_lret dX10_bar_60 rfl (Nat.le_of_ble_eq_true rfl) (Nat.le_of_ble_eq_true rfl) (⟨by rw [q_bar, if_neg (by have := it2 c38; omega)], rfl, hY, fun x hx => hF x (by omega)⟩)
    · have kw := it1 c13
      have ki := it1 c38
      have h8 := n5 i.toNat (by omega)
      have r8 := g9 i.toNat (by omega)
      refine ap_aload_n dX10_bar_41 rfl rfl ?_
      refine ap_get ff_X10_50 dX10_bar_42 (by omega) hM2 rfl ?_
      refine ap_iload_n dX10_bar_45 rfl rfl ?_
      refine ap_lald (j := i.toNat) dX10_bar_46 (by omega) n2 (by omega) (by omega) ?_
      refine ap_topl (b := p_BL P i.toNat) (show (bl i.toNat) = (p_BL P i.toNat) from h8.1) ?_
      refine ap_topl (b := (((p_BL P i.toNat).toNat : Nat) : Int)) (show (p_BL P i.toNat) = (((p_BL P i.toNat).toNat : Nat) : Int) from by omega) ?_
      refine ap_ldc2 dX10_bar_47 kl_X10_138 ?_
      refine ap_iload_n dX10_bar_50 rfl rfl ?_
      refine ap_cS (As := [am_l (((p_BL P i.toNat).toNat : Nat) : Int), am_l 812851200, am_i w]) (rest := []) (cm_told (x := (p_BL P i.toNat).toNat) (d := 812851200) rfl rfl (by omega) (by omega) hw) dX10_bar_51 lk_X10_186 hy_X10_told rfl (Nat.le_of_ble_eq_true rfl) ⟨Nat.le_of_ble_eq_true rfl, Nat.le_of_ble_eq_true rfl⟩ ⟨rfl, rfl⟩ ⟨Nat.le_of_ble_eq_true rfl, Nat.le_of_ble_eq_true rfl⟩ (fun xr16 xN17 μ18 xq19 => ?_)
      obtain ⟨rfl, rfl, rfl⟩ := xq19
      refine ap_goto (tgt := 60) dX10_bar_54 (by decide) ?_
      exact ap_lret dX10_bar_60 rfl (Nat.le_of_ble_eq_true rfl) (Nat.le_of_ble_eq_true rfl) (⟨by rw [q_bar, if_pos (by omega)], rfl, hY, fun x hx => hF x (by omega)⟩)
  · refine ap_ldc2 dX10_bar_16 kl_X10_184 ?_
    exact ap_lret dX10_bar_19 rfl (Nat.le_of_ble_eq_true rfl) (Nat.le_of_ble_eq_true rfl) (⟨by rw [q_bar, if_neg (by have := it2 c13; omega)], rfl, hX, fun x hx => rfl⟩)

