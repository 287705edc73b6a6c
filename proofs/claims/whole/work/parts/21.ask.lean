/-! the class's questions: answers out of the picture -/
def psc (xs : List Int) : PS := sp (uf xs 0) (uf xs 0).length
theorem psc_ok {xs : List Int} (h : okx xs) : pok (psc xs) := (h.2.2.2 _ (Nat.le_refl _)).1
def q_ev (P : PS) (i w : Int) (f : Nat → Int) : Int := if (0 ≤ i ∧ i < p_cnt P) ∧ (w = 0 ∨ w = 1) then sd (f i.toNat).toNat 812851200 w else -1
set_option maxHeartbeats 4000000 in
set_option maxRecDepth 100000 in
theorem cq_textOfN {N : Nat} {μ : am_M} {b : List Int} {C : Snap} {rem : Nat} {hs : Nat → Snap} (hX : Bx μ b C rem hs) (hN : 120 ≤ N) {k j : Int} (hk : -2147483648 ≤ k ∧ k ≤ 2147483647) (hj : -2147483648 ≤ j ∧ j ≤ 2147483647) (hn : ¬ (0 ≤ k ∧ k < 4)) : am_Met YX9_textOf [.ref 0, am_i k, am_i j] N μ (am_pv (am_i (-1)) N μ) := by
  obtain ⟨h0, hT, hR, hP, hH, hrem, hm, hsn⟩ := id hX
  refine am_met (by first | decide | rfl) (Nat.le_of_ble_eq_true rfl) (fun h => by first | rfl | cases h) ?_
  show am_W YX9_textOf _ 0 0 0 [(0, .ref 0), (1, am_i k), (2, am_i j)] [] _ _
  refine ap_aload_n dX9_textOf_0 rfl rfl ?_
  refine ap_iload_n dX9_textOf_1 rfl rfl ?_
  refine ap_cV (As := [am_i k]) (rest := []) (ct_partAtN hk hn) dX9_textOf_2 lk_X9_76 hy_X9_partAt rfl (by omega) h0 ⟨_, _, rfl⟩ (Nat.le_of_ble_eq_true rfl) ⟨Nat.le_of_ble_eq_true rfl, Nat.le_of_ble_eq_true rfl⟩ ⟨rfl, rfl⟩ ⟨Nat.le_of_ble_eq_true rfl, Nat.le_of_ble_eq_true rfl⟩ (fun xr1 xN2 μ3 xq4 => ?_)
  obtain ⟨rfl, rfl, rfl⟩ := xq4
  refine ap_Astore_nN (lv2 := [(0, .ref 0), (1, am_i k), (2, am_i j), (3, .null)]) dX9_textOf_5 rfl (by decide) rfl ?_
  refine ap_aloadN_n dX9_textOf_6 rfl rfl ?_
  refine ap_ifnullN (tgt := 14) dX9_textOf_7 (by decide) ?_
  refine ap_iconst dX9_textOf_14 ?_
  exact ap_iret dX9_textOf_15 rfl rfl (Nat.le_of_ble_eq_true rfl) (Nat.le_of_ble_eq_true rfl) (⟨rfl, rfl, rfl⟩)

set_option maxHeartbeats 4000000 in
set_option maxRecDepth 100000 in
theorem cq_unfoldedN {N : Nat} {μ : am_M} {b : List Int} {C : Snap} {rem : Nat} {hs : Nat → Snap} (hX : Bx μ b C rem hs) (hN : 120 ≤ N) {k j : Int} (hk : -2147483648 ≤ k ∧ k ≤ 2147483647) (hj : -2147483648 ≤ j ∧ j ≤ 2147483647) (hn : ¬ (0 ≤ k ∧ k < 4)) : am_Met YX9_unfolded [.ref 0, am_i k, am_i j] N μ (am_pv (am_i (-1)) N μ) := by
  obtain ⟨h0, hT, hR, hP, hH, hrem, hm, hsn⟩ := id hX
  refine am_met (by first | decide | rfl) (Nat.le_of_ble_eq_true rfl) (fun h => by first | rfl | cases h) ?_
  show am_W YX9_unfolded _ 0 0 0 [(0, .ref 0), (1, am_i k), (2, am_i j)] [] _ _
  refine ap_aload_n dX9_unfolded_0 rfl rfl ?_
  refine ap_iload_n dX9_unfolded_1 rfl rfl ?_
  refine ap_cV (As := [am_i k]) (rest := []) (ct_partAtN hk hn) dX9_unfolded_2 lk_X9_76 hy_X9_partAt rfl (by omega) h0 ⟨_, _, rfl⟩ (Nat.le_of_ble_eq_true rfl) ⟨Nat.le_of_ble_eq_true rfl, Nat.le_of_ble_eq_true rfl⟩ ⟨rfl, rfl⟩ ⟨Nat.le_of_ble_eq_true rfl, Nat.le_of_ble_eq_true rfl⟩ (fun xr1 xN2 μ3 xq4 => ?_)
  obtain ⟨rfl, rfl, rfl⟩ := xq4
  refine ap_Astore_nN (lv2 := [(0, .ref 0), (1, am_i k), (2, am_i j), (3, .null)]) dX9_unfolded_5 rfl (by decide) rfl ?_
  refine ap_aloadN_n dX9_unfolded_6 rfl rfl ?_
  refine ap_ifnullN (tgt := 14) dX9_unfolded_7 (by decide) ?_
  refine ap_iconst dX9_unfolded_14 ?_
  exact ap_iret dX9_unfolded_15 rfl rfl (Nat.le_of_ble_eq_true rfl) (Nat.le_of_ble_eq_true rfl) (⟨rfl, rfl, rfl⟩)

set_option maxHeartbeats 4000000 in
set_option maxRecDepth 100000 in
theorem cq_eventsN {N : Nat} {μ : am_M} {b : List Int} {C : Snap} {rem : Nat} {hs : Nat → Snap} (hX : Bx μ b C rem hs) (hN : 120 ≤ N) {k : Int} (hk : -2147483648 ≤ k ∧ k ≤ 2147483647) (hn : ¬ (0 ≤ k ∧ k < 4)) : am_Met YX9_events [.ref 0, am_i k] N μ (am_pv (am_i (-1)) N μ) := by
  obtain ⟨h0, hT, hR, hP, hH, hrem, hm, hsn⟩ := id hX
  refine am_met (by first | decide | rfl) (Nat.le_of_ble_eq_true rfl) (fun h => by first | rfl | cases h) ?_
  show am_W YX9_events _ 0 0 0 [(0, .ref 0), (1, am_i k)] [] _ _
  refine ap_aload_n dX9_events_0 rfl rfl ?_
  refine ap_iload_n dX9_events_1 rfl rfl ?_
  refine ap_cV (As := [am_i k]) (rest := []) (ct_partAtN hk hn) dX9_events_2 lk_X9_76 hy_X9_partAt rfl (by omega) h0 ⟨_, _, rfl⟩ (Nat.le_of_ble_eq_true rfl) ⟨Nat.le_of_ble_eq_true rfl, Nat.le_of_ble_eq_true rfl⟩ ⟨rfl, rfl⟩ ⟨Nat.le_of_ble_eq_true rfl, Nat.le_of_ble_eq_true rfl⟩ (fun xr1 xN2 μ3 xq4 => ?_)
  obtain ⟨rfl, rfl, rfl⟩ := xq4
  refine ap_Astore_nN (lv2 := [(0, .ref 0), (1, am_i k), (2, .null)]) dX9_events_5 rfl (by decide) rfl ?_
  refine ap_aloadN_n dX9_events_6 rfl rfl ?_
  refine ap_ifnonnullN dX9_events_7 ?_
  refine ap_iconst dX9_events_10 ?_
  refine ap_goto (tgt := 21) dX9_events_11 (by decide) ?_
  exact ap_iret dX9_events_21 rfl rfl (Nat.le_of_ble_eq_true rfl) (Nat.le_of_ble_eq_true rfl) (⟨rfl, rfl, rfl⟩)

set_option maxHeartbeats 4000000 in
set_option maxRecDepth 100000 in
theorem cq_lengthN {N : Nat} {μ : am_M} {b : List Int} {C : Snap} {rem : Nat} {hs : Nat → Snap} (hX : Bx μ b C rem hs) (hN : 120 ≤ N) {k w : Int} (hk : -2147483648 ≤ k ∧ k ≤ 2147483647) (hw : -2147483648 ≤ w ∧ w ≤ 2147483647) (hn : ¬ (0 ≤ k ∧ k < 4)) : am_Met YX9_length [.ref 0, am_i k, am_i w] N μ (am_pv (am_l (-1)) N μ) := by
  obtain ⟨h0, hT, hR, hP, hH, hrem, hm, hsn⟩ := id hX
  refine am_met (by first | decide | rfl) (Nat.le_of_ble_eq_true rfl) (fun h => by first | rfl | cases h) ?_
  show am_W YX9_length _ 0 0 0 [(0, .ref 0), (1, am_i k), (2, am_i w)] [] _ _
  refine ap_aload_n dX9_length_0 rfl rfl ?_
  refine ap_iload_n dX9_length_1 rfl rfl ?_
  refine ap_cV (As := [am_i k]) (rest := []) (ct_partAtN hk hn) dX9_length_2 lk_X9_76 hy_X9_partAt rfl (by omega) h0 ⟨_, _, rfl⟩ (Nat.le_of_ble_eq_true rfl) ⟨Nat.le_of_ble_eq_true rfl, Nat.le_of_ble_eq_true rfl⟩ ⟨rfl, rfl⟩ ⟨Nat.le_of_ble_eq_true rfl, Nat.le_of_ble_eq_true rfl⟩ (fun xr1 xN2 μ3 xq4 => ?_)
  obtain ⟨rfl, rfl, rfl⟩ := xq4
  refine ap_Astore_nN (lv2 := [(0, .ref 0), (1, am_i k), (2, am_i w), (3, .null)]) dX9_length_5 rfl (by decide) rfl ?_
  refine ap_aloadN_n dX9_length_6 rfl rfl ?_
  refine ap_ifnullN (tgt := 17) dX9_length_7 (by decide) ?_
  refine ap_ldc2 dX9_length_17 kl_X9_131 ?_
  exact ap_lret dX9_length_20 rfl (Nat.le_of_ble_eq_true rfl) (Nat.le_of_ble_eq_true rfl) (⟨rfl, rfl, rfl⟩)

set_option maxHeartbeats 4000000 in
set_option maxRecDepth 100000 in
theorem cq_onsetN {N : Nat} {μ : am_M} {b : List Int} {C : Snap} {rem : Nat} {hs : Nat → Snap} (hX : Bx μ b C rem hs) (hN : 120 ≤ N) {k i w : Int} (hk : -2147483648 ≤ k ∧ k ≤ 2147483647) (hi : -2147483648 ≤ i ∧ i ≤ 2147483647) (hw : -2147483648 ≤ w ∧ w ≤ 2147483647) (hn : ¬ (0 ≤ k ∧ k < 4)) : am_Met YX9_onset [.ref 0, am_i k, am_i i, am_i w] N μ (am_pv (am_l (-1)) N μ) := by
  obtain ⟨h0, hT, hR, hP, hH, hrem, hm, hsn⟩ := id hX
  refine am_met (by first | decide | rfl) (Nat.le_of_ble_eq_true rfl) (fun h => by first | rfl | cases h) ?_
  show am_W YX9_onset _ 0 0 0 [(0, .ref 0), (1, am_i k), (2, am_i i), (3, am_i w)] [] _ _
  refine ap_aload_n dX9_onset_0 rfl rfl ?_
  refine ap_iload_n dX9_onset_1 rfl rfl ?_
  refine ap_cV (As := [am_i k]) (rest := []) (ct_partAtN hk hn) dX9_onset_2 lk_X9_76 hy_X9_partAt rfl (by omega) h0 ⟨_, _, rfl⟩ (Nat.le_of_ble_eq_true rfl) ⟨Nat.le_of_ble_eq_true rfl, Nat.le_of_ble_eq_true rfl⟩ ⟨rfl, rfl⟩ ⟨Nat.le_of_ble_eq_true rfl, Nat.le_of_ble_eq_true rfl⟩ (fun xr1 xN2 μ3 xq4 => ?_)
  obtain ⟨rfl, rfl, rfl⟩ := xq4
  refine ap_AstoreN (lv2 := [(0, .ref 0), (1, am_i k), (2, am_i i), (3, am_i w), (4, .null)]) dX9_onset_5 (by decide) rfl ?_
  refine ap_aloadN dX9_onset_7 rfl ?_
  refine ap_ifnullN (tgt := 31) dX9_onset_9 (by decide) ?_
  refine ap_ldc2 dX9_onset_31 kl_X9_131 ?_
  exact ap_lret dX9_onset_34 rfl (Nat.le_of_ble_eq_true rfl) (Nat.le_of_ble_eq_true rfl) (⟨rfl, rfl, rfl⟩)

set_option maxHeartbeats 4000000 in
set_option maxRecDepth 100000 in
theorem cq_lastsN {N : Nat} {μ : am_M} {b : List Int} {C : Snap} {rem : Nat} {hs : Nat → Snap} (hX : Bx μ b C rem hs) (hN : 120 ≤ N) {k i w : Int} (hk : -2147483648 ≤ k ∧ k ≤ 2147483647) (hi : -2147483648 ≤ i ∧ i ≤ 2147483647) (hw : -2147483648 ≤ w ∧ w ≤ 2147483647) (hn : ¬ (0 ≤ k ∧ k < 4)) : am_Met YX9_lasts [.ref 0, am_i k, am_i i, am_i w] N μ (am_pv (am_l (-1)) N μ) := by
  obtain ⟨h0, hT, hR, hP, hH, hrem, hm, hsn⟩ := id hX
  refine am_met (by first | decide | rfl) (Nat.le_of_ble_eq_true rfl) (fun h => by first | rfl | cases h) ?_
  show am_W YX9_lasts _ 0 0 0 [(0, .ref 0), (1, am_i k), (2, am_i i), (3, am_i w)] [] _ _
  refine ap_aload_n dX9_lasts_0 rfl rfl ?_
  refine ap_iload_n dX9_lasts_1 rfl rfl ?_
  refine ap_cV (As := [am_i k]) (rest := []) (ct_partAtN hk hn) dX9_lasts_2 lk_X9_76 hy_X9_partAt rfl (by omega) h0 ⟨_, _, rfl⟩ (Nat.le_of_ble_eq_true rfl) ⟨Nat.le_of_ble_eq_true rfl, Nat.le_of_ble_eq_true rfl⟩ ⟨rfl, rfl⟩ ⟨Nat.le_of_ble_eq_true rfl, Nat.le_of_ble_eq_true rfl⟩ (fun xr1 xN2 μ3 xq4 => ?_)
  obtain ⟨rfl, rfl, rfl⟩ := xq4
  refine ap_AstoreN (lv2 := [(0, .ref 0), (1, am_i k), (2, am_i i), (3, am_i w), (4, .null)]) dX9_lasts_5 (by decide) rfl ?_
  refine ap_aloadN dX9_lasts_7 rfl ?_
  refine ap_ifnullN (tgt := 31) dX9_lasts_9 (by decide) ?_
  refine ap_ldc2 dX9_lasts_31 kl_X9_131 ?_
  exact ap_lret dX9_lasts_34 rfl (Nat.le_of_ble_eq_true rfl) (Nat.le_of_ble_eq_true rfl) (⟨rfl, rfl, rfl⟩)

set_option maxHeartbeats 4000000 in
set_option maxRecDepth 100000 in
theorem cq_swungN {N : Nat} {μ : am_M} {b : List Int} {C : Snap} {rem : Nat} {hs : Nat → Snap} (hX : Bx μ b C rem hs) (hN : 120 ≤ N) {k i w : Int} (hk : -2147483648 ≤ k ∧ k ≤ 2147483647) (hi : -2147483648 ≤ i ∧ i ≤ 2147483647) (hw : -2147483648 ≤ w ∧ w ≤ 2147483647) (hn : ¬ (0 ≤ k ∧ k < 4)) : am_Met YX9_swung [.ref 0, am_i k, am_i i, am_i w] N μ (am_pv (am_l (-1)) N μ) := by
  obtain ⟨h0, hT, hR, hP, hH, hrem, hm, hsn⟩ := id hX
  refine am_met (by first | decide | rfl) (Nat.le_of_ble_eq_true rfl) (fun h => by first | rfl | cases h) ?_
  show am_W YX9_swung _ 0 0 0 [(0, .ref 0), (1, am_i k), (2, am_i i), (3, am_i w)] [] _ _
  refine ap_aload_n dX9_swung_0 rfl rfl ?_
  refine ap_iload_n dX9_swung_1 rfl rfl ?_
  refine ap_cV (As := [am_i k]) (rest := []) (ct_partAtN hk hn) dX9_swung_2 lk_X9_76 hy_X9_partAt rfl (by omega) h0 ⟨_, _, rfl⟩ (Nat.le_of_ble_eq_true rfl) ⟨Nat.le_of_ble_eq_true rfl, Nat.le_of_ble_eq_true rfl⟩ ⟨rfl, rfl⟩ ⟨Nat.le_of_ble_eq_true rfl, Nat.le_of_ble_eq_true rfl⟩ (fun xr1 xN2 μ3 xq4 => ?_)
  obtain ⟨rfl, rfl, rfl⟩ := xq4
  refine ap_AstoreN (lv2 := [(0, .ref 0), (1, am_i k), (2, am_i i), (3, am_i w), (4, .null)]) dX9_swung_5 (by decide) rfl ?_
  refine ap_aloadN dX9_swung_7 rfl ?_
  refine ap_ifnullN (tgt := 31) dX9_swung_9 (by decide) ?_
  refine ap_ldc2 dX9_swung_31 kl_X9_131 ?_
  exact ap_lret dX9_swung_34 rfl (Nat.le_of_ble_eq_true rfl) (Nat.le_of_ble_eq_true rfl) (⟨rfl, rfl, rfl⟩)

set_option maxHeartbeats 4000000 in
set_option maxRecDepth 100000 in
theorem cq_barN {N : Nat} {μ : am_M} {b : List Int} {C : Snap} {rem : Nat} {hs : Nat → Snap} (hX : Bx μ b C rem hs) (hN : 120 ≤ N) {k i w : Int} (hk : -2147483648 ≤ k ∧ k ≤ 2147483647) (hi : -2147483648 ≤ i ∧ i ≤ 2147483647) (hw : -2147483648 ≤ w ∧ w ≤ 2147483647) (hn : ¬ (0 ≤ k ∧ k < 4)) : am_Met YX9_bar [.ref 0, am_i k, am_i i, am_i w] N μ (am_pv (am_l (-1)) N μ) := by
  obtain ⟨h0, hT, hR, hP, hH, hrem, hm, hsn⟩ := id hX
  refine am_met (by first | decide | rfl) (Nat.le_of_ble_eq_true rfl) (fun h => by first | rfl | cases h) ?_
  show am_W YX9_bar _ 0 0 0 [(0, .ref 0), (1, am_i k), (2, am_i i), (3, am_i w)] [] _ _
  refine ap_aload_n dX9_bar_0 rfl rfl ?_
  refine ap_iload_n dX9_bar_1 rfl rfl ?_
  refine ap_cV (As := [am_i k]) (rest := []) (ct_partAtN hk hn) dX9_bar_2 lk_X9_76 hy_X9_partAt rfl (by omega) h0 ⟨_, _, rfl⟩ (Nat.le_of_ble_eq_true rfl) ⟨Nat.le_of_ble_eq_true rfl, Nat.le_of_ble_eq_true rfl⟩ ⟨rfl, rfl⟩ ⟨Nat.le_of_ble_eq_true rfl, Nat.le_of_ble_eq_true rfl⟩ (fun xr1 xN2 μ3 xq4 => ?_)
  obtain ⟨rfl, rfl, rfl⟩ := xq4
  refine ap_AstoreN (lv2 := [(0, .ref 0), (1, am_i k), (2, am_i i), (3, am_i w), (4, .null)]) dX9_bar_5 (by decide) rfl ?_
  refine ap_aloadN dX9_bar_7 rfl ?_
  refine ap_ifnullN (tgt := 31) dX9_bar_9 (by decide) ?_
  refine ap_ldc2 dX9_bar_31 kl_X9_131 ?_
  exact ap_lret dX9_bar_34 rfl (Nat.le_of_ble_eq_true rfl) (Nat.le_of_ble_eq_true rfl) (⟨rfl, rfl, rfl⟩)

set_option maxHeartbeats 4000000 in
set_option maxRecDepth 100000 in
theorem cq_eventN {N : Nat} {μ : am_M} {b : List Int} {C : Snap} {rem : Nat} {hs : Nat → Snap} (hX : Bx μ b C rem hs) (hN : 120 ≤ N) {k i w : Int} (hk : -2147483648 ≤ k ∧ k ≤ 2147483647) (hi : -2147483648 ≤ i ∧ i ≤ 2147483647) (hw : -2147483648 ≤ w ∧ w ≤ 2147483647) (hn : ¬ (0 ≤ k ∧ k < 4)) : am_Met YX9_event [.ref 0, am_i k, am_i i, am_i w] N μ (am_pv (am_i (-1)) N μ) := by
  obtain ⟨h0, hT, hR, hP, hH, hrem, hm, hsn⟩ := id hX
  refine am_met (by first | decide | rfl) (Nat.le_of_ble_eq_true rfl) (fun h => by first | rfl | cases h) ?_
  show am_W YX9_event _ 0 0 0 [(0, .ref 0), (1, am_i k), (2, am_i i), (3, am_i w)] [] _ _
  refine ap_aload_n dX9_event_0 rfl rfl ?_
  refine ap_iload_n dX9_event_1 rfl rfl ?_
  refine ap_cV (As := [am_i k]) (rest := []) (ct_partAtN hk hn) dX9_event_2 lk_X9_76 hy_X9_partAt rfl (by omega) h0 ⟨_, _, rfl⟩ (Nat.le_of_ble_eq_true rfl) ⟨Nat.le_of_ble_eq_true rfl, Nat.le_of_ble_eq_true rfl⟩ ⟨rfl, rfl⟩ ⟨Nat.le_of_ble_eq_true rfl, Nat.le_of_ble_eq_true rfl⟩ (fun xr1 xN2 μ3 xq4 => ?_)
  obtain ⟨rfl, rfl, rfl⟩ := xq4
  refine ap_AstoreN (lv2 := [(0, .ref 0), (1, am_i k), (2, am_i i), (3, am_i w), (4, .null)]) dX9_event_5 (by decide) rfl ?_
  refine ap_aloadN dX9_event_7 rfl ?_
  refine ap_ifnullN (tgt := 24) dX9_event_9 (by decide) ?_
  refine ap_iconst dX9_event_24 ?_
  exact ap_iret dX9_event_25 rfl rfl (Nat.le_of_ble_eq_true rfl) (Nat.le_of_ble_eq_true rfl) (⟨rfl, rfl, rfl⟩)

set_option maxHeartbeats 4000000 in
set_option maxRecDepth 100000 in
theorem cq_barsN {N : Nat} {μ : am_M} {b : List Int} {C : Snap} {rem : Nat} {hs : Nat → Snap} (hX : Bx μ b C rem hs) (hN : 120 ≤ N) {k : Int} (hk : -2147483648 ≤ k ∧ k ≤ 2147483647) (hn : ¬ (0 ≤ k ∧ k < 4)) : am_Met YX9_bars [.ref 0, am_i k] N μ (am_pv (am_i (-1)) N μ) := by
  obtain ⟨h0, hT, hR, hP, hH, hrem, hm, hsn⟩ := id hX
  refine am_met (by first | decide | rfl) (Nat.le_of_ble_eq_true rfl) (fun h => by first | rfl | cases h) ?_
  show am_W YX9_bars _ 0 0 0 [(0, .ref 0), (1, am_i k)] [] _ _
  refine ap_aload_n dX9_bars_0 rfl rfl ?_
  refine ap_iload_n dX9_bars_1 rfl rfl ?_
  refine ap_cV (As := [am_i k]) (rest := []) (ct_partAtN hk hn) dX9_bars_2 lk_X9_76 hy_X9_partAt rfl (by omega) h0 ⟨_, _, rfl⟩ (Nat.le_of_ble_eq_true rfl) ⟨Nat.le_of_ble_eq_true rfl, Nat.le_of_ble_eq_true rfl⟩ ⟨rfl, rfl⟩ ⟨Nat.le_of_ble_eq_true rfl, Nat.le_of_ble_eq_true rfl⟩ (fun xr1 xN2 μ3 xq4 => ?_)
  obtain ⟨rfl, rfl, rfl⟩ := xq4
  refine ap_Astore_nN (lv2 := [(0, .ref 0), (1, am_i k), (2, .null)]) dX9_bars_5 rfl (by decide) rfl ?_
  refine ap_aloadN_n dX9_bars_6 rfl rfl ?_
  refine ap_ifnonnullN dX9_bars_7 ?_
  refine ap_iconst dX9_bars_10 ?_
  refine ap_goto (tgt := 21) dX9_bars_11 (by decide) ?_
  exact ap_iret dX9_bars_21 rfl rfl (Nat.le_of_ble_eq_true rfl) (Nat.le_of_ble_eq_true rfl) (⟨rfl, rfl, rfl⟩)

set_option maxHeartbeats 4000000 in
set_option maxRecDepth 100000 in
theorem cq_wrongBarN {N : Nat} {μ : am_M} {b : List Int} {C : Snap} {rem : Nat} {hs : Nat → Snap} (hX : Bx μ b C rem hs) (hN : 120 ≤ N) {k : Int} (hk : -2147483648 ≤ k ∧ k ≤ 2147483647) (hn : ¬ (0 ≤ k ∧ k < 4)) : am_Met YX9_wrongBar [.ref 0, am_i k] N μ (am_pv (am_i (-1)) N μ) := by
  obtain ⟨h0, hT, hR, hP, hH, hrem, hm, hsn⟩ := id hX
  refine am_met (by first | decide | rfl) (Nat.le_of_ble_eq_true rfl) (fun h => by first | rfl | cases h) ?_
  show am_W YX9_wrongBar _ 0 0 0 [(0, .ref 0), (1, am_i k)] [] _ _
  refine ap_aload_n dX9_wrongBar_0 rfl rfl ?_
  refine ap_iload_n dX9_wrongBar_1 rfl rfl ?_
  refine ap_cV (As := [am_i k]) (rest := []) (ct_partAtN hk hn) dX9_wrongBar_2 lk_X9_76 hy_X9_partAt rfl (by omega) h0 ⟨_, _, rfl⟩ (Nat.le_of_ble_eq_true rfl) ⟨Nat.le_of_ble_eq_true rfl, Nat.le_of_ble_eq_true rfl⟩ ⟨rfl, rfl⟩ ⟨Nat.le_of_ble_eq_true rfl, Nat.le_of_ble_eq_true rfl⟩ (fun xr1 xN2 μ3 xq4 => ?_)
  obtain ⟨rfl, rfl, rfl⟩ := xq4
  refine ap_Astore_nN (lv2 := [(0, .ref 0), (1, am_i k), (2, .null)]) dX9_wrongBar_5 rfl (by decide) rfl ?_
  refine ap_aloadN_n dX9_wrongBar_6 rfl rfl ?_
  refine ap_ifnonnullN dX9_wrongBar_7 ?_
  refine ap_iconst dX9_wrongBar_10 ?_
  exact ap_iret dX9_wrongBar_11 rfl rfl (Nat.le_of_ble_eq_true rfl) (Nat.le_of_ble_eq_true rfl) (⟨rfl, rfl, rfl⟩)

set_option maxHeartbeats 4000000 in
set_option maxRecDepth 100000 in
theorem cq_syncopationN {N : Nat} {μ : am_M} {b : List Int} {C : Snap} {rem : Nat} {hs : Nat → Snap} (hX : Bx μ b C rem hs) (hN : 120 ≤ N) {k : Int} (hk : -2147483648 ≤ k ∧ k ≤ 2147483647) (hn : ¬ (0 ≤ k ∧ k < 4)) : am_Met YX9_syncopation [.ref 0, am_i k] N μ (am_pv (am_i (-1)) N μ) := by
  obtain ⟨h0, hT, hR, hP, hH, hrem, hm, hsn⟩ := id hX
  refine am_met (by first | decide | rfl) (Nat.le_of_ble_eq_true rfl) (fun h => by first | rfl | cases h) ?_
  show am_W YX9_syncopation _ 0 0 0 [(0, .ref 0), (1, am_i k)] [] _ _
  refine ap_aload_n dX9_syncopation_0 rfl rfl ?_
  refine ap_iload_n dX9_syncopation_1 rfl rfl ?_
  refine ap_cV (As := [am_i k]) (rest := []) (ct_partAtN hk hn) dX9_syncopation_2 lk_X9_76 hy_X9_partAt rfl (by omega) h0 ⟨_, _, rfl⟩ (Nat.le_of_ble_eq_true rfl) ⟨Nat.le_of_ble_eq_true rfl, Nat.le_of_ble_eq_true rfl⟩ ⟨rfl, rfl⟩ ⟨Nat.le_of_ble_eq_true rfl, Nat.le_of_ble_eq_true rfl⟩ (fun xr1 xN2 μ3 xq4 => ?_)
  obtain ⟨rfl, rfl, rfl⟩ := xq4
  refine ap_Astore_nN (lv2 := [(0, .ref 0), (1, am_i k), (2, .null)]) dX9_syncopation_5 rfl (by decide) rfl ?_
  refine ap_aloadN_n dX9_syncopation_6 rfl rfl ?_
  refine ap_ifnonnullN dX9_syncopation_7 ?_
  refine ap_iconst dX9_syncopation_10 ?_
  exact ap_iret dX9_syncopation_11 rfl rfl (Nat.le_of_ble_eq_true rfl) (Nat.le_of_ble_eq_true rfl) (⟨rfl, rfl, rfl⟩)

set_option maxHeartbeats 4000000 in
set_option maxRecDepth 100000 in
theorem cq_leastGridN {N : Nat} {μ : am_M} {b : List Int} {C : Snap} {rem : Nat} {hs : Nat → Snap} (hX : Bx μ b C rem hs) (hN : 120 ≤ N) {k : Int} (hk : -2147483648 ≤ k ∧ k ≤ 2147483647) (hn : ¬ (0 ≤ k ∧ k < 4)) : am_Met YX9_leastGrid [.ref 0, am_i k] N μ (am_pv (am_i (-1)) N μ) := by
  obtain ⟨h0, hT, hR, hP, hH, hrem, hm, hsn⟩ := id hX
  refine am_met (by first | decide | rfl) (Nat.le_of_ble_eq_true rfl) (fun h => by first | rfl | cases h) ?_
  show am_W YX9_leastGrid _ 0 0 0 [(0, .ref 0), (1, am_i k)] [] _ _
  refine ap_aload_n dX9_leastGrid_0 rfl rfl ?_
  refine ap_iload_n dX9_leastGrid_1 rfl rfl ?_
  refine ap_cV (As := [am_i k]) (rest := []) (ct_partAtN hk hn) dX9_leastGrid_2 lk_X9_76 hy_X9_partAt rfl (by omega) h0 ⟨_, _, rfl⟩ (Nat.le_of_ble_eq_true rfl) ⟨Nat.le_of_ble_eq_true rfl, Nat.le_of_ble_eq_true rfl⟩ ⟨rfl, rfl⟩ ⟨Nat.le_of_ble_eq_true rfl, Nat.le_of_ble_eq_true rfl⟩ (fun xr1 xN2 μ3 xq4 => ?_)
  obtain ⟨rfl, rfl, rfl⟩ := xq4
  refine ap_Astore_nN (lv2 := [(0, .ref 0), (1, am_i k), (2, .null)]) dX9_leastGrid_5 rfl (by decide) rfl ?_
  refine ap_aloadN_n dX9_leastGrid_6 rfl rfl ?_
  refine ap_ifnonnullN dX9_leastGrid_7 ?_
  refine ap_iconst dX9_leastGrid_10 ?_
  exact ap_iret dX9_leastGrid_11 rfl rfl (Nat.le_of_ble_eq_true rfl) (Nat.le_of_ble_eq_true rfl) (⟨rfl, rfl, rfl⟩)

set_option maxHeartbeats 4000000 in
set_option maxRecDepth 100000 in
theorem cq_offGridN {N : Nat} {μ : am_M} {b : List Int} {C : Snap} {rem : Nat} {hs : Nat → Snap} (hX : Bx μ b C rem hs) (hN : 120 ≤ N) {k g : Int} (hk : -2147483648 ≤ k ∧ k ≤ 2147483647) (hg : -2147483648 ≤ g ∧ g ≤ 2147483647) (hn : ¬ (0 ≤ k ∧ k < 4)) : am_Met YX9_offGrid [.ref 0, am_i k, am_i g] N μ (am_pv (am_i (-1)) N μ) := by
  obtain ⟨h0, hT, hR, hP, hH, hrem, hm, hsn⟩ := id hX
  refine am_met (by first | decide | rfl) (Nat.le_of_ble_eq_true rfl) (fun h => by first | rfl | cases h) ?_
  show am_W YX9_offGrid _ 0 0 0 [(0, .ref 0), (1, am_i k), (2, am_i g)] [] _ _
  refine ap_aload_n dX9_offGrid_0 rfl rfl ?_
  refine ap_iload_n dX9_offGrid_1 rfl rfl ?_
  refine ap_cV (As := [am_i k]) (rest := []) (ct_partAtN hk hn) dX9_offGrid_2 lk_X9_76 hy_X9_partAt rfl (by omega) h0 ⟨_, _, rfl⟩ (Nat.le_of_ble_eq_true rfl) ⟨Nat.le_of_ble_eq_true rfl, Nat.le_of_ble_eq_true rfl⟩ ⟨rfl, rfl⟩ ⟨Nat.le_of_ble_eq_true rfl, Nat.le_of_ble_eq_true rfl⟩ (fun xr1 xN2 μ3 xq4 => ?_)
  obtain ⟨rfl, rfl, rfl⟩ := xq4
  refine ap_Astore_nN (lv2 := [(0, .ref 0), (1, am_i k), (2, am_i g), (3, .null)]) dX9_offGrid_5 rfl (by decide) rfl ?_
  refine ap_aloadN_n dX9_offGrid_6 rfl rfl ?_
  refine ap_ifnullN (tgt := 22) dX9_offGrid_7 (by decide) ?_
  refine ap_iconst dX9_offGrid_22 ?_
  exact ap_iret dX9_offGrid_23 rfl rfl (Nat.le_of_ble_eq_true rfl) (Nat.le_of_ble_eq_true rfl) (⟨rfl, rfl, rfl⟩)

set_option maxHeartbeats 4000000 in
set_option maxRecDepth 100000 in
theorem cq_textOf {N : Nat} {μ : am_M} {b : List Int} {C : Snap} {rem : Nat} {hs : Nat → Snap} (hX : Bx μ b C rem hs) (hN : 120 ≤ N) {p : Nat} (hp : p < 4) {P : PS} (hPe : psc (s_t C p) = P) {j : Int} (hj : -2147483648 ≤ j ∧ j ≤ 2147483647) : am_Met YX9_textOf [.ref 0, am_i (p : Int), am_i j] N μ (am_pv (am_i (if j < 0 then -1 else tat (s_t C p) j)) N μ) := by
  obtain ⟨h0, hT, hR, hP, hH, hrem, hm, hsn⟩ := id hX
  obtain ⟨p1, p2, p3, hS, p5⟩ := id (hP.2 p hp)
  have hpk := psc_ok p5
  have hS : Sco μ (7 + 15 * p + 5) (psc (s_t C p)) := hS
  rw [hPe] at hS hpk
  obtain ⟨s1, -⟩ := id hS
  obtain ⟨g1, g2, g3, g4, g5, g6, g7, g8, g9⟩ := id hpk
  refine am_met (by first | decide | rfl) (Nat.le_of_ble_eq_true rfl) (fun h => by first | rfl | cases h) ?_
  show am_W YX9_textOf _ 0 0 0 [(0, .ref 0), (1, am_i (p : Int)), (2, am_i j)] [] _ _
  refine ap_aload_n dX9_textOf_0 rfl rfl ?_
  refine ap_iload_n dX9_textOf_1 rfl rfl ?_
  refine ap_cV (As := [am_i (p : Int)]) (rest := []) (ct_partAtP h0 hP hN hp) dX9_textOf_2 lk_X9_76 hy_X9_partAt rfl (by omega) h0 ⟨_, _, rfl⟩ (Nat.le_of_ble_eq_true rfl) ⟨Nat.le_of_ble_eq_true rfl, Nat.le_of_ble_eq_true rfl⟩ ⟨rfl, rfl⟩ ⟨Nat.le_of_ble_eq_true rfl, Nat.le_of_ble_eq_true rfl⟩ (fun xr1 xN2 μ3 xq4 => ?_)
  obtain ⟨rfl, rfl, rfl⟩ := xq4
  refine ap_Astore_n (lv2 := [(0, .ref 0), (1, am_i (p : Int)), (2, am_i j), (3, .ref (7 + 15 * p))]) dX9_textOf_5 rfl (by decide) rfl ?_
  refine ap_aload_n dX9_textOf_6 rfl rfl ?_
  refine ap_ifnull dX9_textOf_7 ?_
  refine ap_iload_n dX9_textOf_10 rfl rfl ?_
  refine ap_if_ge (tgt := 16) dX9_textOf_11 (by decide) (by omega) (fun c11 => ?_) (fun c11 => ?_)
  · refine ap_aload_n dX9_textOf_16 rfl rfl ?_
    refine ap_getN ff_X9_109 dX9_textOf_17 (by omega) p1 rfl ?_
    refine ap_iload_n dX9_textOf_20 rfl rfl ?_
    refine ap_cV (As := [am_i j]) (rest := []) (ct_at p2 (by omega) hj) dX9_textOf_21 lk_X9_118 hy_X6_at rfl (by omega) p2.1 ⟨_, _, rfl⟩ (Nat.le_of_ble_eq_true rfl) ⟨Nat.le_of_ble_eq_true rfl, Nat.le_of_ble_eq_true rfl⟩ ⟨rfl, rfl⟩ ⟨Nat.le_of_ble_eq_true rfl, Nat.le_of_ble_eq_true rfl⟩ (fun xr5 xN6 μ7 xq8 => ?_)
    obtain ⟨rfl, rfl, rfl⟩ := xq8
    exact ap_iret dX9_textOf_24 rfl rfl (Nat.le_of_ble_eq_true rfl) (Nat.le_of_ble_eq_true rfl) (⟨by rw [if_neg (by omega)], rfl, rfl⟩)
  · refine ap_iconst dX9_textOf_14 ?_
    exact ap_iret dX9_textOf_15 rfl rfl (Nat.le_of_ble_eq_true rfl) (Nat.le_of_ble_eq_true rfl) (⟨by rw [if_pos (by omega)], rfl, rfl⟩)

set_option maxHeartbeats 4000000 in
set_option maxRecDepth 100000 in
theorem cq_unfolded {N : Nat} {μ : am_M} {b : List Int} {C : Snap} {rem : Nat} {hs : Nat → Snap} (hX : Bx μ b C rem hs) (hN : 120 ≤ N) {p : Nat} (hp : p < 4) {P : PS} (hPe : psc (s_t C p) = P) {j : Int} (hj : -2147483648 ≤ j ∧ j ≤ 2147483647) : am_Met YX9_unfolded [.ref 0, am_i (p : Int), am_i j] N μ (am_pv (am_i (if j < 0 then -1 else tat (uf (s_t C p) 0) j)) N μ) := by
  obtain ⟨h0, hT, hR, hP, hH, hrem, hm, hsn⟩ := id hX
  obtain ⟨p1, p2, p3, hS, p5⟩ := id (hP.2 p hp)
  have hpk := psc_ok p5
  have hS : Sco μ (7 + 15 * p + 5) (psc (s_t C p)) := hS
  rw [hPe] at hS hpk
  obtain ⟨s1, -⟩ := id hS
  obtain ⟨g1, g2, g3, g4, g5, g6, g7, g8, g9⟩ := id hpk
  refine am_met (by first | decide | rfl) (Nat.le_of_ble_eq_true rfl) (fun h => by first | rfl | cases h) ?_
  show am_W YX9_unfolded _ 0 0 0 [(0, .ref 0), (1, am_i (p : Int)), (2, am_i j)] [] _ _
  refine ap_aload_n dX9_unfolded_0 rfl rfl ?_
  refine ap_iload_n dX9_unfolded_1 rfl rfl ?_
  refine ap_cV (As := [am_i (p : Int)]) (rest := []) (ct_partAtP h0 hP hN hp) dX9_unfolded_2 lk_X9_76 hy_X9_partAt rfl (by omega) h0 ⟨_, _, rfl⟩ (Nat.le_of_ble_eq_true rfl) ⟨Nat.le_of_ble_eq_true rfl, Nat.le_of_ble_eq_true rfl⟩ ⟨rfl, rfl⟩ ⟨Nat.le_of_ble_eq_true rfl, Nat.le_of_ble_eq_true rfl⟩ (fun xr1 xN2 μ3 xq4 => ?_)
  obtain ⟨rfl, rfl, rfl⟩ := xq4
  refine ap_Astore_n (lv2 := [(0, .ref 0), (1, am_i (p : Int)), (2, am_i j), (3, .ref (7 + 15 * p))]) dX9_unfolded_5 rfl (by decide) rfl ?_
  refine ap_aload_n dX9_unfolded_6 rfl rfl ?_
  refine ap_ifnull dX9_unfolded_7 ?_
  refine ap_iload_n dX9_unfolded_10 rfl rfl ?_
  refine ap_if_ge (tgt := 16) dX9_unfolded_11 (by decide) (by omega) (fun c11 => ?_) (fun c11 => ?_)
  · refine ap_aload_n dX9_unfolded_16 rfl rfl ?_
    refine ap_getN ff_X9_121 dX9_unfolded_17 (by omega) p1 rfl ?_
    refine ap_iload_n dX9_unfolded_20 rfl rfl ?_
    refine ap_cV (As := [am_i j]) (rest := []) (ct_at p3 (by omega) hj) dX9_unfolded_21 lk_X9_118 hy_X6_at rfl (by omega) p3.1 ⟨_, _, rfl⟩ (Nat.le_of_ble_eq_true rfl) ⟨Nat.le_of_ble_eq_true rfl, Nat.le_of_ble_eq_true rfl⟩ ⟨rfl, rfl⟩ ⟨Nat.le_of_ble_eq_true rfl, Nat.le_of_ble_eq_true rfl⟩ (fun xr5 xN6 μ7 xq8 => ?_)
    obtain ⟨rfl, rfl, rfl⟩ := xq8
    exact ap_iret dX9_unfolded_24 rfl rfl (Nat.le_of_ble_eq_true rfl) (Nat.le_of_ble_eq_true rfl) (⟨by rw [if_neg (by omega)], rfl, rfl⟩)
  · refine ap_iconst dX9_unfolded_14 ?_
    exact ap_iret dX9_unfolded_15 rfl rfl (Nat.le_of_ble_eq_true rfl) (Nat.le_of_ble_eq_true rfl) (⟨by rw [if_pos (by omega)], rfl, rfl⟩)

set_option maxHeartbeats 4000000 in
set_option maxRecDepth 100000 in
theorem cq_events {N : Nat} {μ : am_M} {b : List Int} {C : Snap} {rem : Nat} {hs : Nat → Snap} (hX : Bx μ b C rem hs) (hN : 120 ≤ N) {p : Nat} (hp : p < 4) {P : PS} (hPe : psc (s_t C p) = P) : am_Met YX9_events [.ref 0, am_i (p : Int)] N μ (am_pv (am_i (p_cnt P : Int)) N μ) := by
  obtain ⟨h0, hT, hR, hP, hH, hrem, hm, hsn⟩ := id hX
  obtain ⟨p1, p2, p3, hS, p5⟩ := id (hP.2 p hp)
  have hpk := psc_ok p5
  have hS : Sco μ (7 + 15 * p + 5) (psc (s_t C p)) := hS
  rw [hPe] at hS hpk
  obtain ⟨s1, -⟩ := id hS
  obtain ⟨g1, g2, g3, g4, g5, g6, g7, g8, g9⟩ := id hpk
  refine am_met (by first | decide | rfl) (Nat.le_of_ble_eq_true rfl) (fun h => by first | rfl | cases h) ?_
  show am_W YX9_events _ 0 0 0 [(0, .ref 0), (1, am_i (p : Int))] [] _ _
  refine ap_aload_n dX9_events_0 rfl rfl ?_
  refine ap_iload_n dX9_events_1 rfl rfl ?_
  refine ap_cV (As := [am_i (p : Int)]) (rest := []) (ct_partAtP h0 hP hN hp) dX9_events_2 lk_X9_76 hy_X9_partAt rfl (by omega) h0 ⟨_, _, rfl⟩ (Nat.le_of_ble_eq_true rfl) ⟨Nat.le_of_ble_eq_true rfl, Nat.le_of_ble_eq_true rfl⟩ ⟨rfl, rfl⟩ ⟨Nat.le_of_ble_eq_true rfl, Nat.le_of_ble_eq_true rfl⟩ (fun xr1 xN2 μ3 xq4 => ?_)
  obtain ⟨rfl, rfl, rfl⟩ := xq4
  refine ap_Astore_n (lv2 := [(0, .ref 0), (1, am_i (p : Int)), (2, .ref (7 + 15 * p))]) dX9_events_5 rfl (by decide) rfl ?_
  refine ap_aload_n dX9_events_6 rfl rfl ?_
  refine ap_ifnonnull (tgt := 14) dX9_events_7 (by decide) ?_
  refine ap_aload_n dX9_events_14 rfl rfl ?_
  refine ap_getN ff_X9_100 dX9_events_15 (by omega) p1 rfl ?_
  refine ap_cV (As := []) (rest := []) (ct_count hS (by omega) hpk) dX9_events_18 lk_X9_104 hy_X4_count rfl (by omega) s1 ⟨_, _, rfl⟩ (Nat.le_of_ble_eq_true rfl) ⟨Nat.le_of_ble_eq_true rfl, Nat.le_of_ble_eq_true rfl⟩ ⟨rfl, rfl⟩ ⟨Nat.le_of_ble_eq_true rfl, Nat.le_of_ble_eq_true rfl⟩ (fun xr5 xN6 μ7 xq8 => ?_)
  obtain ⟨rfl, rfl, rfl⟩ := xq8
  exact ap_iret dX9_events_21 rfl rfl (Nat.le_of_ble_eq_true rfl) (Nat.le_of_ble_eq_true rfl) (⟨rfl, rfl, rfl⟩)

set_option maxHeartbeats 4000000 in
set_option maxRecDepth 100000 in
theorem cq_bars {N : Nat} {μ : am_M} {b : List Int} {C : Snap} {rem : Nat} {hs : Nat → Snap} (hX : Bx μ b C rem hs) (hN : 120 ≤ N) {p : Nat} (hp : p < 4) {P : PS} (hPe : psc (s_t C p) = P) : am_Met YX9_bars [.ref 0, am_i (p : Int)] N μ (am_pv (am_i (p_nb P : Int)) N μ) := by
  obtain ⟨h0, hT, hR, hP, hH, hrem, hm, hsn⟩ := id hX
  obtain ⟨p1, p2, p3, hS, p5⟩ := id (hP.2 p hp)
  have hpk := psc_ok p5
  have hS : Sco μ (7 + 15 * p + 5) (psc (s_t C p)) := hS
  rw [hPe] at hS hpk
  obtain ⟨s1, -⟩ := id hS
  obtain ⟨g1, g2, g3, g4, g5, g6, g7, g8, g9⟩ := id hpk
  refine am_met (by first | decide | rfl) (Nat.le_of_ble_eq_true rfl) (fun h => by first | rfl | cases h) ?_
  show am_W YX9_bars _ 0 0 0 [(0, .ref 0), (1, am_i (p : Int))] [] _ _
  refine ap_aload_n dX9_bars_0 rfl rfl ?_
  refine ap_iload_n dX9_bars_1 rfl rfl ?_
  refine ap_cV (As := [am_i (p : Int)]) (rest := []) (ct_partAtP h0 hP hN hp) dX9_bars_2 lk_X9_76 hy_X9_partAt rfl (by omega) h0 ⟨_, _, rfl⟩ (Nat.le_of_ble_eq_true rfl) ⟨Nat.le_of_ble_eq_true rfl, Nat.le_of_ble_eq_true rfl⟩ ⟨rfl, rfl⟩ ⟨Nat.le_of_ble_eq_true rfl, Nat.le_of_ble_eq_true rfl⟩ (fun xr1 xN2 μ3 xq4 => ?_)
  obtain ⟨rfl, rfl, rfl⟩ := xq4
  refine ap_Astore_n (lv2 := [(0, .ref 0), (1, am_i (p : Int)), (2, .ref (7 + 15 * p))]) dX9_bars_5 rfl (by decide) rfl ?_
  refine ap_aload_n dX9_bars_6 rfl rfl ?_
  refine ap_ifnonnull (tgt := 14) dX9_bars_7 (by decide) ?_
  refine ap_aload_n dX9_bars_14 rfl rfl ?_
  refine ap_getN ff_X9_100 dX9_bars_15 (by omega) p1 rfl ?_
  refine ap_cV (As := []) (rest := []) (ct_barCount hS (by omega) hpk) dX9_bars_18 lk_X9_174 hy_X4_barCount rfl (by omega) s1 ⟨_, _, rfl⟩ (Nat.le_of_ble_eq_true rfl) ⟨Nat.le_of_ble_eq_true rfl, Nat.le_of_ble_eq_true rfl⟩ ⟨rfl, rfl⟩ ⟨Nat.le_of_ble_eq_true rfl, Nat.le_of_ble_eq_true rfl⟩ (fun xr5 xN6 μ7 xq8 => ?_)
  obtain ⟨rfl, rfl, rfl⟩ := xq8
  exact ap_iret dX9_bars_21 rfl rfl (Nat.le_of_ble_eq_true rfl) (Nat.le_of_ble_eq_true rfl) (⟨rfl, rfl, rfl⟩)

set_option maxHeartbeats 4000000 in
set_option maxRecDepth 100000 in
theorem cq_length {N : Nat} {μ : am_M} {b : List Int} {C : Snap} {rem : Nat} {hs : Nat → Snap} (hX : Bx μ b C rem hs) (hN : 120 ≤ N) {p : Nat} (hp : p < 4) {P : PS} (hPe : psc (s_t C p) = P) {w : Int} (hw : -2147483648 ≤ w ∧ w ≤ 2147483647) : am_Met YX9_length [.ref 0, am_i (p : Int), am_i w] N μ (am_pv (am_l (if w = 0 ∨ w = 1 then sd (p_tot P).toNat 812851200 w else -1)) N μ) := by
  obtain ⟨h0, hT, hR, hP, hH, hrem, hm, hsn⟩ := id hX
  obtain ⟨p1, p2, p3, hS, p5⟩ := id (hP.2 p hp)
  have hpk := psc_ok p5
  have hS : Sco μ (7 + 15 * p + 5) (psc (s_t C p)) := hS
  rw [hPe] at hS hpk
  obtain ⟨s1, -⟩ := id hS
  obtain ⟨g1, g2, g3, g4, g5, g6, g7, g8, g9⟩ := id hpk
  refine am_met (by first | decide | rfl) (Nat.le_of_ble_eq_true rfl) (fun h => by first | rfl | cases h) ?_
  show am_W YX9_length _ 0 0 0 [(0, .ref 0), (1, am_i (p : Int)), (2, am_i w)] [] _ _
  refine ap_aload_n dX9_length_0 rfl rfl ?_
  refine ap_iload_n dX9_length_1 rfl rfl ?_
  refine ap_cV (As := [am_i (p : Int)]) (rest := []) (ct_partAtP h0 hP hN hp) dX9_length_2 lk_X9_76 hy_X9_partAt rfl (by omega) h0 ⟨_, _, rfl⟩ (Nat.le_of_ble_eq_true rfl) ⟨Nat.le_of_ble_eq_true rfl, Nat.le_of_ble_eq_true rfl⟩ ⟨rfl, rfl⟩ ⟨Nat.le_of_ble_eq_true rfl, Nat.le_of_ble_eq_true rfl⟩ (fun xr1 xN2 μ3 xq4 => ?_)
  obtain ⟨rfl, rfl, rfl⟩ := xq4
  refine ap_Astore_n (lv2 := [(0, .ref 0), (1, am_i (p : Int)), (2, am_i w), (3, .ref (7 + 15 * p))]) dX9_length_5 rfl (by decide) rfl ?_
  refine ap_aload_n dX9_length_6 rfl rfl ?_
  refine ap_ifnull dX9_length_7 ?_
  refine ap_iload_n dX9_length_10 rfl rfl ?_
  refine ap_cS (As := [am_i w]) (rest := []) (ct_isSide hw) dX9_length_11 lk_X9_128 hy_X9_isSide rfl (Nat.le_of_ble_eq_true rfl) ⟨Nat.le_of_ble_eq_true rfl, Nat.le_of_ble_eq_true rfl⟩ ⟨rfl, rfl⟩ ⟨Nat.le_of_ble_eq_true rfl, Nat.le_of_ble_eq_true rfl⟩ (fun xr5 xN6 μ7 xq8 => ?_)
  obtain ⟨rfl, rfl, rfl⟩ := xq8
  refine ap_if_ne (tgt := 21) dX9_length_14 (by decide) (by split <;> omega) (fun c14 => ?_) (fun c14 => ?_)
  · have hq : w = 0 ∨ w = 1 := by
      by_cases q : w = 0 ∨ w = 1
      · exact q
      · rw [if_neg q] at c14; omega
    refine ap_aload_n dX9_length_21 rfl rfl ?_
    refine ap_getN ff_X9_100 dX9_length_22 (by omega) p1 rfl ?_
    refine ap_cV (As := []) (rest := []) (ct_total hS (by omega) hpk) dX9_length_25 lk_X9_133 hy_X4_total rfl (by omega) s1 ⟨_, _, rfl⟩ (Nat.le_of_ble_eq_true rfl) ⟨Nat.le_of_ble_eq_true rfl, Nat.le_of_ble_eq_true rfl⟩ ⟨rfl, rfl⟩ ⟨Nat.le_of_ble_eq_true rfl, Nat.le_of_ble_eq_true rfl⟩ (fun xr9 xN10 μ11 xq12 => ?_)
    obtain ⟨rfl, rfl, rfl⟩ := xq12
    refine ap_topl (b := ((p_tot P).toNat : Int)) (show (p_tot P) = ((p_tot P).toNat : Int) from by omega) ?_
    refine ap_ldc2 dX9_length_28 kl_X9_137 ?_
    refine ap_iload_n dX9_length_31 rfl rfl ?_
    refine ap_cS (As := [am_l ((p_tot P).toNat : Int), am_l 812851200, am_i w]) (rest := []) (ct_side (x := (p_tot P).toNat) (d := 812851200) (by omega) (by omega) hw) dX9_length_32 lk_X9_139 hy_X9_side rfl (Nat.le_of_ble_eq_true rfl) ⟨Nat.le_of_ble_eq_true rfl, Nat.le_of_ble_eq_true rfl⟩ ⟨rfl, rfl⟩ ⟨Nat.le_of_ble_eq_true rfl, Nat.le_of_ble_eq_true rfl⟩ (fun xr13 xN14 μ15 xq16 => ?_)
    obtain ⟨rfl, rfl, rfl⟩ := xq16
    exact ap_lret dX9_length_35 rfl (Nat.le_of_ble_eq_true rfl) (Nat.le_of_ble_eq_true rfl) (⟨by rw [if_pos hq], rfl, rfl⟩)
  · have hq : ¬ (w = 0 ∨ w = 1) := by
      intro q
      rw [if_pos q] at c14; omega
    refine ap_ldc2 dX9_length_17 kl_X9_131 ?_
    exact ap_lret dX9_length_20 rfl (Nat.le_of_ble_eq_true rfl) (Nat.le_of_ble_eq_true rfl) (⟨by rw [if_neg hq], rfl, rfl⟩)

set_option maxHeartbeats 4000000 in
set_option maxRecDepth 100000 in
theorem cq_onset {N : Nat} {μ : am_M} {b : List Int} {C : Snap} {rem : Nat} {hs : Nat → Snap} (hX : Bx μ b C rem hs) (hN : 120 ≤ N) {p : Nat} (hp : p < 4) {P : PS} (hPe : psc (s_t C p) = P) {i w : Int} (hi : -2147483648 ≤ i ∧ i ≤ 2147483647) (hw : -2147483648 ≤ w ∧ w ≤ 2147483647) : am_Met YX9_onset [.ref 0, am_i (p : Int), am_i i, am_i w] N μ (am_pv (am_l (q_ev P i w (p_B P))) N μ) := by
  obtain ⟨h0, hT, hR, hP, hH, hrem, hm, hsn⟩ := id hX
  obtain ⟨p1, p2, p3, hS, p5⟩ := id (hP.2 p hp)
  have hpk := psc_ok p5
  have hS : Sco μ (7 + 15 * p + 5) (psc (s_t C p)) := hS
  rw [hPe] at hS hpk
  obtain ⟨s1, -⟩ := id hS
  obtain ⟨g1, g2, g3, g4, g5, g6, g7, g8, g9⟩ := id hpk
  refine am_met (by first | decide | rfl) (Nat.le_of_ble_eq_true rfl) (fun h => by first | rfl | cases h) ?_
  show am_W YX9_onset _ 0 0 0 [(0, .ref 0), (1, am_i (p : Int)), (2, am_i i), (3, am_i w)] [] _ _
  refine ap_aload_n dX9_onset_0 rfl rfl ?_
  refine ap_iload_n dX9_onset_1 rfl rfl ?_
  refine ap_cV (As := [am_i (p : Int)]) (rest := []) (ct_partAtP h0 hP hN hp) dX9_onset_2 lk_X9_76 hy_X9_partAt rfl (by omega) h0 ⟨_, _, rfl⟩ (Nat.le_of_ble_eq_true rfl) ⟨Nat.le_of_ble_eq_true rfl, Nat.le_of_ble_eq_true rfl⟩ ⟨rfl, rfl⟩ ⟨Nat.le_of_ble_eq_true rfl, Nat.le_of_ble_eq_true rfl⟩ (fun xr1 xN2 μ3 xq4 => ?_)
  obtain ⟨rfl, rfl, rfl⟩ := xq4
  refine ap_Astore (lv2 := [(0, .ref 0), (1, am_i (p : Int)), (2, am_i i), (3, am_i w), (4, .ref (7 + 15 * p))]) dX9_onset_5 (by decide) rfl ?_
  refine ap_aload dX9_onset_7 rfl ?_
  refine ap_ifnull dX9_onset_9 ?_
  refine ap_aload dX9_onset_12 rfl ?_
  refine ap_getN ff_X9_100 dX9_onset_14 (by omega) p1 rfl ?_
  refine ap_iload_n dX9_onset_17 rfl rfl ?_
  refine ap_cV (As := [am_i i]) (rest := []) (ct_hasEvent hS (by omega) hpk hi) dX9_onset_18 lk_X9_143 hy_X4_hasEvent rfl (by omega) s1 ⟨_, _, rfl⟩ (Nat.le_of_ble_eq_true rfl) ⟨Nat.le_of_ble_eq_true rfl, Nat.le_of_ble_eq_true rfl⟩ ⟨rfl, rfl⟩ ⟨Nat.le_of_ble_eq_true rfl, Nat.le_of_ble_eq_true rfl⟩ (fun xr5 xN6 μ7 xq8 => ?_)
  obtain ⟨rfl, rfl, rfl⟩ := xq8
  refine ap_if_eq (tgt := 31) dX9_onset_21 (by decide) (by split <;> omega) (fun c21 => ?_) (fun c21 => ?_)
  · have hq : ¬ (0 ≤ i ∧ i < p_cnt P) := by
      intro q
      rw [if_pos q] at c21; omega
    refine ap_ldc2 dX9_onset_31 kl_X9_131 ?_
    exact ap_lret dX9_onset_34 rfl (Nat.le_of_ble_eq_true rfl) (Nat.le_of_ble_eq_true rfl) (⟨by rw [q_ev, if_neg (fun q => hq q.1)], rfl, rfl⟩)
  · have hq : 0 ≤ i ∧ i < p_cnt P := by
      by_cases q : 0 ≤ i ∧ i < p_cnt P
      · exact q
      · rw [if_neg q] at c21; omega
    refine ap_iload_n dX9_onset_24 rfl rfl ?_
    refine ap_cS (As := [am_i w]) (rest := []) (ct_isSide hw) dX9_onset_25 lk_X9_128 hy_X9_isSide rfl (Nat.le_of_ble_eq_true rfl) ⟨Nat.le_of_ble_eq_true rfl, Nat.le_of_ble_eq_true rfl⟩ ⟨rfl, rfl⟩ ⟨Nat.le_of_ble_eq_true rfl, Nat.le_of_ble_eq_true rfl⟩ (fun xr9 xN10 μ11 xq12 => ?_)
    obtain ⟨rfl, rfl, rfl⟩ := xq12
    refine ap_if_ne (tgt := 35) dX9_onset_28 (by decide) (by split <;> omega) (fun c28 => ?_) (fun c28 => ?_)
    · have hq2 : w = 0 ∨ w = 1 := by
        by_cases q : w = 0 ∨ w = 1
        · exact q
        · rw [if_neg q] at c28; omega
      have ge := g8 i.toNat (by omega)
      refine ap_aload dX9_onset_35 rfl ?_
      refine ap_getN ff_X9_100 dX9_onset_37 (by omega) p1 rfl ?_
      refine ap_iload_n dX9_onset_40 rfl rfl ?_
      refine ap_cV (As := [am_i i]) (rest := []) (ct_begin hS (by omega) hpk hi) dX9_onset_41 lk_X9_146 hy_X4_begin rfl (by omega) s1 ⟨_, _, rfl⟩ (Nat.le_of_ble_eq_true rfl) ⟨Nat.le_of_ble_eq_true rfl, Nat.le_of_ble_eq_true rfl⟩ ⟨rfl, rfl⟩ ⟨Nat.le_of_ble_eq_true rfl, Nat.le_of_ble_eq_true rfl⟩ (fun xr13 xN14 μ15 xq16 => ?_)
      obtain ⟨rfl, rfl, rfl⟩ := xq16
      refine ap_topl (b := ((p_B P i.toNat).toNat : Int)) (show (if 0 ≤ i ∧ i < p_cnt P then p_B P i.toNat else 0) = ((p_B P i.toNat).toNat : Int) from by rw [if_pos hq]; omega) ?_
      refine ap_ldc2 dX9_onset_44 kl_X9_137 ?_
      refine ap_iload_n dX9_onset_47 rfl rfl ?_
      refine ap_cS (As := [am_l ((p_B P i.toNat).toNat : Int), am_l 812851200, am_i w]) (rest := []) (ct_side (x := (p_B P i.toNat).toNat) (d := 812851200) (by omega) (by omega) hw) dX9_onset_48 lk_X9_139 hy_X9_side rfl (Nat.le_of_ble_eq_true rfl) ⟨Nat.le_of_ble_eq_true rfl, Nat.le_of_ble_eq_true rfl⟩ ⟨rfl, rfl⟩ ⟨Nat.le_of_ble_eq_true rfl, Nat.le_of_ble_eq_true rfl⟩ (fun xr17 xN18 μ19 xq20 => ?_)
      obtain ⟨rfl, rfl, rfl⟩ := xq20
      exact ap_lret dX9_onset_51 rfl (Nat.le_of_ble_eq_true rfl) (Nat.le_of_ble_eq_true rfl) (⟨by rw [q_ev, if_pos ⟨hq, hq2⟩], rfl, rfl⟩)
    · have hq2 : ¬ (w = 0 ∨ w = 1) := by
        intro q
        rw [if_pos q] at c28; omega
      refine ap_ldc2 dX9_onset_31 kl_X9_131 ?_
      exact ap_lret dX9_onset_34 rfl (Nat.le_of_ble_eq_true rfl) (Nat.le_of_ble_eq_true rfl) (⟨by rw [q_ev, if_neg (fun q => hq2 q.2)], rfl, rfl⟩)

set_option maxHeartbeats 4000000 in
set_option maxRecDepth 100000 in
theorem cq_lasts {N : Nat} {μ : am_M} {b : List Int} {C : Snap} {rem : Nat} {hs : Nat → Snap} (hX : Bx μ b C rem hs) (hN : 120 ≤ N) {p : Nat} (hp : p < 4) {P : PS} (hPe : psc (s_t C p) = P) {i w : Int} (hi : -2147483648 ≤ i ∧ i ≤ 2147483647) (hw : -2147483648 ≤ w ∧ w ≤ 2147483647) : am_Met YX9_lasts [.ref 0, am_i (p : Int), am_i i, am_i w] N μ (am_pv (am_l (q_ev P i w (fun j => p_E P j - p_B P j))) N μ) := by
  obtain ⟨h0, hT, hR, hP, hH, hrem, hm, hsn⟩ := id hX
  obtain ⟨p1, p2, p3, hS, p5⟩ := id (hP.2 p hp)
  have hpk := psc_ok p5
  have hS : Sco μ (7 + 15 * p + 5) (psc (s_t C p)) := hS
  rw [hPe] at hS hpk
  obtain ⟨s1, -⟩ := id hS
  obtain ⟨g1, g2, g3, g4, g5, g6, g7, g8, g9⟩ := id hpk
  refine am_met (by first | decide | rfl) (Nat.le_of_ble_eq_true rfl) (fun h => by first | rfl | cases h) ?_
  show am_W YX9_lasts _ 0 0 0 [(0, .ref 0), (1, am_i (p : Int)), (2, am_i i), (3, am_i w)] [] _ _
  refine ap_aload_n dX9_lasts_0 rfl rfl ?_
  refine ap_iload_n dX9_lasts_1 rfl rfl ?_
  refine ap_cV (As := [am_i (p : Int)]) (rest := []) (ct_partAtP h0 hP hN hp) dX9_lasts_2 lk_X9_76 hy_X9_partAt rfl (by omega) h0 ⟨_, _, rfl⟩ (Nat.le_of_ble_eq_true rfl) ⟨Nat.le_of_ble_eq_true rfl, Nat.le_of_ble_eq_true rfl⟩ ⟨rfl, rfl⟩ ⟨Nat.le_of_ble_eq_true rfl, Nat.le_of_ble_eq_true rfl⟩ (fun xr1 xN2 μ3 xq4 => ?_)
  obtain ⟨rfl, rfl, rfl⟩ := xq4
  refine ap_Astore (lv2 := [(0, .ref 0), (1, am_i (p : Int)), (2, am_i i), (3, am_i w), (4, .ref (7 + 15 * p))]) dX9_lasts_5 (by decide) rfl ?_
  refine ap_aload dX9_lasts_7 rfl ?_
  refine ap_ifnull dX9_lasts_9 ?_
  refine ap_aload dX9_lasts_12 rfl ?_
  refine ap_getN ff_X9_100 dX9_lasts_14 (by omega) p1 rfl ?_
  refine ap_iload_n dX9_lasts_17 rfl rfl ?_
  refine ap_cV (As := [am_i i]) (rest := []) (ct_hasEvent hS (by omega) hpk hi) dX9_lasts_18 lk_X9_143 hy_X4_hasEvent rfl (by omega) s1 ⟨_, _, rfl⟩ (Nat.le_of_ble_eq_true rfl) ⟨Nat.le_of_ble_eq_true rfl, Nat.le_of_ble_eq_true rfl⟩ ⟨rfl, rfl⟩ ⟨Nat.le_of_ble_eq_true rfl, Nat.le_of_ble_eq_true rfl⟩ (fun xr5 xN6 μ7 xq8 => ?_)
  obtain ⟨rfl, rfl, rfl⟩ := xq8
  refine ap_if_eq (tgt := 31) dX9_lasts_21 (by decide) (by split <;> omega) (fun c21 => ?_) (fun c21 => ?_)
  · have hq : ¬ (0 ≤ i ∧ i < p_cnt P) := by
      intro q
      rw [if_pos q] at c21; omega
    refine ap_ldc2 dX9_lasts_31 kl_X9_131 ?_
    exact ap_lret dX9_lasts_34 rfl (Nat.le_of_ble_eq_true rfl) (Nat.le_of_ble_eq_true rfl) (⟨by rw [q_ev, if_neg (fun q => hq q.1)], rfl, rfl⟩)
  · have hq : 0 ≤ i ∧ i < p_cnt P := by
      by_cases q : 0 ≤ i ∧ i < p_cnt P
      · exact q
      · rw [if_neg q] at c21; omega
    refine ap_iload_n dX9_lasts_24 rfl rfl ?_
    refine ap_cS (As := [am_i w]) (rest := []) (ct_isSide hw) dX9_lasts_25 lk_X9_128 hy_X9_isSide rfl (Nat.le_of_ble_eq_true rfl) ⟨Nat.le_of_ble_eq_true rfl, Nat.le_of_ble_eq_true rfl⟩ ⟨rfl, rfl⟩ ⟨Nat.le_of_ble_eq_true rfl, Nat.le_of_ble_eq_true rfl⟩ (fun xr9 xN10 μ11 xq12 => ?_)
    obtain ⟨rfl, rfl, rfl⟩ := xq12
    refine ap_if_ne (tgt := 35) dX9_lasts_28 (by decide) (by split <;> omega) (fun c28 => ?_) (fun c28 => ?_)
    · have hq2 : w = 0 ∨ w = 1 := by
        by_cases q : w = 0 ∨ w = 1
        · exact q
        · rw [if_neg q] at c28; omega
      have ge := g8 i.toNat (by omega)
      refine ap_aload dX9_lasts_35 rfl ?_
      refine ap_getN ff_X9_100 dX9_lasts_37 (by omega) p1 rfl ?_
      refine ap_iload_n dX9_lasts_40 rfl rfl ?_
      refine ap_cV (As := [am_i i]) (rest := []) (ct_end hS (by omega) hpk hi) dX9_lasts_41 lk_X9_150 hy_X4_end rfl (by omega) s1 ⟨_, _, rfl⟩ (Nat.le_of_ble_eq_true rfl) ⟨Nat.le_of_ble_eq_true rfl, Nat.le_of_ble_eq_true rfl⟩ ⟨rfl, rfl⟩ ⟨Nat.le_of_ble_eq_true rfl, Nat.le_of_ble_eq_true rfl⟩ (fun xr13 xN14 μ15 xq16 => ?_)
      obtain ⟨rfl, rfl, rfl⟩ := xq16
      refine ap_topl (b := p_E P i.toNat) (show (if 0 ≤ i ∧ i < p_cnt P then p_E P i.toNat else 0) = (p_E P i.toNat) from by rw [if_pos hq]) ?_
      refine ap_aload dX9_lasts_44 rfl ?_
      refine ap_getN ff_X9_100 dX9_lasts_46 (by omega) p1 rfl ?_
      refine ap_iload_n dX9_lasts_49 rfl rfl ?_
      refine ap_cV (As := [am_i i]) (rest := [am_l (p_E P i.toNat)]) (ct_begin hS (by omega) hpk hi) dX9_lasts_50 lk_X9_146 hy_X4_begin rfl (by omega) s1 ⟨_, _, rfl⟩ (Nat.le_of_ble_eq_true rfl) ⟨Nat.le_of_ble_eq_true rfl, Nat.le_of_ble_eq_true rfl⟩ ⟨rfl, rfl⟩ ⟨Nat.le_of_ble_eq_true rfl, Nat.le_of_ble_eq_true rfl⟩ (fun xr17 xN18 μ19 xq20 => ?_)
      obtain ⟨rfl, rfl, rfl⟩ := xq20
      refine ap_topl (b := p_B P i.toNat) (show (if 0 ≤ i ∧ i < p_cnt P then p_B P i.toNat else 0) = (p_B P i.toNat) from by rw [if_pos hq]) ?_
      refine ap_lsub dX9_lasts_53 ?_
      refine ap_topl (b := ((p_E P i.toNat - p_B P i.toNat).toNat : Int)) (show ((p_E P i.toNat) - (p_B P i.toNat)) = ((p_E P i.toNat - p_B P i.toNat).toNat : Int) from by omega) ?_
      refine ap_ldc2 dX9_lasts_54 kl_X9_137 ?_
      refine ap_iload_n dX9_lasts_57 rfl rfl ?_
      refine ap_cS (As := [am_l ((p_E P i.toNat - p_B P i.toNat).toNat : Int), am_l 812851200, am_i w]) (rest := []) (ct_side (x := (p_E P i.toNat - p_B P i.toNat).toNat) (d := 812851200) (by omega) (by omega) hw) dX9_lasts_58 lk_X9_139 hy_X9_side rfl (Nat.le_of_ble_eq_true rfl) ⟨Nat.le_of_ble_eq_true rfl, Nat.le_of_ble_eq_true rfl⟩ ⟨rfl, rfl⟩ ⟨Nat.le_of_ble_eq_true rfl, Nat.le_of_ble_eq_true rfl⟩ (fun xr21 xN22 μ23 xq24 => ?_)
      obtain ⟨rfl, rfl, rfl⟩ := xq24
      exact ap_lret dX9_lasts_61 rfl (Nat.le_of_ble_eq_true rfl) (Nat.le_of_ble_eq_true rfl) (⟨by rw [q_ev, if_pos ⟨hq, hq2⟩], rfl, rfl⟩)
    · have hq2 : ¬ (w = 0 ∨ w = 1) := by
        intro q
        rw [if_pos q] at c28; omega
      refine ap_ldc2 dX9_lasts_31 kl_X9_131 ?_
      exact ap_lret dX9_lasts_34 rfl (Nat.le_of_ble_eq_true rfl) (Nat.le_of_ble_eq_true rfl) (⟨by rw [q_ev, if_neg (fun q => hq2 q.2)], rfl, rfl⟩)

theorem swg_r {t a b : Int} (ht : 0 ≤ t ∧ t ≤ 140000000000000) (ha : 1 ≤ a ∧ a ≤ 9) (hb : 1 ≤ b ∧ b ≤ 9) : 0 ≤ swg t a b ∧ swg t a b ≤ 3000000000000000 := by
  unfold swg
  have h1 : 0 ≤ t - t % 203212800 := by omega
  have h2 : 0 ≤ (t - t % 203212800) * (a + b) := Int.mul_nonneg h1 (by omega)
  have h3 : (t - t % 203212800) * (a + b) ≤ 140000000000000 * 18 := Int.mul_le_mul (by omega) (by omega) (by omega) (by omega)
  have h4 : 0 ≤ t % 203212800 * 2 * a := Int.mul_nonneg (by omega) (by omega)
  have h5 : t % 203212800 * 2 * a ≤ 203212800 * 2 * 9 := Int.mul_le_mul (by omega) (by omega) (by omega) (by omega)
  split
  · omega
  · have h6 : 0 ≤ (t % 203212800 - 101606400) * 2 * b := Int.mul_nonneg (by omega) (by omega)
    have h7 : (t % 203212800 - 101606400) * 2 * b ≤ 203212800 * 2 * 9 := Int.mul_le_mul (by omega) (by omega) (by omega) (by omega)
    omega
def q_sw (P : PS) (i w a b : Int) : Int := if (0 ≤ i ∧ i < p_cnt P) ∧ (w = 0 ∨ w = 1) then sd (swg (p_B P i.toNat) a b).toNat (812851200 * (a + b)).toNat w else -1
set_option maxHeartbeats 4000000 in
set_option maxRecDepth 100000 in
theorem cq_swung {N : Nat} {μ : am_M} {b : List Int} {C : Snap} {rem : Nat} {hs : Nat → Snap} (hX : Bx μ b C rem hs) (hN : 120 ≤ N) {p : Nat} (hp : p < 4) {P : PS} (hPe : psc (s_t C p) = P) {i w : Int} (hi : -2147483648 ≤ i ∧ i ≤ 2147483647) (hw : -2147483648 ≤ w ∧ w ≤ 2147483647) : am_Met YX9_swung [.ref 0, am_i (p : Int), am_i i, am_i w] N μ (am_pv (am_l (q_sw P i w (s_a C) (s_w C))) N μ) := by
  obtain ⟨h0, hT, hR, hP, hH, hrem, hm, hsn⟩ := id hX
  obtain ⟨p1, p2, p3, hS, p5⟩ := id (hP.2 p hp)
  have hpk := psc_ok p5
  have hS : Sco μ (7 + 15 * p + 5) (psc (s_t C p)) := hS
  rw [hPe] at hS hpk
  obtain ⟨s1, -⟩ := id hS
  obtain ⟨g1, g2, g3, g4, g5, g6, g7, g8, g9⟩ := id hpk
  refine am_met (by first | decide | rfl) (Nat.le_of_ble_eq_true rfl) (fun h => by first | rfl | cases h) ?_
  show am_W YX9_swung _ 0 0 0 [(0, .ref 0), (1, am_i (p : Int)), (2, am_i i), (3, am_i w)] [] _ _
  refine ap_aload_n dX9_swung_0 rfl rfl ?_
  refine ap_iload_n dX9_swung_1 rfl rfl ?_
  refine ap_cV (As := [am_i (p : Int)]) (rest := []) (ct_partAtP h0 hP hN hp) dX9_swung_2 lk_X9_76 hy_X9_partAt rfl (by omega) h0 ⟨_, _, rfl⟩ (Nat.le_of_ble_eq_true rfl) ⟨Nat.le_of_ble_eq_true rfl, Nat.le_of_ble_eq_true rfl⟩ ⟨rfl, rfl⟩ ⟨Nat.le_of_ble_eq_true rfl, Nat.le_of_ble_eq_true rfl⟩ (fun xr1 xN2 μ3 xq4 => ?_)
  obtain ⟨rfl, rfl, rfl⟩ := xq4
  refine ap_Astore (lv2 := [(0, .ref 0), (1, am_i (p : Int)), (2, am_i i), (3, am_i w), (4, .ref (7 + 15 * p))]) dX9_swung_5 (by decide) rfl ?_
  refine ap_aload dX9_swung_7 rfl ?_
  refine ap_ifnull dX9_swung_9 ?_
  refine ap_aload dX9_swung_12 rfl ?_
  refine ap_getN ff_X9_100 dX9_swung_14 (by omega) p1 rfl ?_
  refine ap_iload_n dX9_swung_17 rfl rfl ?_
  refine ap_cV (As := [am_i i]) (rest := []) (ct_hasEvent hS (by omega) hpk hi) dX9_swung_18 lk_X9_143 hy_X4_hasEvent rfl (by omega) s1 ⟨_, _, rfl⟩ (Nat.le_of_ble_eq_true rfl) ⟨Nat.le_of_ble_eq_true rfl, Nat.le_of_ble_eq_true rfl⟩ ⟨rfl, rfl⟩ ⟨Nat.le_of_ble_eq_true rfl, Nat.le_of_ble_eq_true rfl⟩ (fun xr5 xN6 μ7 xq8 => ?_)
  obtain ⟨rfl, rfl, rfl⟩ := xq8
  refine ap_if_eq (tgt := 31) dX9_swung_21 (by decide) (by split <;> omega) (fun c21 => ?_) (fun c21 => ?_)
  · have hq : ¬ (0 ≤ i ∧ i < p_cnt P) := by
      intro q
      rw [if_pos q] at c21; omega
    refine ap_ldc2 dX9_swung_31 kl_X9_131 ?_
    exact ap_lret dX9_swung_34 rfl (Nat.le_of_ble_eq_true rfl) (Nat.le_of_ble_eq_true rfl) (⟨by rw [q_sw, if_neg (fun q => hq q.1)], rfl, rfl⟩)
  · have hq : 0 ≤ i ∧ i < p_cnt P := by
      by_cases q : 0 ≤ i ∧ i < p_cnt P
      · exact q
      · rw [if_neg q] at c21; omega
    refine ap_iload_n dX9_swung_24 rfl rfl ?_
    refine ap_cS (As := [am_i w]) (rest := []) (ct_isSide hw) dX9_swung_25 lk_X9_128 hy_X9_isSide rfl (Nat.le_of_ble_eq_true rfl) ⟨Nat.le_of_ble_eq_true rfl, Nat.le_of_ble_eq_true rfl⟩ ⟨rfl, rfl⟩ ⟨Nat.le_of_ble_eq_true rfl, Nat.le_of_ble_eq_true rfl⟩ (fun xr9 xN10 μ11 xq12 => ?_)
    obtain ⟨rfl, rfl, rfl⟩ := xq12
    refine ap_if_ne (tgt := 35) dX9_swung_28 (by decide) (by split <;> omega) (fun c28 => ?_) (fun c28 => ?_)
    · have hq2 : w = 0 ∨ w = 1 := by
        by_cases q : w = 0 ∨ w = 1
        · exact q
        · rw [if_neg q] at c28; omega
      have ge := g8 i.toNat (by omega)
      refine ap_aload_n dX9_swung_35 rfl rfl ?_
      refine ap_aload dX9_swung_36 rfl ?_
      refine ap_getN ff_X9_100 dX9_swung_38 (by omega) p1 rfl ?_
      refine ap_iload_n dX9_swung_41 rfl rfl ?_
      refine ap_cV (As := [am_i i]) (rest := [.ref 0]) (ct_begin hS (by omega) hpk hi) dX9_swung_42 lk_X9_146 hy_X4_begin rfl (by omega) s1 ⟨_, _, rfl⟩ (Nat.le_of_ble_eq_true rfl) ⟨Nat.le_of_ble_eq_true rfl, Nat.le_of_ble_eq_true rfl⟩ ⟨rfl, rfl⟩ ⟨Nat.le_of_ble_eq_true rfl, Nat.le_of_ble_eq_true rfl⟩ (fun xr13 xN14 μ15 xq16 => ?_)
      obtain ⟨rfl, rfl, rfl⟩ := xq16
      refine ap_topl (b := p_B P i.toNat) (show (if 0 ≤ i ∧ i < p_cnt P then p_B P i.toNat else 0) = (p_B P i.toNat) from by rw [if_pos hq]) ?_
      refine ap_cV (As := [am_l (p_B P i.toNat)]) (rest := []) (ct_swing h0 hN hm (by omega)) dX9_swung_45 lk_X9_153 hy_X9_swing rfl (by omega) h0 ⟨_, _, rfl⟩ (Nat.le_of_ble_eq_true rfl) ⟨Nat.le_of_ble_eq_true rfl, Nat.le_of_ble_eq_true rfl⟩ ⟨rfl, rfl⟩ ⟨Nat.le_of_ble_eq_true rfl, Nat.le_of_ble_eq_true rfl⟩ (fun xr17 xN18 μ19 xq20 => ?_)
      obtain ⟨rfl, rfl, rfl⟩ := xq20
      have hsw := swg_r (t := p_B P i.toNat) (by omega) hm.2.2.1 hm.2.2.2
      have hm3 := hm.2.2.1
      have hm4 := hm.2.2.2
      refine ap_topl (b := ((swg (p_B P i.toNat) (s_a C) (s_w C)).toNat : Int)) (show (swg (p_B P i.toNat) (s_a C) (s_w C)) = ((swg (p_B P i.toNat) (s_a C) (s_w C)).toNat : Int) from by omega) ?_
      refine ap_ldc2 dX9_swung_48 kl_X9_137 ?_
      refine ap_aload_n dX9_swung_51 rfl rfl ?_
      refine ap_get ff_X9_56 dX9_swung_52 (by omega) h0 rfl ?_
      refine ap_aload_n dX9_swung_55 rfl rfl ?_
      refine ap_get ff_X9_59 dX9_swung_56 (by omega) h0 rfl ?_
      refine ap_iadd dX9_swung_59 ?_
      refine ap_i2l dX9_swung_60 (by omega) ?_
      refine ap_lmul dX9_swung_61 ?_
      refine ap_topl (b := ((812851200 * (s_a C + s_w C)).toNat : Int)) (show (812851200 * ((s_a C) + (s_w C))) = ((812851200 * (s_a C + s_w C)).toNat : Int) from by omega) ?_
      refine ap_iload_n dX9_swung_62 rfl rfl ?_
      refine ap_cS (As := [am_l ((swg (p_B P i.toNat) (s_a C) (s_w C)).toNat : Int), am_l ((812851200 * (s_a C + s_w C)).toNat : Int), am_i w]) (rest := []) (ct_side (x := (swg (p_B P i.toNat) (s_a C) (s_w C)).toNat) (d := (812851200 * (s_a C + s_w C)).toNat) (by omega) (by omega) hw) dX9_swung_63 lk_X9_139 hy_X9_side rfl (Nat.le_of_ble_eq_true rfl) ⟨Nat.le_of_ble_eq_true rfl, Nat.le_of_ble_eq_true rfl⟩ ⟨rfl, rfl⟩ ⟨Nat.le_of_ble_eq_true rfl, Nat.le_of_ble_eq_true rfl⟩ (fun xr21 xN22 μ23 xq24 => ?_)
      obtain ⟨rfl, rfl, rfl⟩ := xq24
      exact ap_lret dX9_swung_66 rfl (Nat.le_of_ble_eq_true rfl) (Nat.le_of_ble_eq_true rfl) (⟨by rw [q_sw, if_pos ⟨hq, hq2⟩], rfl, rfl⟩)
    · have hq2 : ¬ (w = 0 ∨ w = 1) := by
        intro q
        rw [if_pos q] at c28; omega
      refine ap_ldc2 dX9_swung_31 kl_X9_131 ?_
      exact ap_lret dX9_swung_34 rfl (Nat.le_of_ble_eq_true rfl) (Nat.le_of_ble_eq_true rfl) (⟨by rw [q_sw, if_neg (fun q => hq2 q.2)], rfl, rfl⟩)

def q_bar (P : PS) (i w : Int) : Int := if (0 ≤ i ∧ i < p_nb P) ∧ (w = 0 ∨ w = 1) then sd (p_BL P i.toNat).toNat 812851200 w else -1
set_option maxHeartbeats 4000000 in
set_option maxRecDepth 100000 in
theorem cq_bar {N : Nat} {μ : am_M} {b : List Int} {C : Snap} {rem : Nat} {hs : Nat → Snap} (hX : Bx μ b C rem hs) (hN : 120 ≤ N) {p : Nat} (hp : p < 4) {P : PS} (hPe : psc (s_t C p) = P) {i w : Int} (hi : -2147483648 ≤ i ∧ i ≤ 2147483647) (hw : -2147483648 ≤ w ∧ w ≤ 2147483647) : am_Met YX9_bar [.ref 0, am_i (p : Int), am_i i, am_i w] N μ (am_pv (am_l (q_bar P i w)) N μ) := by
  obtain ⟨h0, hT, hR, hP, hH, hrem, hm, hsn⟩ := id hX
  obtain ⟨p1, p2, p3, hS, p5⟩ := id (hP.2 p hp)
  have hpk := psc_ok p5
  have hS : Sco μ (7 + 15 * p + 5) (psc (s_t C p)) := hS
  rw [hPe] at hS hpk
  obtain ⟨s1, -⟩ := id hS
  obtain ⟨g1, g2, g3, g4, g5, g6, g7, g8, g9⟩ := id hpk
  refine am_met (by first | decide | rfl) (Nat.le_of_ble_eq_true rfl) (fun h => by first | rfl | cases h) ?_
  show am_W YX9_bar _ 0 0 0 [(0, .ref 0), (1, am_i (p : Int)), (2, am_i i), (3, am_i w)] [] _ _
  refine ap_aload_n dX9_bar_0 rfl rfl ?_
  refine ap_iload_n dX9_bar_1 rfl rfl ?_
  refine ap_cV (As := [am_i (p : Int)]) (rest := []) (ct_partAtP h0 hP hN hp) dX9_bar_2 lk_X9_76 hy_X9_partAt rfl (by omega) h0 ⟨_, _, rfl⟩ (Nat.le_of_ble_eq_true rfl) ⟨Nat.le_of_ble_eq_true rfl, Nat.le_of_ble_eq_true rfl⟩ ⟨rfl, rfl⟩ ⟨Nat.le_of_ble_eq_true rfl, Nat.le_of_ble_eq_true rfl⟩ (fun xr1 xN2 μ3 xq4 => ?_)
  obtain ⟨rfl, rfl, rfl⟩ := xq4
  refine ap_Astore (lv2 := [(0, .ref 0), (1, am_i (p : Int)), (2, am_i i), (3, am_i w), (4, .ref (7 + 15 * p))]) dX9_bar_5 (by decide) rfl ?_
  refine ap_aload dX9_bar_7 rfl ?_
  refine ap_ifnull dX9_bar_9 ?_
  refine ap_aload dX9_bar_12 rfl ?_
  refine ap_getN ff_X9_100 dX9_bar_14 (by omega) p1 rfl ?_
  refine ap_iload_n dX9_bar_17 rfl rfl ?_
  refine ap_cV (As := [am_i i]) (rest := []) (ct_hasBar hS (by omega) hpk hi) dX9_bar_18 lk_X9_177 hy_X4_hasBar rfl (by omega) s1 ⟨_, _, rfl⟩ (Nat.le_of_ble_eq_true rfl) ⟨Nat.le_of_ble_eq_true rfl, Nat.le_of_ble_eq_true rfl⟩ ⟨rfl, rfl⟩ ⟨Nat.le_of_ble_eq_true rfl, Nat.le_of_ble_eq_true rfl⟩ (fun xr5 xN6 μ7 xq8 => ?_)
  obtain ⟨rfl, rfl, rfl⟩ := xq8
  refine ap_if_eq (tgt := 31) dX9_bar_21 (by decide) (by split <;> omega) (fun c21 => ?_) (fun c21 => ?_)
  · have hq : ¬ (0 ≤ i ∧ i < p_nb P) := by
      intro q
      rw [if_pos q] at c21; omega
    refine ap_ldc2 dX9_bar_31 kl_X9_131 ?_
    exact ap_lret dX9_bar_34 rfl (Nat.le_of_ble_eq_true rfl) (Nat.le_of_ble_eq_true rfl) (⟨by rw [q_bar, if_neg (fun q => hq q.1)], rfl, rfl⟩)
  · have hq : 0 ≤ i ∧ i < p_nb P := by
      by_cases q : 0 ≤ i ∧ i < p_nb P
      · exact q
      · rw [if_neg q] at c21; omega
    refine ap_iload_n dX9_bar_24 rfl rfl ?_
    refine ap_cS (As := [am_i w]) (rest := []) (ct_isSide hw) dX9_bar_25 lk_X9_128 hy_X9_isSide rfl (Nat.le_of_ble_eq_true rfl) ⟨Nat.le_of_ble_eq_true rfl, Nat.le_of_ble_eq_true rfl⟩ ⟨rfl, rfl⟩ ⟨Nat.le_of_ble_eq_true rfl, Nat.le_of_ble_eq_true rfl⟩ (fun xr9 xN10 μ11 xq12 => ?_)
    obtain ⟨rfl, rfl, rfl⟩ := xq12
    refine ap_if_ne (tgt := 35) dX9_bar_28 (by decide) (by split <;> omega) (fun c28 => ?_) (fun c28 => ?_)
    · have hq2 : w = 0 ∨ w = 1 := by
        by_cases q : w = 0 ∨ w = 1
        · exact q
        · rw [if_neg q] at c28; omega
      have ge := g9 i.toNat (by omega)
      refine ap_aload dX9_bar_35 rfl ?_
      refine ap_getN ff_X9_100 dX9_bar_37 (by omega) p1 rfl ?_
      refine ap_iload_n dX9_bar_40 rfl rfl ?_
      refine ap_cV (As := [am_i i]) (rest := []) (ct_barLength hS (by omega) hpk hi) dX9_bar_41 lk_X9_180 hy_X4_barLength rfl (by omega) s1 ⟨_, _, rfl⟩ (Nat.le_of_ble_eq_true rfl) ⟨Nat.le_of_ble_eq_true rfl, Nat.le_of_ble_eq_true rfl⟩ ⟨rfl, rfl⟩ ⟨Nat.le_of_ble_eq_true rfl, Nat.le_of_ble_eq_true rfl⟩ (fun xr13 xN14 μ15 xq16 => ?_)
      obtain ⟨rfl, rfl, rfl⟩ := xq16
      refine ap_topl (b := ((p_BL P i.toNat).toNat : Int)) (show (if 0 ≤ i ∧ i < p_nb P then p_BL P i.toNat else 0) = ((p_BL P i.toNat).toNat : Int) from by rw [if_pos hq]; omega) ?_
      refine ap_ldc2 dX9_bar_44 kl_X9_137 ?_
      refine ap_iload_n dX9_bar_47 rfl rfl ?_
      refine ap_cS (As := [am_l ((p_BL P i.toNat).toNat : Int), am_l 812851200, am_i w]) (rest := []) (ct_side (x := (p_BL P i.toNat).toNat) (d := 812851200) (by omega) (by omega) hw) dX9_bar_48 lk_X9_139 hy_X9_side rfl (Nat.le_of_ble_eq_true rfl) ⟨Nat.le_of_ble_eq_true rfl, Nat.le_of_ble_eq_true rfl⟩ ⟨rfl, rfl⟩ ⟨Nat.le_of_ble_eq_true rfl, Nat.le_of_ble_eq_true rfl⟩ (fun xr17 xN18 μ19 xq20 => ?_)
      obtain ⟨rfl, rfl, rfl⟩ := xq20
      exact ap_lret dX9_bar_51 rfl (Nat.le_of_ble_eq_true rfl) (Nat.le_of_ble_eq_true rfl) (⟨by rw [q_bar, if_pos ⟨hq, hq2⟩], rfl, rfl⟩)
    · have hq2 : ¬ (w = 0 ∨ w = 1) := by
        intro q
        rw [if_pos q] at c28; omega
      refine ap_ldc2 dX9_bar_31 kl_X9_131 ?_
      exact ap_lret dX9_bar_34 rfl (Nat.le_of_ble_eq_true rfl) (Nat.le_of_ble_eq_true rfl) (⟨by rw [q_bar, if_neg (fun q => hq2 q.2)], rfl, rfl⟩)

def q_event (P : PS) (i w m : Int) : Int := if 0 ≤ i ∧ i < p_cnt P then (if w = 0 then p_AC P i.toNat else if w = 1 then p_BN P i.toNat else if w = 2 then p_NC P i.toNat else if w = 3 then lev (p_B P i.toNat) m 0 else if w = 4 then syn (p_B P i.toNat) (p_E P i.toNat) m else -1) else -1
set_option maxHeartbeats 4000000 in
set_option maxRecDepth 100000 in
theorem cq_event {N : Nat} {μ : am_M} {b : List Int} {C : Snap} {rem : Nat} {hs : Nat → Snap} (hX : Bx μ b C rem hs) (hN : 120 ≤ N) {p : Nat} (hp : p < 4) {P : PS} (hPe : psc (s_t C p) = P) {i w : Int} (hi : -2147483648 ≤ i ∧ i ≤ 2147483647) (hw : -2147483648 ≤ w ∧ w ≤ 2147483647) : am_Met YX9_event [.ref 0, am_i (p : Int), am_i i, am_i w] N μ (am_pv (am_i (q_event P i w (mlen (s_b C) (s_v C)))) N μ) := by
  obtain ⟨h0, hT, hR, hP, hH, hrem, hm, hsn⟩ := id hX
  obtain ⟨p1, p2, p3, hS, p5⟩ := id (hP.2 p hp)
  have hpk := psc_ok p5
  have hS : Sco μ (7 + 15 * p + 5) (psc (s_t C p)) := hS
  rw [hPe] at hS hpk
  obtain ⟨s1, -⟩ := id hS
  obtain ⟨g1, g2, g3, g4, g5, g6, g7, g8, g9⟩ := id hpk
  refine am_met (by first | decide | rfl) (Nat.le_of_ble_eq_true rfl) (fun h => by first | rfl | cases h) ?_
  show am_W YX9_event _ 0 0 0 [(0, .ref 0), (1, am_i (p : Int)), (2, am_i i), (3, am_i w)] [] _ _
  refine ap_aload_n dX9_event_0 rfl rfl ?_
  refine ap_iload_n dX9_event_1 rfl rfl ?_
  refine ap_cV (As := [am_i (p : Int)]) (rest := []) (ct_partAtP h0 hP hN hp) dX9_event_2 lk_X9_76 hy_X9_partAt rfl (by omega) h0 ⟨_, _, rfl⟩ (Nat.le_of_ble_eq_true rfl) ⟨Nat.le_of_ble_eq_true rfl, Nat.le_of_ble_eq_true rfl⟩ ⟨rfl, rfl⟩ ⟨Nat.le_of_ble_eq_true rfl, Nat.le_of_ble_eq_true rfl⟩ (fun xr1 xN2 μ3 xq4 => ?_)
  obtain ⟨rfl, rfl, rfl⟩ := xq4
  refine ap_Astore (lv2 := [(0, .ref 0), (1, am_i (p : Int)), (2, am_i i), (3, am_i w), (4, .ref (7 + 15 * p))]) dX9_event_5 (by decide) rfl ?_
  refine ap_aload dX9_event_7 rfl ?_
  refine ap_ifnull dX9_event_9 ?_
  refine ap_aload dX9_event_12 rfl ?_
  refine ap_getN ff_X9_100 dX9_event_14 (by omega) p1 rfl ?_
  refine ap_iload_n dX9_event_17 rfl rfl ?_
  refine ap_cV (As := [am_i i]) (rest := []) (ct_hasEvent hS (by omega) hpk hi) dX9_event_18 lk_X9_143 hy_X4_hasEvent rfl (by omega) s1 ⟨_, _, rfl⟩ (Nat.le_of_ble_eq_true rfl) ⟨Nat.le_of_ble_eq_true rfl, Nat.le_of_ble_eq_true rfl⟩ ⟨rfl, rfl⟩ ⟨Nat.le_of_ble_eq_true rfl, Nat.le_of_ble_eq_true rfl⟩ (fun xr5 xN6 μ7 xq8 => ?_)
  obtain ⟨rfl, rfl, rfl⟩ := xq8
  refine ap_if_ne (tgt := 26) dX9_event_21 (by decide) (by split <;> omega) (fun c21 => ?_) (fun c21 => ?_)
  · have hq : 0 ≤ i ∧ i < p_cnt P := by
      by_cases q : 0 ≤ i ∧ i < p_cnt P
      · exact q
      · rw [if_neg q] at c21; omega
    have ge := g8 i.toNat (by omega)
    refine ap_iload_n dX9_event_26 rfl rfl ?_
    by_cases c27_0 : w = 0
    · refine ap_tableIn (off := 33) (tgt := 60) dX9_event_27 (by omega) (by omega) (by rw [c27_0]; rfl) (by decide) ?_
      refine ap_aload dX9_event_60 rfl ?_
      refine ap_getN ff_X9_100 dX9_event_62 (by omega) p1 rfl ?_
      refine ap_iload_n dX9_event_65 rfl rfl ?_
      refine ap_cV (As := [am_i i]) (rest := []) (ct_isAccented hS (by omega) hpk hi) dX9_event_66 lk_X9_157 hy_X4_isAccented rfl (by omega) s1 ⟨_, _, rfl⟩ (Nat.le_of_ble_eq_true rfl) ⟨Nat.le_of_ble_eq_true rfl, Nat.le_of_ble_eq_true rfl⟩ ⟨rfl, rfl⟩ ⟨Nat.le_of_ble_eq_true rfl, Nat.le_of_ble_eq_true rfl⟩ (fun xr9 xN10 μ11 xq12 => ?_)
      obtain ⟨rfl, rfl, rfl⟩ := xq12
      refine ap_topi (b := p_AC P i.toNat) (show (if 0 ≤ i ∧ i < p_cnt P then p_AC P i.toNat else 0) = (p_AC P i.toNat) from if_pos hq) ?_
      refine ap_if_eq (tgt := 76) dX9_event_69 (by decide) (by omega) (fun c69 => ?_) (fun c69 => ?_)
      · refine ap_iconst dX9_event_76 ?_
        exact ap_iret dX9_event_77 rfl rfl (Nat.le_of_ble_eq_true rfl) (Nat.le_of_ble_eq_true rfl) (⟨by rw [q_event, if_pos hq, if_pos c27_0, c69], rfl, rfl⟩)
      · refine ap_iconst dX9_event_72 ?_
        refine ap_goto (tgt := 77) dX9_event_73 (by decide) ?_
        exact ap_iret dX9_event_77 rfl rfl (Nat.le_of_ble_eq_true rfl) (Nat.le_of_ble_eq_true rfl) (⟨by rw [q_event, if_pos hq, if_pos c27_0, show p_AC P i.toNat = 1 by omega], rfl, rfl⟩)
    · by_cases c27_1 : w = 1
      · refine ap_tableIn (off := 51) (tgt := 78) dX9_event_27 (by omega) (by omega) (by rw [c27_1]; rfl) (by decide) ?_
        refine ap_aload dX9_event_78 rfl ?_
        refine ap_getN ff_X9_100 dX9_event_80 (by omega) p1 rfl ?_
        refine ap_iload_n dX9_event_83 rfl rfl ?_
        refine ap_cV (As := [am_i i]) (rest := []) (ct_barOf hS (by omega) hpk hi) dX9_event_84 lk_X9_160 hy_X4_barOf rfl (by omega) s1 ⟨_, _, rfl⟩ (Nat.le_of_ble_eq_true rfl) ⟨Nat.le_of_ble_eq_true rfl, Nat.le_of_ble_eq_true rfl⟩ ⟨rfl, rfl⟩ ⟨Nat.le_of_ble_eq_true rfl, Nat.le_of_ble_eq_true rfl⟩ (fun xr13 xN14 μ15 xq16 => ?_)
        obtain ⟨rfl, rfl, rfl⟩ := xq16
        exact ap_iret dX9_event_87 rfl rfl (Nat.le_of_ble_eq_true rfl) (Nat.le_of_ble_eq_true rfl) (⟨by rw [q_event, if_pos hq, if_neg c27_0, if_pos c27_1, if_pos hq], rfl, rfl⟩)
      · by_cases c27_2 : w = 2
        · refine ap_tableIn (off := 61) (tgt := 88) dX9_event_27 (by omega) (by omega) (by rw [c27_2]; rfl) (by decide) ?_
          refine ap_aload dX9_event_88 rfl ?_
          refine ap_getN ff_X9_100 dX9_event_90 (by omega) p1 rfl ?_
          refine ap_iload_n dX9_event_93 rfl rfl ?_
          refine ap_cV (As := [am_i i]) (rest := []) (ct_notesOf hS (by omega) hpk hi) dX9_event_94 lk_X9_163 hy_X4_notesOf rfl (by omega) s1 ⟨_, _, rfl⟩ (Nat.le_of_ble_eq_true rfl) ⟨Nat.le_of_ble_eq_true rfl, Nat.le_of_ble_eq_true rfl⟩ ⟨rfl, rfl⟩ ⟨Nat.le_of_ble_eq_true rfl, Nat.le_of_ble_eq_true rfl⟩ (fun xr17 xN18 μ19 xq20 => ?_)
          obtain ⟨rfl, rfl, rfl⟩ := xq20
          exact ap_iret dX9_event_97 rfl rfl (Nat.le_of_ble_eq_true rfl) (Nat.le_of_ble_eq_true rfl) (⟨by rw [q_event, if_pos hq, if_neg c27_0, if_neg c27_1, if_pos c27_2, if_pos hq], rfl, rfl⟩)
        · by_cases c27_3 : w = 3
          · refine ap_tableIn (off := 71) (tgt := 98) dX9_event_27 (by omega) (by omega) (by rw [c27_3]; rfl) (by decide) ?_
            refine ap_aload_n dX9_event_98 rfl rfl ?_
            refine ap_aload dX9_event_99 rfl ?_
            refine ap_getN ff_X9_100 dX9_event_101 (by omega) p1 rfl ?_
            refine ap_iload_n dX9_event_104 rfl rfl ?_
            refine ap_cV (As := [am_i i]) (rest := [.ref 0]) (ct_begin hS (by omega) hpk hi) dX9_event_105 lk_X9_146 hy_X4_begin rfl (by omega) s1 ⟨_, _, rfl⟩ (Nat.le_of_ble_eq_true rfl) ⟨Nat.le_of_ble_eq_true rfl, Nat.le_of_ble_eq_true rfl⟩ ⟨rfl, rfl⟩ ⟨Nat.le_of_ble_eq_true rfl, Nat.le_of_ble_eq_true rfl⟩ (fun xr21 xN22 μ23 xq24 => ?_)
            obtain ⟨rfl, rfl, rfl⟩ := xq24
            refine ap_topl (b := p_B P i.toNat) (show (if 0 ≤ i ∧ i < p_cnt P then p_B P i.toNat else 0) = (p_B P i.toNat) from if_pos hq) ?_
            refine ap_cV (As := [am_l (p_B P i.toNat)]) (rest := []) (ct_level h0 hN hm (by omega)) dX9_event_108 lk_X9_166 hy_X9_level rfl (by omega) h0 ⟨_, _, rfl⟩ (Nat.le_of_ble_eq_true rfl) ⟨Nat.le_of_ble_eq_true rfl, Nat.le_of_ble_eq_true rfl⟩ ⟨rfl, rfl⟩ ⟨Nat.le_of_ble_eq_true rfl, Nat.le_of_ble_eq_true rfl⟩ (fun xr25 xN26 μ27 xq28 => ?_)
            obtain ⟨rfl, rfl, rfl⟩ := xq28
            exact ap_iret dX9_event_111 rfl rfl (Nat.le_of_ble_eq_true rfl) (Nat.le_of_ble_eq_true rfl) (⟨by rw [q_event, if_pos hq, if_neg c27_0, if_neg c27_1, if_neg c27_2, if_pos c27_3], rfl, rfl⟩)
          · by_cases c27_4 : w = 4
            · refine ap_tableIn (off := 85) (tgt := 112) dX9_event_27 (by omega) (by omega) (by rw [c27_4]; rfl) (by decide) ?_
              refine ap_aload_n dX9_event_112 rfl rfl ?_
              refine ap_aload dX9_event_113 rfl ?_
              refine ap_getN ff_X9_100 dX9_event_115 (by omega) p1 rfl ?_
              refine ap_iload_n dX9_event_118 rfl rfl ?_
              refine ap_cV (As := [.ref (7 + 15 * p + 5), am_i i]) (rest := []) (ct_syncopationOf h0 hN hm hS (by omega) hpk (i := i.toNat) (by omega) (by omega)) dX9_event_119 lk_X9_170 hy_X9_syncopationOf rfl (by omega) h0 ⟨_, _, rfl⟩ (Nat.le_of_ble_eq_true rfl) ⟨Nat.le_of_ble_eq_true rfl, Nat.le_of_ble_eq_true rfl⟩ ⟨rfl, rfl⟩ ⟨Nat.le_of_ble_eq_true rfl, Nat.le_of_ble_eq_true rfl⟩ (fun xr29 xN30 μ31 xq32 => ?_)
              obtain ⟨rfl, rfl, rfl⟩ := xq32
              exact ap_iret dX9_event_122 rfl rfl (Nat.le_of_ble_eq_true rfl) (Nat.le_of_ble_eq_true rfl) (⟨by rw [q_event, if_pos hq, if_neg c27_0, if_neg c27_1, if_neg c27_2, if_neg c27_3, if_pos c27_4], rfl, rfl⟩)
            · refine ap_tableOut (tgt := 123) dX9_event_27 (by omega) (by omega) (by decide) ?_
              refine ap_iconst dX9_event_123 ?_
              exact ap_iret dX9_event_124 rfl rfl (Nat.le_of_ble_eq_true rfl) (Nat.le_of_ble_eq_true rfl) (⟨by rw [q_event, if_pos hq, if_neg c27_0, if_neg c27_1, if_neg c27_2, if_neg c27_3, if_neg c27_4], rfl, rfl⟩)
  · have hq : ¬ (0 ≤ i ∧ i < p_cnt P) := by
      intro q
      rw [if_pos q] at c21; omega
    refine ap_iconst dX9_event_24 ?_
    exact ap_iret dX9_event_25 rfl rfl (Nat.le_of_ble_eq_true rfl) (Nat.le_of_ble_eq_true rfl) (⟨by rw [q_event, if_neg hq], rfl, rfl⟩)

