theorem cyc_r (a b : Nat) : -3 ≤ cyc a b ∧ cyc a b ≤ 812851200000 := by
  unfold cyc
  split
  · omega
  · split
    · omega
    · rename_i h1 h2
      have h3 : a / Nat.gcd a b * b ≤ 812851200000 / b * b := Nat.mul_le_mul_right b (by omega)
      have h4 := Nat.div_mul_le_self 812851200000 b
      omega
def q_cyc (P Q : PS) (w : Int) : Int := if w = 0 ∨ w = 1 then (if cyc (p_tot P).toNat (p_tot Q).toNat < 0 then cyc (p_tot P).toNat (p_tot Q).toNat else sd (cyc (p_tot P).toNat (p_tot Q).toNat).toNat 812851200 w) else -1
def q_meets (P Q : PS) : Int := if cyc (p_tot P).toNat (p_tot Q).toNat < 0 then cyc (p_tot P).toNat (p_tot Q).toNat else msum P Q (Nat.gcd (p_tot P).toNat (p_tot Q).toNat) (p_cnt P)
set_option maxHeartbeats 4000000 in
set_option maxRecDepth 100000 in
theorem cq_cycleN1 {N : Nat} {μ : am_M} {b : List Int} {C : Snap} {rem : Nat} {hs : Nat → Snap} (hX : Bx μ b C rem hs) (hN : 120 ≤ N) {k l : Int} (hk : -2147483648 ≤ k ∧ k ≤ 2147483647) (hl : -2147483648 ≤ l ∧ l ≤ 2147483647) {w : Int} (hw : -2147483648 ≤ w ∧ w ≤ 2147483647) (hn : ¬ (0 ≤ k ∧ k < 4)) (hn2 : ¬ (0 ≤ l ∧ l < 4)) : am_Met YX9_cycle [.ref 0, am_i k, am_i l, am_i w] N μ (am_pv (am_l (-1)) N μ) := by
  obtain ⟨h0, hT, hR, hP, hH, hrem, hm, hsn⟩ := id hX
  refine am_met (by first | decide | rfl) (Nat.le_of_ble_eq_true rfl) (fun h => by first | rfl | cases h) ?_
  show am_W YX9_cycle _ 0 0 0 [(0, .ref 0), (1, am_i k), (2, am_i l), (3, am_i w)] [] _ _
  refine ap_aload_n dX9_cycle_0 rfl rfl ?_
  refine ap_iload_n dX9_cycle_1 rfl rfl ?_
  refine ap_cV (As := [am_i k]) (rest := []) (ct_partAtN hk hn) dX9_cycle_2 lk_X9_76 hy_X9_partAt rfl (by omega) h0 ⟨_, _, rfl⟩ (Nat.le_of_ble_eq_true rfl) ⟨Nat.le_of_ble_eq_true rfl, Nat.le_of_ble_eq_true rfl⟩ ⟨rfl, rfl⟩ ⟨Nat.le_of_ble_eq_true rfl, Nat.le_of_ble_eq_true rfl⟩ (fun xr1 xN2 μ3 xq4 => ?_)
  obtain ⟨rfl, rfl, rfl⟩ := xq4
  refine ap_AstoreN (lv2 := [(0, .ref 0), (1, am_i k), (2, am_i l), (3, am_i w), (4, .null)]) dX9_cycle_5 (by decide) rfl ?_
  refine ap_aload_n dX9_cycle_7 rfl rfl ?_
  refine ap_iload_n dX9_cycle_8 rfl rfl ?_
  refine ap_cV (As := [am_i l]) (rest := []) (ct_partAtN hl hn2) dX9_cycle_9 lk_X9_76 hy_X9_partAt rfl (by omega) h0 ⟨_, _, rfl⟩ (Nat.le_of_ble_eq_true rfl) ⟨Nat.le_of_ble_eq_true rfl, Nat.le_of_ble_eq_true rfl⟩ ⟨rfl, rfl⟩ ⟨Nat.le_of_ble_eq_true rfl, Nat.le_of_ble_eq_true rfl⟩ (fun xr5 xN6 μ7 xq8 => ?_)
  obtain ⟨rfl, rfl, rfl⟩ := xq8
  refine ap_AstoreN (lv2 := [(0, .ref 0), (1, am_i k), (2, am_i l), (3, am_i w), (4, .null), (5, .null)]) dX9_cycle_12 (by decide) rfl ?_
  refine ap_aloadN dX9_cycle_14 rfl ?_
  refine ap_ifnullN (tgt := 31) dX9_cycle_16 (by decide) ?_
  refine ap_ldc2 dX9_cycle_31 kl_X9_131 ?_
  exact ap_lret dX9_cycle_34 rfl (Nat.le_of_ble_eq_true rfl) (Nat.le_of_ble_eq_true rfl) (⟨rfl, rfl, rfl⟩)

set_option maxHeartbeats 4000000 in
set_option maxRecDepth 100000 in
theorem cq_cycleN2 {N : Nat} {μ : am_M} {b : List Int} {C : Snap} {rem : Nat} {hs : Nat → Snap} (hX : Bx μ b C rem hs) (hN : 120 ≤ N) {k : Int} {p : Nat} (hk : -2147483648 ≤ k ∧ k ≤ 2147483647) {w : Int} (hw : -2147483648 ≤ w ∧ w ≤ 2147483647) (hn : ¬ (0 ≤ k ∧ k < 4)) (hp : p < 4) : am_Met YX9_cycle [.ref 0, am_i k, am_i (p : Int), am_i w] N μ (am_pv (am_l (-1)) N μ) := by
  obtain ⟨h0, hT, hR, hP, hH, hrem, hm, hsn⟩ := id hX
  refine am_met (by first | decide | rfl) (Nat.le_of_ble_eq_true rfl) (fun h => by first | rfl | cases h) ?_
  show am_W YX9_cycle _ 0 0 0 [(0, .ref 0), (1, am_i k), (2, am_i (p : Int)), (3, am_i w)] [] _ _
  refine ap_aload_n dX9_cycle_0 rfl rfl ?_
  refine ap_iload_n dX9_cycle_1 rfl rfl ?_
  refine ap_cV (As := [am_i k]) (rest := []) (ct_partAtN hk hn) dX9_cycle_2 lk_X9_76 hy_X9_partAt rfl (by omega) h0 ⟨_, _, rfl⟩ (Nat.le_of_ble_eq_true rfl) ⟨Nat.le_of_ble_eq_true rfl, Nat.le_of_ble_eq_true rfl⟩ ⟨rfl, rfl⟩ ⟨Nat.le_of_ble_eq_true rfl, Nat.le_of_ble_eq_true rfl⟩ (fun xr1 xN2 μ3 xq4 => ?_)
  obtain ⟨rfl, rfl, rfl⟩ := xq4
  refine ap_AstoreN (lv2 := [(0, .ref 0), (1, am_i k), (2, am_i (p : Int)), (3, am_i w), (4, .null)]) dX9_cycle_5 (by decide) rfl ?_
  refine ap_aload_n dX9_cycle_7 rfl rfl ?_
  refine ap_iload_n dX9_cycle_8 rfl rfl ?_
  refine ap_cV (As := [am_i (p : Int)]) (rest := []) (ct_partAtP h0 hP hN hp) dX9_cycle_9 lk_X9_76 hy_X9_partAt rfl (by omega) h0 ⟨_, _, rfl⟩ (Nat.le_of_ble_eq_true rfl) ⟨Nat.le_of_ble_eq_true rfl, Nat.le_of_ble_eq_true rfl⟩ ⟨rfl, rfl⟩ ⟨Nat.le_of_ble_eq_true rfl, Nat.le_of_ble_eq_true rfl⟩ (fun xr5 xN6 μ7 xq8 => ?_)
  obtain ⟨rfl, rfl, rfl⟩ := xq8
  refine ap_Astore (lv2 := [(0, .ref 0), (1, am_i k), (2, am_i (p : Int)), (3, am_i w), (4, .null), (5, .ref (7 + 15 * p))]) dX9_cycle_12 (by decide) rfl ?_
  refine ap_aloadN dX9_cycle_14 rfl ?_
  refine ap_ifnullN (tgt := 31) dX9_cycle_16 (by decide) ?_
  refine ap_ldc2 dX9_cycle_31 kl_X9_131 ?_
  exact ap_lret dX9_cycle_34 rfl (Nat.le_of_ble_eq_true rfl) (Nat.le_of_ble_eq_true rfl) (⟨rfl, rfl, rfl⟩)

set_option maxHeartbeats 4000000 in
set_option maxRecDepth 100000 in
theorem cq_cycleN3 {N : Nat} {μ : am_M} {b : List Int} {C : Snap} {rem : Nat} {hs : Nat → Snap} (hX : Bx μ b C rem hs) (hN : 120 ≤ N) {k : Int} {p : Nat} (hk : -2147483648 ≤ k ∧ k ≤ 2147483647) {w : Int} (hw : -2147483648 ≤ w ∧ w ≤ 2147483647) (hn : ¬ (0 ≤ k ∧ k < 4)) (hp : p < 4) : am_Met YX9_cycle [.ref 0, am_i (p : Int), am_i k, am_i w] N μ (am_pv (am_l (-1)) N μ) := by
  obtain ⟨h0, hT, hR, hP, hH, hrem, hm, hsn⟩ := id hX
  refine am_met (by first | decide | rfl) (Nat.le_of_ble_eq_true rfl) (fun h => by first | rfl | cases h) ?_
  show am_W YX9_cycle _ 0 0 0 [(0, .ref 0), (1, am_i (p : Int)), (2, am_i k), (3, am_i w)] [] _ _
  refine ap_aload_n dX9_cycle_0 rfl rfl ?_
  refine ap_iload_n dX9_cycle_1 rfl rfl ?_
  refine ap_cV (As := [am_i (p : Int)]) (rest := []) (ct_partAtP h0 hP hN hp) dX9_cycle_2 lk_X9_76 hy_X9_partAt rfl (by omega) h0 ⟨_, _, rfl⟩ (Nat.le_of_ble_eq_true rfl) ⟨Nat.le_of_ble_eq_true rfl, Nat.le_of_ble_eq_true rfl⟩ ⟨rfl, rfl⟩ ⟨Nat.le_of_ble_eq_true rfl, Nat.le_of_ble_eq_true rfl⟩ (fun xr1 xN2 μ3 xq4 => ?_)
  obtain ⟨rfl, rfl, rfl⟩ := xq4
  refine ap_Astore (lv2 := [(0, .ref 0), (1, am_i (p : Int)), (2, am_i k), (3, am_i w), (4, .ref (7 + 15 * p))]) dX9_cycle_5 (by decide) rfl ?_
  refine ap_aload_n dX9_cycle_7 rfl rfl ?_
  refine ap_iload_n dX9_cycle_8 rfl rfl ?_
  refine ap_cV (As := [am_i k]) (rest := []) (ct_partAtN hk hn) dX9_cycle_9 lk_X9_76 hy_X9_partAt rfl (by omega) h0 ⟨_, _, rfl⟩ (Nat.le_of_ble_eq_true rfl) ⟨Nat.le_of_ble_eq_true rfl, Nat.le_of_ble_eq_true rfl⟩ ⟨rfl, rfl⟩ ⟨Nat.le_of_ble_eq_true rfl, Nat.le_of_ble_eq_true rfl⟩ (fun xr5 xN6 μ7 xq8 => ?_)
  obtain ⟨rfl, rfl, rfl⟩ := xq8
  refine ap_AstoreN (lv2 := [(0, .ref 0), (1, am_i (p : Int)), (2, am_i k), (3, am_i w), (4, .ref (7 + 15 * p)), (5, .null)]) dX9_cycle_12 (by decide) rfl ?_
  refine ap_aload dX9_cycle_14 rfl ?_
  refine ap_ifnull dX9_cycle_16 ?_
  refine ap_aloadN dX9_cycle_19 rfl ?_
  refine ap_ifnullN (tgt := 31) dX9_cycle_21 (by decide) ?_
  refine ap_ldc2 dX9_cycle_31 kl_X9_131 ?_
  exact ap_lret dX9_cycle_34 rfl (Nat.le_of_ble_eq_true rfl) (Nat.le_of_ble_eq_true rfl) (⟨rfl, rfl, rfl⟩)

set_option maxHeartbeats 4000000 in
set_option maxRecDepth 100000 in
theorem cq_meetsN1 {N : Nat} {μ : am_M} {b : List Int} {C : Snap} {rem : Nat} {hs : Nat → Snap} (hX : Bx μ b C rem hs) (hN : 120 ≤ N) {k l : Int} (hk : -2147483648 ≤ k ∧ k ≤ 2147483647) (hl : -2147483648 ≤ l ∧ l ≤ 2147483647) (hn : ¬ (0 ≤ k ∧ k < 4)) (hn2 : ¬ (0 ≤ l ∧ l < 4)) : am_Met YX9_meets [.ref 0, am_i k, am_i l] N μ (am_pv (am_i (-1)) N μ) := by
  obtain ⟨h0, hT, hR, hP, hH, hrem, hm, hsn⟩ := id hX
  refine am_met (by first | decide | rfl) (Nat.le_of_ble_eq_true rfl) (fun h => by first | rfl | cases h) ?_
  show am_W YX9_meets _ 0 0 0 [(0, .ref 0), (1, am_i k), (2, am_i l)] [] _ _
  refine ap_aload_n dX9_meets_0 rfl rfl ?_
  refine ap_iload_n dX9_meets_1 rfl rfl ?_
  refine ap_cV (As := [am_i k]) (rest := []) (ct_partAtN hk hn) dX9_meets_2 lk_X9_76 hy_X9_partAt rfl (by omega) h0 ⟨_, _, rfl⟩ (Nat.le_of_ble_eq_true rfl) ⟨Nat.le_of_ble_eq_true rfl, Nat.le_of_ble_eq_true rfl⟩ ⟨rfl, rfl⟩ ⟨Nat.le_of_ble_eq_true rfl, Nat.le_of_ble_eq_true rfl⟩ (fun xr1 xN2 μ3 xq4 => ?_)
  obtain ⟨rfl, rfl, rfl⟩ := xq4
  refine ap_Astore_nN (lv2 := [(0, .ref 0), (1, am_i k), (2, am_i l), (3, .null)]) dX9_meets_5 rfl (by decide) rfl ?_
  refine ap_aload_n dX9_meets_6 rfl rfl ?_
  refine ap_iload_n dX9_meets_7 rfl rfl ?_
  refine ap_cV (As := [am_i l]) (rest := []) (ct_partAtN hl hn2) dX9_meets_8 lk_X9_76 hy_X9_partAt rfl (by omega) h0 ⟨_, _, rfl⟩ (Nat.le_of_ble_eq_true rfl) ⟨Nat.le_of_ble_eq_true rfl, Nat.le_of_ble_eq_true rfl⟩ ⟨rfl, rfl⟩ ⟨Nat.le_of_ble_eq_true rfl, Nat.le_of_ble_eq_true rfl⟩ (fun xr5 xN6 μ7 xq8 => ?_)
  obtain ⟨rfl, rfl, rfl⟩ := xq8
  refine ap_AstoreN (lv2 := [(0, .ref 0), (1, am_i k), (2, am_i l), (3, .null), (4, .null)]) dX9_meets_11 (by decide) rfl ?_
  refine ap_aloadN_n dX9_meets_13 rfl rfl ?_
  refine ap_ifnullN (tgt := 22) dX9_meets_14 (by decide) ?_
  refine ap_iconst dX9_meets_22 ?_
  exact ap_iret dX9_meets_23 rfl rfl (Nat.le_of_ble_eq_true rfl) (Nat.le_of_ble_eq_true rfl) (⟨rfl, rfl, rfl⟩)

set_option maxHeartbeats 4000000 in
set_option maxRecDepth 100000 in
theorem cq_meetsN2 {N : Nat} {μ : am_M} {b : List Int} {C : Snap} {rem : Nat} {hs : Nat → Snap} (hX : Bx μ b C rem hs) (hN : 120 ≤ N) {k : Int} {p : Nat} (hk : -2147483648 ≤ k ∧ k ≤ 2147483647) (hn : ¬ (0 ≤ k ∧ k < 4)) (hp : p < 4) : am_Met YX9_meets [.ref 0, am_i k, am_i (p : Int)] N μ (am_pv (am_i (-1)) N μ) := by
  obtain ⟨h0, hT, hR, hP, hH, hrem, hm, hsn⟩ := id hX
  refine am_met (by first | decide | rfl) (Nat.le_of_ble_eq_true rfl) (fun h => by first | rfl | cases h) ?_
  show am_W YX9_meets _ 0 0 0 [(0, .ref 0), (1, am_i k), (2, am_i (p : Int))] [] _ _
  refine ap_aload_n dX9_meets_0 rfl rfl ?_
  refine ap_iload_n dX9_meets_1 rfl rfl ?_
  refine ap_cV (As := [am_i k]) (rest := []) (ct_partAtN hk hn) dX9_meets_2 lk_X9_76 hy_X9_partAt rfl (by omega) h0 ⟨_, _, rfl⟩ (Nat.le_of_ble_eq_true rfl) ⟨Nat.le_of_ble_eq_true rfl, Nat.le_of_ble_eq_true rfl⟩ ⟨rfl, rfl⟩ ⟨Nat.le_of_ble_eq_true rfl, Nat.le_of_ble_eq_true rfl⟩ (fun xr1 xN2 μ3 xq4 => ?_)
  obtain ⟨rfl, rfl, rfl⟩ := xq4
  refine ap_Astore_nN (lv2 := [(0, .ref 0), (1, am_i k), (2, am_i (p : Int)), (3, .null)]) dX9_meets_5 rfl (by decide) rfl ?_
  refine ap_aload_n dX9_meets_6 rfl rfl ?_
  refine ap_iload_n dX9_meets_7 rfl rfl ?_
  refine ap_cV (As := [am_i (p : Int)]) (rest := []) (ct_partAtP h0 hP hN hp) dX9_meets_8 lk_X9_76 hy_X9_partAt rfl (by omega) h0 ⟨_, _, rfl⟩ (Nat.le_of_ble_eq_true rfl) ⟨Nat.le_of_ble_eq_true rfl, Nat.le_of_ble_eq_true rfl⟩ ⟨rfl, rfl⟩ ⟨Nat.le_of_ble_eq_true rfl, Nat.le_of_ble_eq_true rfl⟩ (fun xr5 xN6 μ7 xq8 => ?_)
  obtain ⟨rfl, rfl, rfl⟩ := xq8
  refine ap_Astore (lv2 := [(0, .ref 0), (1, am_i k), (2, am_i (p : Int)), (3, .null), (4, .ref (7 + 15 * p))]) dX9_meets_11 (by decide) rfl ?_
  refine ap_aloadN_n dX9_meets_13 rfl rfl ?_
  refine ap_ifnullN (tgt := 22) dX9_meets_14 (by decide) ?_
  refine ap_iconst dX9_meets_22 ?_
  exact ap_iret dX9_meets_23 rfl rfl (Nat.le_of_ble_eq_true rfl) (Nat.le_of_ble_eq_true rfl) (⟨rfl, rfl, rfl⟩)

set_option maxHeartbeats 4000000 in
set_option maxRecDepth 100000 in
theorem cq_meetsN3 {N : Nat} {μ : am_M} {b : List Int} {C : Snap} {rem : Nat} {hs : Nat → Snap} (hX : Bx μ b C rem hs) (hN : 120 ≤ N) {k : Int} {p : Nat} (hk : -2147483648 ≤ k ∧ k ≤ 2147483647) (hn : ¬ (0 ≤ k ∧ k < 4)) (hp : p < 4) : am_Met YX9_meets [.ref 0, am_i (p : Int), am_i k] N μ (am_pv (am_i (-1)) N μ) := by
  obtain ⟨h0, hT, hR, hP, hH, hrem, hm, hsn⟩ := id hX
  refine am_met (by first | decide | rfl) (Nat.le_of_ble_eq_true rfl) (fun h => by first | rfl | cases h) ?_
  show am_W YX9_meets _ 0 0 0 [(0, .ref 0), (1, am_i (p : Int)), (2, am_i k)] [] _ _
  refine ap_aload_n dX9_meets_0 rfl rfl ?_
  refine ap_iload_n dX9_meets_1 rfl rfl ?_
  refine ap_cV (As := [am_i (p : Int)]) (rest := []) (ct_partAtP h0 hP hN hp) dX9_meets_2 lk_X9_76 hy_X9_partAt rfl (by omega) h0 ⟨_, _, rfl⟩ (Nat.le_of_ble_eq_true rfl) ⟨Nat.le_of_ble_eq_true rfl, Nat.le_of_ble_eq_true rfl⟩ ⟨rfl, rfl⟩ ⟨Nat.le_of_ble_eq_true rfl, Nat.le_of_ble_eq_true rfl⟩ (fun xr1 xN2 μ3 xq4 => ?_)
  obtain ⟨rfl, rfl, rfl⟩ := xq4
  refine ap_Astore_n (lv2 := [(0, .ref 0), (1, am_i (p : Int)), (2, am_i k), (3, .ref (7 + 15 * p))]) dX9_meets_5 rfl (by decide) rfl ?_
  refine ap_aload_n dX9_meets_6 rfl rfl ?_
  refine ap_iload_n dX9_meets_7 rfl rfl ?_
  refine ap_cV (As := [am_i k]) (rest := []) (ct_partAtN hk hn) dX9_meets_8 lk_X9_76 hy_X9_partAt rfl (by omega) h0 ⟨_, _, rfl⟩ (Nat.le_of_ble_eq_true rfl) ⟨Nat.le_of_ble_eq_true rfl, Nat.le_of_ble_eq_true rfl⟩ ⟨rfl, rfl⟩ ⟨Nat.le_of_ble_eq_true rfl, Nat.le_of_ble_eq_true rfl⟩ (fun xr5 xN6 μ7 xq8 => ?_)
  obtain ⟨rfl, rfl, rfl⟩ := xq8
  refine ap_AstoreN (lv2 := [(0, .ref 0), (1, am_i (p : Int)), (2, am_i k), (3, .ref (7 + 15 * p)), (4, .null)]) dX9_meets_11 (by decide) rfl ?_
  refine ap_aload_n dX9_meets_13 rfl rfl ?_
  refine ap_ifnull dX9_meets_14 ?_
  refine ap_aloadN dX9_meets_17 rfl ?_
  refine ap_ifnonnullN dX9_meets_19 ?_
  refine ap_iconst dX9_meets_22 ?_
  exact ap_iret dX9_meets_23 rfl rfl (Nat.le_of_ble_eq_true rfl) (Nat.le_of_ble_eq_true rfl) (⟨rfl, rfl, rfl⟩)

set_option maxHeartbeats 4000000 in
set_option maxRecDepth 100000 in
theorem cq_cycle {N : Nat} {μ : am_M} {b : List Int} {C : Snap} {rem : Nat} {hs : Nat → Snap} (hX : Bx μ b C rem hs) (hN : 120 ≤ N) {p pb : Nat} (hp : p < 4) (hpb : pb < 4) {P P2 : PS} (hPe : psc (s_t C p) = P) (hPe2 : psc (s_t C pb) = P2) {w : Int} (hw : -2147483648 ≤ w ∧ w ≤ 2147483647) : am_Met YX9_cycle [.ref 0, am_i (p : Int), am_i (pb : Int), am_i w] N μ (am_pv (am_l (q_cyc P P2 w)) N μ) := by
  obtain ⟨h0, hT, hR, hP, hH, hrem, hm, hsn⟩ := id hX
  obtain ⟨p1, p2, p3, hS, p5⟩ := id (hP.2 p hp)
  have hpk := psc_ok p5
  have hS : Sco μ (7 + 15 * p + 5) (psc (s_t C p)) := hS
  rw [hPe] at hS hpk
  obtain ⟨s1, -⟩ := id hS
  obtain ⟨g1, g2, g3, g4, g5, g6, g7, g8, g9⟩ := id hpk
  obtain ⟨k1, k2, k3, kS, k5⟩ := id (hP.2 pb hpb)
  have kpk := psc_ok k5
  have kS : Sco μ (7 + 15 * pb + 5) (psc (s_t C pb)) := kS
  rw [hPe2] at kS kpk
  obtain ⟨t1, -⟩ := id kS
  obtain ⟨j1, j2, j3, j4, j5, j6, j7, j8, j9⟩ := id kpk
  refine am_met (by first | decide | rfl) (Nat.le_of_ble_eq_true rfl) (fun h => by first | rfl | cases h) ?_
  show am_W YX9_cycle _ 0 0 0 [(0, .ref 0), (1, am_i (p : Int)), (2, am_i (pb : Int)), (3, am_i w)] [] _ _
  refine ap_aload_n dX9_cycle_0 rfl rfl ?_
  refine ap_iload_n dX9_cycle_1 rfl rfl ?_
  refine ap_cV (As := [am_i (p : Int)]) (rest := []) (ct_partAtP h0 hP hN hp) dX9_cycle_2 lk_X9_76 hy_X9_partAt rfl (by omega) h0 ⟨_, _, rfl⟩ (Nat.le_of_ble_eq_true rfl) ⟨Nat.le_of_ble_eq_true rfl, Nat.le_of_ble_eq_true rfl⟩ ⟨rfl, rfl⟩ ⟨Nat.le_of_ble_eq_true rfl, Nat.le_of_ble_eq_true rfl⟩ (fun xr1 xN2 μ3 xq4 => ?_)
  obtain ⟨rfl, rfl, rfl⟩ := xq4
  refine ap_Astore (lv2 := [(0, .ref 0), (1, am_i (p : Int)), (2, am_i (pb : Int)), (3, am_i w), (4, .ref (7 + 15 * p))]) dX9_cycle_5 (by decide) rfl ?_
  refine ap_aload_n dX9_cycle_7 rfl rfl ?_
  refine ap_iload_n dX9_cycle_8 rfl rfl ?_
  refine ap_cV (As := [am_i (pb : Int)]) (rest := []) (ct_partAtP h0 hP hN hpb) dX9_cycle_9 lk_X9_76 hy_X9_partAt rfl (by omega) h0 ⟨_, _, rfl⟩ (Nat.le_of_ble_eq_true rfl) ⟨Nat.le_of_ble_eq_true rfl, Nat.le_of_ble_eq_true rfl⟩ ⟨rfl, rfl⟩ ⟨Nat.le_of_ble_eq_true rfl, Nat.le_of_ble_eq_true rfl⟩ (fun xr5 xN6 μ7 xq8 => ?_)
  obtain ⟨rfl, rfl, rfl⟩ := xq8
  refine ap_Astore (lv2 := [(0, .ref 0), (1, am_i (p : Int)), (2, am_i (pb : Int)), (3, am_i w), (4, .ref (7 + 15 * p)), (5, .ref (7 + 15 * pb))]) dX9_cycle_12 (by decide) rfl ?_
  refine ap_aload dX9_cycle_14 rfl ?_
  refine ap_ifnull dX9_cycle_16 ?_
  refine ap_aload dX9_cycle_19 rfl ?_
  refine ap_ifnull dX9_cycle_21 ?_
  refine ap_iload_n dX9_cycle_24 rfl rfl ?_
  refine ap_cS (As := [am_i w]) (rest := []) (ct_isSide hw) dX9_cycle_25 lk_X9_128 hy_X9_isSide rfl (Nat.le_of_ble_eq_true rfl) ⟨Nat.le_of_ble_eq_true rfl, Nat.le_of_ble_eq_true rfl⟩ ⟨rfl, rfl⟩ ⟨Nat.le_of_ble_eq_true rfl, Nat.le_of_ble_eq_true rfl⟩ (fun xr9 xN10 μ11 xq12 => ?_)
  obtain ⟨rfl, rfl, rfl⟩ := xq12
  refine ap_if_ne (tgt := 35) dX9_cycle_28 (by decide) (by split <;> omega) (fun c28 => ?_) (fun c28 => ?_)
  · have hq : w = 0 ∨ w = 1 := by
      by_cases q : w = 0 ∨ w = 1
      · exact q
      · rw [if_neg q] at c28; omega
    have hcr := cyc_r (p_tot P).toNat (p_tot P2).toNat
    refine ap_aload dX9_cycle_35 rfl ?_
    refine ap_getN ff_X9_100 dX9_cycle_37 (by omega) p1 rfl ?_
    refine ap_cV (As := []) (rest := []) (ct_total hS (by omega) hpk) dX9_cycle_40 lk_X9_133 hy_X4_total rfl (by omega) s1 ⟨_, _, rfl⟩ (Nat.le_of_ble_eq_true rfl) ⟨Nat.le_of_ble_eq_true rfl, Nat.le_of_ble_eq_true rfl⟩ ⟨rfl, rfl⟩ ⟨Nat.le_of_ble_eq_true rfl, Nat.le_of_ble_eq_true rfl⟩ (fun xr13 xN14 μ15 xq16 => ?_)
    obtain ⟨rfl, rfl, rfl⟩ := xq16
    refine ap_topl (b := ((p_tot P).toNat : Int)) (show (p_tot P) = ((p_tot P).toNat : Int) from by omega) ?_
    refine ap_aload dX9_cycle_43 rfl ?_
    refine ap_getN ff_X9_100 dX9_cycle_45 (by omega) k1 rfl ?_
    refine ap_cV (As := []) (rest := [am_l ((p_tot P).toNat : Int)]) (ct_total kS (by omega) kpk) dX9_cycle_48 lk_X9_133 hy_X4_total rfl (by omega) t1 ⟨_, _, rfl⟩ (Nat.le_of_ble_eq_true rfl) ⟨Nat.le_of_ble_eq_true rfl, Nat.le_of_ble_eq_true rfl⟩ ⟨rfl, rfl⟩ ⟨Nat.le_of_ble_eq_true rfl, Nat.le_of_ble_eq_true rfl⟩ (fun xr17 xN18 μ19 xq20 => ?_)
    obtain ⟨rfl, rfl, rfl⟩ := xq20
    refine ap_topl (b := ((p_tot P2).toNat : Int)) (show (p_tot P2) = ((p_tot P2).toNat : Int) from by omega) ?_
    refine ap_cS (As := [am_l ((p_tot P).toNat : Int), am_l ((p_tot P2).toNat : Int)]) (rest := []) (ct_commonCycle (a := (p_tot P).toNat) (b := (p_tot P2).toNat) (by omega) (by omega)) dX9_cycle_51 lk_X9_205 hy_X9_commonCycle rfl (Nat.le_of_ble_eq_true rfl) ⟨Nat.le_of_ble_eq_true rfl, Nat.le_of_ble_eq_true rfl⟩ ⟨rfl, rfl⟩ ⟨Nat.le_of_ble_eq_true rfl, Nat.le_of_ble_eq_true rfl⟩ (fun xr21 xN22 μ23 xq24 => ?_)
    obtain ⟨rfl, rfl, rfl⟩ := xq24
    refine ap_Lstore (lv2 := [(0, .ref 0), (1, am_i (p : Int)), (2, am_i (pb : Int)), (3, am_i w), (4, .ref (7 + 15 * p)), (5, .ref (7 + 15 * pb)), (6, am_l (cyc (p_tot P).toNat (p_tot P2).toNat))]) dX9_cycle_54 (by decide) rfl ?_
    refine ap_lload dX9_cycle_56 rfl ?_
    refine ap_lconst (v := 0) dX9_cycle_58 rfl ?_
    refine ap_lcmp_ge (tgt := 68) dX9_cycle_59 dX9_cycle_60 (by decide) (⟨by omega, by omega⟩) (fun c59 => ?_) (fun c59 => ?_)
    · refine ap_lload dX9_cycle_68 rfl ?_
      refine ap_topl (b := ((cyc (p_tot P).toNat (p_tot P2).toNat).toNat : Int)) (show (cyc (p_tot P).toNat (p_tot P2).toNat) = ((cyc (p_tot P).toNat (p_tot P2).toNat).toNat : Int) from by omega) ?_
      refine ap_ldc2 dX9_cycle_70 kl_X9_137 ?_
      refine ap_iload_n dX9_cycle_73 rfl rfl ?_
      refine ap_cS (As := [am_l ((cyc (p_tot P).toNat (p_tot P2).toNat).toNat : Int), am_l 812851200, am_i w]) (rest := []) (ct_side (x := (cyc (p_tot P).toNat (p_tot P2).toNat).toNat) (d := 812851200) (by omega) (by omega) hw) dX9_cycle_74 lk_X9_139 hy_X9_side rfl (Nat.le_of_ble_eq_true rfl) ⟨Nat.le_of_ble_eq_true rfl, Nat.le_of_ble_eq_true rfl⟩ ⟨rfl, rfl⟩ ⟨Nat.le_of_ble_eq_true rfl, Nat.le_of_ble_eq_true rfl⟩ (fun xr25 xN26 μ27 xq28 => ?_)
      obtain ⟨rfl, rfl, rfl⟩ := xq28
      exact ap_lret dX9_cycle_77 rfl (Nat.le_of_ble_eq_true rfl) (Nat.le_of_ble_eq_true rfl) (⟨by rw [q_cyc, if_pos hq, if_neg (by omega)], rfl, rfl⟩)
    · refine ap_lload dX9_cycle_63 rfl ?_
      refine ap_goto (tgt := 77) dX9_cycle_65 (by decide) ?_
      exact ap_lret dX9_cycle_77 rfl (Nat.le_of_ble_eq_true rfl) (Nat.le_of_ble_eq_true rfl) (⟨by rw [q_cyc, if_pos hq, if_pos (by omega)], rfl, rfl⟩)
  · have hq : ¬ (w = 0 ∨ w = 1) := by
      intro q
      rw [if_pos q] at c28; omega
    refine ap_ldc2 dX9_cycle_31 kl_X9_131 ?_
    exact ap_lret dX9_cycle_34 rfl (Nat.le_of_ble_eq_true rfl) (Nat.le_of_ble_eq_true rfl) (⟨by rw [q_cyc, if_neg hq], rfl, rfl⟩)

theorem tmod_r {a : Int} {d : Int} (ha : -140000000000000 ≤ a ∧ a ≤ 140000000000000) (hd : 0 < d ∧ d ≤ 140000000000000) : -9223372036854775808 ≤ a.tmod d ∧ a.tmod d ≤ 9223372036854775807 := by
  have := tmod_bounds (a := a) hd.1
  omega
set_option maxHeartbeats 4000000 in
set_option maxRecDepth 100000 in
theorem lp_meetIn {N s t : Nat} {μ : am_M} {P P2 : PS} (hS : Sco μ s P) (kS : Sco μ t P2) (hN : s + 9 < N) (hN2 : t + 9 < N) (hpk : pok P) (kpk : pok P2) {D : Nat} (hD : 0 < D ∧ D ≤ 140000000000000) {i : Nat} (hi : i < p_cnt P) {zi : Int} {R : Int} (hK : (∀ y2 : Int, y2 = msum P P2 (D : Int) (i + 1) → am_W YX9_meetings (am_pv (am_i R) N μ) 0 0 88 [(0, .ref s), (1, .ref t), (2, am_l ((D : Nat) : Int)), (4, am_i y2), (5, am_i (p_cnt P : Int)), (6, am_i (p_cnt P2 : Int)), (7, am_i zi)] [] N μ)) : ∀ (nn : Nat) (j : Nat) (z : Int) (y : Int), z = (j : Int) → j ≤ p_cnt P2 → y = msum P P2 (D : Int) i + mrow P P2 (D : Int) i j → p_cnt P2 - j < nn → am_W YX9_meetings (am_pv (am_i R) N μ) 0 0 56 [(0, .ref s), (1, .ref t), (2, am_l ((D : Nat) : Int)), (4, am_i y), (5, am_i (p_cnt P : Int)), (6, am_i (p_cnt P2 : Int)), (7, am_i zi), (8, am_l (p_B P i)), (10, am_i z)] [] N μ := by
  intro nn
  induction nn with
  | zero =>
    intro j z y hz hj hy hms
    exfalso; omega
  | succ nn ih =>
    intro j z y hz hj hy hms
    obtain ⟨s1, -⟩ := id hS
    obtain ⟨g1, g2, g3, g4, g5, g6, g7, g8, g9⟩ := id hpk
    obtain ⟨t1, -⟩ := id kS
    obtain ⟨j1, j2, j3, j4, j5, j6, j7, j8, j9⟩ := id kpk
    refine ap_iload dX9_meetings_56 rfl ?_
    refine ap_iload dX9_meetings_58 rfl ?_
    refine ap_icmp_ge (tgt := 88) dX9_meetings_60 (by decide) (by omega) (fun c60 => ?_) (fun c60 => ?_)
    · refine ap_pick (lv2 := [(0, .ref s), (1, .ref t), (2, am_l ((D : Nat) : Int)), (4, am_i y), (5, am_i (p_cnt P : Int)), (6, am_i (p_cnt P2 : Int)), (7, am_i zi)]) [0, 1, 2, 3, 4, 5, 6] rfl ?_
      exact hK _ (by rw [hy, show j = p_cnt P2 by omega]; rfl)
    · have ge := g8 i hi
      have gj := j8 j (by omega)
      refine ap_lload dX9_meetings_63 rfl ?_
      refine ap_aload_n dX9_meetings_65 rfl rfl ?_
      refine ap_iload dX9_meetings_66 rfl ?_
      refine ap_cV (As := [am_i z]) (rest := [am_l (p_B P i)]) (ct_begin kS (by omega) kpk (k := z) (by omega)) dX9_meetings_68 lk_X9_146 hy_X4_begin rfl (by omega) t1 ⟨_, _, rfl⟩ (Nat.le_of_ble_eq_true rfl) ⟨Nat.le_of_ble_eq_true rfl, Nat.le_of_ble_eq_true rfl⟩ ⟨rfl, rfl⟩ ⟨Nat.le_of_ble_eq_true rfl, Nat.le_of_ble_eq_true rfl⟩ (fun xr1 xN2 μ3 xq4 => ?_)
      obtain ⟨rfl, rfl, rfl⟩ := xq4
      refine ap_topl (b := p_B P2 j) (show (if 0 ≤ z ∧ z < p_cnt P2 then p_B P2 z.toNat else 0) = (p_B P2 j) from by rw [if_pos (by omega), hz]; rfl) ?_
      refine ap_lsub dX9_meetings_71 ?_
      refine ap_lload_n dX9_meetings_72 rfl rfl ?_
      refine ap_lremS dX9_meetings_73 (⟨by omega, by omega⟩) ?_
      refine ap_lconst (v := 0) dX9_meetings_74 rfl ?_
      refine ap_lcmp_ne (tgt := 82) dX9_meetings_75 dX9_meetings_76 (by decide) (⟨tmod_r (by omega) (by omega), by omega⟩) (fun c75 => ?_) (fun c75 => ?_)
      · refine ap_Iinc (lv2 := [(0, .ref s), (1, .ref t), (2, am_l ((D : Nat) : Int)), (4, am_i y), (5, am_i (p_cnt P : Int)), (6, am_i (p_cnt P2 : Int)), (7, am_i zi), (8, am_l (p_B P i)), (10, am_i (z + 1))]) dX9_meetings_82 rfl (by decide) rfl ?_
        refine ap_goto (tgt := 56) dX9_meetings_85 (by decide) ?_
        exact ih (j + 1) _ _ (by omega) (by omega) (by rw [mrow, if_neg c75, hy, Int.add_zero]) (by omega)
      · refine ap_Iinc (lv2 := [(0, .ref s), (1, .ref t), (2, am_l ((D : Nat) : Int)), (4, am_i (y + 1)), (5, am_i (p_cnt P : Int)), (6, am_i (p_cnt P2 : Int)), (7, am_i zi), (8, am_l (p_B P i)), (10, am_i z)]) dX9_meetings_79 rfl (by decide) rfl ?_
        refine ap_Iinc (lv2 := [(0, .ref s), (1, .ref t), (2, am_l ((D : Nat) : Int)), (4, am_i (y + 1)), (5, am_i (p_cnt P : Int)), (6, am_i (p_cnt P2 : Int)), (7, am_i zi), (8, am_l (p_B P i)), (10, am_i (z + 1))]) dX9_meetings_82 rfl (by decide) rfl ?_
        refine ap_goto (tgt := 56) dX9_meetings_85 (by decide) ?_
        exact ih (j + 1) _ _ (by omega) (by omega) (by rw [mrow, if_pos c75, hy, Int.add_assoc]) (by omega)

set_option maxHeartbeats 4000000 in
set_option maxRecDepth 100000 in
theorem lp_meetOut {N s t : Nat} {μ : am_M} {P P2 : PS} (hS : Sco μ s P) (kS : Sco μ t P2) (hN : s + 9 < N) (hN2 : t + 9 < N) (hpk : pok P) (kpk : pok P2) {D : Nat} (hD : 0 < D ∧ D ≤ 140000000000000) : ∀ (nn : Nat) (i : Nat) (z : Int) (y : Int), z = (i : Int) → i ≤ p_cnt P → y = msum P P2 (D : Int) i → p_cnt P - i < nn → am_W YX9_meetings (am_pv (am_i (msum P P2 (D : Int) (p_cnt P))) N μ) 0 0 38 [(0, .ref s), (1, .ref t), (2, am_l ((D : Nat) : Int)), (4, am_i y), (5, am_i (p_cnt P : Int)), (6, am_i (p_cnt P2 : Int)), (7, am_i z)] [] N μ := by
  intro nn
  induction nn with
  | zero =>
    intro i z y hz hi hy hms
    exfalso; omega
  | succ nn ih =>
    intro i z y hz hi hy hms
    obtain ⟨s1, -⟩ := id hS
    obtain ⟨g1, g2, g3, g4, g5, g6, g7, g8, g9⟩ := id hpk
    obtain ⟨t1, -⟩ := id kS
    obtain ⟨j1, j2, j3, j4, j5, j6, j7, j8, j9⟩ := id kpk
    refine ap_iload dX9_meetings_38 rfl ?_
    refine ap_iload dX9_meetings_40 rfl ?_
    refine ap_icmp_ge (tgt := 94) dX9_meetings_42 (by decide) (by omega) (fun c42 => ?_) (fun c42 => ?_)
    · refine ap_iload dX9_meetings_94 rfl ?_
      exact ap_iret dX9_meetings_96 rfl rfl (Nat.le_of_ble_eq_true rfl) (Nat.le_of_ble_eq_true rfl) (⟨by rw [hy, show i = p_cnt P by omega], rfl, rfl⟩)
    · refine ap_aload_n dX9_meetings_45 rfl rfl ?_
      refine ap_iload dX9_meetings_46 rfl ?_
      refine ap_cV (As := [am_i z]) (rest := []) (ct_begin hS (by omega) hpk (k := z) (by omega)) dX9_meetings_48 lk_X9_146 hy_X4_begin rfl (by omega) s1 ⟨_, _, rfl⟩ (Nat.le_of_ble_eq_true rfl) ⟨Nat.le_of_ble_eq_true rfl, Nat.le_of_ble_eq_true rfl⟩ ⟨rfl, rfl⟩ ⟨Nat.le_of_ble_eq_true rfl, Nat.le_of_ble_eq_true rfl⟩ (fun xr1 xN2 μ3 xq4 => ?_)
      obtain ⟨rfl, rfl, rfl⟩ := xq4
      refine ap_topl (b := p_B P i) (show (if 0 ≤ z ∧ z < p_cnt P then p_B P z.toNat else 0) = (p_B P i) from by rw [if_pos (by omega), hz]; rfl) ?_
      refine ap_Lstore (lv2 := [(0, .ref s), (1, .ref t), (2, am_l ((D : Nat) : Int)), (4, am_i y), (5, am_i (p_cnt P : Int)), (6, am_i (p_cnt P2 : Int)), (7, am_i z), (8, am_l (p_B P i))]) dX9_meetings_51 (by decide) rfl ?_
      refine ap_iconst dX9_meetings_53 ?_
      refine ap_Istore (lv2 := [(0, .ref s), (1, .ref t), (2, am_l ((D : Nat) : Int)), (4, am_i y), (5, am_i (p_cnt P : Int)), (6, am_i (p_cnt P2 : Int)), (7, am_i z), (8, am_l (p_B P i)), (10, am_i 0)]) dX9_meetings_54 (by decide) rfl ?_
      refine lp_meetIn hS kS hN hN2 hpk kpk hD (i := i) (by omega) (fun y2 hy2 => ?_) (p_cnt P2 + 1) 0 _ _ rfl (by omega) (by rw [hy, mrow, Int.add_zero]) (by omega)
      refine ap_Iinc (lv2 := [(0, .ref s), (1, .ref t), (2, am_l ((D : Nat) : Int)), (4, am_i y2), (5, am_i (p_cnt P : Int)), (6, am_i (p_cnt P2 : Int)), (7, am_i (z + 1))]) dX9_meetings_88 rfl (by decide) rfl ?_
      refine ap_goto (tgt := 38) dX9_meetings_91 (by decide) ?_
      exact ih (i + 1) _ _ (by omega) (by omega) hy2 (by omega)

set_option maxHeartbeats 4000000 in
set_option maxRecDepth 100000 in
theorem ct_meetings {N s t : Nat} {μ : am_M} {P P2 : PS} (hS : Sco μ s P) (kS : Sco μ t P2) (hN : s + 9 < N) (hN2 : t + 9 < N) (hpk : pok P) (kpk : pok P2) (h1 : 0 < p_tot P) (h2 : 0 < p_tot P2) : am_Met YX9_meetings [.ref s, .ref t] N μ (am_pv (am_i (msum P P2 (Nat.gcd (p_tot P).toNat (p_tot P2).toNat) (p_cnt P))) N μ) := by
  obtain ⟨s1, -⟩ := id hS
  obtain ⟨g1, g2, g3, g4, g5, g6, g7, g8, g9⟩ := id hpk
  obtain ⟨t1, -⟩ := id kS
  obtain ⟨j1, j2, j3, j4, j5, j6, j7, j8, j9⟩ := id kpk
  have hg0 : 0 < Nat.gcd (p_tot P).toNat (p_tot P2).toNat := Nat.gcd_pos_of_pos_right _ (by omega)
  have hg1 : Nat.gcd (p_tot P).toNat (p_tot P2).toNat ≤ (p_tot P2).toNat := Nat.gcd_le_right _ (by omega)
  refine am_met (by first | decide | rfl) (Nat.le_of_ble_eq_true rfl) (fun h => by first | rfl | cases h) ?_
  show am_W YX9_meetings _ 0 0 0 [(0, .ref s), (1, .ref t)] [] _ _
  refine ap_aload_n dX9_meetings_0 rfl rfl ?_
  refine ap_cV (As := []) (rest := []) (ct_total hS (by omega) hpk) dX9_meetings_1 lk_X9_133 hy_X4_total rfl (by omega) s1 ⟨_, _, rfl⟩ (Nat.le_of_ble_eq_true rfl) ⟨Nat.le_of_ble_eq_true rfl, Nat.le_of_ble_eq_true rfl⟩ ⟨rfl, rfl⟩ ⟨Nat.le_of_ble_eq_true rfl, Nat.le_of_ble_eq_true rfl⟩ (fun xr1 xN2 μ3 xq4 => ?_)
  obtain ⟨rfl, rfl, rfl⟩ := xq4
  refine ap_topl (b := ((p_tot P).toNat : Int)) (show (p_tot P) = ((p_tot P).toNat : Int) from by omega) ?_
  refine ap_aload_n dX9_meetings_4 rfl rfl ?_
  refine ap_cV (As := []) (rest := [am_l ((p_tot P).toNat : Int)]) (ct_total kS (by omega) kpk) dX9_meetings_5 lk_X9_133 hy_X4_total rfl (by omega) t1 ⟨_, _, rfl⟩ (Nat.le_of_ble_eq_true rfl) ⟨Nat.le_of_ble_eq_true rfl, Nat.le_of_ble_eq_true rfl⟩ ⟨rfl, rfl⟩ ⟨Nat.le_of_ble_eq_true rfl, Nat.le_of_ble_eq_true rfl⟩ (fun xr5 xN6 μ7 xq8 => ?_)
  obtain ⟨rfl, rfl, rfl⟩ := xq8
  refine ap_topl (b := ((p_tot P2).toNat : Int)) (show (p_tot P2) = ((p_tot P2).toNat : Int) from by omega) ?_
  refine ap_cS (As := [am_l ((p_tot P).toNat : Int), am_l ((p_tot P2).toNat : Int)]) (rest := []) (ct_commonDivisor (a := (p_tot P).toNat) (b := (p_tot P2).toNat) (by omega) (by omega)) dX9_meetings_8 lk_X9_186 hy_X9_commonDivisor rfl (Nat.le_of_ble_eq_true rfl) ⟨Nat.le_of_ble_eq_true rfl, Nat.le_of_ble_eq_true rfl⟩ ⟨rfl, rfl⟩ ⟨Nat.le_of_ble_eq_true rfl, Nat.le_of_ble_eq_true rfl⟩ (fun xr9 xN10 μ11 xq12 => ?_)
  obtain ⟨rfl, rfl, rfl⟩ := xq12
  refine ap_Lstore_n (lv2 := [(0, .ref s), (1, .ref t), (2, am_l ((Nat.gcd (p_tot P).toNat (p_tot P2).toNat : Nat) : Int))]) dX9_meetings_11 rfl (by decide) rfl ?_
  refine ap_lload_n dX9_meetings_12 rfl rfl ?_
  refine ap_lconst (v := 1) dX9_meetings_13 rfl ?_
  refine ap_lcmp_ge (tgt := 20) dX9_meetings_14 dX9_meetings_15 (by decide) (⟨by omega, by omega⟩) (fun c14 => ?_) (fun c14 => (by exfalso; omega))
  refine ap_iconst dX9_meetings_20 ?_
  refine ap_Istore (lv2 := [(0, .ref s), (1, .ref t), (2, am_l ((Nat.gcd (p_tot P).toNat (p_tot P2).toNat : Nat) : Int)), (4, am_i 0)]) dX9_meetings_21 (by decide) rfl ?_
  refine ap_aload_n dX9_meetings_23 rfl rfl ?_
  refine ap_cV (As := []) (rest := []) (ct_count hS (by omega) hpk) dX9_meetings_24 lk_X9_104 hy_X4_count rfl (by omega) s1 ⟨_, _, rfl⟩ (Nat.le_of_ble_eq_true rfl) ⟨Nat.le_of_ble_eq_true rfl, Nat.le_of_ble_eq_true rfl⟩ ⟨rfl, rfl⟩ ⟨Nat.le_of_ble_eq_true rfl, Nat.le_of_ble_eq_true rfl⟩ (fun xr13 xN14 μ15 xq16 => ?_)
  obtain ⟨rfl, rfl, rfl⟩ := xq16
  refine ap_Istore (lv2 := [(0, .ref s), (1, .ref t), (2, am_l ((Nat.gcd (p_tot P).toNat (p_tot P2).toNat : Nat) : Int)), (4, am_i 0), (5, am_i (p_cnt P : Int))]) dX9_meetings_27 (by decide) rfl ?_
  refine ap_aload_n dX9_meetings_29 rfl rfl ?_
  refine ap_cV (As := []) (rest := []) (ct_count kS (by omega) kpk) dX9_meetings_30 lk_X9_104 hy_X4_count rfl (by omega) t1 ⟨_, _, rfl⟩ (Nat.le_of_ble_eq_true rfl) ⟨Nat.le_of_ble_eq_true rfl, Nat.le_of_ble_eq_true rfl⟩ ⟨rfl, rfl⟩ ⟨Nat.le_of_ble_eq_true rfl, Nat.le_of_ble_eq_true rfl⟩ (fun xr17 xN18 μ19 xq20 => ?_)
  obtain ⟨rfl, rfl, rfl⟩ := xq20
  refine ap_Istore (lv2 := [(0, .ref s), (1, .ref t), (2, am_l ((Nat.gcd (p_tot P).toNat (p_tot P2).toNat : Nat) : Int)), (4, am_i 0), (5, am_i (p_cnt P : Int)), (6, am_i (p_cnt P2 : Int))]) dX9_meetings_33 (by decide) rfl ?_
  refine ap_iconst dX9_meetings_35 ?_
  refine ap_Istore (lv2 := [(0, .ref s), (1, .ref t), (2, am_l ((Nat.gcd (p_tot P).toNat (p_tot P2).toNat : Nat) : Int)), (4, am_i 0), (5, am_i (p_cnt P : Int)), (6, am_i (p_cnt P2 : Int)), (7, am_i 0)]) dX9_meetings_36 (by decide) rfl ?_
  exact lp_meetOut hS kS hN hN2 hpk kpk ⟨hg0, by omega⟩ (p_cnt P + 1) 0 _ _ rfl (by omega) rfl (by omega)

set_option maxHeartbeats 4000000 in
set_option maxRecDepth 100000 in
theorem cq_meets {N : Nat} {μ : am_M} {b : List Int} {C : Snap} {rem : Nat} {hs : Nat → Snap} (hX : Bx μ b C rem hs) (hN : 120 ≤ N) {p pb : Nat} (hp : p < 4) (hpb : pb < 4) {P P2 : PS} (hPe : psc (s_t C p) = P) (hPe2 : psc (s_t C pb) = P2) : am_Met YX9_meets [.ref 0, am_i (p : Int), am_i (pb : Int)] N μ (am_pv (am_i (q_meets P P2)) N μ) := by
  obtain ⟨h0, hT, hR, hP, hH, hrem, hm, hsn⟩ := id hX
  obtain ⟨p1, p2, p3, hS, p5⟩ := id (hP.2 p hp)
  have hpk := psc_ok p5
  have hS : Sco μ (7 + 15 * p + 5) (psc (s_t C p)) := hS
  rw [hPe] at hS hpk
  obtain ⟨s1, -⟩ := id hS
  obtain ⟨g1, g2, g3, g4, g5, g6, g7, g8, g9⟩ := id hpk
  obtain ⟨k1, k2, k3, kS, k5⟩ := id (hP.2 pb hpb)
  have kpk := psc_ok k5
  have kS : Sco μ (7 + 15 * pb + 5) (psc (s_t C pb)) := kS
  rw [hPe2] at kS kpk
  obtain ⟨t1, -⟩ := id kS
  obtain ⟨j1, j2, j3, j4, j5, j6, j7, j8, j9⟩ := id kpk
  refine am_met (by first | decide | rfl) (Nat.le_of_ble_eq_true rfl) (fun h => by first | rfl | cases h) ?_
  show am_W YX9_meets _ 0 0 0 [(0, .ref 0), (1, am_i (p : Int)), (2, am_i (pb : Int))] [] _ _
  refine ap_aload_n dX9_meets_0 rfl rfl ?_
  refine ap_iload_n dX9_meets_1 rfl rfl ?_
  refine ap_cV (As := [am_i (p : Int)]) (rest := []) (ct_partAtP h0 hP hN hp) dX9_meets_2 lk_X9_76 hy_X9_partAt rfl (by omega) h0 ⟨_, _, rfl⟩ (Nat.le_of_ble_eq_true rfl) ⟨Nat.le_of_ble_eq_true rfl, Nat.le_of_ble_eq_true rfl⟩ ⟨rfl, rfl⟩ ⟨Nat.le_of_ble_eq_true rfl, Nat.le_of_ble_eq_true rfl⟩ (fun xr1 xN2 μ3 xq4 => ?_)
  obtain ⟨rfl, rfl, rfl⟩ := xq4
  refine ap_Astore_n (lv2 := [(0, .ref 0), (1, am_i (p : Int)), (2, am_i (pb : Int)), (3, .ref (7 + 15 * p))]) dX9_meets_5 rfl (by decide) rfl ?_
  refine ap_aload_n dX9_meets_6 rfl rfl ?_
  refine ap_iload_n dX9_meets_7 rfl rfl ?_
  refine ap_cV (As := [am_i (pb : Int)]) (rest := []) (ct_partAtP h0 hP hN hpb) dX9_meets_8 lk_X9_76 hy_X9_partAt rfl (by omega) h0 ⟨_, _, rfl⟩ (Nat.le_of_ble_eq_true rfl) ⟨Nat.le_of_ble_eq_true rfl, Nat.le_of_ble_eq_true rfl⟩ ⟨rfl, rfl⟩ ⟨Nat.le_of_ble_eq_true rfl, Nat.le_of_ble_eq_true rfl⟩ (fun xr5 xN6 μ7 xq8 => ?_)
  obtain ⟨rfl, rfl, rfl⟩ := xq8
  refine ap_Astore (lv2 := [(0, .ref 0), (1, am_i (p : Int)), (2, am_i (pb : Int)), (3, .ref (7 + 15 * p)), (4, .ref (7 + 15 * pb))]) dX9_meets_11 (by decide) rfl ?_
  refine ap_aload_n dX9_meets_13 rfl rfl ?_
  refine ap_ifnull dX9_meets_14 ?_
  refine ap_aload dX9_meets_17 rfl ?_
  refine ap_ifnonnull (tgt := 24) dX9_meets_19 (by decide) ?_
  have hcr := cyc_r (p_tot P).toNat (p_tot P2).toNat
  refine ap_aload_n dX9_meets_24 rfl rfl ?_
  refine ap_getN ff_X9_100 dX9_meets_25 (by omega) p1 rfl ?_
  refine ap_cV (As := []) (rest := []) (ct_total hS (by omega) hpk) dX9_meets_28 lk_X9_133 hy_X4_total rfl (by omega) s1 ⟨_, _, rfl⟩ (Nat.le_of_ble_eq_true rfl) ⟨Nat.le_of_ble_eq_true rfl, Nat.le_of_ble_eq_true rfl⟩ ⟨rfl, rfl⟩ ⟨Nat.le_of_ble_eq_true rfl, Nat.le_of_ble_eq_true rfl⟩ (fun xr9 xN10 μ11 xq12 => ?_)
  obtain ⟨rfl, rfl, rfl⟩ := xq12
  refine ap_topl (b := ((p_tot P).toNat : Int)) (show (p_tot P) = ((p_tot P).toNat : Int) from by omega) ?_
  refine ap_aload dX9_meets_31 rfl ?_
  refine ap_getN ff_X9_100 dX9_meets_33 (by omega) k1 rfl ?_
  refine ap_cV (As := []) (rest := [am_l ((p_tot P).toNat : Int)]) (ct_total kS (by omega) kpk) dX9_meets_36 lk_X9_133 hy_X4_total rfl (by omega) t1 ⟨_, _, rfl⟩ (Nat.le_of_ble_eq_true rfl) ⟨Nat.le_of_ble_eq_true rfl, Nat.le_of_ble_eq_true rfl⟩ ⟨rfl, rfl⟩ ⟨Nat.le_of_ble_eq_true rfl, Nat.le_of_ble_eq_true rfl⟩ (fun xr13 xN14 μ15 xq16 => ?_)
  obtain ⟨rfl, rfl, rfl⟩ := xq16
  refine ap_topl (b := ((p_tot P2).toNat : Int)) (show (p_tot P2) = ((p_tot P2).toNat : Int) from by omega) ?_
  refine ap_cS (As := [am_l ((p_tot P).toNat : Int), am_l ((p_tot P2).toNat : Int)]) (rest := []) (ct_commonCycle (a := (p_tot P).toNat) (b := (p_tot P2).toNat) (by omega) (by omega)) dX9_meets_39 lk_X9_205 hy_X9_commonCycle rfl (Nat.le_of_ble_eq_true rfl) ⟨Nat.le_of_ble_eq_true rfl, Nat.le_of_ble_eq_true rfl⟩ ⟨rfl, rfl⟩ ⟨Nat.le_of_ble_eq_true rfl, Nat.le_of_ble_eq_true rfl⟩ (fun xr17 xN18 μ19 xq20 => ?_)
  obtain ⟨rfl, rfl, rfl⟩ := xq20
  refine ap_Lstore (lv2 := [(0, .ref 0), (1, am_i (p : Int)), (2, am_i (pb : Int)), (3, .ref (7 + 15 * p)), (4, .ref (7 + 15 * pb)), (5, am_l (cyc (p_tot P).toNat (p_tot P2).toNat))]) dX9_meets_42 (by decide) rfl ?_
  refine ap_lload dX9_meets_44 rfl ?_
  refine ap_lconst (v := 0) dX9_meets_46 rfl ?_
  refine ap_lcmp_ge (tgt := 55) dX9_meets_47 dX9_meets_48 (by decide) (⟨by omega, by omega⟩) (fun c47 => ?_) (fun c47 => ?_)
  · have hpos : 0 < p_tot P ∧ 0 < p_tot P2 := by
      unfold cyc at c47
      by_cases q : (p_tot P).toNat < 1 ∨ (p_tot P2).toNat < 1
      · rw [if_pos q] at c47; omega
      · omega
    refine ap_aload_n dX9_meets_55 rfl rfl ?_
    refine ap_getN ff_X9_100 dX9_meets_56 (by omega) p1 rfl ?_
    refine ap_aload dX9_meets_59 rfl ?_
    refine ap_getN ff_X9_100 dX9_meets_61 (by omega) k1 rfl ?_
    refine ap_cS (As := [.ref (7 + 15 * p + 5), .ref (7 + 15 * pb + 5)]) (rest := []) (ct_meetings hS kS (by omega) (by omega) hpk kpk hpos.1 hpos.2) dX9_meets_64 lk_X9_208 hy_X9_meetings rfl (Nat.le_of_ble_eq_true rfl) ⟨Nat.le_of_ble_eq_true rfl, Nat.le_of_ble_eq_true rfl⟩ ⟨rfl, rfl⟩ ⟨Nat.le_of_ble_eq_true rfl, Nat.le_of_ble_eq_true rfl⟩ (fun xr21 xN22 μ23 xq24 => ?_)
    obtain ⟨rfl, rfl, rfl⟩ := xq24
    exact ap_iret dX9_meets_67 rfl rfl (Nat.le_of_ble_eq_true rfl) (Nat.le_of_ble_eq_true rfl) (⟨by rw [q_meets, if_neg (by omega)], rfl, rfl⟩)
  · refine ap_lload dX9_meets_51 rfl ?_
    refine ap_l2i dX9_meets_53 ?_
    exact ap_iret dX9_meets_54 rfl rfl (Nat.le_of_ble_eq_true rfl) (Nat.le_of_ble_eq_true rfl) (⟨by rw [q_meets, if_pos (by omega)], rfl, rfl⟩)

def fpt (h : Int) (xs : List Int) (i : Nat) : Int := match i with
  | 0 => 31 * h + xs.length
  | i + 1 => 31 * fpt h xs i + xs.getD i 0
def fpp (x : Nat → List Int) (k : Nat) : Int := match k with
  | 0 => 71
  | k + 1 => fpt (fpp x k) (x k) (x k).length
def q_fp (C : Snap) : Int := 31 * (31 * (31 * (31 * fpp (s_t C) 4 + s_b C) + s_v C) + s_a C) + s_w C
set_option maxHeartbeats 4000000 in
set_option maxRecDepth 100000 in
theorem lp_fpIn {N : Nat} {μ : am_M} {b : List Int} {C : Snap} {rem : Nat} {hs : Nat → Snap} (hX : Bx μ b C rem hs) (hN : 120 ≤ N) {k : Nat} (hk : k < 4) {zk R : Int} (hK : (∀ y2 : Int, y2 = fpp (s_t C) (k + 1) → am_W YX9_fingerprint (am_pv (am_l R) N μ) 0 0 69 [(0, .ref 0), (1, am_l y2), (3, am_i zk)] [] N μ)) : ∀ (nn : Nat) (i : Nat) (z : Int) (y : Int), z = (i : Int) → i ≤ (s_t C k).length → y = fpt (fpp (s_t C) k) (s_t C k) i → (s_t C k).length - i < nn → am_W YX9_fingerprint (am_pv (am_l R) N μ) 0 0 38 [(0, .ref 0), (1, am_l y), (3, am_i zk), (4, .ref (7 + 15 * k + 1)), (5, am_i z)] [] N μ := by
  intro nn
  induction nn with
  | zero =>
    intro i z y hz hi hy hms
    exfalso; omega
  | succ nn ih =>
    intro i z y hz hi hy hms
    obtain ⟨h0, hT, hR, hP, hH, hrem, hm, hsn⟩ := id hX
    obtain ⟨⟨fp, h6, h7⟩, -⟩ := id hP
    have hT2 := (hP.2 k hk).2.1
    have hTl := hT2.2.2.1
    refine ap_iload dX9_fingerprint_38 rfl ?_
    refine ap_aload dX9_fingerprint_40 rfl ?_
    refine ap_cV (As := []) (rest := [am_i z]) (ct_size (hP.2 k hk).2.1 (by omega)) dX9_fingerprint_42 lk_X9_69 hy_X6_size rfl (by omega) (hP.2 k hk).2.1.1 ⟨_, _, rfl⟩ (Nat.le_of_ble_eq_true rfl) ⟨Nat.le_of_ble_eq_true rfl, Nat.le_of_ble_eq_true rfl⟩ ⟨rfl, rfl⟩ ⟨Nat.le_of_ble_eq_true rfl, Nat.le_of_ble_eq_true rfl⟩ (fun xr1 xN2 μ3 xq4 => ?_)
    obtain ⟨rfl, rfl, rfl⟩ := xq4
    refine ap_icmp_ge (tgt := 69) dX9_fingerprint_45 (by decide) (by omega) (fun c45 => ?_) (fun c45 => ?_)
    · refine ap_pick (lv2 := [(0, .ref 0), (1, am_l y), (3, am_i zk)]) [0, 1, 2] rfl ?_
      exact hK _ (by rw [hy, show i = (s_t C k).length by omega]; rfl)
    · refine ap_ldc2 dX9_fingerprint_48 kl_X9_225 ?_
      refine ap_lload_n dX9_fingerprint_51 rfl rfl ?_
      refine ap_lmul dX9_fingerprint_52 ?_
      refine ap_aload dX9_fingerprint_53 rfl ?_
      refine ap_iload dX9_fingerprint_55 rfl ?_
      refine ap_cV (As := [am_i z]) (rest := [am_l (31 * y)]) (ct_at (hP.2 k hk).2.1 (by omega) (k := z) (by omega)) dX9_fingerprint_57 lk_X9_118 hy_X6_at rfl (by omega) (hP.2 k hk).2.1.1 ⟨_, _, rfl⟩ (Nat.le_of_ble_eq_true rfl) ⟨Nat.le_of_ble_eq_true rfl, Nat.le_of_ble_eq_true rfl⟩ ⟨rfl, rfl⟩ ⟨Nat.le_of_ble_eq_true rfl, Nat.le_of_ble_eq_true rfl⟩ (fun xr5 xN6 μ7 xq8 => ?_)
      obtain ⟨rfl, rfl, rfl⟩ := xq8
      refine ap_topi (b := (s_t C k).getD i 0) (show (tat (s_t C k) z) = ((s_t C k).getD i 0) from by rw [tat, if_pos (by omega), hz]; rfl) ?_
      refine ap_i2l dX9_fingerprint_60 (by have := hT2.2.2.2.2 _ (am_gd (show i < (s_t C k).length by omega)); omega) ?_
      refine ap_ladd dX9_fingerprint_61 ?_
      refine ap_Lstore_n (lv2 := [(0, .ref 0), (1, am_l ((31 * y) + ((s_t C k).getD i 0))), (3, am_i zk), (4, .ref (7 + 15 * k + 1)), (5, am_i z)]) dX9_fingerprint_62 rfl (by decide) rfl ?_
      refine ap_Iinc (lv2 := [(0, .ref 0), (1, am_l ((31 * y) + ((s_t C k).getD i 0))), (3, am_i zk), (4, .ref (7 + 15 * k + 1)), (5, am_i (z + 1))]) dX9_fingerprint_63 rfl (by decide) rfl ?_
      refine ap_goto (tgt := 38) dX9_fingerprint_66 (by decide) ?_
      exact ih (i + 1) _ _ (by omega) (by omega) (by rw [hy]; rfl) (by omega)

set_option maxHeartbeats 4000000 in
set_option maxRecDepth 100000 in
theorem lp_fpOut {N : Nat} {μ : am_M} {b : List Int} {C : Snap} {rem : Nat} {hs : Nat → Snap} (hX : Bx μ b C rem hs) (hN : 120 ≤ N) : ∀ (nn : Nat) (k : Nat) (z : Int) (y : Int), z = (k : Int) → k ≤ 4 → y = fpp (s_t C) k → 4 - k < nn → am_W YX9_fingerprint (am_pv (am_l (q_fp C)) N μ) 0 0 6 [(0, .ref 0), (1, am_l y), (3, am_i z)] [] N μ := by
  intro nn
  induction nn with
  | zero =>
    intro k z y hz hk4 hy hms
    exfalso; omega
  | succ nn ih =>
    intro k z y hz hk4 hy hms
    obtain ⟨h0, hT, hR, hP, hH, hrem, hm, hsn⟩ := id hX
    obtain ⟨⟨fp, h6, h7⟩, -⟩ := id hP
    refine ap_iload_n dX9_fingerprint_6 rfl rfl ?_
    refine ap_iconst dX9_fingerprint_7 ?_
    refine ap_icmp_ge (tgt := 75) dX9_fingerprint_8 (by decide) (by omega) (fun c8 => ?_) (fun c8 => ?_)
    · obtain ⟨m1, m2, m3, m4, m5⟩ := id hm
      refine ap_ldc2 dX9_fingerprint_75 kl_X9_225 ?_
      refine ap_lload_n dX9_fingerprint_78 rfl rfl ?_
      refine ap_lmul dX9_fingerprint_79 ?_
      refine ap_aload_n dX9_fingerprint_80 rfl rfl ?_
      refine ap_get ff_X9_49 dX9_fingerprint_81 (by omega) h0 rfl ?_
      refine ap_i2l dX9_fingerprint_84 (by omega) ?_
      refine ap_ladd dX9_fingerprint_85 ?_
      refine ap_Lstore_n (lv2 := [(0, .ref 0), (1, am_l ((31 * y) + (s_b C))), (3, am_i z)]) dX9_fingerprint_86 rfl (by decide) rfl ?_
      refine ap_ldc2 dX9_fingerprint_87 kl_X9_225 ?_
      refine ap_lload_n dX9_fingerprint_90 rfl rfl ?_
      refine ap_lmul dX9_fingerprint_91 ?_
      refine ap_aload_n dX9_fingerprint_92 rfl rfl ?_
      refine ap_get ff_X9_53 dX9_fingerprint_93 (by omega) h0 rfl ?_
      refine ap_i2l dX9_fingerprint_96 (by omega) ?_
      refine ap_ladd dX9_fingerprint_97 ?_
      refine ap_Lstore_n (lv2 := [(0, .ref 0), (1, am_l ((31 * ((31 * y) + (s_b C))) + (s_v C))), (3, am_i z)]) dX9_fingerprint_98 rfl (by decide) rfl ?_
      refine ap_ldc2 dX9_fingerprint_99 kl_X9_225 ?_
      refine ap_lload_n dX9_fingerprint_102 rfl rfl ?_
      refine ap_lmul dX9_fingerprint_103 ?_
      refine ap_aload_n dX9_fingerprint_104 rfl rfl ?_
      refine ap_get ff_X9_56 dX9_fingerprint_105 (by omega) h0 rfl ?_
      refine ap_i2l dX9_fingerprint_108 (by omega) ?_
      refine ap_ladd dX9_fingerprint_109 ?_
      refine ap_Lstore_n (lv2 := [(0, .ref 0), (1, am_l ((31 * ((31 * ((31 * y) + (s_b C))) + (s_v C))) + (s_a C))), (3, am_i z)]) dX9_fingerprint_110 rfl (by decide) rfl ?_
      refine ap_ldc2 dX9_fingerprint_111 kl_X9_225 ?_
      refine ap_lload_n dX9_fingerprint_114 rfl rfl ?_
      refine ap_lmul dX9_fingerprint_115 ?_
      refine ap_aload_n dX9_fingerprint_116 rfl rfl ?_
      refine ap_get ff_X9_59 dX9_fingerprint_117 (by omega) h0 rfl ?_
      refine ap_i2l dX9_fingerprint_120 (by omega) ?_
      refine ap_ladd dX9_fingerprint_121 ?_
      exact ap_lret dX9_fingerprint_122 rfl (Nat.le_of_ble_eq_true rfl) (Nat.le_of_ble_eq_true rfl) (⟨by rw [hy, show k = 4 by omega]; rfl, rfl, rfl⟩)
    · refine ap_aload_n dX9_fingerprint_11 rfl rfl ?_
      refine ap_get ff_X9_30 dX9_fingerprint_12 (by omega) h0 rfl ?_
      have hk : k < 4 := by omega
      have hT2 := (hP.2 k hk).2.1
      have hTl := hT2.2.2.1
      refine ap_iload_n dX9_fingerprint_15 rfl rfl ?_
      refine ap_aald4 (j := k) (r := 7 + 15 * k) dX9_fingerprint_16 (by omega) h6 (by omega) (by omega) (h7 k hk) ?_
      refine ap_getN ff_X9_109 dX9_fingerprint_17 (by omega) (hP.2 k hk).1 rfl ?_
      refine ap_Astore (lv2 := [(0, .ref 0), (1, am_l y), (3, am_i z), (4, .ref (7 + 15 * k + 1))]) dX9_fingerprint_20 (by decide) rfl ?_
      refine ap_ldc2 dX9_fingerprint_22 kl_X9_225 ?_
      refine ap_lload_n dX9_fingerprint_25 rfl rfl ?_
      refine ap_lmul dX9_fingerprint_26 ?_
      refine ap_aload dX9_fingerprint_27 rfl ?_
      refine ap_cV (As := []) (rest := [am_l (31 * y)]) (ct_size (hP.2 k hk).2.1 (by omega)) dX9_fingerprint_29 lk_X9_69 hy_X6_size rfl (by omega) (hP.2 k hk).2.1.1 ⟨_, _, rfl⟩ (Nat.le_of_ble_eq_true rfl) ⟨Nat.le_of_ble_eq_true rfl, Nat.le_of_ble_eq_true rfl⟩ ⟨rfl, rfl⟩ ⟨Nat.le_of_ble_eq_true rfl, Nat.le_of_ble_eq_true rfl⟩ (fun xr1 xN2 μ3 xq4 => ?_)
      obtain ⟨rfl, rfl, rfl⟩ := xq4
      refine ap_i2l dX9_fingerprint_32 (by omega) ?_
      refine ap_ladd dX9_fingerprint_33 ?_
      refine ap_Lstore_n (lv2 := [(0, .ref 0), (1, am_l ((31 * y) + ((s_t C k).length : Int))), (3, am_i z), (4, .ref (7 + 15 * k + 1))]) dX9_fingerprint_34 rfl (by decide) rfl ?_
      refine ap_iconst dX9_fingerprint_35 ?_
      refine ap_Istore (lv2 := [(0, .ref 0), (1, am_l ((31 * y) + ((s_t C k).length : Int))), (3, am_i z), (4, .ref (7 + 15 * k + 1)), (5, am_i 0)]) dX9_fingerprint_36 (by decide) rfl ?_
      refine lp_fpIn hX hN hk (fun y2 hy2 => ?_) ((s_t C k).length + 1) 0 _ _ rfl (by omega) (by rw [hy]; rfl) (by omega)
      refine ap_Iinc (lv2 := [(0, .ref 0), (1, am_l y2), (3, am_i (z + 1))]) dX9_fingerprint_69 rfl (by decide) rfl ?_
      refine ap_goto (tgt := 6) dX9_fingerprint_72 (by decide) ?_
      exact ih (k + 1) _ _ (by omega) (by omega) hy2 (by omega)

set_option maxHeartbeats 4000000 in
set_option maxRecDepth 100000 in
theorem cq_fingerprint {N : Nat} {μ : am_M} {b : List Int} {C : Snap} {rem : Nat} {hs : Nat → Snap} (hX : Bx μ b C rem hs) (hN : 120 ≤ N) : am_Met YX9_fingerprint [.ref 0] N μ (am_pv (am_l (q_fp C)) N μ) := by
  obtain ⟨h0, hT, hR, hP, hH, hrem, hm, hsn⟩ := id hX
  obtain ⟨⟨fp, h6, h7⟩, -⟩ := id hP
  refine am_met (by first | decide | rfl) (Nat.le_of_ble_eq_true rfl) (fun h => by first | rfl | cases h) ?_
  show am_W YX9_fingerprint _ 0 0 0 [(0, .ref 0)] [] _ _
  refine ap_ldc2 dX9_fingerprint_0 kl_X9_223 ?_
  refine ap_Lstore_n (lv2 := [(0, .ref 0), (1, am_l 71)]) dX9_fingerprint_3 rfl (by decide) rfl ?_
  refine ap_iconst dX9_fingerprint_4 ?_
  refine ap_Istore_n (lv2 := [(0, .ref 0), (1, am_l 71), (3, am_i 0)]) dX9_fingerprint_5 rfl (by decide) rfl ?_
  exact lp_fpOut hX hN 5 0 _ _ rfl (by omega) rfl (by omega)

