theorem Wd_fn {μ : am_M} {p : Nat} {P : PS} {fo fs fa fb fn fm fl : Nat → Int} (h : Wd μ p P) (m1 : μ 126 = am_L 1200 fo) (m2 : μ 127 = am_L 1200 fs) (m3 : μ 128 = am_I 0 1200 fa) (m4 : μ 129 = am_I 0 1200 fb) (m5 : μ 130 = am_I 0 1200 fn) (m6 : μ 131 = am_I 0 4 fm) (m7 : μ 132 = am_L 4 fl) : wrl p P fo fs fa fb fn ∧ fm p = (p_cnt P : Int) ∧ fl p = p_tot P ∧ p_cnt P ≤ 300 := by
  obtain ⟨go, gs, ga, gb, gn, gm, gl, ⟨i1, i2, i3, i4, i5, i6, i7⟩, i8⟩ := h
  have r1 := m1.symm.trans i1
  have r2 := m2.symm.trans i2
  have r3 := m3.symm.trans i3
  have r4 := m4.symm.trans i4
  have r5 := m5.symm.trans i5
  have r6 := m6.symm.trans i6
  have r7 := m7.symm.trans i7
  injection r1 with r1; injection r1 with _ r1; injection r1 with _ r1; injection r1 with r1; injection r1 with r1
  injection r2 with r2; injection r2 with _ r2; injection r2 with _ r2; injection r2 with r2; injection r2 with r2
  injection r3 with r3; injection r3 with _ r3; injection r3 with _ r3; injection r3 with r3
  injection r4 with r4; injection r4 with _ r4; injection r4 with _ r4; injection r4 with r4
  injection r5 with r5; injection r5 with _ r5; injection r5 with _ r5; injection r5 with r5
  injection r6 with r6; injection r6 with _ r6; injection r6 with _ r6; injection r6 with r6
  injection r7 with r7; injection r7 with _ r7; injection r7 with _ r7; injection r7 with r7; injection r7 with r7
  subst r1 r2 r3 r4 r5 r6 r7
  exact i8
set_option maxHeartbeats 4000000 in
set_option maxRecDepth 100000 in
theorem cm_cycleOf {N : Nat} {μ : am_M} {b : List Int} {C : Snap} {rem : Nat} {hs : Nat → Snap} (hX : Mx μ b C rem hs) (hN : 141 ≤ N) {p pb : Nat} (hp : p < 4) (hpb : pb < 4) {P P2 : PS} (hPe : psc (s_t C p) = P) (hPe2 : psc (s_t C pb) = P2) : am_Met YX10_cycleOf [.ref 120, am_i (p : Int), am_i (pb : Int)] N μ (fun r N2 μ2 => r = some (am_l (cyc (p_tot P).toNat (p_tot P2).toNat)) ∧ N = N2 ∧ Mx μ2 b C rem hs ∧ Wd μ2 p P ∧ Wd μ2 pb P2 ∧ ∀ x, x < 120 → μ2 x = μ x) := by
  obtain ⟨⟨zm, zd, ze, zi, zu, zc, zg, hM⟩, ⟨g, hV, hv1⟩, ⟨h, hH, hh1⟩, ⟨tg, hT, ht1⟩, ⟨fi, hI⟩, hS, ⟨f8, h138⟩, ⟨f9, h139⟩, ⟨f0, h140⟩, hr5, hb1, hb2, hC, hhs⟩ := id hX
  have hpk := gtx_pok (hC.1 p hp)
  have hpk2 := gtx_pok (hC.1 pb hpb)
  rw [hPe] at hpk
  rw [hPe2] at hpk2
  have g3 := hpk.2.2.1
  have k3 := hpk2.2.2.1
  refine am_met (by first | decide | rfl) (Nat.le_of_ble_eq_true rfl) (fun h => by first | rfl | cases h) ?_
  show am_W YX10_cycleOf _ 0 0 0 [(0, .ref 120), (1, am_i (p : Int)), (2, am_i (pb : Int))] [] _ _
  refine ap_aload_n dX10_cycleOf_0 rfl rfl ?_
  refine ap_iload_n dX10_cycleOf_1 rfl rfl ?_
  refine ap_cV (As := [am_i (p : Int)]) (rest := []) (cm_worksX hX hN hp) dX10_cycleOf_2 lk_X10_174 hy_X10_works rfl (by omega) hM ⟨_, _, rfl⟩ (Nat.le_of_ble_eq_true rfl) ⟨Nat.le_of_ble_eq_true rfl, Nat.le_of_ble_eq_true rfl⟩ ⟨rfl, rfl⟩ ⟨Nat.le_of_ble_eq_true rfl, Nat.le_of_ble_eq_true rfl⟩ (fun xr1 xN2 μa xq3 => ?_)
  obtain ⟨rfl, rfl, hYa, hWa, -, -, hFa⟩ := xq3
  rw [hPe] at hWa
  obtain ⟨⟨xm, xd, xe_, xi, xu, xc, xg, hMa⟩, -⟩ := id hYa
  refine ap_aload_n dX10_cycleOf_5 rfl rfl ?_
  refine ap_iload_n dX10_cycleOf_6 rfl rfl ?_
  refine ap_cV (As := [am_i (pb : Int)]) (rest := []) (cm_worksX hYa hN hpb) dX10_cycleOf_7 lk_X10_174 hy_X10_works rfl (by omega) hMa ⟨_, _, rfl⟩ (Nat.le_of_ble_eq_true rfl) ⟨Nat.le_of_ble_eq_true rfl, Nat.le_of_ble_eq_true rfl⟩ ⟨rfl, rfl⟩ ⟨Nat.le_of_ble_eq_true rfl, Nat.le_of_ble_eq_true rfl⟩ (fun xr4 xN5 μw xq6 => ?_)
  obtain ⟨rfl, rfl, hY, hWb, -, hK, hFb⟩ := xq6
  rw [hPe2] at hWb
  have hF : ∀ x, x < 120 → μw x = μ x := fun x hx => (hFb x (by omega)).trans (hFa x (by omega))
  have hWp : Wd μw p P := by
    by_cases hq : p = pb
    · subst hq
      rw [← hPe, hPe2]; exact hWb
    · exact hK p P hp hq hWa
  obtain ⟨⟨ym, yd, ye, yi, yu, yc, yg, hM2⟩, ⟨g2_, hV2, hv2⟩, -⟩ := id hY
  obtain ⟨fo, fs, fa, fb, fn, fm, fl, ⟨m1, m2, m3, m4, m5, m6, m7⟩, m8, m9, m10, m11⟩ := id hWp
  obtain ⟨w8, w9, w10, w11⟩ := Wd_fn hWb m1 m2 m3 m4 m5 m6 m7
  have hA1 : p_tot P = ((p_tot P).toNat : Int) := by omega
  have hB1 : p_tot P2 = ((p_tot P2).toNat : Int) := by omega
  generalize (p_tot P).toNat = a0 at hA1 ⊢
  generalize (p_tot P2).toNat = b0 at hB1 ⊢
  refine ap_aload_n dX10_cycleOf_10 rfl rfl ?_
  refine ap_get ff_X10_44 dX10_cycleOf_11 (by omega) hM2 rfl ?_
  refine ap_iload_n dX10_cycleOf_14 rfl rfl ?_
  refine ap_lald (j := p) dX10_cycleOf_15 (by omega) m7 (by omega) (by omega) ?_
  refine ap_topl (b := (a0 : Int)) (show (fl p) = (a0 : Int) from m10.trans hA1) ?_
  refine ap_lconst (v := 0) dX10_cycleOf_16 rfl ?_
  refine ap_lcmp_eq (tgt := 32) dX10_cycleOf_17 dX10_cycleOf_18 (by decide) (⟨by omega, by omega⟩) (fun c17 => ?_) (fun c17 => ?_)
  · refine ap_ldc2 dX10_cycleOf_32 kl_X10_223 ?_
    exact ap_lret dX10_cycleOf_35 rfl (Nat.le_of_ble_eq_true rfl) (Nat.le_of_ble_eq_true rfl) (⟨by rw [cyc, if_pos (by omega)], rfl, hY, hWp, hWb, hF⟩)
  · refine ap_aload_n dX10_cycleOf_21 rfl rfl ?_
    refine ap_get ff_X10_44 dX10_cycleOf_22 (by omega) hM2 rfl ?_
    refine ap_iload_n dX10_cycleOf_25 rfl rfl ?_
    refine ap_lald (j := pb) dX10_cycleOf_26 (by omega) m7 (by omega) (by omega) ?_
    refine ap_topl (b := (b0 : Int)) (show (fl pb) = (b0 : Int) from w10.trans hB1) ?_
    refine ap_lconst (v := 0) dX10_cycleOf_27 rfl ?_
    refine ap_lcmp_ne (tgt := 36) dX10_cycleOf_28 dX10_cycleOf_29 (by decide) (⟨by omega, by omega⟩) (fun c28 => ?_) (fun c28 => ?_)
    · have hg0 : 0 < Nat.gcd a0 b0 := Nat.gcd_pos_of_pos_right a0 (by omega)
      have hg1 : Nat.gcd a0 b0 ≤ b0 := Nat.gcd_le_right a0 (by omega)
      have hq1 : a0 / Nat.gcd a0 b0 ≤ a0 := Nat.div_le_self _ _
      have hq2 : 812851200000 / b0 ≤ 812851200000 := Nat.div_le_self _ _
      refine ap_aload_n dX10_cycleOf_36 rfl rfl ?_
      refine ap_get ff_X10_44 dX10_cycleOf_37 (by omega) hM2 rfl ?_
      refine ap_iload_n dX10_cycleOf_40 rfl rfl ?_
      refine ap_lald (j := p) dX10_cycleOf_41 (by omega) m7 (by omega) (by omega) ?_
      refine ap_topl (b := (a0 : Int)) (show (fl p) = (a0 : Int) from m10.trans hA1) ?_
      refine ap_aload_n dX10_cycleOf_42 rfl rfl ?_
      refine ap_get ff_X10_44 dX10_cycleOf_43 (by omega) hM2 rfl ?_
      refine ap_iload_n dX10_cycleOf_46 rfl rfl ?_
      refine ap_lald (j := p) dX10_cycleOf_47 (by omega) m7 (by omega) (by omega) ?_
      refine ap_topl (b := (a0 : Int)) (show (fl p) = (a0 : Int) from m10.trans hA1) ?_
      refine ap_aload_n dX10_cycleOf_48 rfl rfl ?_
      refine ap_get ff_X10_44 dX10_cycleOf_49 (by omega) hM2 rfl ?_
      refine ap_iload_n dX10_cycleOf_52 rfl rfl ?_
      refine ap_lald (j := pb) dX10_cycleOf_53 (by omega) m7 (by omega) (by omega) ?_
      refine ap_topl (b := (b0 : Int)) (show (fl pb) = (b0 : Int) from w10.trans hB1) ?_
      refine ap_cS (As := [am_l (a0 : Int), am_l (b0 : Int)]) (rest := [am_l (a0 : Int)]) (cm_divisor (a := a0) (b := b0) rfl rfl (by omega) (by omega)) dX10_cycleOf_54 lk_X10_180 hy_X10_divisor rfl (Nat.le_of_ble_eq_true rfl) ⟨Nat.le_of_ble_eq_true rfl, Nat.le_of_ble_eq_true rfl⟩ ⟨rfl, rfl⟩ ⟨Nat.le_of_ble_eq_true rfl, Nat.le_of_ble_eq_true rfl⟩ (fun xr7 xN8 μ9 xq10 => ?_)
      obtain ⟨rfl, rfl, rfl⟩ := xq10
      refine ap_ldiv dX10_cycleOf_57 (⟨by omega, by omega⟩) ?_
      refine ap_topl (b := ((a0 / Nat.gcd a0 b0 : Nat) : Int)) (show ((a0 : Int) / ((Nat.gcd a0 b0 : Nat) : Int)) = ((a0 / Nat.gcd a0 b0 : Nat) : Int) from (Int.natCast_ediv _ _).symm) ?_
      generalize hqa : a0 / Nat.gcd a0 b0 = qa at hq1 ⊢
      refine ap_Lstore_n (lv2 := [(0, .ref 120), (1, am_i (p : Int)), (2, am_i (pb : Int)), (3, am_l ((qa : Nat) : Int))]) dX10_cycleOf_58 rfl (by decide) rfl ?_
      refine ap_lload_n dX10_cycleOf_59 rfl rfl ?_
      refine ap_ldc2 dX10_cycleOf_60 kl_X10_225 ?_
      refine ap_aload_n dX10_cycleOf_63 rfl rfl ?_
      refine ap_get ff_X10_44 dX10_cycleOf_64 (by omega) hM2 rfl ?_
      refine ap_iload_n dX10_cycleOf_67 rfl rfl ?_
      refine ap_lald (j := pb) dX10_cycleOf_68 (by omega) m7 (by omega) (by omega) ?_
      refine ap_topl (b := (b0 : Int)) (show (fl pb) = (b0 : Int) from w10.trans hB1) ?_
      refine ap_ldiv dX10_cycleOf_69 (⟨by omega, by omega⟩) ?_
      refine ap_topl (b := ((812851200000 / b0 : Nat) : Int)) (show (812851200000 / (b0 : Int)) = ((812851200000 / b0 : Nat) : Int) from (Int.natCast_ediv _ _).symm) ?_
      generalize hqb : 812851200000 / b0 = qb at hq2 ⊢
      refine ap_lcmp_le (tgt := 80) dX10_cycleOf_70 dX10_cycleOf_71 (by decide) (⟨by omega, by omega⟩) (fun c70 => ?_) (fun c70 => ?_)
      · refine ap_lload_n dX10_cycleOf_80 rfl rfl ?_
        refine ap_aload_n dX10_cycleOf_81 rfl rfl ?_
        refine ap_get ff_X10_44 dX10_cycleOf_82 (by omega) hM2 rfl ?_
        refine ap_iload_n dX10_cycleOf_85 rfl rfl ?_
        refine ap_lald (j := pb) dX10_cycleOf_86 (by omega) m7 (by omega) (by omega) ?_
        refine ap_topl (b := (b0 : Int)) (show (fl pb) = (b0 : Int) from w10.trans hB1) ?_
        refine ap_lmul dX10_cycleOf_87 ?_
        exact ap_lret dX10_cycleOf_88 rfl (Nat.le_of_ble_eq_true rfl) (Nat.le_of_ble_eq_true rfl) (⟨by rw [cyc, if_neg (by omega), hqa, hqb, if_neg (by omega), Int.natCast_mul], rfl, hY, hWp, hWb, hF⟩)
      · refine ap_ldc2 dX10_cycleOf_74 kl_X10_227 ?_
        refine ap_goto (tgt := 88) dX10_cycleOf_77 (by decide) ?_
        exact ap_lret dX10_cycleOf_88 rfl (Nat.le_of_ble_eq_true rfl) (Nat.le_of_ble_eq_true rfl) (⟨by rw [cyc, if_neg (by omega), hqa, hqb, if_pos (by omega)], rfl, hY, hWp, hWb, hF⟩)
    · refine ap_ldc2 dX10_cycleOf_32 kl_X10_223 ?_
      exact ap_lret dX10_cycleOf_35 rfl (Nat.le_of_ble_eq_true rfl) (Nat.le_of_ble_eq_true rfl) (⟨by rw [cyc, if_pos (by omega)], rfl, hY, hWp, hWb, hF⟩)

set_option maxHeartbeats 4000000 in
set_option maxRecDepth 100000 in
theorem cy_cycleN {N : Nat} {μ : am_M} {b : List Int} {C : Snap} {rem : Nat} {hs : Nat → Snap} (hX : Mx μ b C rem hs) (hN : 141 ≤ N) {k l w : Int} (hk : -2147483648 ≤ k ∧ k ≤ 2147483647) (hl : -2147483648 ≤ l ∧ l ≤ 2147483647) (hw : -2147483648 ≤ w ∧ w ≤ 2147483647) (hn : ¬ ((0 ≤ k ∧ k < 4) ∧ (0 ≤ l ∧ l < 4))) : am_Met YX10_cycle [.ref 120, am_i k, am_i l, am_i w] N μ (mq N μ (am_l (-1)) b C rem hs) := by
  obtain ⟨⟨zm, zd, ze, zi, zu, zc, zg, hM⟩, ⟨g, hV, hv1⟩, ⟨h, hH, hh1⟩, ⟨tg, hT, ht1⟩, ⟨fi, hI⟩, hS, ⟨f8, h138⟩, ⟨f9, h139⟩, ⟨f0, h140⟩, hr5, hb1, hb2, hC, hhs⟩ := id hX
  refine am_met (by first | decide | rfl) (Nat.le_of_ble_eq_true rfl) (fun h => by first | rfl | cases h) ?_
  show am_W YX10_cycle _ 0 0 0 [(0, .ref 120), (1, am_i k), (2, am_i l), (3, am_i w)] [] _ _
  refine ap_iload_n dX10_cycle_0 rfl rfl ?_
  refine ap_cS (As := [am_i k]) (rest := []) (cm_isPart (by omega)) dX10_cycle_1 lk_X10_163 hy_X10_isPart rfl (Nat.le_of_ble_eq_true rfl) ⟨Nat.le_of_ble_eq_true rfl, Nat.le_of_ble_eq_true rfl⟩ ⟨rfl, rfl⟩ ⟨Nat.le_of_ble_eq_true rfl, Nat.le_of_ble_eq_true rfl⟩ (fun xr1 xN2 μ3 xq4 => ?_)
  obtain ⟨rfl, rfl, rfl⟩ := xq4
  refine ap_if_eq (tgt := 23) dX10_cycle_4 (by decide) (itr) (fun c4 => ?_) (fun c4 => ?_)
  · refine ap_ldc2 dX10_cycle_23 kl_X10_184 ?_
    exact ap_lret dX10_cycle_26 rfl (Nat.le_of_ble_eq_true rfl) (Nat.le_of_ble_eq_true rfl) (⟨rfl, rfl, hX, fun x hx => rfl⟩)
  · have k4 := it1 c4
    refine ap_iload_n dX10_cycle_7 rfl rfl ?_
    refine ap_cS (As := [am_i l]) (rest := []) (cm_isPart (by omega)) dX10_cycle_8 lk_X10_163 hy_X10_isPart rfl (Nat.le_of_ble_eq_true rfl) ⟨Nat.le_of_ble_eq_true rfl, Nat.le_of_ble_eq_true rfl⟩ ⟨rfl, rfl⟩ ⟨Nat.le_of_ble_eq_true rfl, Nat.le_of_ble_eq_true rfl⟩ (fun xr5 xN6 μ7 xq8 => ?_)
    obtain ⟨rfl, rfl, rfl⟩ := xq8
    refine ap_topi (b := 0) (show (if 0 ≤ l ∧ l ≤ 3 then 1 else 0) = 0 from if_neg (by omega)) ?_
    refine ap_if_eq (tgt := 23) dX10_cycle_11 (by decide) (by omega) (fun c11 => ?_) (fun c11 => (by exfalso; omega))
    refine ap_ldc2 dX10_cycle_23 kl_X10_184 ?_
    exact ap_lret dX10_cycle_26 rfl (Nat.le_of_ble_eq_true rfl) (Nat.le_of_ble_eq_true rfl) (⟨rfl, rfl, hX, fun x hx => rfl⟩)

set_option maxHeartbeats 4000000 in
set_option maxRecDepth 100000 in
theorem cy_meetsN {N : Nat} {μ : am_M} {b : List Int} {C : Snap} {rem : Nat} {hs : Nat → Snap} (hX : Mx μ b C rem hs) (hN : 141 ≤ N) {k l : Int} (hk : -2147483648 ≤ k ∧ k ≤ 2147483647) (hl : -2147483648 ≤ l ∧ l ≤ 2147483647) (hn : ¬ ((0 ≤ k ∧ k < 4) ∧ (0 ≤ l ∧ l < 4))) : am_Met YX10_meets [.ref 120, am_i k, am_i l] N μ (mq N μ (am_i (-1)) b C rem hs) := by
  obtain ⟨⟨zm, zd, ze, zi, zu, zc, zg, hM⟩, ⟨g, hV, hv1⟩, ⟨h, hH, hh1⟩, ⟨tg, hT, ht1⟩, ⟨fi, hI⟩, hS, ⟨f8, h138⟩, ⟨f9, h139⟩, ⟨f0, h140⟩, hr5, hb1, hb2, hC, hhs⟩ := id hX
  refine am_met (by first | decide | rfl) (Nat.le_of_ble_eq_true rfl) (fun h => by first | rfl | cases h) ?_
  show am_W YX10_meets _ 0 0 0 [(0, .ref 120), (1, am_i k), (2, am_i l)] [] _ _
  refine ap_iload_n dX10_meets_0 rfl rfl ?_
  refine ap_cS (As := [am_i k]) (rest := []) (cm_isPart (by omega)) dX10_meets_1 lk_X10_163 hy_X10_isPart rfl (Nat.le_of_ble_eq_true rfl) ⟨Nat.le_of_ble_eq_true rfl, Nat.le_of_ble_eq_true rfl⟩ ⟨rfl, rfl⟩ ⟨Nat.le_of_ble_eq_true rfl, Nat.le_of_ble_eq_true rfl⟩ (fun xr1 xN2 μ3 xq4 => ?_)
  obtain ⟨rfl, rfl, rfl⟩ := xq4
  refine ap_if_eq (tgt := 14) dX10_meets_4 (by decide) (itr) (fun c4 => ?_) (fun c4 => ?_)
  · refine ap_iconst dX10_meets_14 ?_
    exact ap_iret dX10_meets_15 rfl rfl (Nat.le_of_ble_eq_true rfl) (Nat.le_of_ble_eq_true rfl) (⟨rfl, rfl, hX, fun x hx => rfl⟩)
  · have k4 := it1 c4
    refine ap_iload_n dX10_meets_7 rfl rfl ?_
    refine ap_cS (As := [am_i l]) (rest := []) (cm_isPart (by omega)) dX10_meets_8 lk_X10_163 hy_X10_isPart rfl (Nat.le_of_ble_eq_true rfl) ⟨Nat.le_of_ble_eq_true rfl, Nat.le_of_ble_eq_true rfl⟩ ⟨rfl, rfl⟩ ⟨Nat.le_of_ble_eq_true rfl, Nat.le_of_ble_eq_true rfl⟩ (fun xr5 xN6 μ7 xq8 => ?_)
    obtain ⟨rfl, rfl, rfl⟩ := xq8
    refine ap_topi (b := 0) (show (if 0 ≤ l ∧ l ≤ 3 then 1 else 0) = 0 from if_neg (by omega)) ?_
    refine ap_if_ne (tgt := 16) dX10_meets_11 (by decide) (by omega) (fun c11 => (by exfalso; omega)) (fun c11 => ?_)
    refine ap_iconst dX10_meets_14 ?_
    exact ap_iret dX10_meets_15 rfl rfl (Nat.le_of_ble_eq_true rfl) (Nat.le_of_ble_eq_true rfl) (⟨rfl, rfl, hX, fun x hx => rfl⟩)

theorem cyc_rr {a b : Nat} : (cyc a b = -2 ∨ cyc a b = -3) ∨ (0 < cyc a b ∧ cyc a b ≤ 812851200000) := by
  unfold cyc
  by_cases h1 : a < 1 ∨ b < 1
  · rw [if_pos h1]; omega
  · rw [if_neg h1]
    by_cases h2 : 812851200000 / b < a / Nat.gcd a b
    · rw [if_pos h2]; omega
    · rw [if_neg h2]
      right
      have hg : 0 < Nat.gcd a b := Nat.gcd_pos_of_pos_left _ (by omega)
      have h3 : 0 < a / Nat.gcd a b := Nat.div_pos (Nat.gcd_le_left _ (by omega)) hg
      have h4 : a / Nat.gcd a b * b ≤ 812851200000 / b * b := Nat.mul_le_mul_right b (by omega)
      have h5 : 812851200000 / b * b ≤ 812851200000 := Nat.div_mul_le_self _ _
      have h6 : 0 < a / Nat.gcd a b * b := Nat.mul_pos h3 (by omega)
      omega
set_option maxHeartbeats 4000000 in
set_option maxRecDepth 100000 in
theorem cy_cycle {N : Nat} {μ : am_M} {b : List Int} {C : Snap} {rem : Nat} {hs : Nat → Snap} (hX : Mx μ b C rem hs) (hN : 141 ≤ N) {p pb : Nat} (hp : p < 4) (hpb : pb < 4) {P P2 : PS} (hPe : psc (s_t C p) = P) (hPe2 : psc (s_t C pb) = P2) {w : Int} (hw : -2147483648 ≤ w ∧ w ≤ 2147483647) : am_Met YX10_cycle [.ref 120, am_i (p : Int), am_i (pb : Int), am_i w] N μ (mq N μ (am_l (q_cyc P P2 w)) b C rem hs) := by
  obtain ⟨⟨zm, zd, ze, zi, zu, zc, zg, hM⟩, ⟨g, hV, hv1⟩, ⟨h, hH, hh1⟩, ⟨tg, hT, ht1⟩, ⟨fi, hI⟩, hS, ⟨f8, h138⟩, ⟨f9, h139⟩, ⟨f0, h140⟩, hr5, hb1, hb2, hC, hhs⟩ := id hX
  have hpk := gtx_pok (hC.1 p hp)
  have hpk2 := gtx_pok (hC.1 pb hpb)
  rw [hPe] at hpk
  rw [hPe2] at hpk2
  have g3 := hpk.2.2.1
  have k3 := hpk2.2.2.1
  refine am_met (by first | decide | rfl) (Nat.le_of_ble_eq_true rfl) (fun h => by first | rfl | cases h) ?_
  show am_W YX10_cycle _ 0 0 0 [(0, .ref 120), (1, am_i (p : Int)), (2, am_i (pb : Int)), (3, am_i w)] [] _ _
  refine ap_iload_n dX10_cycle_0 rfl rfl ?_
  refine ap_cS (As := [am_i (p : Int)]) (rest := []) (cm_isPart (by omega)) dX10_cycle_1 lk_X10_163 hy_X10_isPart rfl (Nat.le_of_ble_eq_true rfl) ⟨Nat.le_of_ble_eq_true rfl, Nat.le_of_ble_eq_true rfl⟩ ⟨rfl, rfl⟩ ⟨Nat.le_of_ble_eq_true rfl, Nat.le_of_ble_eq_true rfl⟩ (fun xr1 xN2 μ3 xq4 => ?_)
  obtain ⟨rfl, rfl, rfl⟩ := xq4
  refine ap_topi (b := 1) (show (if 0 ≤ (p : Int) ∧ (p : Int) ≤ 3 then 1 else 0) = 1 from if_pos (by omega)) ?_
  refine ap_if_eq (tgt := 23) dX10_cycle_4 (by decide) (by omega) (fun c4 => (by exfalso; omega)) (fun c4 => ?_)
  refine ap_iload_n dX10_cycle_7 rfl rfl ?_
  refine ap_cS (As := [am_i (pb : Int)]) (rest := []) (cm_isPart (by omega)) dX10_cycle_8 lk_X10_163 hy_X10_isPart rfl (Nat.le_of_ble_eq_true rfl) ⟨Nat.le_of_ble_eq_true rfl, Nat.le_of_ble_eq_true rfl⟩ ⟨rfl, rfl⟩ ⟨Nat.le_of_ble_eq_true rfl, Nat.le_of_ble_eq_true rfl⟩ (fun xr5 xN6 μ7 xq8 => ?_)
  obtain ⟨rfl, rfl, rfl⟩ := xq8
  refine ap_topi (b := 1) (show (if 0 ≤ (pb : Int) ∧ (pb : Int) ≤ 3 then 1 else 0) = 1 from if_pos (by omega)) ?_
  refine ap_if_eq (tgt := 23) dX10_cycle_11 (by decide) (by omega) (fun c11 => (by exfalso; omega)) (fun c11 => ?_)
  refine ap_iload_n dX10_cycle_14 rfl rfl ?_
  refine ap_iconst dX10_cycle_15 ?_
  refine ap_iconst dX10_cycle_16 ?_
  refine ap_cS (As := [am_i w, am_i 0, am_i 1]) (rest := []) (cm_in hw (by omega) (by omega)) dX10_cycle_17 lk_X10_76 hy_X10_in rfl (Nat.le_of_ble_eq_true rfl) ⟨Nat.le_of_ble_eq_true rfl, Nat.le_of_ble_eq_true rfl⟩ ⟨rfl, rfl⟩ ⟨Nat.le_of_ble_eq_true rfl, Nat.le_of_ble_eq_true rfl⟩ (fun xr9 xN10 μ11 xq12 => ?_)
  obtain ⟨rfl, rfl, rfl⟩ := xq12
  refine ap_if_ne (tgt := 27) dX10_cycle_20 (by decide) (itr) (fun c20 => ?_) (fun c20 => ?_)
  · have kw := it1 c20
    refine ap_aload_n dX10_cycle_27 rfl rfl ?_
    refine ap_iload_n dX10_cycle_28 rfl rfl ?_
    refine ap_iload_n dX10_cycle_29 rfl rfl ?_
    refine ap_cV (As := [am_i (p : Int), am_i (pb : Int)]) (rest := []) (cm_cycleOf hX hN hp hpb hPe hPe2) dX10_cycle_30 lk_X10_229 hy_X10_cycleOf rfl (by omega) hM ⟨_, _, rfl⟩ (Nat.le_of_ble_eq_true rfl) ⟨Nat.le_of_ble_eq_true rfl, Nat.le_of_ble_eq_true rfl⟩ ⟨rfl, rfl⟩ ⟨Nat.le_of_ble_eq_true rfl, Nat.le_of_ble_eq_true rfl⟩ (fun xr13 xN14 μw xq15 => ?_)
    obtain ⟨rfl, rfl, hY, hWp, hWb, hF⟩ := xq15
    obtain ⟨⟨ym, yd, ye, yi, yu, yc, yg, hM2⟩, ⟨g2_, hV2, hv2⟩, -⟩ := id hY
    obtain ⟨fo, fs, fa, fb, fn, fm, fl, ⟨m1, m2, m3, m4, m5, m6, m7⟩, m8, m9, m10, m11⟩ := id hWp
    obtain ⟨w8, w9, w10, w11⟩ := Wd_fn hWb m1 m2 m3 m4 m5 m6 m7
    have hcr := cyc_rr (a := (p_tot P).toNat) (b := (p_tot P2).toNat)
    rw [q_cyc, if_pos (by omega)]
    generalize cyc (p_tot P).toNat (p_tot P2).toNat = cy at hcr ⊢
    refine ap_Lstore (lv2 := [(0, .ref 120), (1, am_i (p : Int)), (2, am_i (pb : Int)), (3, am_i w), (4, am_l cy)]) dX10_cycle_33 (by decide) rfl ?_
    refine ap_lload dX10_cycle_35 rfl ?_
    refine ap_lconst (v := 0) dX10_cycle_37 rfl ?_
    refine ap_lcmp_ge (tgt := 47) dX10_cycle_38 dX10_cycle_39 (by decide) (⟨by omega, by omega⟩) (fun c38 => ?_) (fun c38 => ?_)
    · refine ap_lload dX10_cycle_47 rfl ?_
      refine ap_topl (b := ((cy.toNat : Nat) : Int)) (show cy = ((cy.toNat : Nat) : Int) from by omega) ?_
      refine ap_ldc2 dX10_cycle_49 kl_X10_138 ?_
      refine ap_iload_n dX10_cycle_52 rfl rfl ?_
      refine ap_cS (As := [am_l ((cy.toNat : Nat) : Int), am_l 812851200, am_i w]) (rest := []) (cm_told (x := cy.toNat) (d := 812851200) rfl rfl (by omega) (by omega) hw) dX10_cycle_53 lk_X10_186 hy_X10_told rfl (Nat.le_of_ble_eq_true rfl) ⟨Nat.le_of_ble_eq_true rfl, Nat.le_of_ble_eq_true rfl⟩ ⟨rfl, rfl⟩ ⟨Nat.le_of_ble_eq_true rfl, Nat.le_of_ble_eq_true rfl⟩ (fun xr16 xN17 μ18 xq19 => ?_)
      obtain ⟨rfl, rfl, rfl⟩ := xq19
      exact ap_lret dX10_cycle_56 rfl (Nat.le_of_ble_eq_true rfl) (Nat.le_of_ble_eq_true rfl) (⟨by rw [if_neg (by omega)], rfl, hY, hF⟩)
    · refine ap_lload dX10_cycle_42 rfl ?_
      refine ap_goto (tgt := 56) dX10_cycle_44 (by decide) ?_
      exact ap_lret dX10_cycle_56 rfl (Nat.le_of_ble_eq_true rfl) (Nat.le_of_ble_eq_true rfl) (⟨by rw [if_pos (by omega)], rfl, hY, hF⟩)
  · refine ap_ldc2 dX10_cycle_23 kl_X10_184 ?_
    exact ap_lret dX10_cycle_26 rfl (Nat.le_of_ble_eq_true rfl) (Nat.le_of_ble_eq_true rfl) (⟨by rw [q_cyc, if_neg (by have := it2 c20; omega)], rfl, hX, fun x hx => rfl⟩)

theorem Bn_c {P : PS} {i : Nat} (h : 0 ≤ p_B P i) : p_B P i = ((Bn P i : Nat) : Int) := by unfold Bn; omega
set_option maxHeartbeats 16000000 in
set_option maxRecDepth 100000 in
theorem lm_meets {N : Nat} {μ : am_M} {p pb : Nat} {P P2 : PS} {zp zt zm zd ze zi zu zc zg : Int} {fo fm fl : Nat → Int} {Q : Option Value → Nat → am_M → Prop} {pp qq L : Nat} (hM : μ 120 = mcl zp zt zm zd ze zi zu zc zg) (m1 : μ 126 = am_L 1200 fo) (m6 : μ 131 = am_I 0 4 fm) (m7 : μ 132 = am_L 4 fl) (hN : 141 ≤ N) (hp : p < 4) (hpb : pb < 4) (f1 : ∀ i, i < p_cnt P → fo (300 * p + i) = p_B P i) (f2 : ∀ i, i < p_cnt P2 → fo (300 * pb + i) = p_B P2 i) (c1 : fm p = (p_cnt P : Int) ∧ p_cnt P ≤ 300) (c2 : fm pb = (p_cnt P2 : Int) ∧ p_cnt P2 ≤ 300) (l1 : fl p = (pp : Int)) (l2 : fl pb = (qq : Int)) (hP : pmn P pp) (hQ : pmn P2 qq) (hpL : pp ∣ L) (hqL : qq ∣ L) (hL : 0 < L ∧ L ≤ 812851200000) (hpr : pp ≤ 140000000000000 ∧ qq ≤ 140000000000000) (hk9 : ∀ {r : Int}, r = sumN (hit P P2 pp qq) L → Q (some (am_i r)) N μ) : ∀ (nn : Nat) (i : Nat) (a : Nat) (j : Nat) (bb : Nat) (n : Int) (zn : Int) (zi9 : Int) (zj9 : Int) (za9 : Int) (zb9 : Int), mgi P P2 pp qq L i a j bb n → zn = n → zi9 = (i : Int) → za9 = (a : Int) → zj9 = (j : Int) → zb9 = (bb : Int) → (2 * L + pp + qq + 2) - (a + Bn P i + (bb + Bn P2 j)) < nn → am_W YX10_meets (Q) 0 0 47 [(0, .ref 120), (1, am_i (p : Int)), (2, am_i (pb : Int)), (3, am_l (L : Int)), (5, am_i zn), (6, am_i zi9), (7, am_i zj9), (8, am_l za9), (10, am_l zb9)] [] N μ := by
  intro nn
  induction nn with
  | zero =>
    intro i a j bb n zn zi9 zj9 za9 zb9 hI hzn hzi hza hzj hzb hm
    exfalso; omega
  | succ nn ih =>
    intro i a j bb n zn zi9 zj9 za9 zb9 hI hzn hzi hza hzj hzb hm
    obtain ⟨⟨hi, ha, haL, ha0⟩, ⟨hj, hb, hbL, hb0⟩, -⟩ := id hI
    have hBi := hP.1 i hi
    have hBj := hQ.1 j hj
    have hBi0 := hP.2.2 i hi
    have hBj0 := hQ.2.2 j hj
    obtain ⟨u1, u2, u3, u4⟩ := nx_ok hP hi ha
    obtain ⟨v1, v2, v3, v4⟩ := nx_ok hQ hj hb
    refine ap_aload_n dX10_meets_47 rfl rfl ?_
    refine ap_get ff_X10_41 dX10_meets_48 (by omega) hM rfl ?_
    refine ap_iload_n dX10_meets_51 rfl rfl ?_
    refine ap_iald (j := p) dX10_meets_52 (by omega) m6 (by omega) (by omega) ?_
    refine ap_topi (b := (p_cnt P : Int)) (show (fm p) = (p_cnt P : Int) from c1.1) ?_
    refine ap_if_le (tgt := 248) dX10_meets_53 (by decide) (by omega) (fun c53 => (by exfalso; omega)) (fun c53 => ?_)
    refine ap_aload_n dX10_meets_56 rfl rfl ?_
    refine ap_get ff_X10_41 dX10_meets_57 (by omega) hM rfl ?_
    refine ap_iload_n dX10_meets_60 rfl rfl ?_
    refine ap_iald (j := pb) dX10_meets_61 (by omega) m6 (by omega) (by omega) ?_
    refine ap_topi (b := (p_cnt P2 : Int)) (show (fm pb) = (p_cnt P2 : Int) from c2.1) ?_
    refine ap_if_le (tgt := 248) dX10_meets_62 (by decide) (by omega) (fun c62 => (by exfalso; omega)) (fun c62 => ?_)
    refine ap_lload dX10_meets_65 rfl ?_
    refine ap_lload_n dX10_meets_67 rfl rfl ?_
    refine ap_lcmp_ge (tgt := 248) dX10_meets_68 dX10_meets_69 (by decide) (⟨by omega, by omega⟩) (fun c68 => ?_) (fun c68 => ?_)
    · refine ap_iload dX10_meets_248 rfl ?_
      exact ap_iret dX10_meets_250 rfl rfl (Nat.le_of_ble_eq_true rfl) (Nat.le_of_ble_eq_true rfl) (hk9 (by rw [hzn]; exact mgi_end hP hQ hI (by omega)))
    · refine ap_lload dX10_meets_72 rfl ?_
      refine ap_lload_n dX10_meets_74 rfl rfl ?_
      refine ap_lcmp_ge (tgt := 248) dX10_meets_75 dX10_meets_76 (by decide) (⟨by omega, by omega⟩) (fun c75 => ?_) (fun c75 => ?_)
      · refine ap_iload dX10_meets_248 rfl ?_
        exact ap_iret dX10_meets_250 rfl rfl (Nat.le_of_ble_eq_true rfl) (Nat.le_of_ble_eq_true rfl) (hk9 (by rw [hzn]; exact mgi_end hP hQ hI (by omega)))
      · refine ap_lload dX10_meets_79 rfl ?_
        refine ap_aload_n dX10_meets_81 rfl rfl ?_
        refine ap_get ff_X10_25 dX10_meets_82 (by omega) hM rfl ?_
        refine ap_sipush dX10_meets_85 (by decide) ?_
        refine ap_iload_n dX10_meets_88 rfl rfl ?_
        refine ap_imul dX10_meets_89 ?_
        refine ap_iload dX10_meets_90 rfl ?_
        refine ap_iadd dX10_meets_92 ?_
        refine ap_lald (j := 300 * p + i) dX10_meets_93 (by omega) m1 (by omega) (by omega) ?_
        refine ap_topl (b := ((Bn P i : Nat) : Int)) (show (fo (300 * p + i)) = ((Bn P i : Nat) : Int) from (f1 i hi).trans (Bn_c hBi0)) ?_
        refine ap_ladd dX10_meets_94 ?_
        refine ap_topl (b := ((a + Bn P i : Nat) : Int)) (show (za9 + ((Bn P i : Nat) : Int)) = ((a + Bn P i : Nat) : Int) from by omega) ?_
        refine ap_Lstore (lv2 := [(0, .ref 120), (1, am_i (p : Int)), (2, am_i (pb : Int)), (3, am_l (L : Int)), (5, am_i zn), (6, am_i zi9), (7, am_i zj9), (8, am_l za9), (10, am_l zb9), (12, am_l ((a + Bn P i : Nat) : Int))]) dX10_meets_95 (by decide) rfl ?_
        refine ap_lload dX10_meets_97 rfl ?_
        refine ap_aload_n dX10_meets_99 rfl rfl ?_
        refine ap_get ff_X10_25 dX10_meets_100 (by omega) hM rfl ?_
        refine ap_sipush dX10_meets_103 (by decide) ?_
        refine ap_iload_n dX10_meets_106 rfl rfl ?_
        refine ap_imul dX10_meets_107 ?_
        refine ap_iload dX10_meets_108 rfl ?_
        refine ap_iadd dX10_meets_110 ?_
        refine ap_lald (j := 300 * pb + j) dX10_meets_111 (by omega) m1 (by omega) (by omega) ?_
        refine ap_topl (b := ((Bn P2 j : Nat) : Int)) (show (fo (300 * pb + j)) = ((Bn P2 j : Nat) : Int) from (f2 j hj).trans (Bn_c hBj0)) ?_
        refine ap_ladd dX10_meets_112 ?_
        refine ap_topl (b := ((bb + Bn P2 j : Nat) : Int)) (show (zb9 + ((Bn P2 j : Nat) : Int)) = ((bb + Bn P2 j : Nat) : Int) from by omega) ?_
        refine ap_Lstore (lv2 := [(0, .ref 120), (1, am_i (p : Int)), (2, am_i (pb : Int)), (3, am_l (L : Int)), (5, am_i zn), (6, am_i zi9), (7, am_i zj9), (8, am_l za9), (10, am_l zb9), (12, am_l ((a + Bn P i : Nat) : Int)), (14, am_l ((bb + Bn P2 j : Nat) : Int))]) dX10_meets_113 (by decide) rfl ?_
        refine ap_iload dX10_meets_115 rfl ?_
        refine ap_lload dX10_meets_117 rfl ?_
        refine ap_lload dX10_meets_119 rfl ?_
        refine ap_lcmp_ne (tgt := 129) dX10_meets_121 dX10_meets_122 (by decide) (⟨by omega, by omega⟩) (fun c121 => ?_) (fun c121 => ?_)
        · refine ap_iconst dX10_meets_129 ?_
          refine ap_iadd dX10_meets_130 ?_
          refine ap_Istore (lv2 := [(0, .ref 120), (1, am_i (p : Int)), (2, am_i (pb : Int)), (3, am_l (L : Int)), (5, am_i (zn + 0)), (6, am_i zi9), (7, am_i zj9), (8, am_l za9), (10, am_l zb9), (12, am_l ((a + Bn P i : Nat) : Int)), (14, am_l ((bb + Bn P2 j : Nat) : Int))]) dX10_meets_131 (by decide) rfl ?_
          refine ap_lload dX10_meets_133 rfl ?_
          refine ap_lload dX10_meets_135 rfl ?_
          refine ap_lcmp_gt (tgt := 189) dX10_meets_137 dX10_meets_138 (by decide) (⟨by omega, by omega⟩) (fun c137 => ?_) (fun c137 => ?_)
          · refine ap_lload dX10_meets_189 rfl ?_
            refine ap_lload dX10_meets_191 rfl ?_
            refine ap_lcmp_gt (tgt := 245) dX10_meets_193 dX10_meets_194 (by decide) (⟨by omega, by omega⟩) (fun c193 => (by exfalso; omega)) (fun c193 => ?_)
            refine ap_Iinc (lv2 := [(0, .ref 120), (1, am_i (p : Int)), (2, am_i (pb : Int)), (3, am_l (L : Int)), (5, am_i (zn + 0)), (6, am_i zi9), (7, am_i (zj9 + 1)), (8, am_l za9), (10, am_l zb9), (12, am_l ((a + Bn P i : Nat) : Int)), (14, am_l ((bb + Bn P2 j : Nat) : Int))]) dX10_meets_197 rfl (by decide) rfl ?_
            refine ap_lload dX10_meets_200 rfl ?_
            refine ap_iload dX10_meets_202 rfl ?_
            refine ap_aload_n dX10_meets_204 rfl rfl ?_
            refine ap_get ff_X10_41 dX10_meets_205 (by omega) hM rfl ?_
            refine ap_iload_n dX10_meets_208 rfl rfl ?_
            refine ap_iald (j := pb) dX10_meets_209 (by omega) m6 (by omega) (by omega) ?_
            refine ap_topi (b := (p_cnt P2 : Int)) (show (fm pb) = (p_cnt P2 : Int) from c2.1) ?_
            refine ap_icmp_ne (tgt := 222) dX10_meets_210 (by decide) (by omega) (fun c210 => ?_) (fun c210 => ?_)
            · refine ap_lconst (v := 0) dX10_meets_222 rfl ?_
              refine ap_ladd dX10_meets_223 ?_
              refine ap_Lstore (lv2 := [(0, .ref 120), (1, am_i (p : Int)), (2, am_i (pb : Int)), (3, am_l (L : Int)), (5, am_i (zn + 0)), (6, am_i zi9), (7, am_i (zj9 + 1)), (8, am_l za9), (10, am_l (zb9 + 0)), (12, am_l ((a + Bn P i : Nat) : Int)), (14, am_l ((bb + Bn P2 j : Nat) : Int))]) dX10_meets_224 (by decide) rfl ?_
              refine ap_iload dX10_meets_226 rfl ?_
              refine ap_aload_n dX10_meets_228 rfl rfl ?_
              refine ap_get ff_X10_41 dX10_meets_229 (by omega) hM rfl ?_
              refine ap_iload_n dX10_meets_232 rfl rfl ?_
              refine ap_iald (j := pb) dX10_meets_233 (by omega) m6 (by omega) (by omega) ?_
              refine ap_topi (b := (p_cnt P2 : Int)) (show (fm pb) = (p_cnt P2 : Int) from c2.1) ?_
              refine ap_icmp_ne (tgt := 241) dX10_meets_234 (by decide) (by omega) (fun c234 => ?_) (fun c234 => (by exfalso; omega))
              refine ap_iload dX10_meets_241 rfl ?_
              refine ap_Istore (lv2 := [(0, .ref 120), (1, am_i (p : Int)), (2, am_i (pb : Int)), (3, am_l (L : Int)), (5, am_i (zn + 0)), (6, am_i zi9), (7, am_i (zj9 + 1)), (8, am_l za9), (10, am_l (zb9 + 0)), (12, am_l ((a + Bn P i : Nat) : Int)), (14, am_l ((bb + Bn P2 j : Nat) : Int))]) dX10_meets_243 (by decide) rfl ?_
              refine ap_goto (tgt := 47) dX10_meets_245 (by decide) ?_
              refine ap_pick (lv2 := [(0, .ref 120), (1, am_i (p : Int)), (2, am_i (pb : Int)), (3, am_l (L : Int)), (5, am_i (zn + 0)), (6, am_i zi9), (7, am_i (zj9 + 1)), (8, am_l za9), (10, am_l (zb9 + 0))]) [0, 1, 2, 3, 4, 5, 6, 7, 8] rfl ?_
              exact ih i a (ni (p_cnt P2) j) (na (p_cnt P2) j bb qq) n _ _ _ _ _ (mgi_gt hQ hI hqL (by omega) (by omega)) (by rw [hzn]; omega) (by omega) (by omega) (by unfold ni; rw [if_neg (by omega)]; omega) (by unfold na; rw [if_neg (by omega)]; omega) (by omega)
            · refine ap_aload_n dX10_meets_213 rfl rfl ?_
              refine ap_get ff_X10_44 dX10_meets_214 (by omega) hM rfl ?_
              refine ap_iload_n dX10_meets_217 rfl rfl ?_
              refine ap_lald (j := pb) dX10_meets_218 (by omega) m7 (by omega) (by omega) ?_
              refine ap_topl (b := (qq : Int)) (show (fl pb) = (qq : Int) from l2) ?_
              refine ap_goto (tgt := 223) dX10_meets_219 (by decide) ?_
              refine ap_ladd dX10_meets_223 ?_
              refine ap_Lstore (lv2 := [(0, .ref 120), (1, am_i (p : Int)), (2, am_i (pb : Int)), (3, am_l (L : Int)), (5, am_i (zn + 0)), (6, am_i zi9), (7, am_i (zj9 + 1)), (8, am_l za9), (10, am_l (zb9 + (qq : Int))), (12, am_l ((a + Bn P i : Nat) : Int)), (14, am_l ((bb + Bn P2 j : Nat) : Int))]) dX10_meets_224 (by decide) rfl ?_
              refine ap_iload dX10_meets_226 rfl ?_
              refine ap_aload_n dX10_meets_228 rfl rfl ?_
              refine ap_get ff_X10_41 dX10_meets_229 (by omega) hM rfl ?_
              refine ap_iload_n dX10_meets_232 rfl rfl ?_
              refine ap_iald (j := pb) dX10_meets_233 (by omega) m6 (by omega) (by omega) ?_
              refine ap_topi (b := (p_cnt P2 : Int)) (show (fm pb) = (p_cnt P2 : Int) from c2.1) ?_
              refine ap_icmp_ne (tgt := 241) dX10_meets_234 (by decide) (by omega) (fun c234 => (by exfalso; omega)) (fun c234 => ?_)
              refine ap_iconst dX10_meets_237 ?_
              refine ap_goto (tgt := 243) dX10_meets_238 (by decide) ?_
              refine ap_Istore (lv2 := [(0, .ref 120), (1, am_i (p : Int)), (2, am_i (pb : Int)), (3, am_l (L : Int)), (5, am_i (zn + 0)), (6, am_i zi9), (7, am_i 0), (8, am_l za9), (10, am_l (zb9 + (qq : Int))), (12, am_l ((a + Bn P i : Nat) : Int)), (14, am_l ((bb + Bn P2 j : Nat) : Int))]) dX10_meets_243 (by decide) rfl ?_
              refine ap_goto (tgt := 47) dX10_meets_245 (by decide) ?_
              refine ap_pick (lv2 := [(0, .ref 120), (1, am_i (p : Int)), (2, am_i (pb : Int)), (3, am_l (L : Int)), (5, am_i (zn + 0)), (6, am_i zi9), (7, am_i 0), (8, am_l za9), (10, am_l (zb9 + (qq : Int)))]) [0, 1, 2, 3, 4, 5, 6, 7, 8] rfl ?_
              exact ih i a (ni (p_cnt P2) j) (na (p_cnt P2) j bb qq) n _ _ _ _ _ (mgi_gt hQ hI hqL (by omega) (by omega)) (by rw [hzn]; omega) (by omega) (by omega) (by unfold ni; rw [if_pos (by omega)]; omega) (by unfold na; rw [if_pos (by omega)]; omega) (by omega)
          · refine ap_Iinc (lv2 := [(0, .ref 120), (1, am_i (p : Int)), (2, am_i (pb : Int)), (3, am_l (L : Int)), (5, am_i (zn + 0)), (6, am_i (zi9 + 1)), (7, am_i zj9), (8, am_l za9), (10, am_l zb9), (12, am_l ((a + Bn P i : Nat) : Int)), (14, am_l ((bb + Bn P2 j : Nat) : Int))]) dX10_meets_141 rfl (by decide) rfl ?_
            refine ap_lload dX10_meets_144 rfl ?_
            refine ap_iload dX10_meets_146 rfl ?_
            refine ap_aload_n dX10_meets_148 rfl rfl ?_
            refine ap_get ff_X10_41 dX10_meets_149 (by omega) hM rfl ?_
            refine ap_iload_n dX10_meets_152 rfl rfl ?_
            refine ap_iald (j := p) dX10_meets_153 (by omega) m6 (by omega) (by omega) ?_
            refine ap_topi (b := (p_cnt P : Int)) (show (fm p) = (p_cnt P : Int) from c1.1) ?_
            refine ap_icmp_ne (tgt := 166) dX10_meets_154 (by decide) (by omega) (fun c154 => ?_) (fun c154 => ?_)
            · refine ap_lconst (v := 0) dX10_meets_166 rfl ?_
              refine ap_ladd dX10_meets_167 ?_
              refine ap_Lstore (lv2 := [(0, .ref 120), (1, am_i (p : Int)), (2, am_i (pb : Int)), (3, am_l (L : Int)), (5, am_i (zn + 0)), (6, am_i (zi9 + 1)), (7, am_i zj9), (8, am_l (za9 + 0)), (10, am_l zb9), (12, am_l ((a + Bn P i : Nat) : Int)), (14, am_l ((bb + Bn P2 j : Nat) : Int))]) dX10_meets_168 (by decide) rfl ?_
              refine ap_iload dX10_meets_170 rfl ?_
              refine ap_aload_n dX10_meets_172 rfl rfl ?_
              refine ap_get ff_X10_41 dX10_meets_173 (by omega) hM rfl ?_
              refine ap_iload_n dX10_meets_176 rfl rfl ?_
              refine ap_iald (j := p) dX10_meets_177 (by omega) m6 (by omega) (by omega) ?_
              refine ap_topi (b := (p_cnt P : Int)) (show (fm p) = (p_cnt P : Int) from c1.1) ?_
              refine ap_icmp_ne (tgt := 185) dX10_meets_178 (by decide) (by omega) (fun c178 => ?_) (fun c178 => (by exfalso; omega))
              refine ap_iload dX10_meets_185 rfl ?_
              refine ap_Istore (lv2 := [(0, .ref 120), (1, am_i (p : Int)), (2, am_i (pb : Int)), (3, am_l (L : Int)), (5, am_i (zn + 0)), (6, am_i (zi9 + 1)), (7, am_i zj9), (8, am_l (za9 + 0)), (10, am_l zb9), (12, am_l ((a + Bn P i : Nat) : Int)), (14, am_l ((bb + Bn P2 j : Nat) : Int))]) dX10_meets_187 (by decide) rfl ?_
              refine ap_lload dX10_meets_189 rfl ?_
              refine ap_lload dX10_meets_191 rfl ?_
              refine ap_lcmp_gt (tgt := 245) dX10_meets_193 dX10_meets_194 (by decide) (⟨by omega, by omega⟩) (fun c193 => ?_) (fun c193 => (by exfalso; omega))
              refine ap_goto (tgt := 47) dX10_meets_245 (by decide) ?_
              refine ap_pick (lv2 := [(0, .ref 120), (1, am_i (p : Int)), (2, am_i (pb : Int)), (3, am_l (L : Int)), (5, am_i (zn + 0)), (6, am_i (zi9 + 1)), (7, am_i zj9), (8, am_l (za9 + 0)), (10, am_l zb9)]) [0, 1, 2, 3, 4, 5, 6, 7, 8] rfl ?_
              exact ih (ni (p_cnt P) i) (na (p_cnt P) i a pp) j bb n _ _ _ _ _ (mgi_lt hP hI hpL (by omega) (by omega)) (by rw [hzn]; omega) (by unfold ni; rw [if_neg (by omega)]; omega) (by unfold na; rw [if_neg (by omega)]; omega) (by omega) (by omega) (by omega)
            · refine ap_aload_n dX10_meets_157 rfl rfl ?_
              refine ap_get ff_X10_44 dX10_meets_158 (by omega) hM rfl ?_
              refine ap_iload_n dX10_meets_161 rfl rfl ?_
              refine ap_lald (j := p) dX10_meets_162 (by omega) m7 (by omega) (by omega) ?_
              refine ap_topl (b := (pp : Int)) (show (fl p) = (pp : Int) from l1) ?_
              refine ap_goto (tgt := 167) dX10_meets_163 (by decide) ?_
              refine ap_ladd dX10_meets_167 ?_
              refine ap_Lstore (lv2 := [(0, .ref 120), (1, am_i (p : Int)), (2, am_i (pb : Int)), (3, am_l (L : Int)), (5, am_i (zn + 0)), (6, am_i (zi9 + 1)), (7, am_i zj9), (8, am_l (za9 + (pp : Int))), (10, am_l zb9), (12, am_l ((a + Bn P i : Nat) : Int)), (14, am_l ((bb + Bn P2 j : Nat) : Int))]) dX10_meets_168 (by decide) rfl ?_
              refine ap_iload dX10_meets_170 rfl ?_
              refine ap_aload_n dX10_meets_172 rfl rfl ?_
              refine ap_get ff_X10_41 dX10_meets_173 (by omega) hM rfl ?_
              refine ap_iload_n dX10_meets_176 rfl rfl ?_
              refine ap_iald (j := p) dX10_meets_177 (by omega) m6 (by omega) (by omega) ?_
              refine ap_topi (b := (p_cnt P : Int)) (show (fm p) = (p_cnt P : Int) from c1.1) ?_
              refine ap_icmp_ne (tgt := 185) dX10_meets_178 (by decide) (by omega) (fun c178 => (by exfalso; omega)) (fun c178 => ?_)
              refine ap_iconst dX10_meets_181 ?_
              refine ap_goto (tgt := 187) dX10_meets_182 (by decide) ?_
              refine ap_Istore (lv2 := [(0, .ref 120), (1, am_i (p : Int)), (2, am_i (pb : Int)), (3, am_l (L : Int)), (5, am_i (zn + 0)), (6, am_i 0), (7, am_i zj9), (8, am_l (za9 + (pp : Int))), (10, am_l zb9), (12, am_l ((a + Bn P i : Nat) : Int)), (14, am_l ((bb + Bn P2 j : Nat) : Int))]) dX10_meets_187 (by decide) rfl ?_
              refine ap_lload dX10_meets_189 rfl ?_
              refine ap_lload dX10_meets_191 rfl ?_
              refine ap_lcmp_gt (tgt := 245) dX10_meets_193 dX10_meets_194 (by decide) (⟨by omega, by omega⟩) (fun c193 => ?_) (fun c193 => (by exfalso; omega))
              refine ap_goto (tgt := 47) dX10_meets_245 (by decide) ?_
              refine ap_pick (lv2 := [(0, .ref 120), (1, am_i (p : Int)), (2, am_i (pb : Int)), (3, am_l (L : Int)), (5, am_i (zn + 0)), (6, am_i 0), (7, am_i zj9), (8, am_l (za9 + (pp : Int))), (10, am_l zb9)]) [0, 1, 2, 3, 4, 5, 6, 7, 8] rfl ?_
              exact ih (ni (p_cnt P) i) (na (p_cnt P) i a pp) j bb n _ _ _ _ _ (mgi_lt hP hI hpL (by omega) (by omega)) (by rw [hzn]; omega) (by unfold ni; rw [if_pos (by omega)]; omega) (by unfold na; rw [if_pos (by omega)]; omega) (by omega) (by omega) (by omega)
        · refine ap_iconst dX10_meets_125 ?_
          refine ap_goto (tgt := 130) dX10_meets_126 (by decide) ?_
          refine ap_iadd dX10_meets_130 ?_
          refine ap_Istore (lv2 := [(0, .ref 120), (1, am_i (p : Int)), (2, am_i (pb : Int)), (3, am_l (L : Int)), (5, am_i (zn + 1)), (6, am_i zi9), (7, am_i zj9), (8, am_l za9), (10, am_l zb9), (12, am_l ((a + Bn P i : Nat) : Int)), (14, am_l ((bb + Bn P2 j : Nat) : Int))]) dX10_meets_131 (by decide) rfl ?_
          refine ap_lload dX10_meets_133 rfl ?_
          refine ap_lload dX10_meets_135 rfl ?_
          refine ap_lcmp_gt (tgt := 189) dX10_meets_137 dX10_meets_138 (by decide) (⟨by omega, by omega⟩) (fun c137 => (by exfalso; omega)) (fun c137 => ?_)
          refine ap_Iinc (lv2 := [(0, .ref 120), (1, am_i (p : Int)), (2, am_i (pb : Int)), (3, am_l (L : Int)), (5, am_i (zn + 1)), (6, am_i (zi9 + 1)), (7, am_i zj9), (8, am_l za9), (10, am_l zb9), (12, am_l ((a + Bn P i : Nat) : Int)), (14, am_l ((bb + Bn P2 j : Nat) : Int))]) dX10_meets_141 rfl (by decide) rfl ?_
          refine ap_lload dX10_meets_144 rfl ?_
          refine ap_iload dX10_meets_146 rfl ?_
          refine ap_aload_n dX10_meets_148 rfl rfl ?_
          refine ap_get ff_X10_41 dX10_meets_149 (by omega) hM rfl ?_
          refine ap_iload_n dX10_meets_152 rfl rfl ?_
          refine ap_iald (j := p) dX10_meets_153 (by omega) m6 (by omega) (by omega) ?_
          refine ap_topi (b := (p_cnt P : Int)) (show (fm p) = (p_cnt P : Int) from c1.1) ?_
          refine ap_icmp_ne (tgt := 166) dX10_meets_154 (by decide) (by omega) (fun c154 => ?_) (fun c154 => ?_)
          · refine ap_lconst (v := 0) dX10_meets_166 rfl ?_
            refine ap_ladd dX10_meets_167 ?_
            refine ap_Lstore (lv2 := [(0, .ref 120), (1, am_i (p : Int)), (2, am_i (pb : Int)), (3, am_l (L : Int)), (5, am_i (zn + 1)), (6, am_i (zi9 + 1)), (7, am_i zj9), (8, am_l (za9 + 0)), (10, am_l zb9), (12, am_l ((a + Bn P i : Nat) : Int)), (14, am_l ((bb + Bn P2 j : Nat) : Int))]) dX10_meets_168 (by decide) rfl ?_
            refine ap_iload dX10_meets_170 rfl ?_
            refine ap_aload_n dX10_meets_172 rfl rfl ?_
            refine ap_get ff_X10_41 dX10_meets_173 (by omega) hM rfl ?_
            refine ap_iload_n dX10_meets_176 rfl rfl ?_
            refine ap_iald (j := p) dX10_meets_177 (by omega) m6 (by omega) (by omega) ?_
            refine ap_topi (b := (p_cnt P : Int)) (show (fm p) = (p_cnt P : Int) from c1.1) ?_
            refine ap_icmp_ne (tgt := 185) dX10_meets_178 (by decide) (by omega) (fun c178 => ?_) (fun c178 => (by exfalso; omega))
            refine ap_iload dX10_meets_185 rfl ?_
            refine ap_Istore (lv2 := [(0, .ref 120), (1, am_i (p : Int)), (2, am_i (pb : Int)), (3, am_l (L : Int)), (5, am_i (zn + 1)), (6, am_i (zi9 + 1)), (7, am_i zj9), (8, am_l (za9 + 0)), (10, am_l zb9), (12, am_l ((a + Bn P i : Nat) : Int)), (14, am_l ((bb + Bn P2 j : Nat) : Int))]) dX10_meets_187 (by decide) rfl ?_
            refine ap_lload dX10_meets_189 rfl ?_
            refine ap_lload dX10_meets_191 rfl ?_
            refine ap_lcmp_gt (tgt := 245) dX10_meets_193 dX10_meets_194 (by decide) (⟨by omega, by omega⟩) (fun c193 => (by exfalso; omega)) (fun c193 => ?_)
            refine ap_Iinc (lv2 := [(0, .ref 120), (1, am_i (p : Int)), (2, am_i (pb : Int)), (3, am_l (L : Int)), (5, am_i (zn + 1)), (6, am_i (zi9 + 1)), (7, am_i (zj9 + 1)), (8, am_l (za9 + 0)), (10, am_l zb9), (12, am_l ((a + Bn P i : Nat) : Int)), (14, am_l ((bb + Bn P2 j : Nat) : Int))]) dX10_meets_197 rfl (by decide) rfl ?_
            refine ap_lload dX10_meets_200 rfl ?_
            refine ap_iload dX10_meets_202 rfl ?_
            refine ap_aload_n dX10_meets_204 rfl rfl ?_
            refine ap_get ff_X10_41 dX10_meets_205 (by omega) hM rfl ?_
            refine ap_iload_n dX10_meets_208 rfl rfl ?_
            refine ap_iald (j := pb) dX10_meets_209 (by omega) m6 (by omega) (by omega) ?_
            refine ap_topi (b := (p_cnt P2 : Int)) (show (fm pb) = (p_cnt P2 : Int) from c2.1) ?_
            refine ap_icmp_ne (tgt := 222) dX10_meets_210 (by decide) (by omega) (fun c210 => ?_) (fun c210 => ?_)
            · refine ap_lconst (v := 0) dX10_meets_222 rfl ?_
              refine ap_ladd dX10_meets_223 ?_
              refine ap_Lstore (lv2 := [(0, .ref 120), (1, am_i (p : Int)), (2, am_i (pb : Int)), (3, am_l (L : Int)), (5, am_i (zn + 1)), (6, am_i (zi9 + 1)), (7, am_i (zj9 + 1)), (8, am_l (za9 + 0)), (10, am_l (zb9 + 0)), (12, am_l ((a + Bn P i : Nat) : Int)), (14, am_l ((bb + Bn P2 j : Nat) : Int))]) dX10_meets_224 (by decide) rfl ?_
              refine ap_iload dX10_meets_226 rfl ?_
              refine ap_aload_n dX10_meets_228 rfl rfl ?_
              refine ap_get ff_X10_41 dX10_meets_229 (by omega) hM rfl ?_
              refine ap_iload_n dX10_meets_232 rfl rfl ?_
              refine ap_iald (j := pb) dX10_meets_233 (by omega) m6 (by omega) (by omega) ?_
              refine ap_topi (b := (p_cnt P2 : Int)) (show (fm pb) = (p_cnt P2 : Int) from c2.1) ?_
              refine ap_icmp_ne (tgt := 241) dX10_meets_234 (by decide) (by omega) (fun c234 => ?_) (fun c234 => (by exfalso; omega))
              refine ap_iload dX10_meets_241 rfl ?_
              refine ap_Istore (lv2 := [(0, .ref 120), (1, am_i (p : Int)), (2, am_i (pb : Int)), (3, am_l (L : Int)), (5, am_i (zn + 1)), (6, am_i (zi9 + 1)), (7, am_i (zj9 + 1)), (8, am_l (za9 + 0)), (10, am_l (zb9 + 0)), (12, am_l ((a + Bn P i : Nat) : Int)), (14, am_l ((bb + Bn P2 j : Nat) : Int))]) dX10_meets_243 (by decide) rfl ?_
              refine ap_goto (tgt := 47) dX10_meets_245 (by decide) ?_
              refine ap_pick (lv2 := [(0, .ref 120), (1, am_i (p : Int)), (2, am_i (pb : Int)), (3, am_l (L : Int)), (5, am_i (zn + 1)), (6, am_i (zi9 + 1)), (7, am_i (zj9 + 1)), (8, am_l (za9 + 0)), (10, am_l (zb9 + 0))]) [0, 1, 2, 3, 4, 5, 6, 7, 8] rfl ?_
              exact ih (ni (p_cnt P) i) (na (p_cnt P) i a pp) (ni (p_cnt P2) j) (na (p_cnt P2) j bb qq) (n + 1) _ _ _ _ _ (mgi_eq hP hQ hI hpL (by omega) hqL (by omega) (by omega)) (by rw [hzn]) (by unfold ni; rw [if_neg (by omega)]; omega) (by unfold na; rw [if_neg (by omega)]; omega) (by unfold ni; rw [if_neg (by omega)]; omega) (by unfold na; rw [if_neg (by omega)]; omega) (by omega)
            · refine ap_aload_n dX10_meets_213 rfl rfl ?_
              refine ap_get ff_X10_44 dX10_meets_214 (by omega) hM rfl ?_
              refine ap_iload_n dX10_meets_217 rfl rfl ?_
              refine ap_lald (j := pb) dX10_meets_218 (by omega) m7 (by omega) (by omega) ?_
              refine ap_topl (b := (qq : Int)) (show (fl pb) = (qq : Int) from l2) ?_
              refine ap_goto (tgt := 223) dX10_meets_219 (by decide) ?_
              refine ap_ladd dX10_meets_223 ?_
              refine ap_Lstore (lv2 := [(0, .ref 120), (1, am_i (p : Int)), (2, am_i (pb : Int)), (3, am_l (L : Int)), (5, am_i (zn + 1)), (6, am_i (zi9 + 1)), (7, am_i (zj9 + 1)), (8, am_l (za9 + 0)), (10, am_l (zb9 + (qq : Int))), (12, am_l ((a + Bn P i : Nat) : Int)), (14, am_l ((bb + Bn P2 j : Nat) : Int))]) dX10_meets_224 (by decide) rfl ?_
              refine ap_iload dX10_meets_226 rfl ?_
              refine ap_aload_n dX10_meets_228 rfl rfl ?_
              refine ap_get ff_X10_41 dX10_meets_229 (by omega) hM rfl ?_
              refine ap_iload_n dX10_meets_232 rfl rfl ?_
              refine ap_iald (j := pb) dX10_meets_233 (by omega) m6 (by omega) (by omega) ?_
              refine ap_topi (b := (p_cnt P2 : Int)) (show (fm pb) = (p_cnt P2 : Int) from c2.1) ?_
              refine ap_icmp_ne (tgt := 241) dX10_meets_234 (by decide) (by omega) (fun c234 => (by exfalso; omega)) (fun c234 => ?_)
              refine ap_iconst dX10_meets_237 ?_
              refine ap_goto (tgt := 243) dX10_meets_238 (by decide) ?_
              refine ap_Istore (lv2 := [(0, .ref 120), (1, am_i (p : Int)), (2, am_i (pb : Int)), (3, am_l (L : Int)), (5, am_i (zn + 1)), (6, am_i (zi9 + 1)), (7, am_i 0), (8, am_l (za9 + 0)), (10, am_l (zb9 + (qq : Int))), (12, am_l ((a + Bn P i : Nat) : Int)), (14, am_l ((bb + Bn P2 j : Nat) : Int))]) dX10_meets_243 (by decide) rfl ?_
              refine ap_goto (tgt := 47) dX10_meets_245 (by decide) ?_
              refine ap_pick (lv2 := [(0, .ref 120), (1, am_i (p : Int)), (2, am_i (pb : Int)), (3, am_l (L : Int)), (5, am_i (zn + 1)), (6, am_i (zi9 + 1)), (7, am_i 0), (8, am_l (za9 + 0)), (10, am_l (zb9 + (qq : Int)))]) [0, 1, 2, 3, 4, 5, 6, 7, 8] rfl ?_
              exact ih (ni (p_cnt P) i) (na (p_cnt P) i a pp) (ni (p_cnt P2) j) (na (p_cnt P2) j bb qq) (n + 1) _ _ _ _ _ (mgi_eq hP hQ hI hpL (by omega) hqL (by omega) (by omega)) (by rw [hzn]) (by unfold ni; rw [if_neg (by omega)]; omega) (by unfold na; rw [if_neg (by omega)]; omega) (by unfold ni; rw [if_pos (by omega)]; omega) (by unfold na; rw [if_pos (by omega)]; omega) (by omega)
          · refine ap_aload_n dX10_meets_157 rfl rfl ?_
            refine ap_get ff_X10_44 dX10_meets_158 (by omega) hM rfl ?_
            refine ap_iload_n dX10_meets_161 rfl rfl ?_
            refine ap_lald (j := p) dX10_meets_162 (by omega) m7 (by omega) (by omega) ?_
            refine ap_topl (b := (pp : Int)) (show (fl p) = (pp : Int) from l1) ?_
            refine ap_goto (tgt := 167) dX10_meets_163 (by decide) ?_
            refine ap_ladd dX10_meets_167 ?_
            refine ap_Lstore (lv2 := [(0, .ref 120), (1, am_i (p : Int)), (2, am_i (pb : Int)), (3, am_l (L : Int)), (5, am_i (zn + 1)), (6, am_i (zi9 + 1)), (7, am_i zj9), (8, am_l (za9 + (pp : Int))), (10, am_l zb9), (12, am_l ((a + Bn P i : Nat) : Int)), (14, am_l ((bb + Bn P2 j : Nat) : Int))]) dX10_meets_168 (by decide) rfl ?_
            refine ap_iload dX10_meets_170 rfl ?_
            refine ap_aload_n dX10_meets_172 rfl rfl ?_
            refine ap_get ff_X10_41 dX10_meets_173 (by omega) hM rfl ?_
            refine ap_iload_n dX10_meets_176 rfl rfl ?_
            refine ap_iald (j := p) dX10_meets_177 (by omega) m6 (by omega) (by omega) ?_
            refine ap_topi (b := (p_cnt P : Int)) (show (fm p) = (p_cnt P : Int) from c1.1) ?_
            refine ap_icmp_ne (tgt := 185) dX10_meets_178 (by decide) (by omega) (fun c178 => (by exfalso; omega)) (fun c178 => ?_)
            refine ap_iconst dX10_meets_181 ?_
            refine ap_goto (tgt := 187) dX10_meets_182 (by decide) ?_
            refine ap_Istore (lv2 := [(0, .ref 120), (1, am_i (p : Int)), (2, am_i (pb : Int)), (3, am_l (L : Int)), (5, am_i (zn + 1)), (6, am_i 0), (7, am_i zj9), (8, am_l (za9 + (pp : Int))), (10, am_l zb9), (12, am_l ((a + Bn P i : Nat) : Int)), (14, am_l ((bb + Bn P2 j : Nat) : Int))]) dX10_meets_187 (by decide) rfl ?_
            refine ap_lload dX10_meets_189 rfl ?_
            refine ap_lload dX10_meets_191 rfl ?_
            refine ap_lcmp_gt (tgt := 245) dX10_meets_193 dX10_meets_194 (by decide) (⟨by omega, by omega⟩) (fun c193 => (by exfalso; omega)) (fun c193 => ?_)
            refine ap_Iinc (lv2 := [(0, .ref 120), (1, am_i (p : Int)), (2, am_i (pb : Int)), (3, am_l (L : Int)), (5, am_i (zn + 1)), (6, am_i 0), (7, am_i (zj9 + 1)), (8, am_l (za9 + (pp : Int))), (10, am_l zb9), (12, am_l ((a + Bn P i : Nat) : Int)), (14, am_l ((bb + Bn P2 j : Nat) : Int))]) dX10_meets_197 rfl (by decide) rfl ?_
            refine ap_lload dX10_meets_200 rfl ?_
            refine ap_iload dX10_meets_202 rfl ?_
            refine ap_aload_n dX10_meets_204 rfl rfl ?_
            refine ap_get ff_X10_41 dX10_meets_205 (by omega) hM rfl ?_
            refine ap_iload_n dX10_meets_208 rfl rfl ?_
            refine ap_iald (j := pb) dX10_meets_209 (by omega) m6 (by omega) (by omega) ?_
            refine ap_topi (b := (p_cnt P2 : Int)) (show (fm pb) = (p_cnt P2 : Int) from c2.1) ?_
            refine ap_icmp_ne (tgt := 222) dX10_meets_210 (by decide) (by omega) (fun c210 => ?_) (fun c210 => ?_)
            · refine ap_lconst (v := 0) dX10_meets_222 rfl ?_
              refine ap_ladd dX10_meets_223 ?_
              refine ap_Lstore (lv2 := [(0, .ref 120), (1, am_i (p : Int)), (2, am_i (pb : Int)), (3, am_l (L : Int)), (5, am_i (zn + 1)), (6, am_i 0), (7, am_i (zj9 + 1)), (8, am_l (za9 + (pp : Int))), (10, am_l (zb9 + 0)), (12, am_l ((a + Bn P i : Nat) : Int)), (14, am_l ((bb + Bn P2 j : Nat) : Int))]) dX10_meets_224 (by decide) rfl ?_
              refine ap_iload dX10_meets_226 rfl ?_
              refine ap_aload_n dX10_meets_228 rfl rfl ?_
              refine ap_get ff_X10_41 dX10_meets_229 (by omega) hM rfl ?_
              refine ap_iload_n dX10_meets_232 rfl rfl ?_
              refine ap_iald (j := pb) dX10_meets_233 (by omega) m6 (by omega) (by omega) ?_
              refine ap_topi (b := (p_cnt P2 : Int)) (show (fm pb) = (p_cnt P2 : Int) from c2.1) ?_
              refine ap_icmp_ne (tgt := 241) dX10_meets_234 (by decide) (by omega) (fun c234 => ?_) (fun c234 => (by exfalso; omega))
              refine ap_iload dX10_meets_241 rfl ?_
              refine ap_Istore (lv2 := [(0, .ref 120), (1, am_i (p : Int)), (2, am_i (pb : Int)), (3, am_l (L : Int)), (5, am_i (zn + 1)), (6, am_i 0), (7, am_i (zj9 + 1)), (8, am_l (za9 + (pp : Int))), (10, am_l (zb9 + 0)), (12, am_l ((a + Bn P i : Nat) : Int)), (14, am_l ((bb + Bn P2 j : Nat) : Int))]) dX10_meets_243 (by decide) rfl ?_
              refine ap_goto (tgt := 47) dX10_meets_245 (by decide) ?_
              refine ap_pick (lv2 := [(0, .ref 120), (1, am_i (p : Int)), (2, am_i (pb : Int)), (3, am_l (L : Int)), (5, am_i (zn + 1)), (6, am_i 0), (7, am_i (zj9 + 1)), (8, am_l (za9 + (pp : Int))), (10, am_l (zb9 + 0))]) [0, 1, 2, 3, 4, 5, 6, 7, 8] rfl ?_
              exact ih (ni (p_cnt P) i) (na (p_cnt P) i a pp) (ni (p_cnt P2) j) (na (p_cnt P2) j bb qq) (n + 1) _ _ _ _ _ (mgi_eq hP hQ hI hpL (by omega) hqL (by omega) (by omega)) (by rw [hzn]) (by unfold ni; rw [if_pos (by omega)]; omega) (by unfold na; rw [if_pos (by omega)]; omega) (by unfold ni; rw [if_neg (by omega)]; omega) (by unfold na; rw [if_neg (by omega)]; omega) (by omega)
            · refine ap_aload_n dX10_meets_213 rfl rfl ?_
              refine ap_get ff_X10_44 dX10_meets_214 (by omega) hM rfl ?_
              refine ap_iload_n dX10_meets_217 rfl rfl ?_
              refine ap_lald (j := pb) dX10_meets_218 (by omega) m7 (by omega) (by omega) ?_
              refine ap_topl (b := (qq : Int)) (show (fl pb) = (qq : Int) from l2) ?_
              refine ap_goto (tgt := 223) dX10_meets_219 (by decide) ?_
              refine ap_ladd dX10_meets_223 ?_
              refine ap_Lstore (lv2 := [(0, .ref 120), (1, am_i (p : Int)), (2, am_i (pb : Int)), (3, am_l (L : Int)), (5, am_i (zn + 1)), (6, am_i 0), (7, am_i (zj9 + 1)), (8, am_l (za9 + (pp : Int))), (10, am_l (zb9 + (qq : Int))), (12, am_l ((a + Bn P i : Nat) : Int)), (14, am_l ((bb + Bn P2 j : Nat) : Int))]) dX10_meets_224 (by decide) rfl ?_
              refine ap_iload dX10_meets_226 rfl ?_
              refine ap_aload_n dX10_meets_228 rfl rfl ?_
              refine ap_get ff_X10_41 dX10_meets_229 (by omega) hM rfl ?_
              refine ap_iload_n dX10_meets_232 rfl rfl ?_
              refine ap_iald (j := pb) dX10_meets_233 (by omega) m6 (by omega) (by omega) ?_
              refine ap_topi (b := (p_cnt P2 : Int)) (show (fm pb) = (p_cnt P2 : Int) from c2.1) ?_
              refine ap_icmp_ne (tgt := 241) dX10_meets_234 (by decide) (by omega) (fun c234 => (by exfalso; omega)) (fun c234 => ?_)
              refine ap_iconst dX10_meets_237 ?_
              refine ap_goto (tgt := 243) dX10_meets_238 (by decide) ?_
              refine ap_Istore (lv2 := [(0, .ref 120), (1, am_i (p : Int)), (2, am_i (pb : Int)), (3, am_l (L : Int)), (5, am_i (zn + 1)), (6, am_i 0), (7, am_i 0), (8, am_l (za9 + (pp : Int))), (10, am_l (zb9 + (qq : Int))), (12, am_l ((a + Bn P i : Nat) : Int)), (14, am_l ((bb + Bn P2 j : Nat) : Int))]) dX10_meets_243 (by decide) rfl ?_
              refine ap_goto (tgt := 47) dX10_meets_245 (by decide) ?_
              refine ap_pick (lv2 := [(0, .ref 120), (1, am_i (p : Int)), (2, am_i (pb : Int)), (3, am_l (L : Int)), (5, am_i (zn + 1)), (6, am_i 0), (7, am_i 0), (8, am_l (za9 + (pp : Int))), (10, am_l (zb9 + (qq : Int)))]) [0, 1, 2, 3, 4, 5, 6, 7, 8] rfl ?_
              exact ih (ni (p_cnt P) i) (na (p_cnt P) i a pp) (ni (p_cnt P2) j) (na (p_cnt P2) j bb qq) (n + 1) _ _ _ _ _ (mgi_eq hP hQ hI hpL (by omega) hqL (by omega) (by omega)) (by rw [hzn]) (by unfold ni; rw [if_pos (by omega)]; omega) (by unfold na; rw [if_pos (by omega)]; omega) (by unfold ni; rw [if_pos (by omega)]; omega) (by unfold na; rw [if_pos (by omega)]; omega) (by omega)

set_option maxHeartbeats 4000000 in
set_option maxRecDepth 100000 in
theorem wm_meets0 {N : Nat} {μ : am_M} {p pb : Nat} {P P2 : PS} {zp zt zm zd ze zi zu zc zg : Int} {fm : Nat → Int} {Q : Option Value → Nat → am_M → Prop} {L : Nat} {zn zi9 zj9 za9 zb9 : Int} (hM : μ 120 = mcl zp zt zm zd ze zi zu zc zg) (m6 : μ 131 = am_I 0 4 fm) (hN : 141 ≤ N) (hp : p < 4) (hpb : pb < 4) (c1 : fm p = (p_cnt P : Int)) (c2 : fm pb = (p_cnt P2 : Int)) (c3 : p_cnt P ≤ 300 ∧ p_cnt P2 ≤ 300) (h0 : ¬ (0 < p_cnt P ∧ 0 < p_cnt P2)) (hk9 : Q (some (am_i zn)) N μ) : am_W YX10_meets Q 0 0 47 [(0, .ref 120), (1, am_i (p : Int)), (2, am_i (pb : Int)), (3, am_l (L : Int)), (5, am_i zn), (6, am_i zi9), (7, am_i zj9), (8, am_l za9), (10, am_l zb9)] [] N μ := by
  refine ap_aload_n dX10_meets_47 rfl rfl ?_
  refine ap_get ff_X10_41 dX10_meets_48 (by omega) hM rfl ?_
  refine ap_iload_n dX10_meets_51 rfl rfl ?_
  refine ap_iald (j := p) dX10_meets_52 (by omega) m6 (by omega) (by omega) ?_
  refine ap_topi (b := (p_cnt P : Int)) (show (fm p) = (p_cnt P : Int) from c1) ?_
  refine ap_if_le (tgt := 248) dX10_meets_53 (by decide) (by omega) (fun c53 => ?_) (fun c53 => ?_)
  · refine ap_iload dX10_meets_248 rfl ?_
    exact ap_iret dX10_meets_250 rfl rfl (Nat.le_of_ble_eq_true rfl) (Nat.le_of_ble_eq_true rfl) (hk9)
  · refine ap_aload_n dX10_meets_56 rfl rfl ?_
    refine ap_get ff_X10_41 dX10_meets_57 (by omega) hM rfl ?_
    refine ap_iload_n dX10_meets_60 rfl rfl ?_
    refine ap_iald (j := pb) dX10_meets_61 (by omega) m6 (by omega) (by omega) ?_
    refine ap_topi (b := (p_cnt P2 : Int)) (show (fm pb) = (p_cnt P2 : Int) from c2) ?_
    refine ap_if_le (tgt := 248) dX10_meets_62 (by decide) (by omega) (fun c62 => ?_) (fun c62 => (by exfalso; omega))
    refine ap_iload dX10_meets_248 rfl ?_
    exact ap_iret dX10_meets_250 rfl rfl (Nat.le_of_ble_eq_true rfl) (Nat.le_of_ble_eq_true rfl) (hk9)
theorem cyc_pos {a b : Nat} (h : 0 ≤ cyc a b) : cyc a b = ((a / Nat.gcd a b * b : Nat) : Int) ∧ 0 < a ∧ 0 < b := by
  unfold cyc at h ⊢
  by_cases h1 : a < 1 ∨ b < 1
  · rw [if_pos h1] at h; omega
  · rw [if_neg h1] at h ⊢
    by_cases h2 : 812851200000 / b < a / Nat.gcd a b
    · rw [if_pos h2] at h; omega
    · rw [if_neg h2]; exact ⟨rfl, by omega, by omega⟩
theorem cyc_dvd (a b : Nat) (h : 0 < a) : a ∣ a / Nat.gcd a b * b ∧ b ∣ a / Nat.gcd a b * b := by
  refine ⟨?_, ⟨a / Nat.gcd a b, Nat.mul_comm _ _⟩⟩
  obtain ⟨c, hc⟩ := Nat.gcd_dvd_right a b
  refine ⟨c, ?_⟩
  have h1 : a / Nat.gcd a b * Nat.gcd a b = a := Nat.div_mul_cancel (Nat.gcd_dvd_left a b)
  calc a / Nat.gcd a b * b = a / Nat.gcd a b * (Nat.gcd a b * c) := by rw [← hc]
    _ = a / Nat.gcd a b * Nat.gcd a b * c := by rw [Nat.mul_assoc]
    _ = a * c := by rw [h1]
theorem msum_0 {P Q : PS} {d : Int} (h : ¬ (0 < p_cnt P ∧ 0 < p_cnt Q)) : msum P Q d (p_cnt P) = 0 := by
  rw [msum_sum]
  refine sumN_zero _ (fun i hi => ?_)
  rw [show p_cnt Q = 0 by omega]; rfl
set_option maxHeartbeats 4000000 in
set_option maxRecDepth 100000 in
theorem cy_meets {N : Nat} {μ : am_M} {b : List Int} {C : Snap} {rem : Nat} {hs : Nat → Snap} (hX : Mx μ b C rem hs) (hN : 141 ≤ N) {p pb : Nat} (hp : p < 4) (hpb : pb < 4) {P P2 : PS} (hPe : psc (s_t C p) = P) (hPe2 : psc (s_t C pb) = P2) : am_Met YX10_meets [.ref 120, am_i (p : Int), am_i (pb : Int)] N μ (mq N μ (am_i (q_meets P P2)) b C rem hs) := by
  obtain ⟨⟨zm, zd, ze, zi, zu, zc, zg, hM⟩, ⟨g, hV, hv1⟩, ⟨h, hH, hh1⟩, ⟨tg, hT, ht1⟩, ⟨fi, hI⟩, hS, ⟨f8, h138⟩, ⟨f9, h139⟩, ⟨f0, h140⟩, hr5, hb1, hb2, hC, hhs⟩ := id hX
  have hpk := gtx_pok (hC.1 p hp)
  have hpk2 := gtx_pok (hC.1 pb hpb)
  rw [hPe] at hpk
  rw [hPe2] at hpk2
  have g3 := hpk.2.2.1
  have k3 := hpk2.2.2.1
  refine am_met (by first | decide | rfl) (Nat.le_of_ble_eq_true rfl) (fun h => by first | rfl | cases h) ?_
  show am_W YX10_meets _ 0 0 0 [(0, .ref 120), (1, am_i (p : Int)), (2, am_i (pb : Int))] [] _ _
  refine ap_iload_n dX10_meets_0 rfl rfl ?_
  refine ap_cS (As := [am_i (p : Int)]) (rest := []) (cm_isPart (by omega)) dX10_meets_1 lk_X10_163 hy_X10_isPart rfl (Nat.le_of_ble_eq_true rfl) ⟨Nat.le_of_ble_eq_true rfl, Nat.le_of_ble_eq_true rfl⟩ ⟨rfl, rfl⟩ ⟨Nat.le_of_ble_eq_true rfl, Nat.le_of_ble_eq_true rfl⟩ (fun xr1 xN2 μ3 xq4 => ?_)
  obtain ⟨rfl, rfl, rfl⟩ := xq4
  refine ap_topi (b := 1) (show (if 0 ≤ (p : Int) ∧ (p : Int) ≤ 3 then 1 else 0) = 1 from if_pos (by omega)) ?_
  refine ap_if_eq (tgt := 14) dX10_meets_4 (by decide) (by omega) (fun c4 => (by exfalso; omega)) (fun c4 => ?_)
  refine ap_iload_n dX10_meets_7 rfl rfl ?_
  refine ap_cS (As := [am_i (pb : Int)]) (rest := []) (cm_isPart (by omega)) dX10_meets_8 lk_X10_163 hy_X10_isPart rfl (Nat.le_of_ble_eq_true rfl) ⟨Nat.le_of_ble_eq_true rfl, Nat.le_of_ble_eq_true rfl⟩ ⟨rfl, rfl⟩ ⟨Nat.le_of_ble_eq_true rfl, Nat.le_of_ble_eq_true rfl⟩ (fun xr5 xN6 μ7 xq8 => ?_)
  obtain ⟨rfl, rfl, rfl⟩ := xq8
  refine ap_topi (b := 1) (show (if 0 ≤ (pb : Int) ∧ (pb : Int) ≤ 3 then 1 else 0) = 1 from if_pos (by omega)) ?_
  refine ap_if_ne (tgt := 16) dX10_meets_11 (by decide) (by omega) (fun c11 => ?_) (fun c11 => (by exfalso; omega))
  refine ap_aload_n dX10_meets_16 rfl rfl ?_
  refine ap_iload_n dX10_meets_17 rfl rfl ?_
  refine ap_iload_n dX10_meets_18 rfl rfl ?_
  refine ap_cV (As := [am_i (p : Int), am_i (pb : Int)]) (rest := []) (cm_cycleOf hX hN hp hpb hPe hPe2) dX10_meets_19 lk_X10_229 hy_X10_cycleOf rfl (by omega) hM ⟨_, _, rfl⟩ (Nat.le_of_ble_eq_true rfl) ⟨Nat.le_of_ble_eq_true rfl, Nat.le_of_ble_eq_true rfl⟩ ⟨rfl, rfl⟩ ⟨Nat.le_of_ble_eq_true rfl, Nat.le_of_ble_eq_true rfl⟩ (fun xr9 xN10 μw xq11 => ?_)
  obtain ⟨rfl, rfl, hY, hWp, hWb, hF⟩ := xq11
  obtain ⟨⟨ym, yd, ye, yi, yu, yc, yg, hM2⟩, ⟨g2_, hV2, hv2⟩, -⟩ := id hY
  obtain ⟨fo, fs, fa, fb, fn, fm, fl, ⟨m1, m2, m3, m4, m5, m6, m7⟩, m8, m9, m10, m11⟩ := id hWp
  obtain ⟨w8, w9, w10, w11⟩ := Wd_fn hWb m1 m2 m3 m4 m5 m6 m7
  have hcr := cyc_rr (a := (p_tot P).toNat) (b := (p_tot P2).toNat)
  rw [q_meets]
  refine ap_Lstore_n (lv2 := [(0, .ref 120), (1, am_i (p : Int)), (2, am_i (pb : Int)), (3, am_l (cyc (p_tot P).toNat (p_tot P2).toNat))]) dX10_meets_22 rfl (by decide) rfl ?_
  refine ap_lload_n dX10_meets_23 rfl rfl ?_
  refine ap_lconst (v := 0) dX10_meets_24 rfl ?_
  refine ap_lcmp_ge (tgt := 32) dX10_meets_25 dX10_meets_26 (by decide) (⟨by omega, by omega⟩) (fun c25 => ?_) (fun c25 => ?_)
  · rw [if_neg (by omega)]
    obtain ⟨hcp, ha0, hb0⟩ := cyc_pos (show 0 ≤ cyc (p_tot P).toNat (p_tot P2).toNat by omega)
    have hdv := cyc_dvd (p_tot P).toNat (p_tot P2).toNat ha0
    rw [hcp] at hcr
    rw [hcp]
    generalize hLd : (p_tot P).toNat / Nat.gcd (p_tot P).toNat (p_tot P2).toNat * (p_tot P2).toNat = L at hcr hdv hcp ⊢
    refine ap_iconst dX10_meets_32 ?_
    refine ap_Istore (lv2 := [(0, .ref 120), (1, am_i (p : Int)), (2, am_i (pb : Int)), (3, am_l (L : Int)), (5, am_i 0)]) dX10_meets_33 (by decide) rfl ?_
    refine ap_iconst dX10_meets_35 ?_
    refine ap_Istore (lv2 := [(0, .ref 120), (1, am_i (p : Int)), (2, am_i (pb : Int)), (3, am_l (L : Int)), (5, am_i 0), (6, am_i 0)]) dX10_meets_36 (by decide) rfl ?_
    refine ap_iconst dX10_meets_38 ?_
    refine ap_Istore (lv2 := [(0, .ref 120), (1, am_i (p : Int)), (2, am_i (pb : Int)), (3, am_l (L : Int)), (5, am_i 0), (6, am_i 0), (7, am_i 0)]) dX10_meets_39 (by decide) rfl ?_
    refine ap_lconst (v := 0) dX10_meets_41 rfl ?_
    refine ap_Lstore (lv2 := [(0, .ref 120), (1, am_i (p : Int)), (2, am_i (pb : Int)), (3, am_l (L : Int)), (5, am_i 0), (6, am_i 0), (7, am_i 0), (8, am_l 0)]) dX10_meets_42 (by decide) rfl ?_
    refine ap_lconst (v := 0) dX10_meets_44 rfl ?_
    refine ap_Lstore (lv2 := [(0, .ref 120), (1, am_i (p : Int)), (2, am_i (pb : Int)), (3, am_l (L : Int)), (5, am_i 0), (6, am_i 0), (7, am_i 0), (8, am_l 0), (10, am_l 0)]) dX10_meets_45 (by decide) rfl ?_
    by_cases h0 : 0 < p_cnt P ∧ 0 < p_cnt P2
    · exact lm_meets (pp := (p_tot P).toNat) (qq := (p_tot P2).toNat) hM2 m1 m6 m7 hN hp hpb (fun i hi => (m8 i hi).1) (fun i hi => (w8 i hi).1) ⟨m9, m11⟩ ⟨w9, w11⟩ (m10.trans (by omega)) (w10.trans (by omega)) (gtx_pmn (hC.1 p hp) hPe) (gtx_pmn (hC.1 pb hpb) hPe2) hdv.1 hdv.2 (by omega) (by omega) (fun hr => ⟨by rw [hr, ← hLd, hit_sum (gtx_pmn (hC.1 p hp) hPe) (gtx_pmn (hC.1 pb hpb) hPe2)], rfl, hY, hF⟩) (2 * L + (p_tot P).toNat + (p_tot P2).toNat + 3) 0 0 0 0 0 _ _ _ _ _ (mgi_0 (gtx_pmn (hC.1 p hp) hPe) (gtx_pmn (hC.1 pb hpb) hPe2) h0.1 h0.2) rfl rfl rfl rfl rfl (by omega)
    · exact wm_meets0 hM2 m6 hN hp hpb m9 w9 ⟨m11, w11⟩ h0 ⟨by rw [msum_0 h0], rfl, hY, hF⟩
  · refine ap_lload_n dX10_meets_29 rfl rfl ?_
    refine ap_l2i dX10_meets_30 ?_
    exact ap_iret dX10_meets_31 rfl rfl (Nat.le_of_ble_eq_true rfl) (Nat.le_of_ble_eq_true rfl) (⟨by rw [if_pos (by omega)], rfl, hY, hF⟩)

