def bok (us : List Int) : Prop := ∀ k, k ≤ us.length → pok (sp us k) ∧ (k < us.length → ((us.getD k 0 = 124 → p_nb (sp us k) ≤ 900) ∧ (us.getD k 0 = 123 → (p_ts (sp us k)).length < 2) ∧ (us.getD k 0 = 125 → 0 < (p_ts (sp us k)).length) ∧ (0 ≤ hv (us.getD k 0) → p_cnt (sp us k) < 300)))
theorem Sco.ts {μ μ2 : am_M} {s : Nat} {P : PS} {ts : List (Int × Int)} (h : Sco μ s P) (hf : am_fr (s + 7) (s + 7 + 3) μ μ2) (h7 : Sc7 μ2 (s + 7) ts) : Sco μ2 s (pTs P ts) := by
  obtain ⟨h1, ⟨f1, a1, b1⟩, ⟨f2, a2, b2⟩, ⟨f3, a3, b3⟩, ⟨f4, a4, b4⟩, ⟨f5, a5, b5⟩, ⟨f6, a6, b6⟩, -⟩ := h
  exact ⟨(hf _ (by omega)).trans h1, ⟨f1, (hf _ (by omega)).trans a1, b1⟩, ⟨f2, (hf _ (by omega)).trans a2, b2⟩, ⟨f3, (hf _ (by omega)).trans a3, b3⟩, ⟨f4, (hf _ (by omega)).trans a4, b4⟩, ⟨f5, (hf _ (by omega)).trans a5, b5⟩, ⟨f6, (hf _ (by omega)).trans a6, b6⟩, h7⟩
set_option maxHeartbeats 4000000 in
set_option maxRecDepth 100000 in
theorem lp_build {N s t cap : Nat} {μ0 : am_M} {us : List Int} (hT0 : Tx μ0 t cap us) (hN : s + 9 < N) (hN2 : t + 1 < N) (hd : t + 2 ≤ s ∨ s + 10 ≤ t) (hb : bok us) : ∀ (nn : Nat) (i : Nat) (z : Int) (μ : am_M), z = (i : Int) → i ≤ us.length → Sco μ s (sp us i) → am_fr s (s + 10) μ0 μ → us.length - i < nn → am_W YX4_build (fun r N2 μ2 => r = none ∧ N = N2 ∧ Sco μ2 s (sp us us.length) ∧ am_fr s (s + 10) μ0 μ2) 0 0 6 [(0, .ref s), (1, .ref t), (2, am_i z)] [] N μ := by
  intro nn
  induction nn with
  | zero =>
    intro i z μ hz hi hS hf hm
    exfalso; omega
  | succ nn ih =>
    intro i z μ hz hi hS hf hm
    have hT := hT0.fr hf hd
    obtain ⟨t1, ⟨tg, t2, t3⟩, t4, t5, t6⟩ := id hT
    obtain ⟨h1, -, -, -, -, -, -, h7⟩ := id hS
    refine ap_iload_n dX4_build_6 rfl rfl ?_
    refine ap_aload_n dX4_build_7 rfl rfl ?_
    refine ap_cV (As := []) (rest := [am_i z]) (ct_size hT hN2) dX4_build_8 lk_X4_60 hy_X6_size rfl (by omega) t1 ⟨_, _, rfl⟩ (Nat.le_of_ble_eq_true rfl) ⟨Nat.le_of_ble_eq_true rfl, Nat.le_of_ble_eq_true rfl⟩ ⟨rfl, rfl⟩ ⟨Nat.le_of_ble_eq_true rfl, Nat.le_of_ble_eq_true rfl⟩ (fun xr1 xN2 μ3 xq4 => ?_)
    obtain ⟨rfl, rfl, rfl⟩ := xq4
    refine ap_icmp_ge (tgt := 104) dX4_build_11 (by decide) (by omega) (fun c11 => ?_) (fun c11 => ?_)
    · exact ap_vret dX4_build_104 rfl (Nat.le_of_ble_eq_true rfl) (Nat.le_of_ble_eq_true rfl) (⟨rfl, rfl, (by rw [show us.length = i by omega]; exact hS), hf⟩)
    · have hlt : i < us.length := by omega
      have hch := t6 _ (am_gd hlt)
      obtain ⟨hok, hst⟩ := hb i hi
      obtain ⟨e1, e2, e3, e4⟩ := hst hlt
      subst hz
      refine ap_aload_n dX4_build_14 rfl rfl ?_
      refine ap_iload_n dX4_build_15 rfl rfl ?_
      refine ap_cV (As := [am_i (i : Int)]) (rest := []) (ct_at hT hN2 (by omega)) dX4_build_16 lk_X4_66 hy_X6_at rfl (by omega) t1 ⟨_, _, rfl⟩ (Nat.le_of_ble_eq_true rfl) ⟨Nat.le_of_ble_eq_true rfl, Nat.le_of_ble_eq_true rfl⟩ ⟨rfl, rfl⟩ ⟨Nat.le_of_ble_eq_true rfl, Nat.le_of_ble_eq_true rfl⟩ (fun xr5 xN6 μ7 xq8 => ?_)
      obtain ⟨rfl, rfl, rfl⟩ := xq8
      refine ap_topi (b := us.getD i 0) (show (tat us (i : Int)) = (us.getD i 0) from by rw [tat, if_pos (by omega)]; rfl) ?_
      refine ap_Istore_n (lv2 := [(0, .ref s), (1, .ref t), (2, am_i (i : Int)), (3, am_i (us.getD i 0))]) dX4_build_19 rfl (by decide) rfl ?_
      refine ap_iload_n dX4_build_20 rfl rfl ?_
      refine ap_bipush dX4_build_21 (by decide) ?_
      refine ap_icmp_ne (tgt := 33) dX4_build_23 (by decide) (by omega) (fun c23 => ?_) (fun c23 => ?_)
      · refine ap_iload_n dX4_build_33 rfl rfl ?_
        refine ap_bipush dX4_build_34 (by decide) ?_
        refine ap_icmp_ne (tgt := 69) dX4_build_36 (by decide) (by omega) (fun c36 => ?_) (fun c36 => ?_)
        · refine ap_iload_n dX4_build_69 rfl rfl ?_
          refine ap_bipush dX4_build_70 (by decide) ?_
          refine ap_icmp_ne (tgt := 85) dX4_build_72 (by decide) (by omega) (fun c72 => ?_) (fun c72 => ?_)
          · refine ap_iload_n dX4_build_85 rfl rfl ?_
            refine ap_cS (As := [am_i (us.getD i 0)]) (rest := []) (ct_halvings (ch := us.getD i 0) (by omega)) dX4_build_86 lk_X4_85 hy_X1_halvings rfl (Nat.le_of_ble_eq_true rfl) ⟨Nat.le_of_ble_eq_true rfl, Nat.le_of_ble_eq_true rfl⟩ ⟨rfl, rfl⟩ ⟨Nat.le_of_ble_eq_true rfl, Nat.le_of_ble_eq_true rfl⟩ (fun xr9 xN10 μ11 xq12 => ?_)
            obtain ⟨rfl, rfl, rfl⟩ := xq12
            refine ap_if_lt (tgt := 98) dX4_build_89 (by decide) (by have := hv_r (us.getD i 0); omega) (fun c89 => ?_) (fun c89 => ?_)
            · refine ap_Iinc (lv2 := [(0, .ref s), (1, .ref t), (2, am_i ((i : Int) + 1)), (3, am_i (us.getD i 0))]) dX4_build_98 rfl (by decide) rfl ?_
              refine ap_goto (tgt := 6) dX4_build_101 (by decide) ?_
              refine ap_pick (lv2 := [(0, .ref s), (1, .ref t), (2, am_i ((i : Int) + 1))]) [0, 1, 2] rfl ?_
              exact ih (i + 1) _ _ (by omega) (by omega) (by show Sco _ s (stp us i (sp us i)); rw [stp, if_neg c23, if_neg c36, if_neg c72, if_neg (by omega)]; exact hS) hf (by omega)
            · refine ap_aload_n dX4_build_92 rfl rfl ?_
              refine ap_aload_n dX4_build_93 rfl rfl ?_
              refine ap_iload_n dX4_build_94 rfl rfl ?_
              refine ap_cV (As := [.ref t, am_i (i : Int)]) (rest := []) (ct_addSound hS hT hN hN2 hd hok hlt (by omega) (e4 (by omega))) dX4_build_95 lk_X4_88 hy_X4_addSound rfl (by omega) h1 ⟨_, _, rfl⟩ (Nat.le_of_ble_eq_true rfl) ⟨Nat.le_of_ble_eq_true rfl, Nat.le_of_ble_eq_true rfl⟩ ⟨rfl, rfl⟩ ⟨Nat.le_of_ble_eq_true rfl, Nat.le_of_ble_eq_true rfl⟩ (fun xr13 xN14 μz xq15 => ?_)
              obtain ⟨rfl, rfl, hz1, hz2⟩ := xq15
              refine ap_Iinc (lv2 := [(0, .ref s), (1, .ref t), (2, am_i ((i : Int) + 1)), (3, am_i (us.getD i 0))]) dX4_build_98 rfl (by decide) rfl ?_
              refine ap_goto (tgt := 6) dX4_build_101 (by decide) ?_
              refine ap_pick (lv2 := [(0, .ref s), (1, .ref t), (2, am_i ((i : Int) + 1))]) [0, 1, 2] rfl ?_
              exact ih (i + 1) _ μz (by omega) (by omega) (by show Sco _ s (stp us i (sp us i)); rw [stp, if_neg c23, if_neg c36, if_neg c72, if_pos (by omega)]; exact hz1) (hf.trans (hz2)) (by omega)
          · refine ap_aload_n dX4_build_75 rfl rfl ?_
            refine ap_get ff_X4_35 dX4_build_76 (by omega) h1 rfl ?_
            refine ap_cV (As := []) (rest := []) (ct_sclose (s := s + 7) h7 (by omega) ⟨e3 c72, hok.2.2.2.2.2.1⟩) dX4_build_79 lk_X4_82 hy_X7_close rfl (by omega) h7.1 ⟨_, _, rfl⟩ (Nat.le_of_ble_eq_true rfl) ⟨Nat.le_of_ble_eq_true rfl, Nat.le_of_ble_eq_true rfl⟩ ⟨rfl, rfl⟩ ⟨Nat.le_of_ble_eq_true rfl, Nat.le_of_ble_eq_true rfl⟩ (fun xr16 xN17 μz xq18 => ?_)
            obtain ⟨rfl, rfl, hz1, hz2⟩ := xq18
            refine ap_goto (tgt := 98) dX4_build_82 (by decide) ?_
            refine ap_Iinc (lv2 := [(0, .ref s), (1, .ref t), (2, am_i ((i : Int) + 1)), (3, am_i (us.getD i 0))]) dX4_build_98 rfl (by decide) rfl ?_
            refine ap_goto (tgt := 6) dX4_build_101 (by decide) ?_
            refine ap_pick (lv2 := [(0, .ref s), (1, .ref t), (2, am_i ((i : Int) + 1))]) [0, 1, 2] rfl ?_
            exact ih (i + 1) _ μz (by omega) (by omega) (by show Sco _ s (stp us i (sp us i)); rw [stp, if_neg c23, if_neg c36, if_pos c72]; exact Sco.ts hS hz2 hz1) (hf.trans (hz2.mono (by omega) (by omega))) (by omega)
        · refine ap_aload_n dX4_build_39 rfl rfl ?_
          refine ap_get ff_X4_35 dX4_build_40 (by omega) h1 rfl ?_
          refine ap_aload_n dX4_build_43 rfl rfl ?_
          refine ap_iload_n dX4_build_44 rfl rfl ?_
          refine ap_iconst dX4_build_45 ?_
          refine ap_iadd dX4_build_46 ?_
          refine ap_cV (As := [am_i ((i : Int) + 1)]) (rest := [.ref (s + 7)]) (ct_at hT hN2 (by omega)) dX4_build_47 lk_X4_66 hy_X6_at rfl (by omega) t1 ⟨_, _, rfl⟩ (Nat.le_of_ble_eq_true rfl) ⟨Nat.le_of_ble_eq_true rfl, Nat.le_of_ble_eq_true rfl⟩ ⟨rfl, rfl⟩ ⟨Nat.le_of_ble_eq_true rfl, Nat.le_of_ble_eq_true rfl⟩ (fun xr19 xN20 μ21 xq22 => ?_)
          obtain ⟨rfl, rfl, rfl⟩ := xq22
          refine ap_cS (As := [am_i (tat us ((i : Int) + 1))]) (rest := [.ref (s + 7)]) (ct_digit (by have := tat_r t6 ((i : Int) + 1); omega)) dX4_build_50 lk_X4_73 hy_X1_digit rfl (Nat.le_of_ble_eq_true rfl) ⟨Nat.le_of_ble_eq_true rfl, Nat.le_of_ble_eq_true rfl⟩ ⟨rfl, rfl⟩ ⟨Nat.le_of_ble_eq_true rfl, Nat.le_of_ble_eq_true rfl⟩ (fun xr23 xN24 μ25 xq26 => ?_)
          obtain ⟨rfl, rfl, rfl⟩ := xq26
          refine ap_aload_n dX4_build_53 rfl rfl ?_
          refine ap_iload_n dX4_build_54 rfl rfl ?_
          refine ap_iconst dX4_build_55 ?_
          refine ap_iadd dX4_build_56 ?_
          refine ap_cV (As := [am_i ((i : Int) + 3)]) (rest := [am_i (dg (tat us ((i : Int) + 1))), .ref (s + 7)]) (ct_at hT hN2 (by omega)) dX4_build_57 lk_X4_66 hy_X6_at rfl (by omega) t1 ⟨_, _, rfl⟩ (Nat.le_of_ble_eq_true rfl) ⟨Nat.le_of_ble_eq_true rfl, Nat.le_of_ble_eq_true rfl⟩ ⟨rfl, rfl⟩ ⟨Nat.le_of_ble_eq_true rfl, Nat.le_of_ble_eq_true rfl⟩ (fun xr27 xN28 μ29 xq30 => ?_)
          obtain ⟨rfl, rfl, rfl⟩ := xq30
          refine ap_cS (As := [am_i (tat us ((i : Int) + 3))]) (rest := [am_i (dg (tat us ((i : Int) + 1))), .ref (s + 7)]) (ct_digit (by have := tat_r t6 ((i : Int) + 3); omega)) dX4_build_60 lk_X4_73 hy_X1_digit rfl (Nat.le_of_ble_eq_true rfl) ⟨Nat.le_of_ble_eq_true rfl, Nat.le_of_ble_eq_true rfl⟩ ⟨rfl, rfl⟩ ⟨Nat.le_of_ble_eq_true rfl, Nat.le_of_ble_eq_true rfl⟩ (fun xr31 xN32 μ33 xq34 => ?_)
          obtain ⟨rfl, rfl, rfl⟩ := xq34
          refine ap_cV (As := [am_i (dg (tat us ((i : Int) + 1))), am_i (dg (tat us ((i : Int) + 3)))]) (rest := []) (ct_sopen (s := s + 7) h7 (by omega) (dg_r _) (dg_r _) (e2 c36)) dX4_build_63 lk_X4_78 hy_X7_open rfl (by omega) h7.1 ⟨_, _, rfl⟩ (Nat.le_of_ble_eq_true rfl) ⟨Nat.le_of_ble_eq_true rfl, Nat.le_of_ble_eq_true rfl⟩ ⟨rfl, rfl⟩ ⟨Nat.le_of_ble_eq_true rfl, Nat.le_of_ble_eq_true rfl⟩ (fun xr35 xN36 μz xq37 => ?_)
          obtain ⟨rfl, rfl, hz1, hz2⟩ := xq37
          refine ap_goto (tgt := 98) dX4_build_66 (by decide) ?_
          refine ap_Iinc (lv2 := [(0, .ref s), (1, .ref t), (2, am_i ((i : Int) + 1)), (3, am_i (us.getD i 0))]) dX4_build_98 rfl (by decide) rfl ?_
          refine ap_goto (tgt := 6) dX4_build_101 (by decide) ?_
          refine ap_pick (lv2 := [(0, .ref s), (1, .ref t), (2, am_i ((i : Int) + 1))]) [0, 1, 2] rfl ?_
          exact ih (i + 1) _ μz (by omega) (by omega) (by show Sco _ s (stp us i (sp us i)); rw [stp, if_neg c23, if_pos c36]; exact Sco.ts hS hz2 hz1) (hf.trans (hz2.mono (by omega) (by omega))) (by omega)
      · refine ap_aload_n dX4_build_26 rfl rfl ?_
        refine ap_cV (As := []) (rest := []) (ct_beginBar hS hN hok (e1 c23)) dX4_build_27 lk_X4_70 hy_X4_beginBar rfl (by omega) h1 ⟨_, _, rfl⟩ (Nat.le_of_ble_eq_true rfl) ⟨Nat.le_of_ble_eq_true rfl, Nat.le_of_ble_eq_true rfl⟩ ⟨rfl, rfl⟩ ⟨Nat.le_of_ble_eq_true rfl, Nat.le_of_ble_eq_true rfl⟩ (fun xr38 xN39 μz xq40 => ?_)
        obtain ⟨rfl, rfl, hz1, hz2⟩ := xq40
        refine ap_goto (tgt := 98) dX4_build_30 (by decide) ?_
        refine ap_Iinc (lv2 := [(0, .ref s), (1, .ref t), (2, am_i ((i : Int) + 1)), (3, am_i (us.getD i 0))]) dX4_build_98 rfl (by decide) rfl ?_
        refine ap_goto (tgt := 6) dX4_build_101 (by decide) ?_
        refine ap_pick (lv2 := [(0, .ref s), (1, .ref t), (2, am_i ((i : Int) + 1))]) [0, 1, 2] rfl ?_
        exact ih (i + 1) _ μz (by omega) (by omega) (by show Sco _ s (stp us i (sp us i)); rw [stp, if_pos c23]; exact hz1) (hf.trans (hz2)) (by omega)

set_option maxHeartbeats 4000000 in
set_option maxRecDepth 100000 in
theorem ct_build {N s t cap : Nat} {μ : am_M} {us : List Int} {fb fe fn fm fa fl : Nat → Int} {zc zb zt zd : Int} {ts : List (Int × Int)} (hS : Sraw μ s fb fe fn fm fa fl zc zb zd zt ts) (hT : Tx μ t cap us) (hN : s + 9 < N) (hN2 : t + 1 < N) (hd : t + 2 ≤ s ∨ s + 10 ≤ t) (hb : bok us) : am_Met YX4_build [.ref s, .ref t] N μ (fun r N2 μ2 => r = none ∧ N = N2 ∧ Sco μ2 s (sp us us.length) ∧ am_fr s (s + 10) μ μ2) := by
  obtain ⟨h1, -⟩ := id hS
  obtain ⟨t1, -⟩ := id hT
  refine am_met (by first | decide | rfl) (Nat.le_of_ble_eq_true rfl) (fun h => by first | rfl | cases h) ?_
  show am_W YX4_build _ 0 0 0 [(0, .ref s), (1, .ref t)] [] _ _
  refine ap_aload_n dX4_build_0 rfl rfl ?_
  refine ap_cV (As := []) (rest := []) (ct_scstart hS hN) dX4_build_1 lk_X4_39 hy_X4_start rfl (by omega) h1 ⟨_, _, rfl⟩ (Nat.le_of_ble_eq_true rfl) ⟨Nat.le_of_ble_eq_true rfl, Nat.le_of_ble_eq_true rfl⟩ ⟨rfl, rfl⟩ ⟨Nat.le_of_ble_eq_true rfl, Nat.le_of_ble_eq_true rfl⟩ (fun xr1 xN2 μz xq3 => ?_)
  obtain ⟨rfl, rfl, hz1, hz2⟩ := xq3
  refine ap_iconst dX4_build_4 ?_
  refine ap_Istore_n (lv2 := [(0, .ref s), (1, .ref t), (2, am_i 0)]) dX4_build_5 rfl (by decide) rfl ?_
  exact am_mono (lp_build (hT.fr hz2 hd) hN hN2 hd hb (us.length + 1) 0 0 μz rfl (Nat.zero_le _) hz1 am_fr.rf (by omega)) (fun r N2 μ2 hq => ⟨hq.1, hq.2.1, hq.2.2.1, hz2.trans hq.2.2.2⟩)

set_option maxHeartbeats 4000000 in
set_option maxRecDepth 100000 in
theorem ct_Tup_init {μ : am_M} {s : Nat} (h1 : μ s = am_O 7 [.null, .null, am_i 0]) : am_Met YX7_init [.ref s] (s + 1) μ (fun r N2 μ2 => r = none ∧ N2 = s + 3 ∧ Sc7 μ2 s [] ∧ ∀ b, b < s → μ2 b = μ b) := by
  refine am_met (by first | decide | rfl) (Nat.le_of_ble_eq_true rfl) (fun h => by first | rfl | cases h) ?_
  show am_W YX7_init _ 0 0 0 [(0, .ref s)] [] _ _
  refine ap_aload_n dX7_init_0 rfl rfl ?_
  refine ap_obj dX7_init_1 lk_X7_1 ⟨Nat.le_of_ble_eq_true rfl, Nat.le_of_ble_eq_true rfl⟩ ?_
  refine ap_aload_n dX7_init_4 rfl rfl ?_
  refine ap_iconst dX7_init_5 ?_
  refine ap_newl (L := 3) dX7_init_6 ac_long (rfl) (by omega) (by decide) (by decide) (fun μ1 xe2 xf3 => ?_)
  have xm4 : μ1 s = am_O 7 [.null, .null, am_i 0] := (xf3 _ (by omega)).trans h1
  refine ap_putF (fs2 := [.ref (s + 1), .null, am_i 0]) ff_X7_9 fc_X7_0 dX7_init_8 (by omega) xm4 (fun _ => ⟨rfl, rfl⟩) (Nat.le_of_ble_eq_true rfl) rfl rfl (fun _ _ _ h => by cases h; rfl) (fun μ5 xe6 xf7 => ?_)
  refine ap_aload_n dX7_init_11 rfl rfl ?_
  refine ap_iconst dX7_init_12 ?_
  refine ap_newl (L := 3) dX7_init_13 ac_long (rfl) (by omega) (by decide) (by decide) (fun μ8 xe9 xf10 => ?_)
  have xm11 : μ8 s = am_O 7 [.ref (s + 1), .null, am_i 0] := (xf10 _ (by omega)).trans xe6
  refine ap_putF (fs2 := [.ref (s + 1), .ref (s + 2), am_i 0]) ff_X7_15 fc_X7_1 dX7_init_15 (by omega) xm11 (fun _ => ⟨rfl, rfl⟩) (Nat.le_of_ble_eq_true rfl) rfl rfl (fun _ _ _ h => by cases h; rfl) (fun μ12 xe13 xf14 => ?_)
  refine ap_aload_n dX7_init_18 rfl rfl ?_
  refine ap_get ff_X7_9 dX7_init_19 (by omega) xe13 rfl ?_
  refine ap_iconst dX7_init_22 ?_
  refine ap_lconst (v := 1) dX7_init_23 rfl ?_
  have xm15 : μ12 (s + 1) = am_L 3 (fun _ => 0) := (xf14 _ (by omega)).trans ((xf10 _ (by omega)).trans ((xf7 _ (by omega)).trans xe2))
  refine ap_last (j := 0) dX7_init_24 (by omega) xm15 (by omega) (by omega) (fun μ16 xe17 xf18 => ?_)
  refine ap_aload_n dX7_init_25 rfl rfl ?_
  have xm19 : μ16 s = am_O 7 [.ref (s + 1), .ref (s + 2), am_i 0] := (xf18 _ (by omega)).trans xe13
  refine ap_get ff_X7_15 dX7_init_26 (by omega) xm19 rfl ?_
  refine ap_iconst dX7_init_29 ?_
  refine ap_lconst (v := 1) dX7_init_30 rfl ?_
  have xm20 : μ16 (s + 2) = am_L 3 (fun _ => 0) := (xf18 _ (by omega)).trans ((xf14 _ (by omega)).trans xe9)
  refine ap_last (j := 0) dX7_init_31 (by omega) xm20 (by omega) (by omega) (fun μ21 xe22 xf23 => ?_)
  have xm24 : μ21 s = am_O 7 [.ref (s + 1), .ref (s + 2), am_i 0] := (xf23 _ (by omega)).trans xm19
  have xm25 : μ21 (s + 1) = am_L 3 (va_up (fun _ => 0) 0 1) := (xf23 _ (by omega)).trans xe17
  exact ap_vret dX7_init_32 rfl (Nat.le_of_ble_eq_true rfl) (Nat.le_of_ble_eq_true rfl) (⟨rfl, rfl, ⟨xm24, ⟨_, xm25, fun k hk => by simp at hk; subst hk; simp [va_up, pn]⟩, _, xe22, fun k hk => by simp at hk; subst hk; simp [va_up, pm]⟩, fun b hb => (xf23 b (by omega)).trans ((xf18 b (by omega)).trans ((xf14 b (by omega)).trans ((xf10 b (by omega)).trans ((xf7 b (by omega)).trans ((xf3 b (by omega)))))))⟩)

