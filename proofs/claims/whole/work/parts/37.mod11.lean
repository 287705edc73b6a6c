set_option maxHeartbeats 4000000 in
set_option maxRecDepth 100000 in
theorem lm_wrongBar {N : Nat} {μ : am_M} {C : Snap} {p : Nat} {P : PS} {zp zt zm zd ze zi zu zc zg : Int} {g fo fs fm fc bl be : Nat → Int} {Q : Option Value → Nat → am_M → Prop} (hM : μ 120 = mcl zp zt zm zd ze zi zu zc zg) (hV : μ 121 = am_I 0 420 g) (m1 : μ 126 = am_L 1200 fo) (m2 : μ 127 = am_L 1200 fs) (m6 : μ 131 = am_I 0 4 fm) (n1 : μ 133 = am_I 0 4 fc) (n2 : μ 134 = am_L 1200 bl) (n3 : μ 135 = am_I 3 1200 be) (hN : 141 ≤ N) (hp : p < 4) (hg : vrel g C) (hm : mrok (s_b C) (s_v C) (s_a C) (s_w C)) (hpk : pok P) (hfo : ∀ i, i < p_cnt P → fo (300 * p + i) = p_B P i ∧ fs (300 * p + i) = p_E P i - p_B P i) (m9 : fm p = (p_cnt P : Int)) (n4 : fc p = (p_nb P : Int)) (n5 : wbr P bl be) {R : Int} (hk9 : ∀ {r : Int}, r = R → Q (some (am_i r)) N μ) : ∀ (nn : Nat) (k : Nat) (z : Int), z = (k : Int) → k ≤ p_nb P → wbar P (mlen (s_b C) (s_v C)) k = R → p_nb P - k < nn → am_W YX10_wrongBar (Q) 0 0 16 [(0, .ref 120), (1, am_i (p : Int)), (2, am_i z)] [] N μ := by
  intro nn
  induction nn with
  | zero =>
    intro k z hz hk hR hw
    exfalso; omega
  | succ nn ih =>
    intro k z hz hk hR hw
    obtain ⟨g1, g2, g3, g4, g5, g6, g7, g8, g9⟩ := id hpk
    have hml := mlen_r hm.1 hm.2.1
    refine ap_iload_n dX10_wrongBar_16 rfl rfl ?_
    refine ap_aload_n dX10_wrongBar_17 rfl rfl ?_
    refine ap_get ff_X10_47 dX10_wrongBar_18 (by omega) hM rfl ?_
    refine ap_iload_n dX10_wrongBar_21 rfl rfl ?_
    refine ap_iald (j := p) dX10_wrongBar_22 (by omega) n1 (by omega) (by omega) ?_
    refine ap_topi (b := (p_nb P : Int)) (show (fc p) = (p_nb P : Int) from n4) ?_
    refine ap_icmp_ge (tgt := 79) dX10_wrongBar_23 (by decide) (by omega) (fun c23 => ?_) (fun c23 => ?_)
    · refine ap_bipush dX10_wrongBar_79 (by decide) ?_
      exact ap_iret dX10_wrongBar_81 rfl rfl (Nat.le_of_ble_eq_true rfl) (Nat.le_of_ble_eq_true rfl) (hk9 (by rw [wbar, if_neg (by omega)] at hR; rw [← hR]))
    · have hlt : k < p_nb P := by omega
      rw [wbar, if_pos hlt] at hR
      have h5 := n5 k hlt
      have r9 := g9 k hlt
      have hbe : be k = 0 ∨ be k = 1 := by rw [h5.2]; split <;> omega
      refine ap_iload_n dX10_wrongBar_26 rfl rfl ?_
      refine ap_aload_n dX10_wrongBar_27 rfl rfl ?_
      refine ap_get ff_X10_47 dX10_wrongBar_28 (by omega) hM rfl ?_
      refine ap_iload_n dX10_wrongBar_31 rfl rfl ?_
      refine ap_iald (j := p) dX10_wrongBar_32 (by omega) n1 (by omega) (by omega) ?_
      refine ap_topi (b := (p_nb P : Int)) (show (fc p) = (p_nb P : Int) from n4) ?_
      refine ap_iconst dX10_wrongBar_33 ?_
      refine ap_isub dX10_wrongBar_34 ?_
      refine ap_icmp_ne (tgt := 51) dX10_wrongBar_35 (by decide) (by omega) (fun c35 => ?_) (fun c35 => ?_)
      · refine ap_iconst dX10_wrongBar_51 ?_
        refine ap_Istore_n (lv2 := [(0, .ref 120), (1, am_i (p : Int)), (2, am_i z), (3, am_i 0)]) dX10_wrongBar_52 rfl (by decide) rfl ?_
        refine ap_aload_n dX10_wrongBar_53 rfl rfl ?_
        refine ap_get ff_X10_50 dX10_wrongBar_54 (by omega) hM rfl ?_
        refine ap_iload_n dX10_wrongBar_57 rfl rfl ?_
        refine ap_lald (j := k) dX10_wrongBar_58 (by omega) n2 (by omega) (by omega) ?_
        refine ap_topl (b := p_BL P k) (show (bl k) = (p_BL P k) from h5.1) ?_
        refine ap_aload_n dX10_wrongBar_59 rfl rfl ?_
        refine ap_cV (As := []) (rest := [am_l (p_BL P k)]) (cm_meter hM hV hN hg hm) dX10_wrongBar_60 lk_X10_201 hy_X10_meter rfl (by omega) hM ⟨_, _, rfl⟩ (Nat.le_of_ble_eq_true rfl) ⟨Nat.le_of_ble_eq_true rfl, Nat.le_of_ble_eq_true rfl⟩ ⟨rfl, rfl⟩ ⟨Nat.le_of_ble_eq_true rfl, Nat.le_of_ble_eq_true rfl⟩ (fun xr1 xN2 μ3 xq4 => ?_)
        obtain ⟨rfl, rfl, rfl⟩ := xq4
        refine ap_lcmp_eq (tgt := 73) dX10_wrongBar_63 dX10_wrongBar_64 (by decide) (⟨by omega, by omega⟩) (fun c63 => ?_) (fun c63 => ?_)
        · refine ap_Iinc (lv2 := [(0, .ref 120), (1, am_i (p : Int)), (2, am_i (z + 1)), (3, am_i 0)]) dX10_wrongBar_73 rfl (by decide) rfl ?_
          refine ap_goto (tgt := 16) dX10_wrongBar_76 (by decide) ?_
          refine ap_pick (lv2 := [(0, .ref 120), (1, am_i (p : Int)), (2, am_i (z + 1))]) [0, 1, 2] rfl ?_
          exact ih (k + 1) _ (by omega) (by omega) (by rw [if_neg (fun q => q.1 c63)] at hR; exact hR) (by omega)
        · refine ap_iload_n dX10_wrongBar_67 rfl rfl ?_
          refine ap_if_ne (tgt := 73) dX10_wrongBar_68 (by decide) (by omega) (fun c68 => (by exfalso; omega)) (fun c68 => ?_)
          refine ap_iload_n dX10_wrongBar_71 rfl rfl ?_
          exact ap_iret dX10_wrongBar_72 rfl rfl (Nat.le_of_ble_eq_true rfl) (Nat.le_of_ble_eq_true rfl) (hk9 (by rw [if_pos ⟨c63, fun q => c35 (by omega)⟩] at hR; rw [← hR, hz]))
      · refine ap_aload_n dX10_wrongBar_38 rfl rfl ?_
        refine ap_get ff_X10_53 dX10_wrongBar_39 (by omega) hM rfl ?_
        refine ap_iload_n dX10_wrongBar_42 rfl rfl ?_
        refine ap_zald (j := k) dX10_wrongBar_43 (by omega) n3 (by omega) (by omega) ?_
        refine ap_if_eq (tgt := 51) dX10_wrongBar_44 (by decide) (by omega) (fun c44 => ?_) (fun c44 => ?_)
        · refine ap_iconst dX10_wrongBar_51 ?_
          refine ap_Istore_n (lv2 := [(0, .ref 120), (1, am_i (p : Int)), (2, am_i z), (3, am_i 0)]) dX10_wrongBar_52 rfl (by decide) rfl ?_
          refine ap_aload_n dX10_wrongBar_53 rfl rfl ?_
          refine ap_get ff_X10_50 dX10_wrongBar_54 (by omega) hM rfl ?_
          refine ap_iload_n dX10_wrongBar_57 rfl rfl ?_
          refine ap_lald (j := k) dX10_wrongBar_58 (by omega) n2 (by omega) (by omega) ?_
          refine ap_topl (b := p_BL P k) (show (bl k) = (p_BL P k) from h5.1) ?_
          refine ap_aload_n dX10_wrongBar_59 rfl rfl ?_
          refine ap_cV (As := []) (rest := [am_l (p_BL P k)]) (cm_meter hM hV hN hg hm) dX10_wrongBar_60 lk_X10_201 hy_X10_meter rfl (by omega) hM ⟨_, _, rfl⟩ (Nat.le_of_ble_eq_true rfl) ⟨Nat.le_of_ble_eq_true rfl, Nat.le_of_ble_eq_true rfl⟩ ⟨rfl, rfl⟩ ⟨Nat.le_of_ble_eq_true rfl, Nat.le_of_ble_eq_true rfl⟩ (fun xr5 xN6 μ7 xq8 => ?_)
          obtain ⟨rfl, rfl, rfl⟩ := xq8
          refine ap_lcmp_eq (tgt := 73) dX10_wrongBar_63 dX10_wrongBar_64 (by decide) (⟨by omega, by omega⟩) (fun c63 => ?_) (fun c63 => ?_)
          · refine ap_Iinc (lv2 := [(0, .ref 120), (1, am_i (p : Int)), (2, am_i (z + 1)), (3, am_i 0)]) dX10_wrongBar_73 rfl (by decide) rfl ?_
            refine ap_goto (tgt := 16) dX10_wrongBar_76 (by decide) ?_
            refine ap_pick (lv2 := [(0, .ref 120), (1, am_i (p : Int)), (2, am_i (z + 1))]) [0, 1, 2] rfl ?_
            exact ih (k + 1) _ (by omega) (by omega) (by rw [if_neg (fun q => q.1 c63)] at hR; exact hR) (by omega)
          · refine ap_iload_n dX10_wrongBar_67 rfl rfl ?_
            refine ap_if_ne (tgt := 73) dX10_wrongBar_68 (by decide) (by omega) (fun c68 => (by exfalso; omega)) (fun c68 => ?_)
            refine ap_iload_n dX10_wrongBar_71 rfl rfl ?_
            exact ap_iret dX10_wrongBar_72 rfl rfl (Nat.le_of_ble_eq_true rfl) (Nat.le_of_ble_eq_true rfl) (hk9 (by rw [if_pos ⟨c63, fun q => by rw [h5.2, if_pos q.2] at c44; omega⟩] at hR; rw [← hR, hz]))
        · refine ap_iconst dX10_wrongBar_47 ?_
          refine ap_goto (tgt := 52) dX10_wrongBar_48 (by decide) ?_
          refine ap_Istore_n (lv2 := [(0, .ref 120), (1, am_i (p : Int)), (2, am_i z), (3, am_i 1)]) dX10_wrongBar_52 rfl (by decide) rfl ?_
          refine ap_aload_n dX10_wrongBar_53 rfl rfl ?_
          refine ap_get ff_X10_50 dX10_wrongBar_54 (by omega) hM rfl ?_
          refine ap_iload_n dX10_wrongBar_57 rfl rfl ?_
          refine ap_lald (j := k) dX10_wrongBar_58 (by omega) n2 (by omega) (by omega) ?_
          refine ap_topl (b := p_BL P k) (show (bl k) = (p_BL P k) from h5.1) ?_
          refine ap_aload_n dX10_wrongBar_59 rfl rfl ?_
          refine ap_cV (As := []) (rest := [am_l (p_BL P k)]) (cm_meter hM hV hN hg hm) dX10_wrongBar_60 lk_X10_201 hy_X10_meter rfl (by omega) hM ⟨_, _, rfl⟩ (Nat.le_of_ble_eq_true rfl) ⟨Nat.le_of_ble_eq_true rfl, Nat.le_of_ble_eq_true rfl⟩ ⟨rfl, rfl⟩ ⟨Nat.le_of_ble_eq_true rfl, Nat.le_of_ble_eq_true rfl⟩ (fun xr9 xN10 μ11 xq12 => ?_)
          obtain ⟨rfl, rfl, rfl⟩ := xq12
          refine ap_lcmp_eq (tgt := 73) dX10_wrongBar_63 dX10_wrongBar_64 (by decide) (⟨by omega, by omega⟩) (fun c63 => ?_) (fun c63 => ?_)
          · refine ap_Iinc (lv2 := [(0, .ref 120), (1, am_i (p : Int)), (2, am_i (z + 1)), (3, am_i 1)]) dX10_wrongBar_73 rfl (by decide) rfl ?_
            refine ap_goto (tgt := 16) dX10_wrongBar_76 (by decide) ?_
            refine ap_pick (lv2 := [(0, .ref 120), (1, am_i (p : Int)), (2, am_i (z + 1))]) [0, 1, 2] rfl ?_
            exact ih (k + 1) _ (by omega) (by omega) (by rw [if_neg (fun q => q.1 c63)] at hR; exact hR) (by omega)
          · refine ap_iload_n dX10_wrongBar_67 rfl rfl ?_
            refine ap_if_ne (tgt := 73) dX10_wrongBar_68 (by decide) (by omega) (fun c68 => ?_) (fun c68 => (by exfalso; omega))
            refine ap_Iinc (lv2 := [(0, .ref 120), (1, am_i (p : Int)), (2, am_i (z + 1)), (3, am_i 1)]) dX10_wrongBar_73 rfl (by decide) rfl ?_
            refine ap_goto (tgt := 16) dX10_wrongBar_76 (by decide) ?_
            refine ap_pick (lv2 := [(0, .ref 120), (1, am_i (p : Int)), (2, am_i (z + 1))]) [0, 1, 2] rfl ?_
            exact ih (k + 1) _ (by omega) (by omega) (by rw [if_neg (fun q => q.2 ⟨by omega, by
              by_cases h0 : p_BL P k = 0
              · exact h0
              · rw [h5.2, if_neg h0] at c44; omega⟩)] at hR; exact hR) (by omega)

set_option maxHeartbeats 4000000 in
set_option maxRecDepth 100000 in
theorem cy_wrongBar {N : Nat} {μ : am_M} {b : List Int} {C : Snap} {rem : Nat} {hs : Nat → Snap} (hX : Mx μ b C rem hs) (hN : 141 ≤ N) {p : Nat} (hp : p < 4) {P : PS} (hPe : psc (s_t C p) = P) : am_Met YX10_wrongBar [.ref 120, am_i (p : Int)] N μ (mq N μ (am_i (wbar P (mlen (s_b C) (s_v C)) 0)) b C rem hs) := by
  obtain ⟨⟨zm, zd, ze, zi, zu, zc, zg, hM⟩, ⟨g, hV, hv1⟩, ⟨h, hH, hh1⟩, ⟨tg, hT, ht1⟩, ⟨fi, hI⟩, hS, ⟨f8, h138⟩, ⟨f9, h139⟩, ⟨f0, h140⟩, hr5, hb1, hb2, hC, hhs⟩ := id hX
  have hpk := gtx_pok (hC.1 p hp)
  rw [hPe] at hpk
  obtain ⟨g1, g2, g3, g4, g5, g6, g7, g8, g9⟩ := id hpk
  obtain ⟨k1, k2, k3, k4⟩ := id hC.2
  refine am_met (by first | decide | rfl) (Nat.le_of_ble_eq_true rfl) (fun h => by first | rfl | cases h) ?_
  show am_W YX10_wrongBar _ 0 0 0 [(0, .ref 120), (1, am_i (p : Int))] [] _ _
  refine ap_iload_n dX10_wrongBar_0 rfl rfl ?_
  refine ap_cS (As := [am_i (p : Int)]) (rest := []) (cm_isPart (by omega)) dX10_wrongBar_1 lk_X10_163 hy_X10_isPart rfl (Nat.le_of_ble_eq_true rfl) ⟨Nat.le_of_ble_eq_true rfl, Nat.le_of_ble_eq_true rfl⟩ ⟨rfl, rfl⟩ ⟨Nat.le_of_ble_eq_true rfl, Nat.le_of_ble_eq_true rfl⟩ (fun xr1 xN2 μ3 xq4 => ?_)
  obtain ⟨rfl, rfl, rfl⟩ := xq4
  refine ap_topi (b := 1) (show (if 0 ≤ (p : Int) ∧ (p : Int) ≤ 3 then 1 else 0) = 1 from if_pos (by omega)) ?_
  refine ap_if_ne (tgt := 9) dX10_wrongBar_4 (by decide) (by omega) (fun c4 => ?_) (fun c4 => (by exfalso; omega))
  refine ap_aload_n dX10_wrongBar_9 rfl rfl ?_
  refine ap_iload_n dX10_wrongBar_10 rfl rfl ?_
  refine ap_cV (As := [am_i (p : Int)]) (rest := []) (cm_worksX hX hN hp) dX10_wrongBar_11 lk_X10_174 hy_X10_works rfl (by omega) hM ⟨_, _, rfl⟩ (Nat.le_of_ble_eq_true rfl) ⟨Nat.le_of_ble_eq_true rfl, Nat.le_of_ble_eq_true rfl⟩ ⟨rfl, rfl⟩ ⟨Nat.le_of_ble_eq_true rfl, Nat.le_of_ble_eq_true rfl⟩ (fun xr5 xN6 μw xq7 => ?_)
  obtain ⟨rfl, rfl, hY, hWd, hBd, hK, hF⟩ := xq7
  rw [hPe] at hWd hBd
  obtain ⟨⟨ym, yd, ye, yi, yu, yc, yg, hM2⟩, ⟨g2_, hV2, hv2⟩, -⟩ := id hY
  obtain ⟨fo, fs, fa, fb, fn, fm, fl, ⟨m1, m2, m3, m4, m5, m6, m7⟩, m8, m9, m10, m11⟩ := id hWd
  obtain ⟨fc, bl, be, ⟨n1, n2, n3⟩, n4, n5⟩ := id hBd
  refine ap_iconst dX10_wrongBar_14 ?_
  refine ap_Istore_n (lv2 := [(0, .ref 120), (1, am_i (p : Int)), (2, am_i 0)]) dX10_wrongBar_15 rfl (by decide) rfl ?_
  exact lm_wrongBar hM2 hV2 m1 m2 m6 n1 n2 n3 hN hp hv2 hC.2 hpk (fun i hi => ⟨(m8 i hi).1, (m8 i hi).2.1⟩) m9 n4 n5 (fun hr => ⟨by rw [hr], rfl, hY, fun x hx => hF x (by omega)⟩) (p_nb P + 1) 0 _ rfl (by omega) rfl (by omega)

set_option maxHeartbeats 4000000 in
set_option maxRecDepth 100000 in
theorem lm_sync {N : Nat} {μ : am_M} {C : Snap} {p : Nat} {P : PS} {zp zt zm zd ze zi zu zc zg : Int} {g fo fs fm fc bl be : Nat → Int} {Q : Option Value → Nat → am_M → Prop} (hM : μ 120 = mcl zp zt zm zd ze zi zu zc zg) (hV : μ 121 = am_I 0 420 g) (m1 : μ 126 = am_L 1200 fo) (m2 : μ 127 = am_L 1200 fs) (m6 : μ 131 = am_I 0 4 fm) (n1 : μ 133 = am_I 0 4 fc) (n2 : μ 134 = am_L 1200 bl) (n3 : μ 135 = am_I 3 1200 be) (hN : 141 ≤ N) (hp : p < 4) (hg : vrel g C) (hm : mrok (s_b C) (s_v C) (s_a C) (s_w C)) (hpk : pok P) (hfo : ∀ i, i < p_cnt P → fo (300 * p + i) = p_B P i ∧ fs (300 * p + i) = p_E P i - p_B P i) (m9 : fm p = (p_cnt P : Int)) (n4 : fc p = (p_nb P : Int)) (n5 : wbr P bl be) (hk9 : ∀ {r : Int}, r = ssum P (mlen (s_b C) (s_v C)) (p_cnt P) → Q (some (am_i r)) N μ) : ∀ (nn : Nat) (k : Nat) (z : Int) (zs : Int), z = (k : Int) → k ≤ p_cnt P → zs = ssum P (mlen (s_b C) (s_v C)) k → p_cnt P - k < nn → am_W YX10_syncopation (Q) 0 0 18 [(0, .ref 120), (1, am_i (p : Int)), (2, am_i zs), (3, am_i z)] [] N μ := by
  intro nn
  induction nn with
  | zero =>
    intro k z zs hz hk hs2 hw
    exfalso; omega
  | succ nn ih =>
    intro k z zs hz hk hs2 hw
    obtain ⟨g1, g2, g3, g4, g5, g6, g7, g8, g9⟩ := id hpk
    have hml := mlen_r hm.1 hm.2.1
    refine ap_iload_n dX10_syncopation_18 rfl rfl ?_
    refine ap_aload_n dX10_syncopation_19 rfl rfl ?_
    refine ap_get ff_X10_41 dX10_syncopation_20 (by omega) hM rfl ?_
    refine ap_iload_n dX10_syncopation_23 rfl rfl ?_
    refine ap_iald (j := p) dX10_syncopation_24 (by omega) m6 (by omega) (by omega) ?_
    refine ap_topi (b := (p_cnt P : Int)) (show (fm p) = (p_cnt P : Int) from m9) ?_
    refine ap_icmp_ge (tgt := 48) dX10_syncopation_25 (by decide) (by omega) (fun c25 => ?_) (fun c25 => ?_)
    · refine ap_iload_n dX10_syncopation_48 rfl rfl ?_
      exact ap_iret dX10_syncopation_49 rfl rfl (Nat.le_of_ble_eq_true rfl) (Nat.le_of_ble_eq_true rfl) (hk9 (by rw [hs2, show k = p_cnt P by omega]))
    · have hlt : k < p_cnt P := by omega
      have r8 := g8 k hlt
      have h8 := hfo k hlt
      refine ap_iload_n dX10_syncopation_28 rfl rfl ?_
      refine ap_aload_n dX10_syncopation_29 rfl rfl ?_
      refine ap_sipush dX10_syncopation_30 (by decide) ?_
      refine ap_iload_n dX10_syncopation_33 rfl rfl ?_
      refine ap_imul dX10_syncopation_34 ?_
      refine ap_iload_n dX10_syncopation_35 rfl rfl ?_
      refine ap_iadd dX10_syncopation_36 ?_
      refine ap_cV (As := [am_i ((300 * (p : Int)) + z)]) (rest := [am_i zs]) (cm_synOf (j := 300 * p + k) hM hV hN hg hm m1 m2 (by omega) h8.1 h8.2 (by omega) (by omega)) dX10_syncopation_37 lk_X10_209 hy_X10_syncopationOf rfl (by omega) hM ⟨_, _, rfl⟩ (Nat.le_of_ble_eq_true rfl) ⟨Nat.le_of_ble_eq_true rfl, Nat.le_of_ble_eq_true rfl⟩ ⟨rfl, rfl⟩ ⟨Nat.le_of_ble_eq_true rfl, Nat.le_of_ble_eq_true rfl⟩ (fun xr1 xN2 μ3 xq4 => ?_)
      obtain ⟨rfl, rfl, rfl⟩ := xq4
      refine ap_iadd dX10_syncopation_40 ?_
      refine ap_Istore_n (lv2 := [(0, .ref 120), (1, am_i (p : Int)), (2, am_i (zs + (syn (p_B P k) (p_E P k) (mlen (s_b C) (s_v C))))), (3, am_i z)]) dX10_syncopation_41 rfl (by decide) rfl ?_
      refine ap_Iinc (lv2 := [(0, .ref 120), (1, am_i (p : Int)), (2, am_i (zs + (syn (p_B P k) (p_E P k) (mlen (s_b C) (s_v C))))), (3, am_i (z + 1))]) dX10_syncopation_42 rfl (by decide) rfl ?_
      refine ap_goto (tgt := 18) dX10_syncopation_45 (by decide) ?_
      exact ih (k + 1) _ _ (by omega) (by omega) (by rw [hs2]; rfl) (by omega)

set_option maxHeartbeats 4000000 in
set_option maxRecDepth 100000 in
theorem cy_syncopation {N : Nat} {μ : am_M} {b : List Int} {C : Snap} {rem : Nat} {hs : Nat → Snap} (hX : Mx μ b C rem hs) (hN : 141 ≤ N) {p : Nat} (hp : p < 4) {P : PS} (hPe : psc (s_t C p) = P) : am_Met YX10_syncopation [.ref 120, am_i (p : Int)] N μ (mq N μ (am_i (ssum P (mlen (s_b C) (s_v C)) (p_cnt P))) b C rem hs) := by
  obtain ⟨⟨zm, zd, ze, zi, zu, zc, zg, hM⟩, ⟨g, hV, hv1⟩, ⟨h, hH, hh1⟩, ⟨tg, hT, ht1⟩, ⟨fi, hI⟩, hS, ⟨f8, h138⟩, ⟨f9, h139⟩, ⟨f0, h140⟩, hr5, hb1, hb2, hC, hhs⟩ := id hX
  have hpk := gtx_pok (hC.1 p hp)
  rw [hPe] at hpk
  obtain ⟨g1, g2, g3, g4, g5, g6, g7, g8, g9⟩ := id hpk
  obtain ⟨k1, k2, k3, k4⟩ := id hC.2
  refine am_met (by first | decide | rfl) (Nat.le_of_ble_eq_true rfl) (fun h => by first | rfl | cases h) ?_
  show am_W YX10_syncopation _ 0 0 0 [(0, .ref 120), (1, am_i (p : Int))] [] _ _
  refine ap_iload_n dX10_syncopation_0 rfl rfl ?_
  refine ap_cS (As := [am_i (p : Int)]) (rest := []) (cm_isPart (by omega)) dX10_syncopation_1 lk_X10_163 hy_X10_isPart rfl (Nat.le_of_ble_eq_true rfl) ⟨Nat.le_of_ble_eq_true rfl, Nat.le_of_ble_eq_true rfl⟩ ⟨rfl, rfl⟩ ⟨Nat.le_of_ble_eq_true rfl, Nat.le_of_ble_eq_true rfl⟩ (fun xr1 xN2 μ3 xq4 => ?_)
  obtain ⟨rfl, rfl, rfl⟩ := xq4
  refine ap_topi (b := 1) (show (if 0 ≤ (p : Int) ∧ (p : Int) ≤ 3 then 1 else 0) = 1 from if_pos (by omega)) ?_
  refine ap_if_ne (tgt := 9) dX10_syncopation_4 (by decide) (by omega) (fun c4 => ?_) (fun c4 => (by exfalso; omega))
  refine ap_aload_n dX10_syncopation_9 rfl rfl ?_
  refine ap_iload_n dX10_syncopation_10 rfl rfl ?_
  refine ap_cV (As := [am_i (p : Int)]) (rest := []) (cm_worksX hX hN hp) dX10_syncopation_11 lk_X10_174 hy_X10_works rfl (by omega) hM ⟨_, _, rfl⟩ (Nat.le_of_ble_eq_true rfl) ⟨Nat.le_of_ble_eq_true rfl, Nat.le_of_ble_eq_true rfl⟩ ⟨rfl, rfl⟩ ⟨Nat.le_of_ble_eq_true rfl, Nat.le_of_ble_eq_true rfl⟩ (fun xr5 xN6 μw xq7 => ?_)
  obtain ⟨rfl, rfl, hY, hWd, hBd, hK, hF⟩ := xq7
  rw [hPe] at hWd hBd
  obtain ⟨⟨ym, yd, ye, yi, yu, yc, yg, hM2⟩, ⟨g2_, hV2, hv2⟩, -⟩ := id hY
  obtain ⟨fo, fs, fa, fb, fn, fm, fl, ⟨m1, m2, m3, m4, m5, m6, m7⟩, m8, m9, m10, m11⟩ := id hWd
  obtain ⟨fc, bl, be, ⟨n1, n2, n3⟩, n4, n5⟩ := id hBd
  refine ap_iconst dX10_syncopation_14 ?_
  refine ap_Istore_n (lv2 := [(0, .ref 120), (1, am_i (p : Int)), (2, am_i 0)]) dX10_syncopation_15 rfl (by decide) rfl ?_
  refine ap_iconst dX10_syncopation_16 ?_
  refine ap_Istore_n (lv2 := [(0, .ref 120), (1, am_i (p : Int)), (2, am_i 0), (3, am_i 0)]) dX10_syncopation_17 rfl (by decide) rfl ?_
  exact lm_sync hM2 hV2 m1 m2 m6 n1 n2 n3 hN hp hv2 hC.2 hpk (fun i hi => ⟨(m8 i hi).1, (m8 i hi).2.1⟩) m9 n4 n5 (fun hr => ⟨by rw [hr], rfl, hY, fun x hx => hF x (by omega)⟩) (p_cnt P + 1) 0 _ _ rfl (by omega) rfl (by omega)

set_option maxHeartbeats 4000000 in
set_option maxRecDepth 100000 in
theorem cy_offGridB {N : Nat} {μ : am_M} {b : List Int} {C : Snap} {rem : Nat} {hs : Nat → Snap} (hX : Mx μ b C rem hs) (hN : 141 ≤ N) {p : Nat} (hp : p < 4) {P : PS} (hPe : psc (s_t C p) = P) {gr : Int} (hgr : -2147483648 ≤ gr ∧ gr ≤ 2147483647) (hn : ¬ (1 ≤ gr ∧ gr ≤ 1000)) : am_Met YX10_offGrid [.ref 120, am_i (p : Int), am_i gr] N μ (mq N μ (am_i (-1)) b C rem hs) := by
  obtain ⟨⟨zm, zd, ze, zi, zu, zc, zg, hM⟩, ⟨g, hV, hv1⟩, ⟨h, hH, hh1⟩, ⟨tg, hT, ht1⟩, ⟨fi, hI⟩, hS, ⟨f8, h138⟩, ⟨f9, h139⟩, ⟨f0, h140⟩, hr5, hb1, hb2, hC, hhs⟩ := id hX
  refine am_met (by first | decide | rfl) (Nat.le_of_ble_eq_true rfl) (fun h => by first | rfl | cases h) ?_
  show am_W YX10_offGrid _ 0 0 0 [(0, .ref 120), (1, am_i (p : Int)), (2, am_i gr)] [] _ _
  refine ap_iload_n dX10_offGrid_0 rfl rfl ?_
  refine ap_cS (As := [am_i (p : Int)]) (rest := []) (cm_isPart (by omega)) dX10_offGrid_1 lk_X10_163 hy_X10_isPart rfl (Nat.le_of_ble_eq_true rfl) ⟨Nat.le_of_ble_eq_true rfl, Nat.le_of_ble_eq_true rfl⟩ ⟨rfl, rfl⟩ ⟨Nat.le_of_ble_eq_true rfl, Nat.le_of_ble_eq_true rfl⟩ (fun xr1 xN2 μ3 xq4 => ?_)
  obtain ⟨rfl, rfl, rfl⟩ := xq4
  refine ap_topi (b := 1) (show (if 0 ≤ (p : Int) ∧ (p : Int) ≤ 3 then 1 else 0) = 1 from if_pos (by omega)) ?_
  refine ap_if_eq (tgt := 18) dX10_offGrid_4 (by decide) (by omega) (fun c4 => (by exfalso; omega)) (fun c4 => ?_)
  refine ap_iload_n dX10_offGrid_7 rfl rfl ?_
  refine ap_iconst dX10_offGrid_8 ?_
  refine ap_sipush dX10_offGrid_9 (by decide) ?_
  refine ap_cS (As := [am_i gr, am_i 1, am_i 1000]) (rest := []) (cm_in hgr (by omega) (by omega)) dX10_offGrid_12 lk_X10_76 hy_X10_in rfl (Nat.le_of_ble_eq_true rfl) ⟨Nat.le_of_ble_eq_true rfl, Nat.le_of_ble_eq_true rfl⟩ ⟨rfl, rfl⟩ ⟨Nat.le_of_ble_eq_true rfl, Nat.le_of_ble_eq_true rfl⟩ (fun xr5 xN6 μ7 xq8 => ?_)
  obtain ⟨rfl, rfl, rfl⟩ := xq8
  refine ap_topi (b := 0) (show (if 1 ≤ gr ∧ gr ≤ 1000 then 1 else 0) = 0 from if_neg hn) ?_
  refine ap_if_ne (tgt := 20) dX10_offGrid_15 (by decide) (by omega) (fun c15 => (by exfalso; omega)) (fun c15 => ?_)
  refine ap_iconst dX10_offGrid_18 ?_
  exact ap_iret dX10_offGrid_19 rfl rfl (Nat.le_of_ble_eq_true rfl) (Nat.le_of_ble_eq_true rfl) (⟨rfl, rfl, hX, fun x hx => rfl⟩)

set_option maxHeartbeats 4000000 in
set_option maxRecDepth 100000 in
theorem lm_off {N : Nat} {μ : am_M} {C : Snap} {p : Nat} {P : PS} {zp zt zm zd ze zi zu zc zg : Int} {g fo fs fm fc bl be : Nat → Int} {Q : Option Value → Nat → am_M → Prop} (hM : μ 120 = mcl zp zt zm zd ze zi zu zc zg) (hV : μ 121 = am_I 0 420 g) (m1 : μ 126 = am_L 1200 fo) (m2 : μ 127 = am_L 1200 fs) (m6 : μ 131 = am_I 0 4 fm) (n1 : μ 133 = am_I 0 4 fc) (n2 : μ 134 = am_L 1200 bl) (n3 : μ 135 = am_I 3 1200 be) (hN : 141 ≤ N) (hp : p < 4) (hg : vrel g C) (hm : mrok (s_b C) (s_v C) (s_a C) (s_w C)) (hpk : pok P) (hfo : ∀ i, i < p_cnt P → fo (300 * p + i) = p_B P i ∧ fs (300 * p + i) = p_E P i - p_B P i) (m9 : fm p = (p_cnt P : Int)) (n4 : fc p = (p_nb P : Int)) (n5 : wbr P bl be) {gr : Int} (hgr : 1 ≤ gr ∧ gr ≤ 1000) (hk9 : ∀ {r : Int}, r = offg P gr (p_cnt P) → Q (some (am_i r)) N μ) : ∀ (nn : Nat) (k : Nat) (z : Int) (zs : Int), z = (k : Int) → k ≤ p_cnt P → zs = offg P gr k → p_cnt P - k < nn → am_W YX10_offGrid (Q) 0 0 30 [(0, .ref 120), (1, am_i (p : Int)), (2, am_i gr), (3, am_i zs), (4, am_i z)] [] N μ := by
  intro nn
  induction nn with
  | zero =>
    intro k z zs hz hk hs2 hw
    exfalso; omega
  | succ nn ih =>
    intro k z zs hz hk hs2 hw
    obtain ⟨g1, g2, g3, g4, g5, g6, g7, g8, g9⟩ := id hpk
    have hml := mlen_r hm.1 hm.2.1
    refine ap_iload dX10_offGrid_30 rfl ?_
    refine ap_aload_n dX10_offGrid_32 rfl rfl ?_
    refine ap_get ff_X10_41 dX10_offGrid_33 (by omega) hM rfl ?_
    refine ap_iload_n dX10_offGrid_36 rfl rfl ?_
    refine ap_iald (j := p) dX10_offGrid_37 (by omega) m6 (by omega) (by omega) ?_
    refine ap_topi (b := (p_cnt P : Int)) (show (fm p) = (p_cnt P : Int) from m9) ?_
    refine ap_icmp_ge (tgt := 80) dX10_offGrid_38 (by decide) (by omega) (fun c38 => ?_) (fun c38 => ?_)
    · refine ap_iload_n dX10_offGrid_80 rfl rfl ?_
      exact ap_iret dX10_offGrid_81 rfl rfl (Nat.le_of_ble_eq_true rfl) (Nat.le_of_ble_eq_true rfl) (hk9 (by rw [hs2, show k = p_cnt P by omega]))
    · have hlt : k < p_cnt P := by omega
      have r8 := g8 k hlt
      have h8 := hfo k hlt
      have q1 : 0 ≤ p_B P k * gr := Int.mul_nonneg (by omega) (by omega)
      have q2 : p_B P k * gr ≤ 140000000000000 * 1000 := Int.mul_le_mul (by omega) hgr.2 (by omega) (by omega)
      refine ap_iload_n dX10_offGrid_41 rfl rfl ?_
      refine ap_aload_n dX10_offGrid_42 rfl rfl ?_
      refine ap_get ff_X10_25 dX10_offGrid_43 (by omega) hM rfl ?_
      refine ap_sipush dX10_offGrid_46 (by decide) ?_
      refine ap_iload_n dX10_offGrid_49 rfl rfl ?_
      refine ap_imul dX10_offGrid_50 ?_
      refine ap_iload dX10_offGrid_51 rfl ?_
      refine ap_iadd dX10_offGrid_53 ?_
      refine ap_lald (j := 300 * p + k) dX10_offGrid_54 (by omega) m1 (by omega) (by omega) ?_
      refine ap_topl (b := p_B P k) (show (fo (300 * p + k)) = (p_B P k) from h8.1) ?_
      refine ap_iload_n dX10_offGrid_55 rfl rfl ?_
      refine ap_i2l dX10_offGrid_56 (by omega) ?_
      refine ap_lmul dX10_offGrid_57 ?_
      refine ap_ldc2 dX10_offGrid_58 kl_X10_138 ?_
      refine ap_lrem dX10_offGrid_61 (⟨by omega, by omega⟩) ?_
      refine ap_lconst (v := 0) dX10_offGrid_62 rfl ?_
      refine ap_lcmp_ne (tgt := 71) dX10_offGrid_63 dX10_offGrid_64 (by decide) (⟨by omega, by omega⟩) (fun c63 => ?_) (fun c63 => ?_)
      · refine ap_iconst dX10_offGrid_71 ?_
        refine ap_iadd dX10_offGrid_72 ?_
        refine ap_Istore_n (lv2 := [(0, .ref 120), (1, am_i (p : Int)), (2, am_i gr), (3, am_i (zs + 1)), (4, am_i z)]) dX10_offGrid_73 rfl (by decide) rfl ?_
        refine ap_Iinc (lv2 := [(0, .ref 120), (1, am_i (p : Int)), (2, am_i gr), (3, am_i (zs + 1)), (4, am_i (z + 1))]) dX10_offGrid_74 rfl (by decide) rfl ?_
        refine ap_goto (tgt := 30) dX10_offGrid_77 (by decide) ?_
        exact ih (k + 1) _ _ (by omega) (by omega) (by rw [hs2]; show _ = offg P gr k + _; rw [if_neg c63]) (by omega)
      · refine ap_iconst dX10_offGrid_67 ?_
        refine ap_goto (tgt := 72) dX10_offGrid_68 (by decide) ?_
        refine ap_iadd dX10_offGrid_72 ?_
        refine ap_Istore_n (lv2 := [(0, .ref 120), (1, am_i (p : Int)), (2, am_i gr), (3, am_i (zs + 0)), (4, am_i z)]) dX10_offGrid_73 rfl (by decide) rfl ?_
        refine ap_Iinc (lv2 := [(0, .ref 120), (1, am_i (p : Int)), (2, am_i gr), (3, am_i (zs + 0)), (4, am_i (z + 1))]) dX10_offGrid_74 rfl (by decide) rfl ?_
        refine ap_goto (tgt := 30) dX10_offGrid_77 (by decide) ?_
        exact ih (k + 1) _ _ (by omega) (by omega) (by rw [hs2]; show _ = offg P gr k + _; rw [if_pos c63]) (by omega)

set_option maxHeartbeats 4000000 in
set_option maxRecDepth 100000 in
theorem cy_offGrid {N : Nat} {μ : am_M} {b : List Int} {C : Snap} {rem : Nat} {hs : Nat → Snap} (hX : Mx μ b C rem hs) (hN : 141 ≤ N) {p : Nat} (hp : p < 4) {P : PS} (hPe : psc (s_t C p) = P) {gr : Int} (hgr : 1 ≤ gr ∧ gr ≤ 1000) : am_Met YX10_offGrid [.ref 120, am_i (p : Int), am_i gr] N μ (mq N μ (am_i (offg P gr (p_cnt P))) b C rem hs) := by
  obtain ⟨⟨zm, zd, ze, zi, zu, zc, zg, hM⟩, ⟨g, hV, hv1⟩, ⟨h, hH, hh1⟩, ⟨tg, hT, ht1⟩, ⟨fi, hI⟩, hS, ⟨f8, h138⟩, ⟨f9, h139⟩, ⟨f0, h140⟩, hr5, hb1, hb2, hC, hhs⟩ := id hX
  have hpk := gtx_pok (hC.1 p hp)
  rw [hPe] at hpk
  obtain ⟨g1, g2, g3, g4, g5, g6, g7, g8, g9⟩ := id hpk
  obtain ⟨k1, k2, k3, k4⟩ := id hC.2
  refine am_met (by first | decide | rfl) (Nat.le_of_ble_eq_true rfl) (fun h => by first | rfl | cases h) ?_
  show am_W YX10_offGrid _ 0 0 0 [(0, .ref 120), (1, am_i (p : Int)), (2, am_i gr)] [] _ _
  refine ap_iload_n dX10_offGrid_0 rfl rfl ?_
  refine ap_cS (As := [am_i (p : Int)]) (rest := []) (cm_isPart (by omega)) dX10_offGrid_1 lk_X10_163 hy_X10_isPart rfl (Nat.le_of_ble_eq_true rfl) ⟨Nat.le_of_ble_eq_true rfl, Nat.le_of_ble_eq_true rfl⟩ ⟨rfl, rfl⟩ ⟨Nat.le_of_ble_eq_true rfl, Nat.le_of_ble_eq_true rfl⟩ (fun xr1 xN2 μ3 xq4 => ?_)
  obtain ⟨rfl, rfl, rfl⟩ := xq4
  refine ap_topi (b := 1) (show (if 0 ≤ (p : Int) ∧ (p : Int) ≤ 3 then 1 else 0) = 1 from if_pos (by omega)) ?_
  refine ap_if_eq (tgt := 18) dX10_offGrid_4 (by decide) (by omega) (fun c4 => (by exfalso; omega)) (fun c4 => ?_)
  refine ap_iload_n dX10_offGrid_7 rfl rfl ?_
  refine ap_iconst dX10_offGrid_8 ?_
  refine ap_sipush dX10_offGrid_9 (by decide) ?_
  refine ap_cS (As := [am_i gr, am_i 1, am_i 1000]) (rest := []) (cm_in (by omega) (by omega) (by omega)) dX10_offGrid_12 lk_X10_76 hy_X10_in rfl (Nat.le_of_ble_eq_true rfl) ⟨Nat.le_of_ble_eq_true rfl, Nat.le_of_ble_eq_true rfl⟩ ⟨rfl, rfl⟩ ⟨Nat.le_of_ble_eq_true rfl, Nat.le_of_ble_eq_true rfl⟩ (fun xr5 xN6 μ7 xq8 => ?_)
  obtain ⟨rfl, rfl, rfl⟩ := xq8
  refine ap_topi (b := 1) (show (if 1 ≤ gr ∧ gr ≤ 1000 then 1 else 0) = 1 from if_pos hgr) ?_
  refine ap_if_ne (tgt := 20) dX10_offGrid_15 (by decide) (by omega) (fun c15 => ?_) (fun c15 => (by exfalso; omega))
  refine ap_aload_n dX10_offGrid_20 rfl rfl ?_
  refine ap_iload_n dX10_offGrid_21 rfl rfl ?_
  refine ap_cV (As := [am_i (p : Int)]) (rest := []) (cm_worksX hX hN hp) dX10_offGrid_22 lk_X10_174 hy_X10_works rfl (by omega) hM ⟨_, _, rfl⟩ (Nat.le_of_ble_eq_true rfl) ⟨Nat.le_of_ble_eq_true rfl, Nat.le_of_ble_eq_true rfl⟩ ⟨rfl, rfl⟩ ⟨Nat.le_of_ble_eq_true rfl, Nat.le_of_ble_eq_true rfl⟩ (fun xr9 xN10 μw xq11 => ?_)
  obtain ⟨rfl, rfl, hY, hWd, hBd, hK, hF⟩ := xq11
  rw [hPe] at hWd hBd
  obtain ⟨⟨ym, yd, ye, yi, yu, yc, yg, hM2⟩, ⟨g2_, hV2, hv2⟩, -⟩ := id hY
  obtain ⟨fo, fs, fa, fb, fn, fm, fl, ⟨m1, m2, m3, m4, m5, m6, m7⟩, m8, m9, m10, m11⟩ := id hWd
  obtain ⟨fc, bl, be, ⟨n1, n2, n3⟩, n4, n5⟩ := id hBd
  refine ap_iconst dX10_offGrid_25 ?_
  refine ap_Istore_n (lv2 := [(0, .ref 120), (1, am_i (p : Int)), (2, am_i gr), (3, am_i 0)]) dX10_offGrid_26 rfl (by decide) rfl ?_
  refine ap_iconst dX10_offGrid_27 ?_
  refine ap_Istore (lv2 := [(0, .ref 120), (1, am_i (p : Int)), (2, am_i gr), (3, am_i 0), (4, am_i 0)]) dX10_offGrid_28 (by decide) rfl ?_
  exact lm_off hM2 hV2 m1 m2 m6 n1 n2 n3 hN hp hv2 hC.2 hpk (fun i hi => ⟨(m8 i hi).1, (m8 i hi).2.1⟩) m9 n4 n5 hgr (fun hr => ⟨by rw [hr], rfl, hY, fun x hx => hF x (by omega)⟩) (p_cnt P + 1) 0 _ _ rfl (by omega) rfl (by omega)

theorem lcm_div {W g h : Nat} (hW : 0 < W) (hg : g ∣ W) (hh : h ∣ W) : W / g / Nat.gcd (W / g) (W / h) * (W / h) = W / Nat.gcd g h := by
  have hg0 : 0 < g := Nat.pos_of_dvd_of_pos hg hW
  have hh0 : 0 < h := Nat.pos_of_dvd_of_pos hh hW
  have hk0 : 0 < Nat.gcd g h := Nat.gcd_pos_of_pos_left _ hg0
  obtain ⟨A, hA⟩ := hg
  obtain ⟨B, hB⟩ := hh
  have eA : W / g = A := by rw [hA, Nat.mul_div_cancel_left _ hg0]
  have eB : W / h = B := by rw [hB, Nat.mul_div_cancel_left _ hh0]
  rw [eA, eB]
  obtain ⟨g1, hg1⟩ := Nat.gcd_dvd_left g h
  obtain ⟨h1, hh1⟩ := Nat.gcd_dvd_right g h
  have hco : Nat.gcd g1 h1 = 1 := by
    have hq : Nat.gcd g h = Nat.gcd g h * Nat.gcd g1 h1 := by
      have q := Nat.gcd_mul_left (Nat.gcd g h) g1 h1
      rw [← hg1, ← hh1] at q
      exact q
    have : Nat.gcd g h * Nat.gcd g1 h1 = Nat.gcd g h * 1 := by rw [← hq, Nat.mul_one]
    exact Nat.eq_of_mul_eq_mul_left hk0 this
  generalize Nat.gcd g h = k at *
  have e1 : g1 * A = h1 * B := by
    have : k * (g1 * A) = k * (h1 * B) := by rw [← Nat.mul_assoc, ← hg1, ← Nat.mul_assoc, ← hh1, ← hA, ← hB]
    exact Nat.eq_of_mul_eq_mul_left hk0 this
  have hd : h1 ∣ A := (Nat.Coprime.symm hco).dvd_of_dvd_mul_left ⟨B, e1⟩
  obtain ⟨c, hc⟩ := hd
  have h10 : 0 < h1 := by
    rcases Nat.eq_zero_or_pos h1 with q | q
    · rw [q, Nat.mul_zero] at hh1; omega
    · exact q
  have e2 : B = g1 * c := by
    have : h1 * B = h1 * (g1 * c) := by rw [← e1, hc]; ac_rfl
    exact Nat.eq_of_mul_eq_mul_left h10 this
  have hA0 : 0 < A := by
    rcases Nat.eq_zero_or_pos A with q | q
    · rw [q, Nat.mul_zero] at hA; omega
    · exact q
  have hc0 : 0 < c := by
    rcases Nat.eq_zero_or_pos c with q | q
    · rw [q, Nat.mul_zero] at hc; omega
    · exact q
  have e3 : Nat.gcd A B = c := by
    rw [hc, e2, Nat.gcd_mul_right, Nat.gcd_comm, hco, Nat.one_mul]
  rw [e3]
  have e4 : A / c = h1 := by rw [hc, Nat.mul_div_cancel _ hc0]
  rw [e4, e2]
  have e5 : W = k * (g1 * A) := by rw [← Nat.mul_assoc, ← hg1]; exact hA
  rw [e5, Nat.mul_div_cancel_left _ hk0, hc]
  ac_rfl
theorem lgr_W (P : PS) : ∀ i, lgr P i ∣ 812851200 := by
  intro i
  induction i with
  | zero => exact Nat.dvd_refl _
  | succ i ih => exact Nat.dvd_trans (Nat.gcd_dvd_left _ _) ih
theorem gcd_in {g B W : Nat} (h : g ∣ W) : Nat.gcd g (Nat.gcd B W) = Nat.gcd g B := by
  rw [← Nat.gcd_assoc]
  exact Nat.gcd_eq_left (Nat.dvd_trans (Nat.gcd_dvd_left _ _) h)
set_option maxHeartbeats 4000000 in
set_option maxRecDepth 100000 in
theorem lm_least {N : Nat} {μ : am_M} {C : Snap} {p : Nat} {P : PS} {zp zt zm zd ze zi zu zc zg : Int} {g fo fs fm fc bl be : Nat → Int} {Q : Option Value → Nat → am_M → Prop} (hM : μ 120 = mcl zp zt zm zd ze zi zu zc zg) (hV : μ 121 = am_I 0 420 g) (m1 : μ 126 = am_L 1200 fo) (m2 : μ 127 = am_L 1200 fs) (m6 : μ 131 = am_I 0 4 fm) (n1 : μ 133 = am_I 0 4 fc) (n2 : μ 134 = am_L 1200 bl) (n3 : μ 135 = am_I 3 1200 be) (hN : 141 ≤ N) (hp : p < 4) (hg : vrel g C) (hm : mrok (s_b C) (s_v C) (s_a C) (s_w C)) (hpk : pok P) (hfo : ∀ i, i < p_cnt P → fo (300 * p + i) = p_B P i ∧ fs (300 * p + i) = p_E P i - p_B P i) (m9 : fm p = (p_cnt P : Int)) (n4 : fc p = (p_nb P : Int)) (n5 : wbr P bl be) (hk9 : ∀ {r : Int}, r = q_least P → Q (some (am_i r)) N μ) : ∀ (nn : Nat) (k : Nat) (z : Int) (zs : Int), z = (k : Int) → k ≤ p_cnt P → zs = ((812851200 / lgr P k : Nat) : Int) → p_cnt P - k < nn → am_W YX10_leastGrid (Q) 0 0 19 [(0, .ref 120), (1, am_i (p : Int)), (2, am_l zs), (4, am_i z)] [] N μ := by
  intro nn
  induction nn with
  | zero =>
    intro k z zs hz hk hs2 hw
    exfalso; omega
  | succ nn ih =>
    intro k z zs hz hk hs2 hw
    obtain ⟨g1, g2, g3, g4, g5, g6, g7, g8, g9⟩ := id hpk
    have hml := mlen_r hm.1 hm.2.1
    refine ap_iload dX10_leastGrid_19 rfl ?_
    refine ap_aload_n dX10_leastGrid_21 rfl rfl ?_
    refine ap_get ff_X10_41 dX10_leastGrid_22 (by omega) hM rfl ?_
    refine ap_iload_n dX10_leastGrid_25 rfl rfl ?_
    refine ap_iald (j := p) dX10_leastGrid_26 (by omega) m6 (by omega) (by omega) ?_
    refine ap_topi (b := (p_cnt P : Int)) (show (fm p) = (p_cnt P : Int) from m9) ?_
    refine ap_icmp_ge (tgt := 70) dX10_leastGrid_27 (by decide) (by omega) (fun c27 => ?_) (fun c27 => ?_)
    · have hke : k = p_cnt P := by omega
      rw [hke] at hs2
      have hz9 : 812851200 / lgr P (p_cnt P) ≤ 812851200 := Nat.div_le_self _ _
      generalize hgq : 812851200 / lgr P (p_cnt P) = gq at hs2 hz9
      refine ap_lload_n dX10_leastGrid_70 rfl rfl ?_
      refine ap_ldc2 dX10_leastGrid_71 kl_X10_212 ?_
      refine ap_lcmp_gt (tgt := 83) dX10_leastGrid_74 dX10_leastGrid_75 (by decide) (⟨by omega, by omega⟩) (fun c74 => ?_) (fun c74 => ?_)
      · refine ap_bipush dX10_leastGrid_83 (by decide) ?_
        exact ap_iret dX10_leastGrid_85 rfl rfl (Nat.le_of_ble_eq_true rfl) (Nat.le_of_ble_eq_true rfl) (hk9 (by rw [q_least, hgq, if_neg (by omega)]))
      · refine ap_lload_n dX10_leastGrid_78 rfl rfl ?_
        refine ap_l2i dX10_leastGrid_79 ?_
        refine ap_goto (tgt := 85) dX10_leastGrid_80 (by decide) ?_
        exact ap_iret dX10_leastGrid_85 rfl rfl (Nat.le_of_ble_eq_true rfl) (Nat.le_of_ble_eq_true rfl) (hk9 (by rw [q_least, hgq, if_pos (by omega), hs2]))
    · have hlt : k < p_cnt P := by omega
      have r8 := g8 k hlt
      have h8 := hfo k hlt
      have hlw := lgr_W P k
      have hd1 : Nat.gcd (p_B P k).toNat 812851200 ∣ 812851200 := Nat.gcd_dvd_right _ _
      have hstep := lcm_div (W := 812851200) (by decide) hlw hd1
      rw [gcd_in hlw] at hstep
      have ha1 : 812851200 / lgr P k ≤ 812851200 := Nat.div_le_self _ _
      have ha2 : 812851200 / Nat.gcd (p_B P k).toNat 812851200 ≤ 812851200 := Nat.div_le_self _ _
      have ha3 : 812851200 / Nat.gcd (lgr P k) (p_B P k).toNat ≤ 812851200 := Nat.div_le_self _ _
      have ha0 : 0 < 812851200 / lgr P k := Nat.div_pos (Nat.le_of_dvd (by decide) hlw) (Nat.pos_of_dvd_of_pos hlw (by decide))
      have hnx : lgr P (k + 1) = Nat.gcd (lgr P k) (p_B P k).toNat := rfl
      refine ap_aload_n dX10_leastGrid_30 rfl rfl ?_
      refine ap_get ff_X10_25 dX10_leastGrid_31 (by omega) hM rfl ?_
      refine ap_sipush dX10_leastGrid_34 (by decide) ?_
      refine ap_iload_n dX10_leastGrid_37 rfl rfl ?_
      refine ap_imul dX10_leastGrid_38 ?_
      refine ap_iload dX10_leastGrid_39 rfl ?_
      refine ap_iadd dX10_leastGrid_41 ?_
      refine ap_lald (j := 300 * p + k) dX10_leastGrid_42 (by omega) m1 (by omega) (by omega) ?_
      refine ap_topl (b := p_B P k) (show (fo (300 * p + k)) = (p_B P k) from h8.1) ?_
      refine ap_topl (b := (((p_B P k).toNat : Nat) : Int)) (show (p_B P k) = (((p_B P k).toNat : Nat) : Int) from by omega) ?_
      refine ap_ldc2 dX10_leastGrid_43 kl_X10_138 ?_
      refine ap_iconst dX10_leastGrid_46 ?_
      refine ap_cS (As := [am_l (((p_B P k).toNat : Nat) : Int), am_l 812851200, am_i 1]) (rest := []) (cm_told (x := (p_B P k).toNat) (d := 812851200) (w := 1) rfl rfl (by omega) (by omega) (by omega)) dX10_leastGrid_47 lk_X10_186 hy_X10_told rfl (Nat.le_of_ble_eq_true rfl) ⟨Nat.le_of_ble_eq_true rfl, Nat.le_of_ble_eq_true rfl⟩ ⟨rfl, rfl⟩ ⟨Nat.le_of_ble_eq_true rfl, Nat.le_of_ble_eq_true rfl⟩ (fun xr1 xN2 μ3 xq4 => ?_)
      obtain ⟨rfl, rfl, rfl⟩ := xq4
      refine ap_topl (b := ((812851200 / Nat.gcd (p_B P k).toNat 812851200 : Nat) : Int)) (show (sd (p_B P k).toNat 812851200 1) = ((812851200 / Nat.gcd (p_B P k).toNat 812851200 : Nat) : Int) from by rw [sd, if_neg (by decide)]) ?_
      generalize hone : 812851200 / Nat.gcd (p_B P k).toNat 812851200 = one at hstep ha2 ⊢
      generalize hgd : 812851200 / lgr P k = gd at hstep ha1 ha0 hs2 ⊢
      have hgp : 0 < Nat.gcd gd one := Nat.gcd_pos_of_pos_left _ ha0
      have hgl : Nat.gcd gd one ≤ gd := Nat.gcd_le_left _ ha0
      have hqq : gd / Nat.gcd gd one ≤ gd := Nat.div_le_self _ _
      refine ap_Lstore (lv2 := [(0, .ref 120), (1, am_i (p : Int)), (2, am_l zs), (4, am_i z), (5, am_l ((one : Nat) : Int))]) dX10_leastGrid_50 (by decide) rfl ?_
      refine ap_lload_n dX10_leastGrid_52 rfl rfl ?_
      refine ap_lload_n dX10_leastGrid_53 rfl rfl ?_
      refine ap_lload dX10_leastGrid_54 rfl ?_
      refine ap_cS (As := [am_l zs, am_l ((one : Nat) : Int)]) (rest := [am_l zs]) (cm_divisor (a := gd) (b := one) hs2 rfl (by omega) (by omega)) dX10_leastGrid_56 lk_X10_180 hy_X10_divisor rfl (Nat.le_of_ble_eq_true rfl) ⟨Nat.le_of_ble_eq_true rfl, Nat.le_of_ble_eq_true rfl⟩ ⟨rfl, rfl⟩ ⟨Nat.le_of_ble_eq_true rfl, Nat.le_of_ble_eq_true rfl⟩ (fun xr5 xN6 μ7 xq8 => ?_)
      obtain ⟨rfl, rfl, rfl⟩ := xq8
      refine ap_ldiv dX10_leastGrid_59 (⟨by omega, by omega⟩) ?_
      refine ap_lload dX10_leastGrid_60 rfl ?_
      refine ap_lmul dX10_leastGrid_62 ?_
      refine ap_topl (b := ((812851200 / lgr P (k + 1) : Nat) : Int)) (show ((zs / ((Nat.gcd gd one : Nat) : Int)) * ((one : Nat) : Int)) = ((812851200 / lgr P (k + 1) : Nat) : Int) from by rw [hnx, ← hstep, hs2, ← Int.natCast_ediv, ← Int.natCast_mul]) ?_
      refine ap_Lstore_n (lv2 := [(0, .ref 120), (1, am_i (p : Int)), (2, am_l ((812851200 / lgr P (k + 1) : Nat) : Int)), (4, am_i z), (5, am_l ((one : Nat) : Int))]) dX10_leastGrid_63 rfl (by decide) rfl ?_
      refine ap_Iinc (lv2 := [(0, .ref 120), (1, am_i (p : Int)), (2, am_l ((812851200 / lgr P (k + 1) : Nat) : Int)), (4, am_i (z + 1)), (5, am_l ((one : Nat) : Int))]) dX10_leastGrid_64 rfl (by decide) rfl ?_
      refine ap_goto (tgt := 19) dX10_leastGrid_67 (by decide) ?_
      refine ap_pick (lv2 := [(0, .ref 120), (1, am_i (p : Int)), (2, am_l ((812851200 / lgr P (k + 1) : Nat) : Int)), (4, am_i (z + 1))]) [0, 1, 2, 3] rfl ?_
      exact ih (k + 1) _ _ (by omega) (by omega) rfl (by omega)

set_option maxHeartbeats 4000000 in
set_option maxRecDepth 100000 in
theorem cy_leastGrid {N : Nat} {μ : am_M} {b : List Int} {C : Snap} {rem : Nat} {hs : Nat → Snap} (hX : Mx μ b C rem hs) (hN : 141 ≤ N) {p : Nat} (hp : p < 4) {P : PS} (hPe : psc (s_t C p) = P) : am_Met YX10_leastGrid [.ref 120, am_i (p : Int)] N μ (mq N μ (am_i (q_least P)) b C rem hs) := by
  obtain ⟨⟨zm, zd, ze, zi, zu, zc, zg, hM⟩, ⟨g, hV, hv1⟩, ⟨h, hH, hh1⟩, ⟨tg, hT, ht1⟩, ⟨fi, hI⟩, hS, ⟨f8, h138⟩, ⟨f9, h139⟩, ⟨f0, h140⟩, hr5, hb1, hb2, hC, hhs⟩ := id hX
  have hpk := gtx_pok (hC.1 p hp)
  rw [hPe] at hpk
  obtain ⟨g1, g2, g3, g4, g5, g6, g7, g8, g9⟩ := id hpk
  obtain ⟨k1, k2, k3, k4⟩ := id hC.2
  refine am_met (by first | decide | rfl) (Nat.le_of_ble_eq_true rfl) (fun h => by first | rfl | cases h) ?_
  show am_W YX10_leastGrid _ 0 0 0 [(0, .ref 120), (1, am_i (p : Int))] [] _ _
  refine ap_iload_n dX10_leastGrid_0 rfl rfl ?_
  refine ap_cS (As := [am_i (p : Int)]) (rest := []) (cm_isPart (by omega)) dX10_leastGrid_1 lk_X10_163 hy_X10_isPart rfl (Nat.le_of_ble_eq_true rfl) ⟨Nat.le_of_ble_eq_true rfl, Nat.le_of_ble_eq_true rfl⟩ ⟨rfl, rfl⟩ ⟨Nat.le_of_ble_eq_true rfl, Nat.le_of_ble_eq_true rfl⟩ (fun xr1 xN2 μ3 xq4 => ?_)
  obtain ⟨rfl, rfl, rfl⟩ := xq4
  refine ap_topi (b := 1) (show (if 0 ≤ (p : Int) ∧ (p : Int) ≤ 3 then 1 else 0) = 1 from if_pos (by omega)) ?_
  refine ap_if_ne (tgt := 9) dX10_leastGrid_4 (by decide) (by omega) (fun c4 => ?_) (fun c4 => (by exfalso; omega))
  refine ap_aload_n dX10_leastGrid_9 rfl rfl ?_
  refine ap_iload_n dX10_leastGrid_10 rfl rfl ?_
  refine ap_cV (As := [am_i (p : Int)]) (rest := []) (cm_worksX hX hN hp) dX10_leastGrid_11 lk_X10_174 hy_X10_works rfl (by omega) hM ⟨_, _, rfl⟩ (Nat.le_of_ble_eq_true rfl) ⟨Nat.le_of_ble_eq_true rfl, Nat.le_of_ble_eq_true rfl⟩ ⟨rfl, rfl⟩ ⟨Nat.le_of_ble_eq_true rfl, Nat.le_of_ble_eq_true rfl⟩ (fun xr5 xN6 μw xq7 => ?_)
  obtain ⟨rfl, rfl, hY, hWd, hBd, hK, hF⟩ := xq7
  rw [hPe] at hWd hBd
  obtain ⟨⟨ym, yd, ye, yi, yu, yc, yg, hM2⟩, ⟨g2_, hV2, hv2⟩, -⟩ := id hY
  obtain ⟨fo, fs, fa, fb, fn, fm, fl, ⟨m1, m2, m3, m4, m5, m6, m7⟩, m8, m9, m10, m11⟩ := id hWd
  obtain ⟨fc, bl, be, ⟨n1, n2, n3⟩, n4, n5⟩ := id hBd
  refine ap_lconst (v := 1) dX10_leastGrid_14 rfl ?_
  refine ap_Lstore_n (lv2 := [(0, .ref 120), (1, am_i (p : Int)), (2, am_l 1)]) dX10_leastGrid_15 rfl (by decide) rfl ?_
  refine ap_iconst dX10_leastGrid_16 ?_
  refine ap_Istore (lv2 := [(0, .ref 120), (1, am_i (p : Int)), (2, am_l 1), (4, am_i 0)]) dX10_leastGrid_17 (by decide) rfl ?_
  exact lm_least hM2 hV2 m1 m2 m6 n1 n2 n3 hN hp hv2 hC.2 hpk (fun i hi => ⟨(m8 i hi).1, (m8 i hi).2.1⟩) m9 n4 n5 (fun hr => ⟨by rw [hr], rfl, hY, fun x hx => hF x (by omega)⟩) (p_cnt P + 1) 0 _ _ rfl (by omega) (by show (1 : Int) = ((812851200 / 812851200 : Nat) : Int); decide) (by omega)

set_option maxHeartbeats 4000000 in
set_option maxRecDepth 100000 in
theorem lm_fp1 {N : Nat} {μ : am_M} {C : Snap} {zp zt zm zd ze zi zu zc zg : Int} {g : Nat → Int} {Q : Option Value → Nat → am_M → Prop} (hM : μ 120 = mcl zp zt zm zd ze zi zu zc zg) (hV : μ 121 = am_I 0 420 g) (hN : 141 ≤ N) (hg : vrel g C) {p : Nat} (hp : p < 4) {h0 : Int} (hk9 : ∀ z4 : Int, am_W YX10_fingerprint Q 0 0 73 [(0, .ref 120), (1, am_l (fpt h0 (s_t C p) (s_t C p).length)), (3, am_i (p : Int)), (4, am_i z4)] [] N μ) : ∀ (nn : Nat) (k : Nat) (z : Int) (zh : Int), z = (k : Int) → k ≤ (s_t C p).length → zh = fpt h0 (s_t C p) k → (s_t C p).length - k < nn → am_W YX10_fingerprint (Q) 0 0 31 [(0, .ref 120), (1, am_l zh), (3, am_i (p : Int)), (4, am_i z)] [] N μ := by
  intro nn
  induction nn with
  | zero =>
    intro k z zh hz hk hh hw
    exfalso; omega
  | succ nn ih =>
    intro k z zh hz hk hh hw
    have hvx := hg.1 p hp
    have hvl := hvx.2.2.1
    refine ap_iload dX10_fingerprint_31 rfl ?_
    refine ap_aload_n dX10_fingerprint_33 rfl rfl ?_
    refine ap_get ff_X10_7 dX10_fingerprint_34 (by omega) hM rfl ?_
    refine ap_bipush dX10_fingerprint_37 (by decide) ?_
    refine ap_iload_n dX10_fingerprint_39 rfl rfl ?_
    refine ap_imul dX10_fingerprint_40 ?_
    refine ap_iald (j := 101 * p) dX10_fingerprint_41 (by omega) hV (by omega) (by omega) ?_
    refine ap_topi (b := ((s_t C p).length : Int)) (show (g (101 * p)) = ((s_t C p).length : Int) from hvx.1) ?_
    refine ap_icmp_ge (tgt := 73) dX10_fingerprint_42 (by decide) (by omega) (fun c42 => ?_) (fun c42 => ?_)
    · have hke : k = (s_t C p).length := by omega
      rw [hh, hke]
      exact hk9 _
    · have hlt : k < (s_t C p).length := by omega
      have hcr := hvx.2.2.2 _ (am_gd hlt)
      refine ap_ldc2 dX10_fingerprint_45 kl_X10_235 ?_
      refine ap_lload_n dX10_fingerprint_48 rfl rfl ?_
      refine ap_lmul dX10_fingerprint_49 ?_
      refine ap_aload_n dX10_fingerprint_50 rfl rfl ?_
      refine ap_get ff_X10_7 dX10_fingerprint_51 (by omega) hM rfl ?_
      refine ap_bipush dX10_fingerprint_54 (by decide) ?_
      refine ap_iload_n dX10_fingerprint_56 rfl rfl ?_
      refine ap_imul dX10_fingerprint_57 ?_
      refine ap_iconst dX10_fingerprint_58 ?_
      refine ap_iadd dX10_fingerprint_59 ?_
      refine ap_iload dX10_fingerprint_60 rfl ?_
      refine ap_iadd dX10_fingerprint_62 ?_
      refine ap_iald (j := 101 * p + 1 + k) dX10_fingerprint_63 (by omega) hV (by omega) (by omega) ?_
      refine ap_topi (b := (s_t C p).getD k 0) (show (g (101 * p + 1 + k)) = ((s_t C p).getD k 0) from hvx.2.1 k hlt) ?_
      refine ap_i2l dX10_fingerprint_64 (by omega) ?_
      refine ap_ladd dX10_fingerprint_65 ?_
      refine ap_Lstore_n (lv2 := [(0, .ref 120), (1, am_l ((31 * zh) + ((s_t C p).getD k 0))), (3, am_i (p : Int)), (4, am_i z)]) dX10_fingerprint_66 rfl (by decide) rfl ?_
      refine ap_Iinc (lv2 := [(0, .ref 120), (1, am_l ((31 * zh) + ((s_t C p).getD k 0))), (3, am_i (p : Int)), (4, am_i (z + 1))]) dX10_fingerprint_67 rfl (by decide) rfl ?_
      refine ap_goto (tgt := 31) dX10_fingerprint_70 (by decide) ?_
      exact ih (k + 1) _ _ (by omega) (by omega) (by rw [hh]; rfl) (by omega)

set_option maxHeartbeats 4000000 in
set_option maxRecDepth 100000 in
theorem lm_fp {N : Nat} {μ : am_M} {C : Snap} {zp zt zm zd ze zi zu zc zg : Int} {g : Nat → Int} {Q : Option Value → Nat → am_M → Prop} (hM : μ 120 = mcl zp zt zm zd ze zi zu zc zg) (hV : μ 121 = am_I 0 420 g) (hN : 141 ≤ N) (hg : vrel g C) (hm : mrok (s_b C) (s_v C) (s_a C) (s_w C)) (hk9 : ∀ {r : Int}, r = q_fp C → Q (some (am_l r)) N μ) : ∀ (nn : Nat) (p : Nat) (z : Int) (zh : Int), z = (p : Int) → p ≤ 4 → zh = fpp (s_t C) p → 4 - p < nn → am_W YX10_fingerprint (Q) 0 0 6 [(0, .ref 120), (1, am_l zh), (3, am_i z)] [] N μ := by
  intro nn
  induction nn with
  | zero =>
    intro p z zh hz hp4 hh hw
    exfalso; omega
  | succ nn ih =>
    intro p z zh hz hp4 hh hw
    obtain ⟨k1, k2, k3, k4⟩ := id hm
    refine ap_iload_n dX10_fingerprint_6 rfl rfl ?_
    refine ap_iconst dX10_fingerprint_7 ?_
    refine ap_icmp_ge (tgt := 79) dX10_fingerprint_8 (by decide) (by omega) (fun c8 => ?_) (fun c8 => ?_)
    · have hpe : p = 4 := by omega
      rw [hpe] at hh
      refine ap_sipush dX10_fingerprint_79 (by decide) ?_
      refine ap_Istore_n (lv2 := [(0, .ref 120), (1, am_l zh), (3, am_i 404)]) dX10_fingerprint_82 rfl (by decide) rfl ?_
      refine ap_iload_n dX10_fingerprint_83 rfl rfl ?_
      refine ap_sipush dX10_fingerprint_84 (by decide) ?_
      refine ap_icmp_gt (tgt := 110) dX10_fingerprint_87 (by decide) (by omega) (fun c87 => (by exfalso; omega)) (fun c87 => ?_)
      refine ap_ldc2 dX10_fingerprint_90 kl_X10_235 ?_
      refine ap_lload_n dX10_fingerprint_93 rfl rfl ?_
      refine ap_lmul dX10_fingerprint_94 ?_
      refine ap_aload_n dX10_fingerprint_95 rfl rfl ?_
      refine ap_get ff_X10_7 dX10_fingerprint_96 (by omega) hM rfl ?_
      refine ap_iload_n dX10_fingerprint_99 rfl rfl ?_
      refine ap_iald (j := 404) dX10_fingerprint_100 (by omega) hV (by omega) (by omega) ?_
      refine ap_topi (b := s_b C) (show (g 404) = (s_b C) from hg.2.1) ?_
      refine ap_i2l dX10_fingerprint_101 (by omega) ?_
      refine ap_ladd dX10_fingerprint_102 ?_
      refine ap_Lstore_n (lv2 := [(0, .ref 120), (1, am_l ((31 * zh) + (s_b C))), (3, am_i 404)]) dX10_fingerprint_103 rfl (by decide) rfl ?_
      refine ap_Iinc (lv2 := [(0, .ref 120), (1, am_l ((31 * zh) + (s_b C))), (3, am_i (404 + 1))]) dX10_fingerprint_104 rfl (by decide) rfl ?_
      refine ap_goto (tgt := 83) dX10_fingerprint_107 (by decide) ?_
      refine ap_iload_n dX10_fingerprint_83 rfl rfl ?_
      refine ap_sipush dX10_fingerprint_84 (by decide) ?_
      refine ap_icmp_gt (tgt := 110) dX10_fingerprint_87 (by decide) (by omega) (fun c87 => (by exfalso; omega)) (fun c87 => ?_)
      refine ap_ldc2 dX10_fingerprint_90 kl_X10_235 ?_
      refine ap_lload_n dX10_fingerprint_93 rfl rfl ?_
      refine ap_lmul dX10_fingerprint_94 ?_
      refine ap_aload_n dX10_fingerprint_95 rfl rfl ?_
      refine ap_get ff_X10_7 dX10_fingerprint_96 (by omega) hM rfl ?_
      refine ap_iload_n dX10_fingerprint_99 rfl rfl ?_
      refine ap_iald (j := 405) dX10_fingerprint_100 (by omega) hV (by omega) (by omega) ?_
      refine ap_topi (b := s_v C) (show (g 405) = (s_v C) from hg.2.2.1) ?_
      refine ap_i2l dX10_fingerprint_101 (by omega) ?_
      refine ap_ladd dX10_fingerprint_102 ?_
      refine ap_Lstore_n (lv2 := [(0, .ref 120), (1, am_l ((31 * ((31 * zh) + (s_b C))) + (s_v C))), (3, am_i (404 + 1))]) dX10_fingerprint_103 rfl (by decide) rfl ?_
      refine ap_Iinc (lv2 := [(0, .ref 120), (1, am_l ((31 * ((31 * zh) + (s_b C))) + (s_v C))), (3, am_i ((404 + 1) + 1))]) dX10_fingerprint_104 rfl (by decide) rfl ?_
      refine ap_goto (tgt := 83) dX10_fingerprint_107 (by decide) ?_
      refine ap_iload_n dX10_fingerprint_83 rfl rfl ?_
      refine ap_sipush dX10_fingerprint_84 (by decide) ?_
      refine ap_icmp_gt (tgt := 110) dX10_fingerprint_87 (by decide) (by omega) (fun c87 => (by exfalso; omega)) (fun c87 => ?_)
      refine ap_ldc2 dX10_fingerprint_90 kl_X10_235 ?_
      refine ap_lload_n dX10_fingerprint_93 rfl rfl ?_
      refine ap_lmul dX10_fingerprint_94 ?_
      refine ap_aload_n dX10_fingerprint_95 rfl rfl ?_
      refine ap_get ff_X10_7 dX10_fingerprint_96 (by omega) hM rfl ?_
      refine ap_iload_n dX10_fingerprint_99 rfl rfl ?_
      refine ap_iald (j := 406) dX10_fingerprint_100 (by omega) hV (by omega) (by omega) ?_
      refine ap_topi (b := s_a C) (show (g 406) = (s_a C) from hg.2.2.2.1) ?_
      refine ap_i2l dX10_fingerprint_101 (by omega) ?_
      refine ap_ladd dX10_fingerprint_102 ?_
      refine ap_Lstore_n (lv2 := [(0, .ref 120), (1, am_l ((31 * ((31 * ((31 * zh) + (s_b C))) + (s_v C))) + (s_a C))), (3, am_i ((404 + 1) + 1))]) dX10_fingerprint_103 rfl (by decide) rfl ?_
      refine ap_Iinc (lv2 := [(0, .ref 120), (1, am_l ((31 * ((31 * ((31 * zh) + (s_b C))) + (s_v C))) + (s_a C))), (3, am_i (((404 + 1) + 1) + 1))]) dX10_fingerprint_104 rfl (by decide) rfl ?_
      refine ap_goto (tgt := 83) dX10_fingerprint_107 (by decide) ?_
      refine ap_iload_n dX10_fingerprint_83 rfl rfl ?_
      refine ap_sipush dX10_fingerprint_84 (by decide) ?_
      refine ap_icmp_gt (tgt := 110) dX10_fingerprint_87 (by decide) (by omega) (fun c87 => (by exfalso; omega)) (fun c87 => ?_)
      refine ap_ldc2 dX10_fingerprint_90 kl_X10_235 ?_
      refine ap_lload_n dX10_fingerprint_93 rfl rfl ?_
      refine ap_lmul dX10_fingerprint_94 ?_
      refine ap_aload_n dX10_fingerprint_95 rfl rfl ?_
      refine ap_get ff_X10_7 dX10_fingerprint_96 (by omega) hM rfl ?_
      refine ap_iload_n dX10_fingerprint_99 rfl rfl ?_
      refine ap_iald (j := 407) dX10_fingerprint_100 (by omega) hV (by omega) (by omega) ?_
      refine ap_topi (b := s_w C) (show (g 407) = (s_w C) from hg.2.2.2.2) ?_
      refine ap_i2l dX10_fingerprint_101 (by omega) ?_
      refine ap_ladd dX10_fingerprint_102 ?_
      refine ap_Lstore_n (lv2 := [(0, .ref 120), (1, am_l ((31 * ((31 * ((31 * ((31 * zh) + (s_b C))) + (s_v C))) + (s_a C))) + (s_w C))), (3, am_i (((404 + 1) + 1) + 1))]) dX10_fingerprint_103 rfl (by decide) rfl ?_
      refine ap_Iinc (lv2 := [(0, .ref 120), (1, am_l ((31 * ((31 * ((31 * ((31 * zh) + (s_b C))) + (s_v C))) + (s_a C))) + (s_w C))), (3, am_i ((((404 + 1) + 1) + 1) + 1))]) dX10_fingerprint_104 rfl (by decide) rfl ?_
      refine ap_goto (tgt := 83) dX10_fingerprint_107 (by decide) ?_
      refine ap_iload_n dX10_fingerprint_83 rfl rfl ?_
      refine ap_sipush dX10_fingerprint_84 (by decide) ?_
      refine ap_icmp_gt (tgt := 110) dX10_fingerprint_87 (by decide) (by omega) (fun c87 => ?_) (fun c87 => (by exfalso; omega))
      refine ap_lload_n dX10_fingerprint_110 rfl rfl ?_
      exact ap_lret dX10_fingerprint_111 rfl (Nat.le_of_ble_eq_true rfl) (Nat.le_of_ble_eq_true rfl) (hk9 (by rw [hh]; rfl))
    · have hp : p < 4 := by omega
      have hvx := hg.1 p hp
      have hvl := hvx.2.2.1
      subst hz
      refine ap_ldc2 dX10_fingerprint_11 kl_X10_235 ?_
      refine ap_lload_n dX10_fingerprint_14 rfl rfl ?_
      refine ap_lmul dX10_fingerprint_15 ?_
      refine ap_aload_n dX10_fingerprint_16 rfl rfl ?_
      refine ap_get ff_X10_7 dX10_fingerprint_17 (by omega) hM rfl ?_
      refine ap_bipush dX10_fingerprint_20 (by decide) ?_
      refine ap_iload_n dX10_fingerprint_22 rfl rfl ?_
      refine ap_imul dX10_fingerprint_23 ?_
      refine ap_iald (j := 101 * p) dX10_fingerprint_24 (by omega) hV (by omega) (by omega) ?_
      refine ap_topi (b := ((s_t C p).length : Int)) (show (g (101 * p)) = ((s_t C p).length : Int) from hvx.1) ?_
      refine ap_i2l dX10_fingerprint_25 (by omega) ?_
      refine ap_ladd dX10_fingerprint_26 ?_
      refine ap_Lstore_n (lv2 := [(0, .ref 120), (1, am_l ((31 * zh) + ((s_t C p).length : Int))), (3, am_i (p : Int))]) dX10_fingerprint_27 rfl (by decide) rfl ?_
      refine ap_iconst dX10_fingerprint_28 ?_
      refine ap_Istore (lv2 := [(0, .ref 120), (1, am_l ((31 * zh) + ((s_t C p).length : Int))), (3, am_i (p : Int)), (4, am_i 0)]) dX10_fingerprint_29 (by decide) rfl ?_
      refine lm_fp1 hM hV hN hg hp (h0 := fpp (s_t C) p) ?_ ((s_t C p).length + 1) 0 _ _ rfl (by omega) (by rw [hh]; rfl) (by omega)
      intro z4
      refine ap_Iinc (lv2 := [(0, .ref 120), (1, am_l (fpt (fpp (s_t C) p) (s_t C p) (s_t C p).length)), (3, am_i ((p : Int) + 1)), (4, am_i z4)]) dX10_fingerprint_73 rfl (by decide) rfl ?_
      refine ap_goto (tgt := 6) dX10_fingerprint_76 (by decide) ?_
      refine ap_pick (lv2 := [(0, .ref 120), (1, am_l (fpt (fpp (s_t C) p) (s_t C p) (s_t C p).length)), (3, am_i ((p : Int) + 1))]) [0, 1, 2] rfl ?_
      exact ih (p + 1) _ _ (by omega) (by omega) rfl (by omega)

set_option maxHeartbeats 4000000 in
set_option maxRecDepth 100000 in
theorem cy_fingerprint {N : Nat} {μ : am_M} {b : List Int} {C : Snap} {rem : Nat} {hs : Nat → Snap} (hX : Mx μ b C rem hs) (hN : 141 ≤ N) : am_Met YX10_fingerprint [.ref 120] N μ (mq N μ (am_l (q_fp C)) b C rem hs) := by
  obtain ⟨⟨zm, zd, ze, zi, zu, zc, zg, hM⟩, ⟨g, hV, hv1⟩, ⟨h, hH, hh1⟩, ⟨tg, hT, ht1⟩, ⟨fi, hI⟩, hS, ⟨f8, h138⟩, ⟨f9, h139⟩, ⟨f0, h140⟩, hr5, hb1, hb2, hC, hhs⟩ := id hX
  refine am_met (by first | decide | rfl) (Nat.le_of_ble_eq_true rfl) (fun h => by first | rfl | cases h) ?_
  show am_W YX10_fingerprint _ 0 0 0 [(0, .ref 120)] [] _ _
  refine ap_ldc2 dX10_fingerprint_0 kl_X10_233 ?_
  refine ap_Lstore_n (lv2 := [(0, .ref 120), (1, am_l 71)]) dX10_fingerprint_3 rfl (by decide) rfl ?_
  refine ap_iconst dX10_fingerprint_4 ?_
  refine ap_Istore_n (lv2 := [(0, .ref 120), (1, am_l 71), (3, am_i 0)]) dX10_fingerprint_5 rfl (by decide) rfl ?_
  exact lm_fp hM hV hN hv1 hC.2 (fun hr => ⟨by rw [hr], rfl, hX, fun x hx => rfl⟩) 5 0 _ _ rfl (by omega) rfl (by omega)

