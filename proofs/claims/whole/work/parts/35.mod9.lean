set_option maxHeartbeats 4000000 in
set_option maxRecDepth 100000 in
theorem lm_div {N : Nat} {μ : am_M} {za zb : Int} {G : Nat} : ∀ (nn : Nat) (x : Nat) (y : Nat) (zx : Int) (zy : Int), zx = (x : Int) → zy = (y : Int) → x ≤ 9223372036854775807 → y ≤ 9223372036854775807 → Nat.gcd x y = G → y < nn → am_W YX10_divisor (am_pv (am_l (G : Int)) N μ) 0 0 6 [(0, am_l za), (2, am_l zb), (4, am_l zx), (6, am_l zy)] [] N μ := by
  intro nn
  induction nn with
  | zero =>
    intro x y zx zy hx hy hxr hyr hG hm
    exfalso; omega
  | succ nn ih =>
    intro x y zx zy hx hy hxr hyr hG hm
    refine ap_lload dX10_divisor_6 rfl ?_
    refine ap_lconst (v := 0) dX10_divisor_8 rfl ?_
    refine ap_lcmp_eq (tgt := 31) dX10_divisor_9 dX10_divisor_10 (by decide) (⟨by omega, by omega⟩) (fun c9 => ?_) (fun c9 => ?_)
    · refine ap_lload dX10_divisor_31 rfl ?_
      exact ap_lret dX10_divisor_33 rfl (Nat.le_of_ble_eq_true rfl) (Nat.le_of_ble_eq_true rfl) (⟨by rw [hx, ← hG, show y = 0 by omega, Nat.gcd_zero_right], rfl, rfl⟩)
    · have hyp : 0 < y := by omega
      have hml := Nat.mod_lt x hyp
      have hmm : zx % zy = ((x % y : Nat) : Int) := by rw [hx, hy]; rfl
      refine ap_lload dX10_divisor_13 rfl ?_
      refine ap_lload dX10_divisor_15 rfl ?_
      refine ap_lrem dX10_divisor_17 (⟨by omega, by omega⟩) ?_
      refine ap_topl (b := ((x % y : Nat) : Int)) (show (zx % zy) = ((x % y : Nat) : Int) from hmm) ?_
      refine ap_Lstore (lv2 := [(0, am_l za), (2, am_l zb), (4, am_l zx), (6, am_l zy), (8, am_l ((x % y : Nat) : Int))]) dX10_divisor_18 (by decide) rfl ?_
      refine ap_lload dX10_divisor_20 rfl ?_
      refine ap_Lstore (lv2 := [(0, am_l za), (2, am_l zb), (4, am_l zy), (6, am_l zy), (8, am_l ((x % y : Nat) : Int))]) dX10_divisor_22 (by decide) rfl ?_
      refine ap_lload dX10_divisor_24 rfl ?_
      refine ap_Lstore (lv2 := [(0, am_l za), (2, am_l zb), (4, am_l zy), (6, am_l ((x % y : Nat) : Int)), (8, am_l ((x % y : Nat) : Int))]) dX10_divisor_26 (by decide) rfl ?_
      refine ap_goto (tgt := 6) dX10_divisor_28 (by decide) ?_
      refine ap_pick (lv2 := [(0, am_l za), (2, am_l zb), (4, am_l zy), (6, am_l ((x % y : Nat) : Int))]) [0, 1, 2, 3] rfl ?_
      exact ih y (x % y) _ _ hy rfl hyr (by omega) (by rw [gcd_stp]; exact hG) (by omega)

set_option maxHeartbeats 4000000 in
set_option maxRecDepth 100000 in
theorem cm_divisor {N : Nat} {μ : am_M} {a b : Nat} {za zb : Int} (ha : za = (a : Int)) (hb : zb = (b : Int)) (har : a ≤ 9223372036854775807) (hbr : b ≤ 9223372036854775807) : am_Met YX10_divisor [am_l za, am_l zb] N μ (am_pv (am_l ((Nat.gcd a b : Nat) : Int)) N μ) := by
  refine am_met (by first | decide | rfl) (Nat.le_of_ble_eq_true rfl) (fun h => by first | rfl | cases h) ?_
  show am_W YX10_divisor _ 0 0 0 [(0, am_l za), (2, am_l zb)] [] _ _
  refine ap_lload_n dX10_divisor_0 rfl rfl ?_
  refine ap_Lstore (lv2 := [(0, am_l za), (2, am_l zb), (4, am_l za)]) dX10_divisor_1 (by decide) rfl ?_
  refine ap_lload_n dX10_divisor_3 rfl rfl ?_
  refine ap_Lstore (lv2 := [(0, am_l za), (2, am_l zb), (4, am_l za), (6, am_l zb)]) dX10_divisor_4 (by decide) rfl ?_
  exact lm_div (b + 1) a b _ _ ha hb har hbr rfl (by omega)

set_option maxHeartbeats 4000000 in
set_option maxRecDepth 100000 in
theorem cm_told {N : Nat} {μ : am_M} {x d : Nat} {zx zd w : Int} (hx : zx = (x : Int)) (hd : zd = (d : Int)) (hxr : x ≤ 9223372036854775807) (hdr : 0 < d ∧ d ≤ 9223372036854775807) (hw : -2147483648 ≤ w ∧ w ≤ 2147483647) : am_Met YX10_told [am_l zx, am_l zd, am_i w] N μ (am_pv (am_l (sd x d w)) N μ) := by
  have hg0 : 0 < Nat.gcd x d := Nat.gcd_pos_of_pos_right x hdr.1
  have hg1 : Nat.gcd x d ≤ d := Nat.gcd_le_right x hdr.1
  refine am_met (by first | decide | rfl) (Nat.le_of_ble_eq_true rfl) (fun h => by first | rfl | cases h) ?_
  show am_W YX10_told _ 0 0 0 [(0, am_l zx), (2, am_l zd), (4, am_i w)] [] _ _
  refine ap_lload_n dX10_told_0 rfl rfl ?_
  refine ap_lload_n dX10_told_1 rfl rfl ?_
  refine ap_cS (As := [am_l zx, am_l zd]) (rest := []) (cm_divisor hx hd hxr hdr.2) dX10_told_2 lk_X10_180 hy_X10_divisor rfl (Nat.le_of_ble_eq_true rfl) ⟨Nat.le_of_ble_eq_true rfl, Nat.le_of_ble_eq_true rfl⟩ ⟨rfl, rfl⟩ ⟨Nat.le_of_ble_eq_true rfl, Nat.le_of_ble_eq_true rfl⟩ (fun xr1 xN2 μ3 xq4 => ?_)
  obtain ⟨rfl, rfl, rfl⟩ := xq4
  refine ap_Lstore (lv2 := [(0, am_l zx), (2, am_l zd), (4, am_i w), (5, am_l ((Nat.gcd x d : Nat) : Int))]) dX10_told_5 (by decide) rfl ?_
  refine ap_iload dX10_told_7 rfl ?_
  refine ap_if_ne (tgt := 19) dX10_told_9 (by decide) (by omega) (fun c9 => ?_) (fun c9 => ?_)
  · refine ap_lload_n dX10_told_19 rfl rfl ?_
    refine ap_lload dX10_told_20 rfl ?_
    refine ap_ldiv dX10_told_22 (⟨by omega, by omega⟩) ?_
    exact ap_lret dX10_told_23 rfl (Nat.le_of_ble_eq_true rfl) (Nat.le_of_ble_eq_true rfl) (⟨by rw [sd, if_neg c9, Int.natCast_ediv, hd], rfl, rfl⟩)
  · refine ap_lload_n dX10_told_12 rfl rfl ?_
    refine ap_lload dX10_told_13 rfl ?_
    refine ap_ldiv dX10_told_15 (⟨by omega, by omega⟩) ?_
    refine ap_goto (tgt := 23) dX10_told_16 (by decide) ?_
    exact ap_lret dX10_told_23 rfl (Nat.le_of_ble_eq_true rfl) (Nat.le_of_ble_eq_true rfl) (⟨by rw [sd, if_pos c9, Int.natCast_ediv, hx], rfl, rfl⟩)

theorem wb_shr (n : Nat) {k : Nat} (hn : n < 9223372036854775808) (hk : k < 64) : lN n >>> ((nI k).toInt64 &&& 63) = lN (n / 2 ^ k) := by
  rw [wb_c k hk]
  apply wb_inj
  rw [Int64.toBitVec_shiftRight, wb_tb, wb_tb, wb_tb, wb_sm k hk]
  have hm : (BitVec.ofNat 64 n).msb = false := by
    rw [BitVec.msb_eq_decide, BitVec.toNat_ofNat, Nat.mod_eq_of_lt (by omega)]
    simp; omega
  have hle : n / 2 ^ k ≤ n := Nat.div_le_self _ _
  show (BitVec.ofNat 64 n).sshiftRight (BitVec.ofNat 64 k).toNat = _
  rw [BitVec.sshiftRight_eq_of_msb_false hm]
  apply BitVec.eq_of_toNat_eq
  rw [BitVec.toNat_ushiftRight, BitVec.toNat_ofNat, BitVec.toNat_ofNat, BitVec.toNat_ofNat, Nat.shiftRight_eq_div_pow, Nat.mod_eq_of_lt (show k < 2 ^ 64 by omega), Nat.mod_eq_of_lt (show n < 2 ^ 64 by omega), Nat.mod_eq_of_lt (show n / 2 ^ k < 2 ^ 64 by omega)]
theorem am_shr {a z : Int} {k : Nat} (ha : 0 ≤ a ∧ a < 9223372036854775808) (hz : z = (k : Int)) (hk : k < 64) : Int64.ofInt a >>> ((Int32.ofInt z).toInt64 &&& 63) = Int64.ofInt (a / 2 ^ k) := by
  obtain ⟨n, rfl⟩ := Int.eq_ofNat_of_zero_le ha.1
  subst hz
  rw [show Int64.ofInt (n : Int) = lN n from Int64.ofInt_eq_ofNat, show Int32.ofInt (k : Int) = nI k from Int32.ofInt_eq_ofNat, wb_shr n (by omega) hk, show ((n : Int) / 2 ^ k) = ((n / 2 ^ k : Nat) : Int) by simp]
  exact Int64.ofInt_eq_ofNat.symm
/-- the meter's length, and its halves -/
theorem mlen_64 {b v : Int} (hb : 1 ≤ b ∧ b ≤ 16) (hv : v = 1 ∨ v = 2 ∨ v = 4 ∨ v = 8 ∨ v = 16) : 812851200 / v * b = mlen b v ∧ mlen b v = 64 * (mlen b v / 64) := by
  unfold mlen
  rcases hv with rfl | rfl | rfl | rfl | rfl <;> omega
theorem m_half {M : Int} {k : Nat} (h64 : M = 64 * (M / 64)) (hM : 1 ≤ M) (hk : k ≤ 6) : M = 2 ^ k * (M / 2 ^ k) ∧ 1 ≤ M / 2 ^ k ∧ M / 2 ^ k ≤ M ∧ (1 : Int) ≤ 2 ^ k := by
  rcases (show k = 0 ∨ k = 1 ∨ k = 2 ∨ k = 3 ∨ k = 4 ∨ k = 5 ∨ k = 6 by omega) with rfl | rfl | rfl | rfl | rfl | rfl | rfl <;> simp <;> omega
theorem lev_half {t M : Int} {k : Nat} (h64 : M = 64 * (M / 64)) (hM : 1 ≤ M) (hk : k ≤ 6) : (t * 2 ^ k % M = 0) ↔ (t % (M / 2 ^ k) = 0) := by
  obtain ⟨h1, h2, h3, h4⟩ := m_half h64 hM hk
  generalize M / 2 ^ k = q at h1 h2 h3 ⊢
  generalize (2 : Int) ^ k = e at h1 h4 ⊢
  rw [h1, Int.mul_comm t e, Int.mul_emod_mul_of_pos _ _ (by omega)]
  constructor
  · intro h
    rcases Int.mul_eq_zero.mp h with h | h
    · omega
    · exact h
  · intro h; rw [h, Int.mul_zero]
theorem lbt_half {b e M : Int} {k : Nat} (h64 : M = 64 * (M / 64)) (hM : 1 ≤ M) (hk : k ≤ 6) : ((b * 2 ^ k / M + 1) * M < e * 2 ^ k) ↔ ((b / (M / 2 ^ k) + 1) * (M / 2 ^ k) < e) := by
  obtain ⟨h1, h2, h3, h4⟩ := m_half h64 hM hk
  generalize M / 2 ^ k = q at h1 h2 h3 ⊢
  generalize (2 : Int) ^ k = d at h1 h4 ⊢
  rw [h1, Int.mul_comm b d, Int.mul_ediv_mul_of_pos _ _ (by omega), show (b / q + 1) * (d * q) = d * ((b / q + 1) * q) by ac_rfl, Int.mul_comm e d]
  exact Int.mul_lt_mul_left (by omega)
set_option maxHeartbeats 4000000 in
set_option maxRecDepth 100000 in
theorem cm_meter {N : Nat} {μ : am_M} {zp zt zm zd ze zi zu zc zg : Int} {g : Nat → Int} {C : Snap} (hM : μ 120 = mcl zp zt zm zd ze zi zu zc zg) (hV : μ 121 = am_I 0 420 g) (hN : 141 ≤ N) (hg : vrel g C) (hm : mrok (s_b C) (s_v C) (s_a C) (s_w C)) : am_Met YX10_meter [.ref 120] N μ (am_pv (am_l (mlen (s_b C) (s_v C))) N μ) := by
  obtain ⟨-, y1, y2, y3, y4⟩ := hg
  obtain ⟨k1, k2, k3, k4⟩ := id hm
  refine am_met (by first | decide | rfl) (Nat.le_of_ble_eq_true rfl) (fun h => by first | rfl | cases h) ?_
  show am_W YX10_meter _ 0 0 0 [(0, .ref 120)] [] _ _
  refine ap_ldc2 dX10_meter_0 kl_X10_138 ?_
  refine ap_aload_n dX10_meter_3 rfl rfl ?_
  refine ap_get ff_X10_7 dX10_meter_4 (by omega) hM rfl ?_
  refine ap_sipush dX10_meter_7 (by decide) ?_
  refine ap_iald (j := 405) dX10_meter_10 (by omega) hV (by omega) (by omega) ?_
  refine ap_topi (b := s_v C) (show (g 405) = (s_v C) from y2) ?_
  refine ap_i2l dX10_meter_11 (by omega) ?_
  refine ap_ldiv dX10_meter_12 (⟨by omega, by omega⟩) ?_
  refine ap_aload_n dX10_meter_13 rfl rfl ?_
  refine ap_get ff_X10_7 dX10_meter_14 (by omega) hM rfl ?_
  refine ap_sipush dX10_meter_17 (by decide) ?_
  refine ap_iald (j := 404) dX10_meter_20 (by omega) hV (by omega) (by omega) ?_
  refine ap_topi (b := s_b C) (show (g 404) = (s_b C) from y1) ?_
  refine ap_i2l dX10_meter_21 (by omega) ?_
  refine ap_lmul dX10_meter_22 ?_
  refine ap_topl (b := mlen (s_b C) (s_v C)) (show ((812851200 / (s_v C)) * (s_b C)) = (mlen (s_b C) (s_v C)) from (mlen_64 k1 k2).1) ?_
  exact ap_lret dX10_meter_23 rfl (Nat.le_of_ble_eq_true rfl) (Nat.le_of_ble_eq_true rfl) (⟨rfl, rfl, rfl⟩)

set_option maxHeartbeats 4000000 in
set_option maxRecDepth 100000 in
theorem cm_swungOf {N : Nat} {μ : am_M} {zp zt zm zd ze zi zu zc zg : Int} {g : Nat → Int} {C : Snap} (hM : μ 120 = mcl zp zt zm zd ze zi zu zc zg) (hV : μ 121 = am_I 0 420 g) (hN : 141 ≤ N) (hg : vrel g C) (hm : mrok (s_b C) (s_v C) (s_a C) (s_w C)) {t : Int} (ht : 0 ≤ t ∧ t ≤ 140000000000000) : am_Met YX10_swungOf [.ref 120, am_l t] N μ (am_pv (am_l (swg t (s_a C) (s_w C))) N μ) := by
  obtain ⟨-, y1, y2, y3, y4⟩ := hg
  obtain ⟨k1, k2, k3, k4⟩ := id hm
  refine am_met (by first | decide | rfl) (Nat.le_of_ble_eq_true rfl) (fun h => by first | rfl | cases h) ?_
  show am_W YX10_swungOf _ 0 0 0 [(0, .ref 120), (1, am_l t)] [] _ _
  refine ap_lload_n dX10_swungOf_0 rfl rfl ?_
  refine ap_ldc2 dX10_swungOf_1 kl_X10_193 ?_
  refine ap_lrem dX10_swungOf_4 (⟨by omega, by omega⟩) ?_
  refine ap_Lstore_n (lv2 := [(0, .ref 120), (1, am_l t), (3, am_l (t % 203212800))]) dX10_swungOf_5 rfl (by decide) rfl ?_
  refine ap_lload_n dX10_swungOf_6 rfl rfl ?_
  refine ap_lload_n dX10_swungOf_7 rfl rfl ?_
  refine ap_lsub dX10_swungOf_8 ?_
  refine ap_Lstore (lv2 := [(0, .ref 120), (1, am_l t), (3, am_l (t % 203212800)), (5, am_l (t - (t % 203212800)))]) dX10_swungOf_9 (by decide) rfl ?_
  refine ap_aload_n dX10_swungOf_11 rfl rfl ?_
  refine ap_get ff_X10_7 dX10_swungOf_12 (by omega) hM rfl ?_
  refine ap_sipush dX10_swungOf_15 (by decide) ?_
  refine ap_iald (j := 406) dX10_swungOf_18 (by omega) hV (by omega) (by omega) ?_
  refine ap_topi (b := s_a C) (show (g 406) = (s_a C) from y3) ?_
  refine ap_aload_n dX10_swungOf_19 rfl rfl ?_
  refine ap_get ff_X10_7 dX10_swungOf_20 (by omega) hM rfl ?_
  refine ap_sipush dX10_swungOf_23 (by decide) ?_
  refine ap_iald (j := 407) dX10_swungOf_26 (by omega) hV (by omega) (by omega) ?_
  refine ap_topi (b := s_w C) (show (g 407) = (s_w C) from y4) ?_
  refine ap_iadd dX10_swungOf_27 ?_
  refine ap_i2l dX10_swungOf_28 (by omega) ?_
  refine ap_Lstore (lv2 := [(0, .ref 120), (1, am_l t), (3, am_l (t % 203212800)), (5, am_l (t - (t % 203212800))), (7, am_l ((s_a C) + (s_w C)))]) dX10_swungOf_29 (by decide) rfl ?_
  refine ap_lload_n dX10_swungOf_31 rfl rfl ?_
  refine ap_ldc2 dX10_swungOf_32 kl_X10_195 ?_
  refine ap_lcmp_ge (tgt := 61) dX10_swungOf_35 dX10_swungOf_36 (by decide) (⟨by omega, by omega⟩) (fun c35 => ?_) (fun c35 => ?_)
  · refine ap_lload dX10_swungOf_61 rfl ?_
    refine ap_lload dX10_swungOf_63 rfl ?_
    refine ap_lmul dX10_swungOf_65 ?_
    refine ap_ldc2 dX10_swungOf_66 kl_X10_193 ?_
    refine ap_aload_n dX10_swungOf_69 rfl rfl ?_
    refine ap_get ff_X10_7 dX10_swungOf_70 (by omega) hM rfl ?_
    refine ap_sipush dX10_swungOf_73 (by decide) ?_
    refine ap_iald (j := 406) dX10_swungOf_76 (by omega) hV (by omega) (by omega) ?_
    refine ap_topi (b := s_a C) (show (g 406) = (s_a C) from y3) ?_
    refine ap_i2l dX10_swungOf_77 (by omega) ?_
    refine ap_lmul dX10_swungOf_78 ?_
    refine ap_ladd dX10_swungOf_79 ?_
    refine ap_lload_n dX10_swungOf_80 rfl rfl ?_
    refine ap_ldc2 dX10_swungOf_81 kl_X10_195 ?_
    refine ap_lsub dX10_swungOf_84 ?_
    refine ap_ldc2 dX10_swungOf_85 kl_X10_142 ?_
    refine ap_lmul dX10_swungOf_88 ?_
    refine ap_aload_n dX10_swungOf_89 rfl rfl ?_
    refine ap_get ff_X10_7 dX10_swungOf_90 (by omega) hM rfl ?_
    refine ap_sipush dX10_swungOf_93 (by decide) ?_
    refine ap_iald (j := 407) dX10_swungOf_96 (by omega) hV (by omega) (by omega) ?_
    refine ap_topi (b := s_w C) (show (g 407) = (s_w C) from y4) ?_
    refine ap_i2l dX10_swungOf_97 (by omega) ?_
    refine ap_lmul dX10_swungOf_98 ?_
    refine ap_ladd dX10_swungOf_99 ?_
    exact ap_lret dX10_swungOf_100 rfl (Nat.le_of_ble_eq_true rfl) (Nat.le_of_ble_eq_true rfl) (⟨by rw [swg, if_neg (by omega)], rfl, rfl⟩)
  · refine ap_lload dX10_swungOf_39 rfl ?_
    refine ap_lload dX10_swungOf_41 rfl ?_
    refine ap_lmul dX10_swungOf_43 ?_
    refine ap_lload_n dX10_swungOf_44 rfl rfl ?_
    refine ap_ldc2 dX10_swungOf_45 kl_X10_142 ?_
    refine ap_lmul dX10_swungOf_48 ?_
    refine ap_aload_n dX10_swungOf_49 rfl rfl ?_
    refine ap_get ff_X10_7 dX10_swungOf_50 (by omega) hM rfl ?_
    refine ap_sipush dX10_swungOf_53 (by decide) ?_
    refine ap_iald (j := 406) dX10_swungOf_56 (by omega) hV (by omega) (by omega) ?_
    refine ap_topi (b := s_a C) (show (g 406) = (s_a C) from y3) ?_
    refine ap_i2l dX10_swungOf_57 (by omega) ?_
    refine ap_lmul dX10_swungOf_58 ?_
    refine ap_ladd dX10_swungOf_59 ?_
    exact ap_lret dX10_swungOf_60 rfl (Nat.le_of_ble_eq_true rfl) (Nat.le_of_ble_eq_true rfl) (⟨by rw [swg, if_pos (by omega)], rfl, rfl⟩)

theorem cm_meterE {N : Nat} {μ : am_M} {zp zt zm zd ze zi zu zc zg : Int} {g : Nat → Int} {C : Snap} (hM : μ 120 = mcl zp zt zm zd ze zi zu zc zg) (hV : μ 121 = am_I 0 420 g) (hN : 141 ≤ N) (hg : vrel g C) (hm : mrok (s_b C) (s_v C) (s_a C) (s_w C)) {M : Int} (hMe : mlen (s_b C) (s_v C) = M) : am_Met YX10_meter [.ref 120] N μ (am_pv (am_l M) N μ) := by
  subst hMe
  exact cm_meter hM hV hN hg hm
set_option maxHeartbeats 4000000 in
set_option maxRecDepth 100000 in
theorem lm_level {N : Nat} {μ : am_M} {zp zt zm zd ze zi zu zc zg : Int} {g : Nat → Int} {C : Snap} (hM : μ 120 = mcl zp zt zm zd ze zi zu zc zg) (hV : μ 121 = am_I 0 420 g) (hN : 141 ≤ N) (hg : vrel g C) (hm : mrok (s_b C) (s_v C) (s_a C) (s_w C)) {t M R : Int} (ht : 0 ≤ t ∧ t ≤ 140000000000000) (hMe : mlen (s_b C) (s_v C) = M) : ∀ (nn : Nat) (k : Nat) (z : Int), z = (k : Int) → k ≤ 7 → lev t M k = R → 7 - k < nn → am_W YX10_levelOf (am_pv (am_i R) N μ) 0 0 2 [(0, .ref 120), (1, am_l t), (3, am_i z)] [] N μ := by
  intro nn
  induction nn with
  | zero =>
    intro k z hz hk hR hw
    exfalso; omega
  | succ nn ih =>
    intro k z hz hk hR hw
    have hml := mlen_r hm.1 hm.2.1
    have h64 := (mlen_64 hm.1 hm.2.1).2
    rw [hMe] at hml h64
    refine ap_iload_n dX10_levelOf_2 rfl rfl ?_
    refine ap_bipush dX10_levelOf_3 (by decide) ?_
    rw [lev] at hR
    refine ap_icmp_ge (tgt := 29) dX10_levelOf_5 (by decide) (by omega) (fun c5 => ?_) (fun c5 => ?_)
    · refine ap_bipush dX10_levelOf_29 (by decide) ?_
      exact ap_iret dX10_levelOf_31 rfl rfl (Nat.le_of_ble_eq_true rfl) (Nat.le_of_ble_eq_true rfl) (⟨by rw [if_neg (by omega)] at hR; rw [← hR], rfl, rfl⟩)
    · rw [if_pos (by omega)] at hR
      have hhf := m_half (k := k) h64 hml.1 (by omega)
      have hlh := lev_half (t := t) (k := k) h64 hml.1 (by omega)
      refine ap_lload_n dX10_levelOf_8 rfl rfl ?_
      refine ap_aload_n dX10_levelOf_9 rfl rfl ?_
      refine ap_cV (As := []) (rest := [am_l t]) (cm_meterE hM hV hN hg hm hMe) dX10_levelOf_10 lk_X10_201 hy_X10_meter rfl (by omega) hM ⟨_, _, rfl⟩ (Nat.le_of_ble_eq_true rfl) ⟨Nat.le_of_ble_eq_true rfl, Nat.le_of_ble_eq_true rfl⟩ ⟨rfl, rfl⟩ ⟨Nat.le_of_ble_eq_true rfl, Nat.le_of_ble_eq_true rfl⟩ (fun xr1 xN2 μ3 xq4 => ?_)
      obtain ⟨rfl, rfl, rfl⟩ := xq4
      refine ap_iload_n dX10_levelOf_13 rfl rfl ?_
      refine ap_lshr (r := M / 2 ^ k) dX10_levelOf_14 (am_shr ⟨by omega, by omega⟩ hz (by omega)) ?_
      refine ap_lrem dX10_levelOf_15 (⟨by omega, by omega⟩) ?_
      refine ap_lconst (v := 0) dX10_levelOf_16 rfl ?_
      refine ap_lcmp_ne (tgt := 23) dX10_levelOf_17 dX10_levelOf_18 (by decide) (⟨by have := Int.emod_nonneg t (show M / 2 ^ k ≠ 0 by omega); have := Int.emod_lt_of_pos t (show 0 < M / 2 ^ k by omega); omega, by omega⟩) (fun c17 => ?_) (fun c17 => ?_)
      · refine ap_Iinc (lv2 := [(0, .ref 120), (1, am_l t), (3, am_i (z + 1))]) dX10_levelOf_23 rfl (by decide) rfl ?_
        refine ap_goto (tgt := 2) dX10_levelOf_26 (by decide) ?_
        exact ih (k + 1) _ (by omega) (by omega) (by rw [if_neg (fun q => c17 (hlh.mp q))] at hR; exact hR) (by omega)
      · refine ap_iload_n dX10_levelOf_21 rfl rfl ?_
        exact ap_iret dX10_levelOf_22 rfl rfl (Nat.le_of_ble_eq_true rfl) (Nat.le_of_ble_eq_true rfl) (⟨by rw [if_pos (hlh.mpr c17)] at hR; rw [← hR, hz], rfl, rfl⟩)

set_option maxHeartbeats 4000000 in
set_option maxRecDepth 100000 in
theorem cm_levelOf {N : Nat} {μ : am_M} {zp zt zm zd ze zi zu zc zg : Int} {g : Nat → Int} {C : Snap} (hM : μ 120 = mcl zp zt zm zd ze zi zu zc zg) (hV : μ 121 = am_I 0 420 g) (hN : 141 ≤ N) (hg : vrel g C) (hm : mrok (s_b C) (s_v C) (s_a C) (s_w C)) {t : Int} (ht : 0 ≤ t ∧ t ≤ 140000000000000) : am_Met YX10_levelOf [.ref 120, am_l t] N μ (am_pv (am_i (lev t (mlen (s_b C) (s_v C)) 0)) N μ) := by
  refine am_met (by first | decide | rfl) (Nat.le_of_ble_eq_true rfl) (fun h => by first | rfl | cases h) ?_
  show am_W YX10_levelOf _ 0 0 0 [(0, .ref 120), (1, am_l t)] [] _ _
  refine ap_iconst dX10_levelOf_0 ?_
  refine ap_Istore_n (lv2 := [(0, .ref 120), (1, am_l t), (3, am_i 0)]) dX10_levelOf_1 rfl (by decide) rfl ?_
  exact lm_level hM hV hN hg hm ht rfl 8 0 _ rfl (by omega) rfl (by omega)

theorem cm_levelOfE {N : Nat} {μ : am_M} {zp zt zm zd ze zi zu zc zg : Int} {g : Nat → Int} {C : Snap} (hM : μ 120 = mcl zp zt zm zd ze zi zu zc zg) (hV : μ 121 = am_I 0 420 g) (hN : 141 ≤ N) (hg : vrel g C) (hm : mrok (s_b C) (s_v C) (s_a C) (s_w C)) {t : Int} (ht : 0 ≤ t ∧ t ≤ 140000000000000) {M : Int} (hMe : mlen (s_b C) (s_v C) = M) : am_Met YX10_levelOf [.ref 120, am_l t] N μ (am_pv (am_i (lev t M 0)) N μ) := by
  subst hMe
  exact cm_levelOf hM hV hN hg hm ht
set_option maxHeartbeats 4000000 in
set_option maxRecDepth 100000 in
theorem lm_synof {N : Nat} {μ : am_M} {zp zt zm zd ze zi zu zc zg : Int} {g : Nat → Int} {C : Snap} (hM : μ 120 = mcl zp zt zm zd ze zi zu zc zg) (hV : μ 121 = am_I 0 420 g) (hN : 141 ≤ N) (hg : vrel g C) (hm : mrok (s_b C) (s_v C) (s_a C) (s_w C)) {t e M R ze9 : Int} (ht : 0 ≤ t ∧ t ≤ 140000000000000) (he : t ≤ e ∧ e ≤ 140000000000000) (hMe : mlen (s_b C) (s_v C) = M) : ∀ (nn : Nat) (k : Nat) (z : Int), z = (k : Int) → k ≤ 7 → (if 0 < lev t M 0 - lbt t e M k then lev t M 0 - lbt t e M k else 0) = R → 7 - k < nn → am_W YX10_syncopationOf (am_pv (am_i R) N μ) 0 0 20 [(0, .ref 120), (1, am_i ze9), (2, am_l t), (4, am_l e), (6, am_i z)] [] N μ := by
  intro nn
  induction nn with
  | zero =>
    intro k z hz hk hR hw
    exfalso; omega
  | succ nn ih =>
    intro k z hz hk hR hw
    have hml := mlen_r hm.1 hm.2.1
    have h64 := (mlen_64 hm.1 hm.2.1).2
    rw [hMe] at hml h64
    refine ap_iload dX10_syncopationOf_20 rfl ?_
    refine ap_bipush dX10_syncopationOf_22 (by decide) ?_
    have hlr := lev_r t M 0 (by omega)
    rw [lbt] at hR
    refine ap_icmp_ge (tgt := 79) dX10_syncopationOf_24 (by decide) (by omega) (fun c24 => ?_) (fun c24 => ?_)
    · refine ap_iconst dX10_syncopationOf_79 ?_
      exact ap_iret dX10_syncopationOf_80 rfl rfl (Nat.le_of_ble_eq_true rfl) (Nat.le_of_ble_eq_true rfl) (⟨by rw [if_neg (show ¬ k ≤ 6 by omega), if_neg (by omega)] at hR; rw [← hR], rfl, rfl⟩)
    · rw [if_pos (show k ≤ 6 by omega)] at hR
      have hhf := m_half (k := k) h64 hml.1 (by omega)
      have hlh := lbt_half (b := t) (e := e) (k := k) h64 hml.1 (by omega)
      have hb1 : 0 ≤ t / (M / 2 ^ k) := Int.ediv_nonneg ht.1 (by omega)
      have hb2 : t / (M / 2 ^ k) * (M / 2 ^ k) ≤ t := Int.ediv_mul_le t (by omega)
      have hb3 : (t / (M / 2 ^ k) + 1) * (M / 2 ^ k) = t / (M / 2 ^ k) * (M / 2 ^ k) + M / 2 ^ k := by rw [Int.add_mul, Int.one_mul]
      have hb4 : 0 ≤ t / (M / 2 ^ k) * (M / 2 ^ k) := Int.mul_nonneg hb1 (by omega)
      refine ap_aload_n dX10_syncopationOf_27 rfl rfl ?_
      refine ap_cV (As := []) (rest := []) (cm_meterE hM hV hN hg hm hMe) dX10_syncopationOf_28 lk_X10_201 hy_X10_meter rfl (by omega) hM ⟨_, _, rfl⟩ (Nat.le_of_ble_eq_true rfl) ⟨Nat.le_of_ble_eq_true rfl, Nat.le_of_ble_eq_true rfl⟩ ⟨rfl, rfl⟩ ⟨Nat.le_of_ble_eq_true rfl, Nat.le_of_ble_eq_true rfl⟩ (fun xr1 xN2 μ3 xq4 => ?_)
      obtain ⟨rfl, rfl, rfl⟩ := xq4
      refine ap_iload dX10_syncopationOf_31 rfl ?_
      refine ap_lshr (r := M / 2 ^ k) dX10_syncopationOf_33 (am_shr ⟨by omega, by omega⟩ hz (by omega)) ?_
      refine ap_Lstore (lv2 := [(0, .ref 120), (1, am_i ze9), (2, am_l t), (4, am_l e), (6, am_i z), (7, am_l (M / 2 ^ k))]) dX10_syncopationOf_34 (by decide) rfl ?_
      refine ap_lload_n dX10_syncopationOf_36 rfl rfl ?_
      refine ap_lload dX10_syncopationOf_37 rfl ?_
      refine ap_ldiv dX10_syncopationOf_39 (⟨by omega, by omega⟩) ?_
      refine ap_lconst (v := 1) dX10_syncopationOf_40 rfl ?_
      refine ap_ladd dX10_syncopationOf_41 ?_
      refine ap_lload dX10_syncopationOf_42 rfl ?_
      refine ap_lmul dX10_syncopationOf_44 ?_
      refine ap_lload dX10_syncopationOf_45 rfl ?_
      refine ap_lcmp_ge (tgt := 73) dX10_syncopationOf_47 dX10_syncopationOf_48 (by decide) (⟨by omega, by omega⟩) (fun c47 => ?_) (fun c47 => ?_)
      · rw [if_neg (show ¬ ((t * 2 ^ k / M + 1) * M < e * 2 ^ k) from fun q => by have := hlh.mp q; omega)] at hR
        refine ap_Iinc (lv2 := [(0, .ref 120), (1, am_i ze9), (2, am_l t), (4, am_l e), (6, am_i (z + 1)), (7, am_l (M / 2 ^ k))]) dX10_syncopationOf_73 rfl (by decide) rfl ?_
        refine ap_goto (tgt := 20) dX10_syncopationOf_76 (by decide) ?_
        refine ap_pick (lv2 := [(0, .ref 120), (1, am_i ze9), (2, am_l t), (4, am_l e), (6, am_i (z + 1))]) [0, 1, 2, 3, 4] rfl ?_
        exact ih (k + 1) _ (by omega) (by omega) hR (by omega)
      · rw [if_pos (hlh.mpr (by omega))] at hR
        refine ap_aload_n dX10_syncopationOf_51 rfl rfl ?_
        refine ap_lload_n dX10_syncopationOf_52 rfl rfl ?_
        refine ap_cV (As := [am_l t]) (rest := []) (cm_levelOfE hM hV hN hg hm ht hMe) dX10_syncopationOf_53 lk_X10_205 hy_X10_levelOf rfl (by omega) hM ⟨_, _, rfl⟩ (Nat.le_of_ble_eq_true rfl) ⟨Nat.le_of_ble_eq_true rfl, Nat.le_of_ble_eq_true rfl⟩ ⟨rfl, rfl⟩ ⟨Nat.le_of_ble_eq_true rfl, Nat.le_of_ble_eq_true rfl⟩ (fun xr5 xN6 μ7 xq8 => ?_)
        obtain ⟨rfl, rfl, rfl⟩ := xq8
        refine ap_iload dX10_syncopationOf_56 rfl ?_
        refine ap_isub dX10_syncopationOf_58 ?_
        refine ap_Istore (lv2 := [(0, .ref 120), (1, am_i ze9), (2, am_l t), (4, am_l e), (6, am_i z), (7, am_l (M / 2 ^ k)), (9, am_i ((lev t M 0) - z))]) dX10_syncopationOf_59 (by decide) rfl ?_
        refine ap_iload dX10_syncopationOf_61 rfl ?_
        refine ap_if_le (tgt := 71) dX10_syncopationOf_63 (by decide) (by omega) (fun c63 => ?_) (fun c63 => ?_)
        · refine ap_iconst dX10_syncopationOf_71 ?_
          exact ap_iret dX10_syncopationOf_72 rfl rfl (Nat.le_of_ble_eq_true rfl) (Nat.le_of_ble_eq_true rfl) (⟨by rw [if_neg (by omega)] at hR; rw [← hR], rfl, rfl⟩)
        · refine ap_iload dX10_syncopationOf_66 rfl ?_
          refine ap_goto (tgt := 72) dX10_syncopationOf_68 (by decide) ?_
          exact ap_iret dX10_syncopationOf_72 rfl rfl (Nat.le_of_ble_eq_true rfl) (Nat.le_of_ble_eq_true rfl) (⟨by rw [if_pos (by omega)] at hR; rw [← hR, hz], rfl, rfl⟩)

set_option maxHeartbeats 4000000 in
set_option maxRecDepth 100000 in
theorem cm_synOf {N : Nat} {μ : am_M} {zp zt zm zd ze zi zu zc zg : Int} {g : Nat → Int} {C : Snap} (hM : μ 120 = mcl zp zt zm zd ze zi zu zc zg) (hV : μ 121 = am_I 0 420 g) (hN : 141 ≤ N) (hg : vrel g C) (hm : mrok (s_b C) (s_v C) (s_a C) (s_w C)) {fo fs : Nat → Int} {j : Nat} {zj t e : Int} (hO : μ 126 = am_L 1200 fo) (hS : μ 127 = am_L 1200 fs) (hj : zj = (j : Int) ∧ j < 1200) (h1 : fo j = t) (h2 : fs j = e - t) (ht : 0 ≤ t ∧ t ≤ 140000000000000) (he : t ≤ e ∧ e ≤ 140000000000000) : am_Met YX10_syncopationOf [.ref 120, am_i zj] N μ (am_pv (am_i (syn t e (mlen (s_b C) (s_v C)))) N μ) := by
  refine am_met (by first | decide | rfl) (Nat.le_of_ble_eq_true rfl) (fun h => by first | rfl | cases h) ?_
  show am_W YX10_syncopationOf _ 0 0 0 [(0, .ref 120), (1, am_i zj)] [] _ _
  refine ap_aload_n dX10_syncopationOf_0 rfl rfl ?_
  refine ap_get ff_X10_25 dX10_syncopationOf_1 (by omega) hM rfl ?_
  refine ap_iload_n dX10_syncopationOf_4 rfl rfl ?_
  refine ap_lald (j := j) dX10_syncopationOf_5 (by omega) hO (by omega) (by omega) ?_
  refine ap_topl (b := t) (show (fo j) = t from h1) ?_
  refine ap_Lstore_n (lv2 := [(0, .ref 120), (1, am_i zj), (2, am_l t)]) dX10_syncopationOf_6 rfl (by decide) rfl ?_
  refine ap_lload_n dX10_syncopationOf_7 rfl rfl ?_
  refine ap_aload_n dX10_syncopationOf_8 rfl rfl ?_
  refine ap_get ff_X10_29 dX10_syncopationOf_9 (by omega) hM rfl ?_
  refine ap_iload_n dX10_syncopationOf_12 rfl rfl ?_
  refine ap_lald (j := j) dX10_syncopationOf_13 (by omega) hS (by omega) (by omega) ?_
  refine ap_topl (b := e - t) (show (fs j) = (e - t) from h2) ?_
  refine ap_ladd dX10_syncopationOf_14 ?_
  refine ap_topl (b := e) (show (t + (e - t)) = e from by omega) ?_
  refine ap_Lstore (lv2 := [(0, .ref 120), (1, am_i zj), (2, am_l t), (4, am_l e)]) dX10_syncopationOf_15 (by decide) rfl ?_
  refine ap_iconst dX10_syncopationOf_17 ?_
  refine ap_Istore (lv2 := [(0, .ref 120), (1, am_i zj), (2, am_l t), (4, am_l e), (6, am_i 0)]) dX10_syncopationOf_18 (by decide) rfl ?_
  exact lm_synof hM hV hN hg hm ht he rfl 8 0 _ rfl (by omega) rfl (by omega)

