theorem it1 {P : Prop} [Decidable P] (h : ¬ (if P then (1 : Int) else 0) = 0) : P := by
  by_cases q : P
  · exact q
  · rw [if_neg q] at h; exact absurd rfl h
theorem it2 {P : Prop} [Decidable P] (h : (if P then (1 : Int) else 0) = 0) : ¬ P := by
  intro q
  rw [if_pos q] at h; omega
theorem itr {P : Prop} [Decidable P] : -2147483648 ≤ (if P then (1 : Int) else 0) ∧ (if P then (1 : Int) else 0) ≤ 2147483647 := by split <;> omega
theorem hnx_cs {rem : Nat} {hs : Nat → Snap} {C : Snap} (h : ∀ k, k < rem → csn (hs k)) (hC : csn C) (hr : rem ≤ 5) : ∀ k, k < rnx rem → csn (hnx rem hs C k) := by
  intro k hk
  unfold hnx
  unfold rnx at hk
  by_cases hlt : rem < 5
  · rw [if_pos hlt] at hk ⊢
    by_cases hkr : k = rem
    · rw [hkr, va_upe]; exact hC
    · rw [va_upn hkr]; exact h k (by omega)
  · rw [if_neg hlt] at hk ⊢
    by_cases hkr : k = 4
    · rw [hkr, va_upe]; exact hC
    · rw [va_upn hkr]; exact h _ (by omega)
theorem rnx_le {rem : Nat} : rnx rem ≤ 5 := by unfold rnx; split <;> omega
theorem csn_set {C : Snap} {p : Nat} {xs : List Int} (h : csn C) (hx : gtx xs) : csn (va_up (s_t C) p xs, s_b C, s_v C, s_a C, s_w C) := by
  refine ⟨fun q hq => ?_, h.2⟩
  show gtx (va_up (s_t C) p xs q)
  by_cases hqp : q = p
  · rw [hqp, va_upe]; exact hx
  · rw [va_upn hqp]; exact h.1 q hq
set_option maxHeartbeats 4000000 in
set_option maxRecDepth 100000 in
theorem cy_typeN {N : Nat} {μ : am_M} {b : List Int} {C : Snap} {rem : Nat} {hs : Nat → Snap} (hX : Mx μ b C rem hs) (hN : 141 ≤ N) {c : Int} (hc : -2147483648 ≤ c ∧ c ≤ 2147483647) (hn : ¬ (32 ≤ c ∧ c ≤ 126)) : am_Met YX10_type [.ref 120, am_i c] N μ (mq N μ (am_i (-1)) b C rem hs) := by
  obtain ⟨⟨zm, zd, ze, zi, zu, zc, zg, hM⟩, ⟨g, hV, hv1⟩, ⟨h, hH, hh1⟩, ⟨tg, hT, ht1⟩, ⟨fi, hI⟩, hS, ⟨f8, h138⟩, ⟨f9, h139⟩, ⟨f0, h140⟩, hr5, hb1, hb2, hC, hhs⟩ := id hX
  refine am_met (by first | decide | rfl) (Nat.le_of_ble_eq_true rfl) (fun h => by first | rfl | cases h) ?_
  show am_W YX10_type _ 0 0 0 [(0, .ref 120), (1, am_i c)] [] _ _
  refine ap_iload_n dX10_type_0 rfl rfl ?_
  refine ap_bipush dX10_type_1 (by decide) ?_
  refine ap_bipush dX10_type_3 (by decide) ?_
  refine ap_cS (As := [am_i c, am_i 32, am_i 126]) (rest := []) (cm_in hc (by omega) (by omega)) dX10_type_5 lk_X10_76 hy_X10_in rfl (Nat.le_of_ble_eq_true rfl) ⟨Nat.le_of_ble_eq_true rfl, Nat.le_of_ble_eq_true rfl⟩ ⟨rfl, rfl⟩ ⟨Nat.le_of_ble_eq_true rfl, Nat.le_of_ble_eq_true rfl⟩ (fun xr1 xN2 μ3 xq4 => ?_)
  obtain ⟨rfl, rfl, rfl⟩ := xq4
  refine ap_topi (b := 0) (show (if 32 ≤ c ∧ c ≤ 126 then 1 else 0) = 0 from if_neg hn) ?_
  refine ap_if_ne (tgt := 13) dX10_type_8 (by decide) (by omega) (fun c8 => (by exfalso; omega)) (fun c8 => ?_)
  refine ap_iconst dX10_type_11 ?_
  exact ap_iret dX10_type_12 rfl rfl (Nat.le_of_ble_eq_true rfl) (Nat.le_of_ble_eq_true rfl) (⟨rfl, rfl, hX, fun x hx => rfl⟩)

set_option maxHeartbeats 4000000 in
set_option maxRecDepth 100000 in
theorem cy_typeF {N : Nat} {μ : am_M} {b : List Int} {C : Snap} {rem : Nat} {hs : Nat → Snap} (hX : Mx μ b C rem hs) (hN : 141 ≤ N) {c : Int} (hc : 32 ≤ c ∧ c ≤ 126) (hn : 100 ≤ b.length) : am_Met YX10_type [.ref 120, am_i c] N μ (mq N μ (am_i (-3)) b C rem hs) := by
  obtain ⟨⟨zm, zd, ze, zi, zu, zc, zg, hM⟩, ⟨g, hV, hv1⟩, ⟨h, hH, hh1⟩, ⟨tg, hT, ht1⟩, ⟨fi, hI⟩, hS, ⟨f8, h138⟩, ⟨f9, h139⟩, ⟨f0, h140⟩, hr5, hb1, hb2, hC, hhs⟩ := id hX
  refine am_met (by first | decide | rfl) (Nat.le_of_ble_eq_true rfl) (fun h => by first | rfl | cases h) ?_
  show am_W YX10_type _ 0 0 0 [(0, .ref 120), (1, am_i c)] [] _ _
  refine ap_iload_n dX10_type_0 rfl rfl ?_
  refine ap_bipush dX10_type_1 (by decide) ?_
  refine ap_bipush dX10_type_3 (by decide) ?_
  refine ap_cS (As := [am_i c, am_i 32, am_i 126]) (rest := []) (cm_in (by omega) (by omega) (by omega)) dX10_type_5 lk_X10_76 hy_X10_in rfl (Nat.le_of_ble_eq_true rfl) ⟨Nat.le_of_ble_eq_true rfl, Nat.le_of_ble_eq_true rfl⟩ ⟨rfl, rfl⟩ ⟨Nat.le_of_ble_eq_true rfl, Nat.le_of_ble_eq_true rfl⟩ (fun xr1 xN2 μ3 xq4 => ?_)
  obtain ⟨rfl, rfl, rfl⟩ := xq4
  refine ap_topi (b := 1) (show (if 32 ≤ c ∧ c ≤ 126 then 1 else 0) = 1 from if_pos hc) ?_
  refine ap_if_ne (tgt := 13) dX10_type_8 (by decide) (by omega) (fun c8 => ?_) (fun c8 => (by exfalso; omega))
  refine ap_aload_n dX10_type_13 rfl rfl ?_
  refine ap_get ff_X10_114 dX10_type_14 (by omega) hM rfl ?_
  refine ap_bipush dX10_type_17 (by decide) ?_
  refine ap_icmp_ne (tgt := 25) dX10_type_19 (by decide) (by omega) (fun c19 => (by exfalso; omega)) (fun c19 => ?_)
  refine ap_bipush dX10_type_22 (by decide) ?_
  exact ap_iret dX10_type_24 rfl rfl (Nat.le_of_ble_eq_true rfl) (Nat.le_of_ble_eq_true rfl) (⟨rfl, rfl, hX, fun x hx => rfl⟩)

set_option maxHeartbeats 4000000 in
set_option maxRecDepth 100000 in
theorem cy_typeP {N : Nat} {μ : am_M} {b : List Int} {C : Snap} {rem : Nat} {hs : Nat → Snap} (hX : Mx μ b C rem hs) (hN : 141 ≤ N) {c : Int} (hc : 32 ≤ c ∧ c ≤ 126) (hn : b.length < 100) : am_Met YX10_type [.ref 120, am_i c] N μ (mq N μ (am_i ((b.length : Int) + 1)) (b ++ [c]) C rem hs) := by
  obtain ⟨⟨zm, zd, ze, zi, zu, zc, zg, hM⟩, ⟨g, hV, hv1⟩, ⟨h, hH, hh1⟩, ⟨tg, hT, ht1⟩, ⟨fi, hI⟩, hS, ⟨f8, h138⟩, ⟨f9, h139⟩, ⟨f0, h140⟩, hr5, hb1, hb2, hC, hhs⟩ := id hX
  refine am_met (by first | decide | rfl) (Nat.le_of_ble_eq_true rfl) (fun h => by first | rfl | cases h) ?_
  show am_W YX10_type _ 0 0 0 [(0, .ref 120), (1, am_i c)] [] _ _
  refine ap_iload_n dX10_type_0 rfl rfl ?_
  refine ap_bipush dX10_type_1 (by decide) ?_
  refine ap_bipush dX10_type_3 (by decide) ?_
  refine ap_cS (As := [am_i c, am_i 32, am_i 126]) (rest := []) (cm_in (by omega) (by omega) (by omega)) dX10_type_5 lk_X10_76 hy_X10_in rfl (Nat.le_of_ble_eq_true rfl) ⟨Nat.le_of_ble_eq_true rfl, Nat.le_of_ble_eq_true rfl⟩ ⟨rfl, rfl⟩ ⟨Nat.le_of_ble_eq_true rfl, Nat.le_of_ble_eq_true rfl⟩ (fun xr1 xN2 μ3 xq4 => ?_)
  obtain ⟨rfl, rfl, rfl⟩ := xq4
  refine ap_topi (b := 1) (show (if 32 ≤ c ∧ c ≤ 126 then 1 else 0) = 1 from if_pos hc) ?_
  refine ap_if_ne (tgt := 13) dX10_type_8 (by decide) (by omega) (fun c8 => ?_) (fun c8 => (by exfalso; omega))
  refine ap_aload_n dX10_type_13 rfl rfl ?_
  refine ap_get ff_X10_114 dX10_type_14 (by omega) hM rfl ?_
  refine ap_bipush dX10_type_17 (by decide) ?_
  refine ap_icmp_ne (tgt := 25) dX10_type_19 (by decide) (by omega) (fun c19 => ?_) (fun c19 => (by exfalso; omega))
  refine ap_aload_n dX10_type_25 rfl rfl ?_
  refine ap_get ff_X10_16 dX10_type_26 (by omega) hM rfl ?_
  refine ap_aload_n dX10_type_29 rfl rfl ?_
  refine ap_get ff_X10_114 dX10_type_30 (by omega) hM rfl ?_
  refine ap_iload_n dX10_type_33 rfl rfl ?_
  refine ap_iast (j := b.length) dX10_type_34 (by omega) hT (by omega) (by omega) (fun μ5 xe6 xf7 => ?_)
  refine ap_aload_n dX10_type_35 rfl rfl ?_
  refine ap_dup dX10_type_36 rfl ?_
  have xm8 : μ5 120 = am_O 10 [.ref 121, .ref 122, am_i (rem : Int), .ref 123, am_i (b.length : Int), am_i zm, am_i zd, am_i ze, am_i zi, .ref 124, .ref 125, am_i zu, .ref 126, .ref 127, .ref 128, .ref 129, .ref 130, .ref 131, .ref 132, .ref 133, .ref 134, .ref 135, am_i zc, .ref 136, .ref 137, .ref 138, .ref 139, .ref 140, am_i zg] := (xf7 _ (by omega)).trans hM
  refine ap_get ff_X10_114 dX10_type_37 (by omega) xm8 rfl ?_
  refine ap_iconst dX10_type_40 ?_
  refine ap_iadd dX10_type_41 ?_
  refine ap_put (fs2 := [.ref 121, .ref 122, am_i (rem : Int), .ref 123, am_i ((b.length : Int) + 1), am_i zm, am_i zd, am_i ze, am_i zi, .ref 124, .ref 125, am_i zu, .ref 126, .ref 127, .ref 128, .ref 129, .ref 130, .ref 131, .ref 132, .ref 133, .ref 134, .ref 135, am_i zc, .ref 136, .ref 137, .ref 138, .ref 139, .ref 140, am_i zg]) ff_X10_114 fc_X10_4 dX10_type_42 (by omega) xm8 (fun _ => ⟨rfl, rfl⟩) (Nat.le_of_ble_eq_true rfl) rfl (fun μ9 xe10 xf11 => ?_)
  refine ap_aload_n dX10_type_45 rfl rfl ?_
  refine ap_get ff_X10_114 dX10_type_46 (by omega) xe10 rfl ?_
  have xm12 : μ9 121 = am_I 0 420 g := (xf11 _ (by omega)).trans ((xf7 _ (by omega)).trans hV)
  have xm13 : μ9 122 = am_I 0 2100 h := (xf11 _ (by omega)).trans ((xf7 _ (by omega)).trans hH)
  have xm14 : μ9 123 = am_I 0 100 (va_up tg b.length c) := (xf11 _ (by omega)).trans xe6
  have xm15 : μ9 124 = am_I 0 4 fi := (xf11 _ (by omega)).trans ((xf7 _ (by omega)).trans hI)
  have xm16 : μ9 138 = am_I 0 101 f8 := (xf11 _ (by omega)).trans ((xf7 _ (by omega)).trans h138)
  have xm17 : μ9 139 = am_I 0 100 f9 := (xf11 _ (by omega)).trans ((xf7 _ (by omega)).trans h139)
  have xm18 : μ9 140 = am_I 0 4 f0 := (xf11 _ (by omega)).trans ((xf7 _ (by omega)).trans h140)
  exact ap_iret dX10_type_49 rfl rfl (Nat.le_of_ble_eq_true rfl) (Nat.le_of_ble_eq_true rfl) (⟨rfl, rfl, ⟨⟨_, _, _, _, _, _, _, (by rw [show (((b ++ [c]).length : Nat) : Int) = (b.length : Int) + 1 by simp]; exact xe10)⟩, ⟨_, xm12, hv1⟩, ⟨_, xm13, hh1⟩, ⟨_, xm14, unr_app ht1⟩, ⟨_, xm15⟩, hS.kept (fun x y1 y2 => (xf11 x (by omega)).trans ((xf7 x (by omega)))), ⟨_, xm16⟩, ⟨_, xm17⟩, ⟨_, xm18⟩, hr5, by rw [List.length_append, List.length_singleton]; omega, fun c2 hc2 => by
  rcases List.mem_append.mp hc2 with q | q
  · exact hb2 c2 q
  · rw [List.mem_singleton.mp q]; omega, hC, hhs⟩, fun x hx => (xf11 x (by omega)).trans ((xf7 x (by omega)))⟩)

theorem cy_type {N : Nat} {μ : am_M} {b : List Int} {C : Snap} {rem : Nat} {hs : Nat → Snap} (hX : Mx μ b C rem hs) (hN : 141 ≤ N) {c : Int} (hc : -2147483648 ≤ c ∧ c ≤ 2147483647) : am_Met YX10_type [.ref 120, am_i c] N μ (mq N μ (am_i (a_type b c)) (b_type b c) C rem hs) := by
  unfold a_type b_type
  by_cases h1 : c < 32 ∨ 126 < c
  · rw [if_pos h1, if_pos h1]; exact cy_typeN hX hN hc (by omega)
  · rw [if_neg h1, if_neg h1]
    by_cases h2 : 100 ≤ b.length
    · rw [if_pos h2, if_pos h2]; exact cy_typeF hX hN (by omega) h2
    · rw [if_neg h2, if_neg h2]; exact cy_typeP hX hN (by omega) (by omega)
set_option maxHeartbeats 4000000 in
set_option maxRecDepth 100000 in
theorem cy_clear {N : Nat} {μ : am_M} {b : List Int} {C : Snap} {rem : Nat} {hs : Nat → Snap} (hX : Mx μ b C rem hs) (hN : 141 ≤ N) : am_Met YX10_clear [.ref 120] N μ (mq N μ (am_i (b.length : Int)) [] C rem hs) := by
  obtain ⟨⟨zm, zd, ze, zi, zu, zc, zg, hM⟩, ⟨g, hV, hv1⟩, ⟨h, hH, hh1⟩, ⟨tg, hT, ht1⟩, ⟨fi, hI⟩, hS, ⟨f8, h138⟩, ⟨f9, h139⟩, ⟨f0, h140⟩, hr5, hb1, hb2, hC, hhs⟩ := id hX
  refine am_met (by first | decide | rfl) (Nat.le_of_ble_eq_true rfl) (fun h => by first | rfl | cases h) ?_
  show am_W YX10_clear _ 0 0 0 [(0, .ref 120)] [] _ _
  refine ap_aload_n dX10_clear_0 rfl rfl ?_
  refine ap_get ff_X10_114 dX10_clear_1 (by omega) hM rfl ?_
  refine ap_Istore_n (lv2 := [(0, .ref 120), (1, am_i (b.length : Int))]) dX10_clear_4 rfl (by decide) rfl ?_
  refine ap_aload_n dX10_clear_5 rfl rfl ?_
  refine ap_iconst dX10_clear_6 ?_
  refine ap_put (fs2 := [.ref 121, .ref 122, am_i (rem : Int), .ref 123, am_i 0, am_i zm, am_i zd, am_i ze, am_i zi, .ref 124, .ref 125, am_i zu, .ref 126, .ref 127, .ref 128, .ref 129, .ref 130, .ref 131, .ref 132, .ref 133, .ref 134, .ref 135, am_i zc, .ref 136, .ref 137, .ref 138, .ref 139, .ref 140, am_i zg]) ff_X10_114 fc_X10_4 dX10_clear_7 (by omega) hM (fun _ => ⟨rfl, rfl⟩) (Nat.le_of_ble_eq_true rfl) rfl (fun μ1 xe2 xf3 => ?_)
  refine ap_iload_n dX10_clear_10 rfl rfl ?_
  have xm4 : μ1 121 = am_I 0 420 g := (xf3 _ (by omega)).trans hV
  have xm5 : μ1 122 = am_I 0 2100 h := (xf3 _ (by omega)).trans hH
  have xm6 : μ1 123 = am_I 0 100 tg := (xf3 _ (by omega)).trans hT
  have xm7 : μ1 124 = am_I 0 4 fi := (xf3 _ (by omega)).trans hI
  have xm8 : μ1 138 = am_I 0 101 f8 := (xf3 _ (by omega)).trans h138
  have xm9 : μ1 139 = am_I 0 100 f9 := (xf3 _ (by omega)).trans h139
  have xm10 : μ1 140 = am_I 0 4 f0 := (xf3 _ (by omega)).trans h140
  exact ap_iret dX10_clear_11 rfl rfl (Nat.le_of_ble_eq_true rfl) (Nat.le_of_ble_eq_true rfl) (⟨rfl, rfl, ⟨⟨_, _, _, _, _, _, _, xe2⟩, ⟨_, xm4, hv1⟩, ⟨_, xm5, hh1⟩, ⟨_, xm6, fun j hj => absurd hj (Nat.not_lt_zero j)⟩, ⟨_, xm7⟩, hS.kept (fun x y1 y2 => (xf3 x (by omega))), ⟨_, xm8⟩, ⟨_, xm9⟩, ⟨_, xm10⟩, hr5, Nat.zero_le _, fun c hc => (by cases hc), hC, hhs⟩, fun x hx => (xf3 x (by omega))⟩)

set_option maxHeartbeats 4000000 in
set_option maxRecDepth 100000 in
theorem cy_setMeterP {N : Nat} {μ : am_M} {b : List Int} {C : Snap} {rem : Nat} {hs : Nat → Snap} (hX : Mx μ b C rem hs) (hN : 141 ≤ N) {be va : Int} (hbe : 1 ≤ be ∧ be ≤ 16) (hva : mv va) : am_Met YX10_setMeter [.ref 120, am_i be, am_i va] N μ (mq N μ (am_i (100 * s_b C + s_v C)) b (s_t C, be, va, s_a C, s_w C) (rnx rem) (hnx rem hs C)) := by
  obtain ⟨⟨zm, zd, ze, zi, zu, zc, zg, hM⟩, ⟨g, hV, hv1⟩, ⟨h, hH, hh1⟩, ⟨tg, hT, ht1⟩, ⟨fi, hI⟩, hS, ⟨f8, h138⟩, ⟨f9, h139⟩, ⟨f0, h140⟩, hr5, hb1, hb2, hC, hhs⟩ := id hX
  refine am_met (by first | decide | rfl) (Nat.le_of_ble_eq_true rfl) (fun h => by first | rfl | cases h) ?_
  show am_W YX10_setMeter _ 0 0 0 [(0, .ref 120), (1, am_i be), (2, am_i va)] [] _ _
  refine ap_iload_n dX10_setMeter_0 rfl rfl ?_
  refine ap_iconst dX10_setMeter_1 ?_
  refine ap_icmp_eq (tgt := 27) dX10_setMeter_2 (by decide) (by omega) (fun c2 => ?_) (fun c2 => ?_)
  · refine ap_iconst dX10_setMeter_27 ?_
    refine ap_goto (tgt := 32) dX10_setMeter_28 (by decide) ?_
    refine ap_Istore_n (lv2 := [(0, .ref 120), (1, am_i be), (2, am_i va), (3, am_i 1)]) dX10_setMeter_32 rfl (by decide) rfl ?_
    refine ap_iload_n dX10_setMeter_33 rfl rfl ?_
    refine ap_iconst dX10_setMeter_34 ?_
    refine ap_bipush dX10_setMeter_35 (by decide) ?_
    refine ap_cS (As := [am_i be, am_i 1, am_i 16]) (rest := []) (cm_in (by omega) (by omega) (by omega)) dX10_setMeter_37 lk_X10_76 hy_X10_in rfl (Nat.le_of_ble_eq_true rfl) ⟨Nat.le_of_ble_eq_true rfl, Nat.le_of_ble_eq_true rfl⟩ ⟨rfl, rfl⟩ ⟨Nat.le_of_ble_eq_true rfl, Nat.le_of_ble_eq_true rfl⟩ (fun xr1 xN2 μ3 xq4 => ?_)
    obtain ⟨rfl, rfl, rfl⟩ := xq4
    refine ap_topi (b := 1) (show (if 1 ≤ be ∧ be ≤ 16 then 1 else 0) = 1 from if_pos hbe) ?_
    refine ap_if_eq (tgt := 47) dX10_setMeter_40 (by decide) (by omega) (fun c40 => (by exfalso; omega)) (fun c40 => ?_)
    refine ap_iload_n dX10_setMeter_43 rfl rfl ?_
    refine ap_if_ne (tgt := 49) dX10_setMeter_44 (by decide) (by omega) (fun c44 => ?_) (fun c44 => (by exfalso; omega))
    refine ap_aload_n dX10_setMeter_49 rfl rfl ?_
    refine ap_cV (As := []) (rest := []) (cm_act (C := C) (hs := hs) hM hV hH hN hr5 hv1 hh1) dX10_setMeter_50 lk_X10_177 hy_X10_act rfl (by omega) hM ⟨_, _, rfl⟩ (Nat.le_of_ble_eq_true rfl) ⟨Nat.le_of_ble_eq_true rfl, Nat.le_of_ble_eq_true rfl⟩ ⟨rfl, rfl⟩ ⟨Nat.le_of_ble_eq_true rfl, Nat.le_of_ble_eq_true rfl⟩ (fun xr5 xN6 μw xq7 => ?_)
    obtain ⟨rfl, rfl, hw1, hw2, h9, hw3, hw4⟩ := xq7
    refine ap_bipush dX10_setMeter_53 (by decide) ?_
    refine ap_aload_n dX10_setMeter_55 rfl rfl ?_
    refine ap_get ff_X10_7 dX10_setMeter_56 (by omega) hw2 rfl ?_
    refine ap_sipush dX10_setMeter_59 (by decide) ?_
    have xm8 : μw 121 = am_I 0 420 g := (hw1 _ (by omega)).trans hV
    refine ap_iald (j := 404) dX10_setMeter_62 (by omega) xm8 (by omega) (by omega) ?_
    refine ap_topi (b := s_b C) (show (g 404) = (s_b C) from hv1.2.1) ?_
    refine ap_imul dX10_setMeter_63 ?_
    refine ap_aload_n dX10_setMeter_64 rfl rfl ?_
    refine ap_get ff_X10_7 dX10_setMeter_65 (by omega) hw2 rfl ?_
    refine ap_sipush dX10_setMeter_68 (by decide) ?_
    refine ap_iald (j := 405) dX10_setMeter_71 (by omega) xm8 (by omega) (by omega) ?_
    refine ap_topi (b := s_v C) (show (g 405) = (s_v C) from hv1.2.2.1) ?_
    refine ap_iadd dX10_setMeter_72 ?_
    refine ap_Istore (lv2 := [(0, .ref 120), (1, am_i be), (2, am_i va), (3, am_i 1), (4, am_i ((100 * (s_b C)) + (s_v C)))]) dX10_setMeter_73 (by decide) rfl ?_
    refine ap_aload_n dX10_setMeter_75 rfl rfl ?_
    refine ap_get ff_X10_7 dX10_setMeter_76 (by omega) hw2 rfl ?_
    refine ap_sipush dX10_setMeter_79 (by decide) ?_
    refine ap_iload_n dX10_setMeter_82 rfl rfl ?_
    refine ap_iast (j := 404) dX10_setMeter_83 (by omega) xm8 (by omega) (by omega) (fun μ9 xe10 xf11 => ?_)
    refine ap_aload_n dX10_setMeter_84 rfl rfl ?_
    have xm12 : μ9 120 = am_O 10 [.ref 121, .ref 122, am_i ((rnx rem : Nat) : Int), .ref 123, am_i (b.length : Int), am_i zm, am_i zd, am_i ze, am_i zi, .ref 124, .ref 125, am_i zu, .ref 126, .ref 127, .ref 128, .ref 129, .ref 130, .ref 131, .ref 132, .ref 133, .ref 134, .ref 135, am_i zc, .ref 136, .ref 137, .ref 138, .ref 139, .ref 140, am_i zg] := (xf11 _ (by omega)).trans hw2
    refine ap_get ff_X10_7 dX10_setMeter_85 (by omega) xm12 rfl ?_
    refine ap_sipush dX10_setMeter_88 (by decide) ?_
    refine ap_iload_n dX10_setMeter_91 rfl rfl ?_
    refine ap_iast (j := 405) dX10_setMeter_92 (by omega) xe10 (by omega) (by omega) (fun μ13 xe14 xf15 => ?_)
    refine ap_iload dX10_setMeter_93 rfl ?_
    have xm16 : μ13 120 = am_O 10 [.ref 121, .ref 122, am_i ((rnx rem : Nat) : Int), .ref 123, am_i (b.length : Int), am_i zm, am_i zd, am_i ze, am_i zi, .ref 124, .ref 125, am_i zu, .ref 126, .ref 127, .ref 128, .ref 129, .ref 130, .ref 131, .ref 132, .ref 133, .ref 134, .ref 135, am_i zc, .ref 136, .ref 137, .ref 138, .ref 139, .ref 140, am_i zg] := (xf15 _ (by omega)).trans xm12
    have xm17 : μ13 122 = am_I 0 2100 h9 := (xf15 _ (by omega)).trans ((xf11 _ (by omega)).trans hw3)
    have xm18 : μ13 123 = am_I 0 100 tg := (xf15 _ (by omega)).trans ((xf11 _ (by omega)).trans ((hw1 _ (by omega)).trans hT))
    have xm19 : μ13 124 = am_I 0 4 fi := (xf15 _ (by omega)).trans ((xf11 _ (by omega)).trans ((hw1 _ (by omega)).trans hI))
    have xm20 : μ13 138 = am_I 0 101 f8 := (xf15 _ (by omega)).trans ((xf11 _ (by omega)).trans ((hw1 _ (by omega)).trans h138))
    have xm21 : μ13 139 = am_I 0 100 f9 := (xf15 _ (by omega)).trans ((xf11 _ (by omega)).trans ((hw1 _ (by omega)).trans h139))
    have xm22 : μ13 140 = am_I 0 4 f0 := (xf15 _ (by omega)).trans ((xf11 _ (by omega)).trans ((hw1 _ (by omega)).trans h140))
    exact ap_iret dX10_setMeter_95 rfl rfl (Nat.le_of_ble_eq_true rfl) (Nat.le_of_ble_eq_true rfl) (⟨rfl, rfl, ⟨⟨_, _, _, _, _, _, _, xm16⟩, ⟨_, xe14, ⟨fun p hp => vtx_congr (hv1.1 p hp) (fun j y1 y2 => by rw [va_upn (by omega), va_upn (by omega)]), by rw [va_upn (by omega), va_upe], va_upe, by rw [va_upn (by omega), va_upn (by omega)]; exact hv1.2.2.2.1, by rw [va_upn (by omega), va_upn (by omega)]; exact hv1.2.2.2.2⟩⟩, ⟨_, xm17, hw4⟩, ⟨_, xm18, ht1⟩, ⟨_, xm19⟩, hS.kept (fun x y1 y2 => (xf15 x (by omega)).trans ((xf11 x (by omega)).trans ((hw1 x (by omega))))), ⟨_, xm20⟩, ⟨_, xm21⟩, ⟨_, xm22⟩, rnx_le, hb1, hb2, ⟨hC.1, hbe, hva, hC.2.2.2⟩, hnx_cs hhs hC hr5⟩, fun x hx => (xf15 x (by omega)).trans ((xf11 x (by omega)).trans ((hw1 x (by omega))))⟩)
  · refine ap_iload_n dX10_setMeter_5 rfl rfl ?_
    refine ap_iconst dX10_setMeter_6 ?_
    refine ap_icmp_eq (tgt := 27) dX10_setMeter_7 (by decide) (by omega) (fun c7 => ?_) (fun c7 => ?_)
    · refine ap_iconst dX10_setMeter_27 ?_
      refine ap_goto (tgt := 32) dX10_setMeter_28 (by decide) ?_
      refine ap_Istore_n (lv2 := [(0, .ref 120), (1, am_i be), (2, am_i va), (3, am_i 1)]) dX10_setMeter_32 rfl (by decide) rfl ?_
      refine ap_iload_n dX10_setMeter_33 rfl rfl ?_
      refine ap_iconst dX10_setMeter_34 ?_
      refine ap_bipush dX10_setMeter_35 (by decide) ?_
      refine ap_cS (As := [am_i be, am_i 1, am_i 16]) (rest := []) (cm_in (by omega) (by omega) (by omega)) dX10_setMeter_37 lk_X10_76 hy_X10_in rfl (Nat.le_of_ble_eq_true rfl) ⟨Nat.le_of_ble_eq_true rfl, Nat.le_of_ble_eq_true rfl⟩ ⟨rfl, rfl⟩ ⟨Nat.le_of_ble_eq_true rfl, Nat.le_of_ble_eq_true rfl⟩ (fun xr23 xN24 μ25 xq26 => ?_)
      obtain ⟨rfl, rfl, rfl⟩ := xq26
      refine ap_topi (b := 1) (show (if 1 ≤ be ∧ be ≤ 16 then 1 else 0) = 1 from if_pos hbe) ?_
      refine ap_if_eq (tgt := 47) dX10_setMeter_40 (by decide) (by omega) (fun c40 => (by exfalso; omega)) (fun c40 => ?_)
      refine ap_iload_n dX10_setMeter_43 rfl rfl ?_
      refine ap_if_ne (tgt := 49) dX10_setMeter_44 (by decide) (by omega) (fun c44 => ?_) (fun c44 => (by exfalso; omega))
      refine ap_aload_n dX10_setMeter_49 rfl rfl ?_
      refine ap_cV (As := []) (rest := []) (cm_act (C := C) (hs := hs) hM hV hH hN hr5 hv1 hh1) dX10_setMeter_50 lk_X10_177 hy_X10_act rfl (by omega) hM ⟨_, _, rfl⟩ (Nat.le_of_ble_eq_true rfl) ⟨Nat.le_of_ble_eq_true rfl, Nat.le_of_ble_eq_true rfl⟩ ⟨rfl, rfl⟩ ⟨Nat.le_of_ble_eq_true rfl, Nat.le_of_ble_eq_true rfl⟩ (fun xr27 xN28 μw xq29 => ?_)
      obtain ⟨rfl, rfl, hw1, hw2, h9, hw3, hw4⟩ := xq29
      refine ap_bipush dX10_setMeter_53 (by decide) ?_
      refine ap_aload_n dX10_setMeter_55 rfl rfl ?_
      refine ap_get ff_X10_7 dX10_setMeter_56 (by omega) hw2 rfl ?_
      refine ap_sipush dX10_setMeter_59 (by decide) ?_
      have xm30 : μw 121 = am_I 0 420 g := (hw1 _ (by omega)).trans hV
      refine ap_iald (j := 404) dX10_setMeter_62 (by omega) xm30 (by omega) (by omega) ?_
      refine ap_topi (b := s_b C) (show (g 404) = (s_b C) from hv1.2.1) ?_
      refine ap_imul dX10_setMeter_63 ?_
      refine ap_aload_n dX10_setMeter_64 rfl rfl ?_
      refine ap_get ff_X10_7 dX10_setMeter_65 (by omega) hw2 rfl ?_
      refine ap_sipush dX10_setMeter_68 (by decide) ?_
      refine ap_iald (j := 405) dX10_setMeter_71 (by omega) xm30 (by omega) (by omega) ?_
      refine ap_topi (b := s_v C) (show (g 405) = (s_v C) from hv1.2.2.1) ?_
      refine ap_iadd dX10_setMeter_72 ?_
      refine ap_Istore (lv2 := [(0, .ref 120), (1, am_i be), (2, am_i va), (3, am_i 1), (4, am_i ((100 * (s_b C)) + (s_v C)))]) dX10_setMeter_73 (by decide) rfl ?_
      refine ap_aload_n dX10_setMeter_75 rfl rfl ?_
      refine ap_get ff_X10_7 dX10_setMeter_76 (by omega) hw2 rfl ?_
      refine ap_sipush dX10_setMeter_79 (by decide) ?_
      refine ap_iload_n dX10_setMeter_82 rfl rfl ?_
      refine ap_iast (j := 404) dX10_setMeter_83 (by omega) xm30 (by omega) (by omega) (fun μ31 xe32 xf33 => ?_)
      refine ap_aload_n dX10_setMeter_84 rfl rfl ?_
      have xm34 : μ31 120 = am_O 10 [.ref 121, .ref 122, am_i ((rnx rem : Nat) : Int), .ref 123, am_i (b.length : Int), am_i zm, am_i zd, am_i ze, am_i zi, .ref 124, .ref 125, am_i zu, .ref 126, .ref 127, .ref 128, .ref 129, .ref 130, .ref 131, .ref 132, .ref 133, .ref 134, .ref 135, am_i zc, .ref 136, .ref 137, .ref 138, .ref 139, .ref 140, am_i zg] := (xf33 _ (by omega)).trans hw2
      refine ap_get ff_X10_7 dX10_setMeter_85 (by omega) xm34 rfl ?_
      refine ap_sipush dX10_setMeter_88 (by decide) ?_
      refine ap_iload_n dX10_setMeter_91 rfl rfl ?_
      refine ap_iast (j := 405) dX10_setMeter_92 (by omega) xe32 (by omega) (by omega) (fun μ35 xe36 xf37 => ?_)
      refine ap_iload dX10_setMeter_93 rfl ?_
      have xm38 : μ35 120 = am_O 10 [.ref 121, .ref 122, am_i ((rnx rem : Nat) : Int), .ref 123, am_i (b.length : Int), am_i zm, am_i zd, am_i ze, am_i zi, .ref 124, .ref 125, am_i zu, .ref 126, .ref 127, .ref 128, .ref 129, .ref 130, .ref 131, .ref 132, .ref 133, .ref 134, .ref 135, am_i zc, .ref 136, .ref 137, .ref 138, .ref 139, .ref 140, am_i zg] := (xf37 _ (by omega)).trans xm34
      have xm39 : μ35 122 = am_I 0 2100 h9 := (xf37 _ (by omega)).trans ((xf33 _ (by omega)).trans hw3)
      have xm40 : μ35 123 = am_I 0 100 tg := (xf37 _ (by omega)).trans ((xf33 _ (by omega)).trans ((hw1 _ (by omega)).trans hT))
      have xm41 : μ35 124 = am_I 0 4 fi := (xf37 _ (by omega)).trans ((xf33 _ (by omega)).trans ((hw1 _ (by omega)).trans hI))
      have xm42 : μ35 138 = am_I 0 101 f8 := (xf37 _ (by omega)).trans ((xf33 _ (by omega)).trans ((hw1 _ (by omega)).trans h138))
      have xm43 : μ35 139 = am_I 0 100 f9 := (xf37 _ (by omega)).trans ((xf33 _ (by omega)).trans ((hw1 _ (by omega)).trans h139))
      have xm44 : μ35 140 = am_I 0 4 f0 := (xf37 _ (by omega)).trans ((xf33 _ (by omega)).trans ((hw1 _ (by omega)).trans h140))
      exact ap_iret dX10_setMeter_95 rfl rfl (Nat.le_of_ble_eq_true rfl) (Nat.le_of_ble_eq_true rfl) (⟨rfl, rfl, ⟨⟨_, _, _, _, _, _, _, xm38⟩, ⟨_, xe36, ⟨fun p hp => vtx_congr (hv1.1 p hp) (fun j y1 y2 => by rw [va_upn (by omega), va_upn (by omega)]), by rw [va_upn (by omega), va_upe], va_upe, by rw [va_upn (by omega), va_upn (by omega)]; exact hv1.2.2.2.1, by rw [va_upn (by omega), va_upn (by omega)]; exact hv1.2.2.2.2⟩⟩, ⟨_, xm39, hw4⟩, ⟨_, xm40, ht1⟩, ⟨_, xm41⟩, hS.kept (fun x y1 y2 => (xf37 x (by omega)).trans ((xf33 x (by omega)).trans ((hw1 x (by omega))))), ⟨_, xm42⟩, ⟨_, xm43⟩, ⟨_, xm44⟩, rnx_le, hb1, hb2, ⟨hC.1, hbe, hva, hC.2.2.2⟩, hnx_cs hhs hC hr5⟩, fun x hx => (xf37 x (by omega)).trans ((xf33 x (by omega)).trans ((hw1 x (by omega))))⟩)
    · refine ap_iload_n dX10_setMeter_10 rfl rfl ?_
      refine ap_iconst dX10_setMeter_11 ?_
      refine ap_icmp_eq (tgt := 27) dX10_setMeter_12 (by decide) (by omega) (fun c12 => ?_) (fun c12 => ?_)
      · refine ap_iconst dX10_setMeter_27 ?_
        refine ap_goto (tgt := 32) dX10_setMeter_28 (by decide) ?_
        refine ap_Istore_n (lv2 := [(0, .ref 120), (1, am_i be), (2, am_i va), (3, am_i 1)]) dX10_setMeter_32 rfl (by decide) rfl ?_
        refine ap_iload_n dX10_setMeter_33 rfl rfl ?_
        refine ap_iconst dX10_setMeter_34 ?_
        refine ap_bipush dX10_setMeter_35 (by decide) ?_
        refine ap_cS (As := [am_i be, am_i 1, am_i 16]) (rest := []) (cm_in (by omega) (by omega) (by omega)) dX10_setMeter_37 lk_X10_76 hy_X10_in rfl (Nat.le_of_ble_eq_true rfl) ⟨Nat.le_of_ble_eq_true rfl, Nat.le_of_ble_eq_true rfl⟩ ⟨rfl, rfl⟩ ⟨Nat.le_of_ble_eq_true rfl, Nat.le_of_ble_eq_true rfl⟩ (fun xr45 xN46 μ47 xq48 => ?_)
        obtain ⟨rfl, rfl, rfl⟩ := xq48
        refine ap_topi (b := 1) (show (if 1 ≤ be ∧ be ≤ 16 then 1 else 0) = 1 from if_pos hbe) ?_
        refine ap_if_eq (tgt := 47) dX10_setMeter_40 (by decide) (by omega) (fun c40 => (by exfalso; omega)) (fun c40 => ?_)
        refine ap_iload_n dX10_setMeter_43 rfl rfl ?_
        refine ap_if_ne (tgt := 49) dX10_setMeter_44 (by decide) (by omega) (fun c44 => ?_) (fun c44 => (by exfalso; omega))
        refine ap_aload_n dX10_setMeter_49 rfl rfl ?_
        refine ap_cV (As := []) (rest := []) (cm_act (C := C) (hs := hs) hM hV hH hN hr5 hv1 hh1) dX10_setMeter_50 lk_X10_177 hy_X10_act rfl (by omega) hM ⟨_, _, rfl⟩ (Nat.le_of_ble_eq_true rfl) ⟨Nat.le_of_ble_eq_true rfl, Nat.le_of_ble_eq_true rfl⟩ ⟨rfl, rfl⟩ ⟨Nat.le_of_ble_eq_true rfl, Nat.le_of_ble_eq_true rfl⟩ (fun xr49 xN50 μw xq51 => ?_)
        obtain ⟨rfl, rfl, hw1, hw2, h9, hw3, hw4⟩ := xq51
        refine ap_bipush dX10_setMeter_53 (by decide) ?_
        refine ap_aload_n dX10_setMeter_55 rfl rfl ?_
        refine ap_get ff_X10_7 dX10_setMeter_56 (by omega) hw2 rfl ?_
        refine ap_sipush dX10_setMeter_59 (by decide) ?_
        have xm52 : μw 121 = am_I 0 420 g := (hw1 _ (by omega)).trans hV
        refine ap_iald (j := 404) dX10_setMeter_62 (by omega) xm52 (by omega) (by omega) ?_
        refine ap_topi (b := s_b C) (show (g 404) = (s_b C) from hv1.2.1) ?_
        refine ap_imul dX10_setMeter_63 ?_
        refine ap_aload_n dX10_setMeter_64 rfl rfl ?_
        refine ap_get ff_X10_7 dX10_setMeter_65 (by omega) hw2 rfl ?_
        refine ap_sipush dX10_setMeter_68 (by decide) ?_
        refine ap_iald (j := 405) dX10_setMeter_71 (by omega) xm52 (by omega) (by omega) ?_
        refine ap_topi (b := s_v C) (show (g 405) = (s_v C) from hv1.2.2.1) ?_
        refine ap_iadd dX10_setMeter_72 ?_
        refine ap_Istore (lv2 := [(0, .ref 120), (1, am_i be), (2, am_i va), (3, am_i 1), (4, am_i ((100 * (s_b C)) + (s_v C)))]) dX10_setMeter_73 (by decide) rfl ?_
        refine ap_aload_n dX10_setMeter_75 rfl rfl ?_
        refine ap_get ff_X10_7 dX10_setMeter_76 (by omega) hw2 rfl ?_
        refine ap_sipush dX10_setMeter_79 (by decide) ?_
        refine ap_iload_n dX10_setMeter_82 rfl rfl ?_
        refine ap_iast (j := 404) dX10_setMeter_83 (by omega) xm52 (by omega) (by omega) (fun μ53 xe54 xf55 => ?_)
        refine ap_aload_n dX10_setMeter_84 rfl rfl ?_
        have xm56 : μ53 120 = am_O 10 [.ref 121, .ref 122, am_i ((rnx rem : Nat) : Int), .ref 123, am_i (b.length : Int), am_i zm, am_i zd, am_i ze, am_i zi, .ref 124, .ref 125, am_i zu, .ref 126, .ref 127, .ref 128, .ref 129, .ref 130, .ref 131, .ref 132, .ref 133, .ref 134, .ref 135, am_i zc, .ref 136, .ref 137, .ref 138, .ref 139, .ref 140, am_i zg] := (xf55 _ (by omega)).trans hw2
        refine ap_get ff_X10_7 dX10_setMeter_85 (by omega) xm56 rfl ?_
        refine ap_sipush dX10_setMeter_88 (by decide) ?_
        refine ap_iload_n dX10_setMeter_91 rfl rfl ?_
        refine ap_iast (j := 405) dX10_setMeter_92 (by omega) xe54 (by omega) (by omega) (fun μ57 xe58 xf59 => ?_)
        refine ap_iload dX10_setMeter_93 rfl ?_
        have xm60 : μ57 120 = am_O 10 [.ref 121, .ref 122, am_i ((rnx rem : Nat) : Int), .ref 123, am_i (b.length : Int), am_i zm, am_i zd, am_i ze, am_i zi, .ref 124, .ref 125, am_i zu, .ref 126, .ref 127, .ref 128, .ref 129, .ref 130, .ref 131, .ref 132, .ref 133, .ref 134, .ref 135, am_i zc, .ref 136, .ref 137, .ref 138, .ref 139, .ref 140, am_i zg] := (xf59 _ (by omega)).trans xm56
        have xm61 : μ57 122 = am_I 0 2100 h9 := (xf59 _ (by omega)).trans ((xf55 _ (by omega)).trans hw3)
        have xm62 : μ57 123 = am_I 0 100 tg := (xf59 _ (by omega)).trans ((xf55 _ (by omega)).trans ((hw1 _ (by omega)).trans hT))
        have xm63 : μ57 124 = am_I 0 4 fi := (xf59 _ (by omega)).trans ((xf55 _ (by omega)).trans ((hw1 _ (by omega)).trans hI))
        have xm64 : μ57 138 = am_I 0 101 f8 := (xf59 _ (by omega)).trans ((xf55 _ (by omega)).trans ((hw1 _ (by omega)).trans h138))
        have xm65 : μ57 139 = am_I 0 100 f9 := (xf59 _ (by omega)).trans ((xf55 _ (by omega)).trans ((hw1 _ (by omega)).trans h139))
        have xm66 : μ57 140 = am_I 0 4 f0 := (xf59 _ (by omega)).trans ((xf55 _ (by omega)).trans ((hw1 _ (by omega)).trans h140))
        exact ap_iret dX10_setMeter_95 rfl rfl (Nat.le_of_ble_eq_true rfl) (Nat.le_of_ble_eq_true rfl) (⟨rfl, rfl, ⟨⟨_, _, _, _, _, _, _, xm60⟩, ⟨_, xe58, ⟨fun p hp => vtx_congr (hv1.1 p hp) (fun j y1 y2 => by rw [va_upn (by omega), va_upn (by omega)]), by rw [va_upn (by omega), va_upe], va_upe, by rw [va_upn (by omega), va_upn (by omega)]; exact hv1.2.2.2.1, by rw [va_upn (by omega), va_upn (by omega)]; exact hv1.2.2.2.2⟩⟩, ⟨_, xm61, hw4⟩, ⟨_, xm62, ht1⟩, ⟨_, xm63⟩, hS.kept (fun x y1 y2 => (xf59 x (by omega)).trans ((xf55 x (by omega)).trans ((hw1 x (by omega))))), ⟨_, xm64⟩, ⟨_, xm65⟩, ⟨_, xm66⟩, rnx_le, hb1, hb2, ⟨hC.1, hbe, hva, hC.2.2.2⟩, hnx_cs hhs hC hr5⟩, fun x hx => (xf59 x (by omega)).trans ((xf55 x (by omega)).trans ((hw1 x (by omega))))⟩)
      · refine ap_iload_n dX10_setMeter_15 rfl rfl ?_
        refine ap_bipush dX10_setMeter_16 (by decide) ?_
        refine ap_icmp_eq (tgt := 27) dX10_setMeter_18 (by decide) (by omega) (fun c18 => ?_) (fun c18 => ?_)
        · refine ap_iconst dX10_setMeter_27 ?_
          refine ap_goto (tgt := 32) dX10_setMeter_28 (by decide) ?_
          refine ap_Istore_n (lv2 := [(0, .ref 120), (1, am_i be), (2, am_i va), (3, am_i 1)]) dX10_setMeter_32 rfl (by decide) rfl ?_
          refine ap_iload_n dX10_setMeter_33 rfl rfl ?_
          refine ap_iconst dX10_setMeter_34 ?_
          refine ap_bipush dX10_setMeter_35 (by decide) ?_
          refine ap_cS (As := [am_i be, am_i 1, am_i 16]) (rest := []) (cm_in (by omega) (by omega) (by omega)) dX10_setMeter_37 lk_X10_76 hy_X10_in rfl (Nat.le_of_ble_eq_true rfl) ⟨Nat.le_of_ble_eq_true rfl, Nat.le_of_ble_eq_true rfl⟩ ⟨rfl, rfl⟩ ⟨Nat.le_of_ble_eq_true rfl, Nat.le_of_ble_eq_true rfl⟩ (fun xr67 xN68 μ69 xq70 => ?_)
          obtain ⟨rfl, rfl, rfl⟩ := xq70
          refine ap_topi (b := 1) (show (if 1 ≤ be ∧ be ≤ 16 then 1 else 0) = 1 from if_pos hbe) ?_
          refine ap_if_eq (tgt := 47) dX10_setMeter_40 (by decide) (by omega) (fun c40 => (by exfalso; omega)) (fun c40 => ?_)
          refine ap_iload_n dX10_setMeter_43 rfl rfl ?_
          refine ap_if_ne (tgt := 49) dX10_setMeter_44 (by decide) (by omega) (fun c44 => ?_) (fun c44 => (by exfalso; omega))
          refine ap_aload_n dX10_setMeter_49 rfl rfl ?_
          refine ap_cV (As := []) (rest := []) (cm_act (C := C) (hs := hs) hM hV hH hN hr5 hv1 hh1) dX10_setMeter_50 lk_X10_177 hy_X10_act rfl (by omega) hM ⟨_, _, rfl⟩ (Nat.le_of_ble_eq_true rfl) ⟨Nat.le_of_ble_eq_true rfl, Nat.le_of_ble_eq_true rfl⟩ ⟨rfl, rfl⟩ ⟨Nat.le_of_ble_eq_true rfl, Nat.le_of_ble_eq_true rfl⟩ (fun xr71 xN72 μw xq73 => ?_)
          obtain ⟨rfl, rfl, hw1, hw2, h9, hw3, hw4⟩ := xq73
          refine ap_bipush dX10_setMeter_53 (by decide) ?_
          refine ap_aload_n dX10_setMeter_55 rfl rfl ?_
          refine ap_get ff_X10_7 dX10_setMeter_56 (by omega) hw2 rfl ?_
          refine ap_sipush dX10_setMeter_59 (by decide) ?_
          have xm74 : μw 121 = am_I 0 420 g := (hw1 _ (by omega)).trans hV
          refine ap_iald (j := 404) dX10_setMeter_62 (by omega) xm74 (by omega) (by omega) ?_
          refine ap_topi (b := s_b C) (show (g 404) = (s_b C) from hv1.2.1) ?_
          refine ap_imul dX10_setMeter_63 ?_
          refine ap_aload_n dX10_setMeter_64 rfl rfl ?_
          refine ap_get ff_X10_7 dX10_setMeter_65 (by omega) hw2 rfl ?_
          refine ap_sipush dX10_setMeter_68 (by decide) ?_
          refine ap_iald (j := 405) dX10_setMeter_71 (by omega) xm74 (by omega) (by omega) ?_
          refine ap_topi (b := s_v C) (show (g 405) = (s_v C) from hv1.2.2.1) ?_
          refine ap_iadd dX10_setMeter_72 ?_
          refine ap_Istore (lv2 := [(0, .ref 120), (1, am_i be), (2, am_i va), (3, am_i 1), (4, am_i ((100 * (s_b C)) + (s_v C)))]) dX10_setMeter_73 (by decide) rfl ?_
          refine ap_aload_n dX10_setMeter_75 rfl rfl ?_
          refine ap_get ff_X10_7 dX10_setMeter_76 (by omega) hw2 rfl ?_
          refine ap_sipush dX10_setMeter_79 (by decide) ?_
          refine ap_iload_n dX10_setMeter_82 rfl rfl ?_
          refine ap_iast (j := 404) dX10_setMeter_83 (by omega) xm74 (by omega) (by omega) (fun μ75 xe76 xf77 => ?_)
          refine ap_aload_n dX10_setMeter_84 rfl rfl ?_
          have xm78 : μ75 120 = am_O 10 [.ref 121, .ref 122, am_i ((rnx rem : Nat) : Int), .ref 123, am_i (b.length : Int), am_i zm, am_i zd, am_i ze, am_i zi, .ref 124, .ref 125, am_i zu, .ref 126, .ref 127, .ref 128, .ref 129, .ref 130, .ref 131, .ref 132, .ref 133, .ref 134, .ref 135, am_i zc, .ref 136, .ref 137, .ref 138, .ref 139, .ref 140, am_i zg] := (xf77 _ (by omega)).trans hw2
          refine ap_get ff_X10_7 dX10_setMeter_85 (by omega) xm78 rfl ?_
          refine ap_sipush dX10_setMeter_88 (by decide) ?_
          refine ap_iload_n dX10_setMeter_91 rfl rfl ?_
          refine ap_iast (j := 405) dX10_setMeter_92 (by omega) xe76 (by omega) (by omega) (fun μ79 xe80 xf81 => ?_)
          refine ap_iload dX10_setMeter_93 rfl ?_
          have xm82 : μ79 120 = am_O 10 [.ref 121, .ref 122, am_i ((rnx rem : Nat) : Int), .ref 123, am_i (b.length : Int), am_i zm, am_i zd, am_i ze, am_i zi, .ref 124, .ref 125, am_i zu, .ref 126, .ref 127, .ref 128, .ref 129, .ref 130, .ref 131, .ref 132, .ref 133, .ref 134, .ref 135, am_i zc, .ref 136, .ref 137, .ref 138, .ref 139, .ref 140, am_i zg] := (xf81 _ (by omega)).trans xm78
          have xm83 : μ79 122 = am_I 0 2100 h9 := (xf81 _ (by omega)).trans ((xf77 _ (by omega)).trans hw3)
          have xm84 : μ79 123 = am_I 0 100 tg := (xf81 _ (by omega)).trans ((xf77 _ (by omega)).trans ((hw1 _ (by omega)).trans hT))
          have xm85 : μ79 124 = am_I 0 4 fi := (xf81 _ (by omega)).trans ((xf77 _ (by omega)).trans ((hw1 _ (by omega)).trans hI))
          have xm86 : μ79 138 = am_I 0 101 f8 := (xf81 _ (by omega)).trans ((xf77 _ (by omega)).trans ((hw1 _ (by omega)).trans h138))
          have xm87 : μ79 139 = am_I 0 100 f9 := (xf81 _ (by omega)).trans ((xf77 _ (by omega)).trans ((hw1 _ (by omega)).trans h139))
          have xm88 : μ79 140 = am_I 0 4 f0 := (xf81 _ (by omega)).trans ((xf77 _ (by omega)).trans ((hw1 _ (by omega)).trans h140))
          exact ap_iret dX10_setMeter_95 rfl rfl (Nat.le_of_ble_eq_true rfl) (Nat.le_of_ble_eq_true rfl) (⟨rfl, rfl, ⟨⟨_, _, _, _, _, _, _, xm82⟩, ⟨_, xe80, ⟨fun p hp => vtx_congr (hv1.1 p hp) (fun j y1 y2 => by rw [va_upn (by omega), va_upn (by omega)]), by rw [va_upn (by omega), va_upe], va_upe, by rw [va_upn (by omega), va_upn (by omega)]; exact hv1.2.2.2.1, by rw [va_upn (by omega), va_upn (by omega)]; exact hv1.2.2.2.2⟩⟩, ⟨_, xm83, hw4⟩, ⟨_, xm84, ht1⟩, ⟨_, xm85⟩, hS.kept (fun x y1 y2 => (xf81 x (by omega)).trans ((xf77 x (by omega)).trans ((hw1 x (by omega))))), ⟨_, xm86⟩, ⟨_, xm87⟩, ⟨_, xm88⟩, rnx_le, hb1, hb2, ⟨hC.1, hbe, hva, hC.2.2.2⟩, hnx_cs hhs hC hr5⟩, fun x hx => (xf81 x (by omega)).trans ((xf77 x (by omega)).trans ((hw1 x (by omega))))⟩)
        · refine ap_iload_n dX10_setMeter_21 rfl rfl ?_
          refine ap_bipush dX10_setMeter_22 (by decide) ?_
          refine ap_icmp_ne (tgt := 31) dX10_setMeter_24 (by decide) (by omega) (fun c24 => (by exfalso; omega)) (fun c24 => ?_)
          refine ap_iconst dX10_setMeter_27 ?_
          refine ap_goto (tgt := 32) dX10_setMeter_28 (by decide) ?_
          refine ap_Istore_n (lv2 := [(0, .ref 120), (1, am_i be), (2, am_i va), (3, am_i 1)]) dX10_setMeter_32 rfl (by decide) rfl ?_
          refine ap_iload_n dX10_setMeter_33 rfl rfl ?_
          refine ap_iconst dX10_setMeter_34 ?_
          refine ap_bipush dX10_setMeter_35 (by decide) ?_
          refine ap_cS (As := [am_i be, am_i 1, am_i 16]) (rest := []) (cm_in (by omega) (by omega) (by omega)) dX10_setMeter_37 lk_X10_76 hy_X10_in rfl (Nat.le_of_ble_eq_true rfl) ⟨Nat.le_of_ble_eq_true rfl, Nat.le_of_ble_eq_true rfl⟩ ⟨rfl, rfl⟩ ⟨Nat.le_of_ble_eq_true rfl, Nat.le_of_ble_eq_true rfl⟩ (fun xr89 xN90 μ91 xq92 => ?_)
          obtain ⟨rfl, rfl, rfl⟩ := xq92
          refine ap_topi (b := 1) (show (if 1 ≤ be ∧ be ≤ 16 then 1 else 0) = 1 from if_pos hbe) ?_
          refine ap_if_eq (tgt := 47) dX10_setMeter_40 (by decide) (by omega) (fun c40 => (by exfalso; omega)) (fun c40 => ?_)
          refine ap_iload_n dX10_setMeter_43 rfl rfl ?_
          refine ap_if_ne (tgt := 49) dX10_setMeter_44 (by decide) (by omega) (fun c44 => ?_) (fun c44 => (by exfalso; omega))
          refine ap_aload_n dX10_setMeter_49 rfl rfl ?_
          refine ap_cV (As := []) (rest := []) (cm_act (C := C) (hs := hs) hM hV hH hN hr5 hv1 hh1) dX10_setMeter_50 lk_X10_177 hy_X10_act rfl (by omega) hM ⟨_, _, rfl⟩ (Nat.le_of_ble_eq_true rfl) ⟨Nat.le_of_ble_eq_true rfl, Nat.le_of_ble_eq_true rfl⟩ ⟨rfl, rfl⟩ ⟨Nat.le_of_ble_eq_true rfl, Nat.le_of_ble_eq_true rfl⟩ (fun xr93 xN94 μw xq95 => ?_)
          obtain ⟨rfl, rfl, hw1, hw2, h9, hw3, hw4⟩ := xq95
          refine ap_bipush dX10_setMeter_53 (by decide) ?_
          refine ap_aload_n dX10_setMeter_55 rfl rfl ?_
          refine ap_get ff_X10_7 dX10_setMeter_56 (by omega) hw2 rfl ?_
          refine ap_sipush dX10_setMeter_59 (by decide) ?_
          have xm96 : μw 121 = am_I 0 420 g := (hw1 _ (by omega)).trans hV
          refine ap_iald (j := 404) dX10_setMeter_62 (by omega) xm96 (by omega) (by omega) ?_
          refine ap_topi (b := s_b C) (show (g 404) = (s_b C) from hv1.2.1) ?_
          refine ap_imul dX10_setMeter_63 ?_
          refine ap_aload_n dX10_setMeter_64 rfl rfl ?_
          refine ap_get ff_X10_7 dX10_setMeter_65 (by omega) hw2 rfl ?_
          refine ap_sipush dX10_setMeter_68 (by decide) ?_
          refine ap_iald (j := 405) dX10_setMeter_71 (by omega) xm96 (by omega) (by omega) ?_
          refine ap_topi (b := s_v C) (show (g 405) = (s_v C) from hv1.2.2.1) ?_
          refine ap_iadd dX10_setMeter_72 ?_
          refine ap_Istore (lv2 := [(0, .ref 120), (1, am_i be), (2, am_i va), (3, am_i 1), (4, am_i ((100 * (s_b C)) + (s_v C)))]) dX10_setMeter_73 (by decide) rfl ?_
          refine ap_aload_n dX10_setMeter_75 rfl rfl ?_
          refine ap_get ff_X10_7 dX10_setMeter_76 (by omega) hw2 rfl ?_
          refine ap_sipush dX10_setMeter_79 (by decide) ?_
          refine ap_iload_n dX10_setMeter_82 rfl rfl ?_
          refine ap_iast (j := 404) dX10_setMeter_83 (by omega) xm96 (by omega) (by omega) (fun μ97 xe98 xf99 => ?_)
          refine ap_aload_n dX10_setMeter_84 rfl rfl ?_
          have xm100 : μ97 120 = am_O 10 [.ref 121, .ref 122, am_i ((rnx rem : Nat) : Int), .ref 123, am_i (b.length : Int), am_i zm, am_i zd, am_i ze, am_i zi, .ref 124, .ref 125, am_i zu, .ref 126, .ref 127, .ref 128, .ref 129, .ref 130, .ref 131, .ref 132, .ref 133, .ref 134, .ref 135, am_i zc, .ref 136, .ref 137, .ref 138, .ref 139, .ref 140, am_i zg] := (xf99 _ (by omega)).trans hw2
          refine ap_get ff_X10_7 dX10_setMeter_85 (by omega) xm100 rfl ?_
          refine ap_sipush dX10_setMeter_88 (by decide) ?_
          refine ap_iload_n dX10_setMeter_91 rfl rfl ?_
          refine ap_iast (j := 405) dX10_setMeter_92 (by omega) xe98 (by omega) (by omega) (fun μ101 xe102 xf103 => ?_)
          refine ap_iload dX10_setMeter_93 rfl ?_
          have xm104 : μ101 120 = am_O 10 [.ref 121, .ref 122, am_i ((rnx rem : Nat) : Int), .ref 123, am_i (b.length : Int), am_i zm, am_i zd, am_i ze, am_i zi, .ref 124, .ref 125, am_i zu, .ref 126, .ref 127, .ref 128, .ref 129, .ref 130, .ref 131, .ref 132, .ref 133, .ref 134, .ref 135, am_i zc, .ref 136, .ref 137, .ref 138, .ref 139, .ref 140, am_i zg] := (xf103 _ (by omega)).trans xm100
          have xm105 : μ101 122 = am_I 0 2100 h9 := (xf103 _ (by omega)).trans ((xf99 _ (by omega)).trans hw3)
          have xm106 : μ101 123 = am_I 0 100 tg := (xf103 _ (by omega)).trans ((xf99 _ (by omega)).trans ((hw1 _ (by omega)).trans hT))
          have xm107 : μ101 124 = am_I 0 4 fi := (xf103 _ (by omega)).trans ((xf99 _ (by omega)).trans ((hw1 _ (by omega)).trans hI))
          have xm108 : μ101 138 = am_I 0 101 f8 := (xf103 _ (by omega)).trans ((xf99 _ (by omega)).trans ((hw1 _ (by omega)).trans h138))
          have xm109 : μ101 139 = am_I 0 100 f9 := (xf103 _ (by omega)).trans ((xf99 _ (by omega)).trans ((hw1 _ (by omega)).trans h139))
          have xm110 : μ101 140 = am_I 0 4 f0 := (xf103 _ (by omega)).trans ((xf99 _ (by omega)).trans ((hw1 _ (by omega)).trans h140))
          exact ap_iret dX10_setMeter_95 rfl rfl (Nat.le_of_ble_eq_true rfl) (Nat.le_of_ble_eq_true rfl) (⟨rfl, rfl, ⟨⟨_, _, _, _, _, _, _, xm104⟩, ⟨_, xe102, ⟨fun p hp => vtx_congr (hv1.1 p hp) (fun j y1 y2 => by rw [va_upn (by omega), va_upn (by omega)]), by rw [va_upn (by omega), va_upe], va_upe, by rw [va_upn (by omega), va_upn (by omega)]; exact hv1.2.2.2.1, by rw [va_upn (by omega), va_upn (by omega)]; exact hv1.2.2.2.2⟩⟩, ⟨_, xm105, hw4⟩, ⟨_, xm106, ht1⟩, ⟨_, xm107⟩, hS.kept (fun x y1 y2 => (xf103 x (by omega)).trans ((xf99 x (by omega)).trans ((hw1 x (by omega))))), ⟨_, xm108⟩, ⟨_, xm109⟩, ⟨_, xm110⟩, rnx_le, hb1, hb2, ⟨hC.1, hbe, hva, hC.2.2.2⟩, hnx_cs hhs hC hr5⟩, fun x hx => (xf103 x (by omega)).trans ((xf99 x (by omega)).trans ((hw1 x (by omega))))⟩)

set_option maxHeartbeats 4000000 in
set_option maxRecDepth 100000 in
theorem cy_setMeterN {N : Nat} {μ : am_M} {b : List Int} {C : Snap} {rem : Nat} {hs : Nat → Snap} (hX : Mx μ b C rem hs) (hN : 141 ≤ N) {be va : Int} (hbe : -2147483648 ≤ be ∧ be ≤ 2147483647) (hva : -2147483648 ≤ va ∧ va ≤ 2147483647) (hn : ¬ ((1 ≤ be ∧ be ≤ 16) ∧ mv va)) : am_Met YX10_setMeter [.ref 120, am_i be, am_i va] N μ (mq N μ (am_i (-1)) b C rem hs) := by
  obtain ⟨⟨zm, zd, ze, zi, zu, zc, zg, hM⟩, ⟨g, hV, hv1⟩, ⟨h, hH, hh1⟩, ⟨tg, hT, ht1⟩, ⟨fi, hI⟩, hS, ⟨f8, h138⟩, ⟨f9, h139⟩, ⟨f0, h140⟩, hr5, hb1, hb2, hC, hhs⟩ := id hX
  refine am_met (by first | decide | rfl) (Nat.le_of_ble_eq_true rfl) (fun h => by first | rfl | cases h) ?_
  show am_W YX10_setMeter _ 0 0 0 [(0, .ref 120), (1, am_i be), (2, am_i va)] [] _ _
  refine ap_iload_n dX10_setMeter_0 rfl rfl ?_
  refine ap_iconst dX10_setMeter_1 ?_
  refine ap_icmp_eq (tgt := 27) dX10_setMeter_2 (by decide) (by omega) (fun c2 => ?_) (fun c2 => ?_)
  · refine ap_iconst dX10_setMeter_27 ?_
    refine ap_goto (tgt := 32) dX10_setMeter_28 (by decide) ?_
    refine ap_Istore_n (lv2 := [(0, .ref 120), (1, am_i be), (2, am_i va), (3, am_i 1)]) dX10_setMeter_32 rfl (by decide) rfl ?_
    refine ap_iload_n dX10_setMeter_33 rfl rfl ?_
    refine ap_iconst dX10_setMeter_34 ?_
    refine ap_bipush dX10_setMeter_35 (by decide) ?_
    refine ap_cS (As := [am_i be, am_i 1, am_i 16]) (rest := []) (cm_in hbe (by omega) (by omega)) dX10_setMeter_37 lk_X10_76 hy_X10_in rfl (Nat.le_of_ble_eq_true rfl) ⟨Nat.le_of_ble_eq_true rfl, Nat.le_of_ble_eq_true rfl⟩ ⟨rfl, rfl⟩ ⟨Nat.le_of_ble_eq_true rfl, Nat.le_of_ble_eq_true rfl⟩ (fun xr1 xN2 μ3 xq4 => ?_)
    obtain ⟨rfl, rfl, rfl⟩ := xq4
    refine ap_if_eq (tgt := 47) dX10_setMeter_40 (by decide) (itr) (fun c40 => ?_) (fun c40 => ?_)
    · refine ap_iconst dX10_setMeter_47 ?_
      exact ap_iret dX10_setMeter_48 rfl rfl (Nat.le_of_ble_eq_true rfl) (Nat.le_of_ble_eq_true rfl) (⟨rfl, rfl, hX, fun x hx => rfl⟩)
    · have k40 := it1 c40
      refine ap_iload_n dX10_setMeter_43 rfl rfl ?_
      refine ap_if_ne (tgt := 49) dX10_setMeter_44 (by decide) (by omega) (fun c44 => (by exfalso; omega)) (fun c44 => ?_)
      refine ap_iconst dX10_setMeter_47 ?_
      exact ap_iret dX10_setMeter_48 rfl rfl (Nat.le_of_ble_eq_true rfl) (Nat.le_of_ble_eq_true rfl) (⟨rfl, rfl, hX, fun x hx => rfl⟩)
  · refine ap_iload_n dX10_setMeter_5 rfl rfl ?_
    refine ap_iconst dX10_setMeter_6 ?_
    refine ap_icmp_eq (tgt := 27) dX10_setMeter_7 (by decide) (by omega) (fun c7 => ?_) (fun c7 => ?_)
    · refine ap_iconst dX10_setMeter_27 ?_
      refine ap_goto (tgt := 32) dX10_setMeter_28 (by decide) ?_
      refine ap_Istore_n (lv2 := [(0, .ref 120), (1, am_i be), (2, am_i va), (3, am_i 1)]) dX10_setMeter_32 rfl (by decide) rfl ?_
      refine ap_iload_n dX10_setMeter_33 rfl rfl ?_
      refine ap_iconst dX10_setMeter_34 ?_
      refine ap_bipush dX10_setMeter_35 (by decide) ?_
      refine ap_cS (As := [am_i be, am_i 1, am_i 16]) (rest := []) (cm_in hbe (by omega) (by omega)) dX10_setMeter_37 lk_X10_76 hy_X10_in rfl (Nat.le_of_ble_eq_true rfl) ⟨Nat.le_of_ble_eq_true rfl, Nat.le_of_ble_eq_true rfl⟩ ⟨rfl, rfl⟩ ⟨Nat.le_of_ble_eq_true rfl, Nat.le_of_ble_eq_true rfl⟩ (fun xr5 xN6 μ7 xq8 => ?_)
      obtain ⟨rfl, rfl, rfl⟩ := xq8
      refine ap_if_eq (tgt := 47) dX10_setMeter_40 (by decide) (itr) (fun c40 => ?_) (fun c40 => ?_)
      · refine ap_iconst dX10_setMeter_47 ?_
        exact ap_iret dX10_setMeter_48 rfl rfl (Nat.le_of_ble_eq_true rfl) (Nat.le_of_ble_eq_true rfl) (⟨rfl, rfl, hX, fun x hx => rfl⟩)
      · have k40 := it1 c40
        refine ap_iload_n dX10_setMeter_43 rfl rfl ?_
        refine ap_if_ne (tgt := 49) dX10_setMeter_44 (by decide) (by omega) (fun c44 => (by exfalso; omega)) (fun c44 => ?_)
        refine ap_iconst dX10_setMeter_47 ?_
        exact ap_iret dX10_setMeter_48 rfl rfl (Nat.le_of_ble_eq_true rfl) (Nat.le_of_ble_eq_true rfl) (⟨rfl, rfl, hX, fun x hx => rfl⟩)
    · refine ap_iload_n dX10_setMeter_10 rfl rfl ?_
      refine ap_iconst dX10_setMeter_11 ?_
      refine ap_icmp_eq (tgt := 27) dX10_setMeter_12 (by decide) (by omega) (fun c12 => ?_) (fun c12 => ?_)
      · refine ap_iconst dX10_setMeter_27 ?_
        refine ap_goto (tgt := 32) dX10_setMeter_28 (by decide) ?_
        refine ap_Istore_n (lv2 := [(0, .ref 120), (1, am_i be), (2, am_i va), (3, am_i 1)]) dX10_setMeter_32 rfl (by decide) rfl ?_
        refine ap_iload_n dX10_setMeter_33 rfl rfl ?_
        refine ap_iconst dX10_setMeter_34 ?_
        refine ap_bipush dX10_setMeter_35 (by decide) ?_
        refine ap_cS (As := [am_i be, am_i 1, am_i 16]) (rest := []) (cm_in hbe (by omega) (by omega)) dX10_setMeter_37 lk_X10_76 hy_X10_in rfl (Nat.le_of_ble_eq_true rfl) ⟨Nat.le_of_ble_eq_true rfl, Nat.le_of_ble_eq_true rfl⟩ ⟨rfl, rfl⟩ ⟨Nat.le_of_ble_eq_true rfl, Nat.le_of_ble_eq_true rfl⟩ (fun xr9 xN10 μ11 xq12 => ?_)
        obtain ⟨rfl, rfl, rfl⟩ := xq12
        refine ap_if_eq (tgt := 47) dX10_setMeter_40 (by decide) (itr) (fun c40 => ?_) (fun c40 => ?_)
        · refine ap_iconst dX10_setMeter_47 ?_
          exact ap_iret dX10_setMeter_48 rfl rfl (Nat.le_of_ble_eq_true rfl) (Nat.le_of_ble_eq_true rfl) (⟨rfl, rfl, hX, fun x hx => rfl⟩)
        · have k40 := it1 c40
          refine ap_iload_n dX10_setMeter_43 rfl rfl ?_
          refine ap_if_ne (tgt := 49) dX10_setMeter_44 (by decide) (by omega) (fun c44 => (by exfalso; omega)) (fun c44 => ?_)
          refine ap_iconst dX10_setMeter_47 ?_
          exact ap_iret dX10_setMeter_48 rfl rfl (Nat.le_of_ble_eq_true rfl) (Nat.le_of_ble_eq_true rfl) (⟨rfl, rfl, hX, fun x hx => rfl⟩)
      · refine ap_iload_n dX10_setMeter_15 rfl rfl ?_
        refine ap_bipush dX10_setMeter_16 (by decide) ?_
        refine ap_icmp_eq (tgt := 27) dX10_setMeter_18 (by decide) (by omega) (fun c18 => ?_) (fun c18 => ?_)
        · refine ap_iconst dX10_setMeter_27 ?_
          refine ap_goto (tgt := 32) dX10_setMeter_28 (by decide) ?_
          refine ap_Istore_n (lv2 := [(0, .ref 120), (1, am_i be), (2, am_i va), (3, am_i 1)]) dX10_setMeter_32 rfl (by decide) rfl ?_
          refine ap_iload_n dX10_setMeter_33 rfl rfl ?_
          refine ap_iconst dX10_setMeter_34 ?_
          refine ap_bipush dX10_setMeter_35 (by decide) ?_
          refine ap_cS (As := [am_i be, am_i 1, am_i 16]) (rest := []) (cm_in hbe (by omega) (by omega)) dX10_setMeter_37 lk_X10_76 hy_X10_in rfl (Nat.le_of_ble_eq_true rfl) ⟨Nat.le_of_ble_eq_true rfl, Nat.le_of_ble_eq_true rfl⟩ ⟨rfl, rfl⟩ ⟨Nat.le_of_ble_eq_true rfl, Nat.le_of_ble_eq_true rfl⟩ (fun xr13 xN14 μ15 xq16 => ?_)
          obtain ⟨rfl, rfl, rfl⟩ := xq16
          refine ap_if_eq (tgt := 47) dX10_setMeter_40 (by decide) (itr) (fun c40 => ?_) (fun c40 => ?_)
          · refine ap_iconst dX10_setMeter_47 ?_
            exact ap_iret dX10_setMeter_48 rfl rfl (Nat.le_of_ble_eq_true rfl) (Nat.le_of_ble_eq_true rfl) (⟨rfl, rfl, hX, fun x hx => rfl⟩)
          · have k40 := it1 c40
            refine ap_iload_n dX10_setMeter_43 rfl rfl ?_
            refine ap_if_ne (tgt := 49) dX10_setMeter_44 (by decide) (by omega) (fun c44 => (by exfalso; omega)) (fun c44 => ?_)
            refine ap_iconst dX10_setMeter_47 ?_
            exact ap_iret dX10_setMeter_48 rfl rfl (Nat.le_of_ble_eq_true rfl) (Nat.le_of_ble_eq_true rfl) (⟨rfl, rfl, hX, fun x hx => rfl⟩)
        · refine ap_iload_n dX10_setMeter_21 rfl rfl ?_
          refine ap_bipush dX10_setMeter_22 (by decide) ?_
          refine ap_icmp_ne (tgt := 31) dX10_setMeter_24 (by decide) (by omega) (fun c24 => ?_) (fun c24 => ?_)
          · refine ap_iconst dX10_setMeter_31 ?_
            refine ap_Istore_n (lv2 := [(0, .ref 120), (1, am_i be), (2, am_i va), (3, am_i 0)]) dX10_setMeter_32 rfl (by decide) rfl ?_
            refine ap_iload_n dX10_setMeter_33 rfl rfl ?_
            refine ap_iconst dX10_setMeter_34 ?_
            refine ap_bipush dX10_setMeter_35 (by decide) ?_
            refine ap_cS (As := [am_i be, am_i 1, am_i 16]) (rest := []) (cm_in hbe (by omega) (by omega)) dX10_setMeter_37 lk_X10_76 hy_X10_in rfl (Nat.le_of_ble_eq_true rfl) ⟨Nat.le_of_ble_eq_true rfl, Nat.le_of_ble_eq_true rfl⟩ ⟨rfl, rfl⟩ ⟨Nat.le_of_ble_eq_true rfl, Nat.le_of_ble_eq_true rfl⟩ (fun xr17 xN18 μ19 xq20 => ?_)
            obtain ⟨rfl, rfl, rfl⟩ := xq20
            refine ap_if_eq (tgt := 47) dX10_setMeter_40 (by decide) (itr) (fun c40 => ?_) (fun c40 => ?_)
            · refine ap_iconst dX10_setMeter_47 ?_
              exact ap_iret dX10_setMeter_48 rfl rfl (Nat.le_of_ble_eq_true rfl) (Nat.le_of_ble_eq_true rfl) (⟨rfl, rfl, hX, fun x hx => rfl⟩)
            · have k40 := it1 c40
              refine ap_iload_n dX10_setMeter_43 rfl rfl ?_
              refine ap_if_ne (tgt := 49) dX10_setMeter_44 (by decide) (by omega) (fun c44 => (by exfalso; omega)) (fun c44 => ?_)
              refine ap_iconst dX10_setMeter_47 ?_
              exact ap_iret dX10_setMeter_48 rfl rfl (Nat.le_of_ble_eq_true rfl) (Nat.le_of_ble_eq_true rfl) (⟨rfl, rfl, hX, fun x hx => rfl⟩)
          · refine ap_iconst dX10_setMeter_27 ?_
            refine ap_goto (tgt := 32) dX10_setMeter_28 (by decide) ?_
            refine ap_Istore_n (lv2 := [(0, .ref 120), (1, am_i be), (2, am_i va), (3, am_i 1)]) dX10_setMeter_32 rfl (by decide) rfl ?_
            refine ap_iload_n dX10_setMeter_33 rfl rfl ?_
            refine ap_iconst dX10_setMeter_34 ?_
            refine ap_bipush dX10_setMeter_35 (by decide) ?_
            refine ap_cS (As := [am_i be, am_i 1, am_i 16]) (rest := []) (cm_in hbe (by omega) (by omega)) dX10_setMeter_37 lk_X10_76 hy_X10_in rfl (Nat.le_of_ble_eq_true rfl) ⟨Nat.le_of_ble_eq_true rfl, Nat.le_of_ble_eq_true rfl⟩ ⟨rfl, rfl⟩ ⟨Nat.le_of_ble_eq_true rfl, Nat.le_of_ble_eq_true rfl⟩ (fun xr21 xN22 μ23 xq24 => ?_)
            obtain ⟨rfl, rfl, rfl⟩ := xq24
            refine ap_if_eq (tgt := 47) dX10_setMeter_40 (by decide) (itr) (fun c40 => ?_) (fun c40 => ?_)
            · refine ap_iconst dX10_setMeter_47 ?_
              exact ap_iret dX10_setMeter_48 rfl rfl (Nat.le_of_ble_eq_true rfl) (Nat.le_of_ble_eq_true rfl) (⟨rfl, rfl, hX, fun x hx => rfl⟩)
            · have k40 := it1 c40
              refine ap_iload_n dX10_setMeter_43 rfl rfl ?_
              refine ap_if_ne (tgt := 49) dX10_setMeter_44 (by decide) (by omega) (fun c44 => (by exfalso; omega)) (fun c44 => ?_)
              refine ap_iconst dX10_setMeter_47 ?_
              exact ap_iret dX10_setMeter_48 rfl rfl (Nat.le_of_ble_eq_true rfl) (Nat.le_of_ble_eq_true rfl) (⟨rfl, rfl, hX, fun x hx => rfl⟩)

set_option maxHeartbeats 4000000 in
set_option maxRecDepth 100000 in
theorem cy_setSwingP {N : Nat} {μ : am_M} {b : List Int} {C : Snap} {rem : Nat} {hs : Nat → Snap} (hX : Mx μ b C rem hs) (hN : 141 ≤ N) {sa sb : Int} (hsa : 1 ≤ sa ∧ sa ≤ 9) (hsb : 1 ≤ sb ∧ sb ≤ 9) : am_Met YX10_setSwing [.ref 120, am_i sa, am_i sb] N μ (mq N μ (am_i (10 * s_a C + s_w C)) b (s_t C, s_b C, s_v C, sa, sb) (rnx rem) (hnx rem hs C)) := by
  obtain ⟨⟨zm, zd, ze, zi, zu, zc, zg, hM⟩, ⟨g, hV, hv1⟩, ⟨h, hH, hh1⟩, ⟨tg, hT, ht1⟩, ⟨fi, hI⟩, hS, ⟨f8, h138⟩, ⟨f9, h139⟩, ⟨f0, h140⟩, hr5, hb1, hb2, hC, hhs⟩ := id hX
  refine am_met (by first | decide | rfl) (Nat.le_of_ble_eq_true rfl) (fun h => by first | rfl | cases h) ?_
  show am_W YX10_setSwing _ 0 0 0 [(0, .ref 120), (1, am_i sa), (2, am_i sb)] [] _ _
  refine ap_iload_n dX10_setSwing_0 rfl rfl ?_
  refine ap_iconst dX10_setSwing_1 ?_
  refine ap_bipush dX10_setSwing_2 (by decide) ?_
  refine ap_cS (As := [am_i sa, am_i 1, am_i 9]) (rest := []) (cm_in (by omega) (by omega) (by omega)) dX10_setSwing_4 lk_X10_76 hy_X10_in rfl (Nat.le_of_ble_eq_true rfl) ⟨Nat.le_of_ble_eq_true rfl, Nat.le_of_ble_eq_true rfl⟩ ⟨rfl, rfl⟩ ⟨Nat.le_of_ble_eq_true rfl, Nat.le_of_ble_eq_true rfl⟩ (fun xr1 xN2 μ3 xq4 => ?_)
  obtain ⟨rfl, rfl, rfl⟩ := xq4
  refine ap_topi (b := 1) (show (if 1 ≤ sa ∧ sa ≤ 9 then 1 else 0) = 1 from if_pos hsa) ?_
  refine ap_if_eq (tgt := 20) dX10_setSwing_7 (by decide) (by omega) (fun c7 => (by exfalso; omega)) (fun c7 => ?_)
  refine ap_iload_n dX10_setSwing_10 rfl rfl ?_
  refine ap_iconst dX10_setSwing_11 ?_
  refine ap_bipush dX10_setSwing_12 (by decide) ?_
  refine ap_cS (As := [am_i sb, am_i 1, am_i 9]) (rest := []) (cm_in (by omega) (by omega) (by omega)) dX10_setSwing_14 lk_X10_76 hy_X10_in rfl (Nat.le_of_ble_eq_true rfl) ⟨Nat.le_of_ble_eq_true rfl, Nat.le_of_ble_eq_true rfl⟩ ⟨rfl, rfl⟩ ⟨Nat.le_of_ble_eq_true rfl, Nat.le_of_ble_eq_true rfl⟩ (fun xr5 xN6 μ7 xq8 => ?_)
  obtain ⟨rfl, rfl, rfl⟩ := xq8
  refine ap_topi (b := 1) (show (if 1 ≤ sb ∧ sb ≤ 9 then 1 else 0) = 1 from if_pos hsb) ?_
  refine ap_if_ne (tgt := 22) dX10_setSwing_17 (by decide) (by omega) (fun c17 => ?_) (fun c17 => (by exfalso; omega))
  refine ap_aload_n dX10_setSwing_22 rfl rfl ?_
  refine ap_cV (As := []) (rest := []) (cm_act (C := C) (hs := hs) hM hV hH hN hr5 hv1 hh1) dX10_setSwing_23 lk_X10_177 hy_X10_act rfl (by omega) hM ⟨_, _, rfl⟩ (Nat.le_of_ble_eq_true rfl) ⟨Nat.le_of_ble_eq_true rfl, Nat.le_of_ble_eq_true rfl⟩ ⟨rfl, rfl⟩ ⟨Nat.le_of_ble_eq_true rfl, Nat.le_of_ble_eq_true rfl⟩ (fun xr9 xN10 μw xq11 => ?_)
  obtain ⟨rfl, rfl, hw1, hw2, h9, hw3, hw4⟩ := xq11
  refine ap_bipush dX10_setSwing_26 (by decide) ?_
  refine ap_aload_n dX10_setSwing_28 rfl rfl ?_
  refine ap_get ff_X10_7 dX10_setSwing_29 (by omega) hw2 rfl ?_
  refine ap_sipush dX10_setSwing_32 (by decide) ?_
  have xm12 : μw 121 = am_I 0 420 g := (hw1 _ (by omega)).trans hV
  refine ap_iald (j := 406) dX10_setSwing_35 (by omega) xm12 (by omega) (by omega) ?_
  refine ap_topi (b := s_a C) (show (g 406) = (s_a C) from hv1.2.2.2.1) ?_
  refine ap_imul dX10_setSwing_36 ?_
  refine ap_aload_n dX10_setSwing_37 rfl rfl ?_
  refine ap_get ff_X10_7 dX10_setSwing_38 (by omega) hw2 rfl ?_
  refine ap_sipush dX10_setSwing_41 (by decide) ?_
  refine ap_iald (j := 407) dX10_setSwing_44 (by omega) xm12 (by omega) (by omega) ?_
  refine ap_topi (b := s_w C) (show (g 407) = (s_w C) from hv1.2.2.2.2) ?_
  refine ap_iadd dX10_setSwing_45 ?_
  refine ap_Istore_n (lv2 := [(0, .ref 120), (1, am_i sa), (2, am_i sb), (3, am_i ((10 * (s_a C)) + (s_w C)))]) dX10_setSwing_46 rfl (by decide) rfl ?_
  refine ap_aload_n dX10_setSwing_47 rfl rfl ?_
  refine ap_get ff_X10_7 dX10_setSwing_48 (by omega) hw2 rfl ?_
  refine ap_sipush dX10_setSwing_51 (by decide) ?_
  refine ap_iload_n dX10_setSwing_54 rfl rfl ?_
  refine ap_iast (j := 406) dX10_setSwing_55 (by omega) xm12 (by omega) (by omega) (fun μ13 xe14 xf15 => ?_)
  refine ap_aload_n dX10_setSwing_56 rfl rfl ?_
  have xm16 : μ13 120 = am_O 10 [.ref 121, .ref 122, am_i ((rnx rem : Nat) : Int), .ref 123, am_i (b.length : Int), am_i zm, am_i zd, am_i ze, am_i zi, .ref 124, .ref 125, am_i zu, .ref 126, .ref 127, .ref 128, .ref 129, .ref 130, .ref 131, .ref 132, .ref 133, .ref 134, .ref 135, am_i zc, .ref 136, .ref 137, .ref 138, .ref 139, .ref 140, am_i zg] := (xf15 _ (by omega)).trans hw2
  refine ap_get ff_X10_7 dX10_setSwing_57 (by omega) xm16 rfl ?_
  refine ap_sipush dX10_setSwing_60 (by decide) ?_
  refine ap_iload_n dX10_setSwing_63 rfl rfl ?_
  refine ap_iast (j := 407) dX10_setSwing_64 (by omega) xe14 (by omega) (by omega) (fun μ17 xe18 xf19 => ?_)
  refine ap_iload_n dX10_setSwing_65 rfl rfl ?_
  have xm20 : μ17 120 = am_O 10 [.ref 121, .ref 122, am_i ((rnx rem : Nat) : Int), .ref 123, am_i (b.length : Int), am_i zm, am_i zd, am_i ze, am_i zi, .ref 124, .ref 125, am_i zu, .ref 126, .ref 127, .ref 128, .ref 129, .ref 130, .ref 131, .ref 132, .ref 133, .ref 134, .ref 135, am_i zc, .ref 136, .ref 137, .ref 138, .ref 139, .ref 140, am_i zg] := (xf19 _ (by omega)).trans xm16
  have xm21 : μ17 122 = am_I 0 2100 h9 := (xf19 _ (by omega)).trans ((xf15 _ (by omega)).trans hw3)
  have xm22 : μ17 123 = am_I 0 100 tg := (xf19 _ (by omega)).trans ((xf15 _ (by omega)).trans ((hw1 _ (by omega)).trans hT))
  have xm23 : μ17 124 = am_I 0 4 fi := (xf19 _ (by omega)).trans ((xf15 _ (by omega)).trans ((hw1 _ (by omega)).trans hI))
  have xm24 : μ17 138 = am_I 0 101 f8 := (xf19 _ (by omega)).trans ((xf15 _ (by omega)).trans ((hw1 _ (by omega)).trans h138))
  have xm25 : μ17 139 = am_I 0 100 f9 := (xf19 _ (by omega)).trans ((xf15 _ (by omega)).trans ((hw1 _ (by omega)).trans h139))
  have xm26 : μ17 140 = am_I 0 4 f0 := (xf19 _ (by omega)).trans ((xf15 _ (by omega)).trans ((hw1 _ (by omega)).trans h140))
  exact ap_iret dX10_setSwing_66 rfl rfl (Nat.le_of_ble_eq_true rfl) (Nat.le_of_ble_eq_true rfl) (⟨rfl, rfl, ⟨⟨_, _, _, _, _, _, _, xm20⟩, ⟨_, xe18, ⟨fun p hp => vtx_congr (hv1.1 p hp) (fun j y1 y2 => by rw [va_upn (by omega), va_upn (by omega)]), by rw [va_upn (by omega), va_upn (by omega)]; exact hv1.2.1, by rw [va_upn (by omega), va_upn (by omega)]; exact hv1.2.2.1, by rw [va_upn (by omega), va_upe], va_upe⟩⟩, ⟨_, xm21, hw4⟩, ⟨_, xm22, ht1⟩, ⟨_, xm23⟩, hS.kept (fun x y1 y2 => (xf19 x (by omega)).trans ((xf15 x (by omega)).trans ((hw1 x (by omega))))), ⟨_, xm24⟩, ⟨_, xm25⟩, ⟨_, xm26⟩, rnx_le, hb1, hb2, ⟨hC.1, hC.2.1, hC.2.2.1, hsa, hsb⟩, hnx_cs hhs hC hr5⟩, fun x hx => (xf19 x (by omega)).trans ((xf15 x (by omega)).trans ((hw1 x (by omega))))⟩)

set_option maxHeartbeats 4000000 in
set_option maxRecDepth 100000 in
theorem cy_setSwingN {N : Nat} {μ : am_M} {b : List Int} {C : Snap} {rem : Nat} {hs : Nat → Snap} (hX : Mx μ b C rem hs) (hN : 141 ≤ N) {sa sb : Int} (hsa : -2147483648 ≤ sa ∧ sa ≤ 2147483647) (hsb : -2147483648 ≤ sb ∧ sb ≤ 2147483647) (hn : ¬ ((1 ≤ sa ∧ sa ≤ 9) ∧ 1 ≤ sb ∧ sb ≤ 9)) : am_Met YX10_setSwing [.ref 120, am_i sa, am_i sb] N μ (mq N μ (am_i (-1)) b C rem hs) := by
  obtain ⟨⟨zm, zd, ze, zi, zu, zc, zg, hM⟩, ⟨g, hV, hv1⟩, ⟨h, hH, hh1⟩, ⟨tg, hT, ht1⟩, ⟨fi, hI⟩, hS, ⟨f8, h138⟩, ⟨f9, h139⟩, ⟨f0, h140⟩, hr5, hb1, hb2, hC, hhs⟩ := id hX
  refine am_met (by first | decide | rfl) (Nat.le_of_ble_eq_true rfl) (fun h => by first | rfl | cases h) ?_
  show am_W YX10_setSwing _ 0 0 0 [(0, .ref 120), (1, am_i sa), (2, am_i sb)] [] _ _
  refine ap_iload_n dX10_setSwing_0 rfl rfl ?_
  refine ap_iconst dX10_setSwing_1 ?_
  refine ap_bipush dX10_setSwing_2 (by decide) ?_
  refine ap_cS (As := [am_i sa, am_i 1, am_i 9]) (rest := []) (cm_in hsa (by omega) (by omega)) dX10_setSwing_4 lk_X10_76 hy_X10_in rfl (Nat.le_of_ble_eq_true rfl) ⟨Nat.le_of_ble_eq_true rfl, Nat.le_of_ble_eq_true rfl⟩ ⟨rfl, rfl⟩ ⟨Nat.le_of_ble_eq_true rfl, Nat.le_of_ble_eq_true rfl⟩ (fun xr1 xN2 μ3 xq4 => ?_)
  obtain ⟨rfl, rfl, rfl⟩ := xq4
  refine ap_if_eq (tgt := 20) dX10_setSwing_7 (by decide) (itr) (fun c7 => ?_) (fun c7 => ?_)
  · refine ap_iconst dX10_setSwing_20 ?_
    exact ap_iret dX10_setSwing_21 rfl rfl (Nat.le_of_ble_eq_true rfl) (Nat.le_of_ble_eq_true rfl) (⟨rfl, rfl, hX, fun x hx => rfl⟩)
  · have k7 := it1 c7
    refine ap_iload_n dX10_setSwing_10 rfl rfl ?_
    refine ap_iconst dX10_setSwing_11 ?_
    refine ap_bipush dX10_setSwing_12 (by decide) ?_
    refine ap_cS (As := [am_i sb, am_i 1, am_i 9]) (rest := []) (cm_in hsb (by omega) (by omega)) dX10_setSwing_14 lk_X10_76 hy_X10_in rfl (Nat.le_of_ble_eq_true rfl) ⟨Nat.le_of_ble_eq_true rfl, Nat.le_of_ble_eq_true rfl⟩ ⟨rfl, rfl⟩ ⟨Nat.le_of_ble_eq_true rfl, Nat.le_of_ble_eq_true rfl⟩ (fun xr5 xN6 μ7 xq8 => ?_)
    obtain ⟨rfl, rfl, rfl⟩ := xq8
    refine ap_topi (b := 0) (show (if 1 ≤ sb ∧ sb ≤ 9 then 1 else 0) = 0 from if_neg (by omega)) ?_
    refine ap_if_ne (tgt := 22) dX10_setSwing_17 (by decide) (by omega) (fun c17 => (by exfalso; omega)) (fun c17 => ?_)
    refine ap_iconst dX10_setSwing_20 ?_
    exact ap_iret dX10_setSwing_21 rfl rfl (Nat.le_of_ble_eq_true rfl) (Nat.le_of_ble_eq_true rfl) (⟨rfl, rfl, hX, fun x hx => rfl⟩)

set_option maxHeartbeats 4000000 in
set_option maxRecDepth 100000 in
theorem cy_undoN {N : Nat} {μ : am_M} {b : List Int} {C : Snap} {rem : Nat} {hs : Nat → Snap} (hX : Mx μ b C rem hs) (hN : 141 ≤ N) (hn : rem = 0) : am_Met YX10_undo [.ref 120] N μ (mq N μ (am_i (-9)) b C rem hs) := by
  obtain ⟨⟨zm, zd, ze, zi, zu, zc, zg, hM⟩, ⟨g, hV, hv1⟩, ⟨h, hH, hh1⟩, ⟨tg, hT, ht1⟩, ⟨fi, hI⟩, hS, ⟨f8, h138⟩, ⟨f9, h139⟩, ⟨f0, h140⟩, hr5, hb1, hb2, hC, hhs⟩ := id hX
  refine am_met (by first | decide | rfl) (Nat.le_of_ble_eq_true rfl) (fun h => by first | rfl | cases h) ?_
  show am_W YX10_undo _ 0 0 0 [(0, .ref 120)] [] _ _
  refine ap_aload_n dX10_undo_0 rfl rfl ?_
  refine ap_get ff_X10_72 dX10_undo_1 (by omega) hM rfl ?_
  refine ap_if_ne (tgt := 10) dX10_undo_4 (by decide) (by omega) (fun c4 => (by exfalso; omega)) (fun c4 => ?_)
  refine ap_bipush dX10_undo_7 (by decide) ?_
  exact ap_iret dX10_undo_9 rfl rfl (Nat.le_of_ble_eq_true rfl) (Nat.le_of_ble_eq_true rfl) (⟨rfl, rfl, hX, fun x hx => rfl⟩)

set_option maxHeartbeats 4000000 in
set_option maxRecDepth 100000 in
theorem lm_undo {N : Nat} {μ0 : am_M} {zt zm zd ze zi zu zc zg : Int} {h : Nat → Int} {r0 : Nat} {Q : Option Value → Nat → am_M → Prop} (hM0 : μ0 120 = mcl (r0 : Int) zt zm zd ze zi zu zc zg) (hH0 : μ0 122 = am_I 0 2100 h) (hN : 141 ≤ N) (hr : r0 < 5) (hk : ∀ (μ : am_M) (g : Nat → Int), (∀ x, x ≠ 121 → μ x = μ0 x) → μ 121 = am_I 0 420 g → (∀ j, j < 420 → g j = h (420 * r0 + j)) → Q (some (am_i (r0 : Int))) N μ) : ∀ (nn : Nat) (i : Nat) (z : Int) (μ : am_M) (g : Nat → Int), z = (i : Int) → i ≤ 420 → (∀ x, x ≠ 121 → μ x = μ0 x) → μ 121 = am_I 0 420 g → (∀ j, j < i → g j = h (420 * r0 + j)) → 420 - i < nn → am_W YX10_undo (Q) 0 0 22 [(0, .ref 120), (1, am_i z)] [] N μ := by
  intro nn
  induction nn with
  | zero =>
    intro i z μ g hz hi hf hV h1 hm
    exfalso; omega
  | succ nn ih =>
    intro i z μ g hz hi hf hV h1 hm
    have hM : μ 120 = mcl (r0 : Int) zt zm zd ze zi zu zc zg := (hf 120 (by omega)).trans hM0
    have hH : μ 122 = am_I 0 2100 h := (hf 122 (by omega)).trans hH0
    refine ap_iload_n dX10_undo_22 rfl rfl ?_
    refine ap_sipush dX10_undo_23 (by decide) ?_
    refine ap_icmp_ge (tgt := 56) dX10_undo_26 (by decide) (by omega) (fun c26 => ?_) (fun c26 => ?_)
    · refine ap_aload_n dX10_undo_56 rfl rfl ?_
      refine ap_get ff_X10_72 dX10_undo_57 (by omega) hM rfl ?_
      exact ap_iret dX10_undo_60 rfl rfl (Nat.le_of_ble_eq_true rfl) (Nat.le_of_ble_eq_true rfl) (hk μ g hf hV (fun j hj => h1 j (by omega)))
    · refine ap_aload_n dX10_undo_29 rfl rfl ?_
      refine ap_get ff_X10_7 dX10_undo_30 (by omega) hM rfl ?_
      refine ap_iload_n dX10_undo_33 rfl rfl ?_
      refine ap_aload_n dX10_undo_34 rfl rfl ?_
      refine ap_get ff_X10_13 dX10_undo_35 (by omega) hM rfl ?_
      refine ap_sipush dX10_undo_38 (by decide) ?_
      refine ap_aload_n dX10_undo_41 rfl rfl ?_
      refine ap_get ff_X10_72 dX10_undo_42 (by omega) hM rfl ?_
      refine ap_imul dX10_undo_45 ?_
      refine ap_iload_n dX10_undo_46 rfl rfl ?_
      refine ap_iadd dX10_undo_47 ?_
      refine ap_iald (j := 420 * r0 + i) dX10_undo_48 (by omega) hH (by omega) (by omega) ?_
      refine ap_iast (j := i) dX10_undo_49 (by omega) hV (by omega) (by omega) (fun μ1 xe2 xf3 => ?_)
      refine ap_Iinc (lv2 := [(0, .ref 120), (1, am_i (z + 1))]) dX10_undo_50 rfl (by decide) rfl ?_
      refine ap_goto (tgt := 22) dX10_undo_53 (by decide) ?_
      exact ih (i + 1) _ μ1 _ (by omega) (by omega) (fun x hx => ((xf3 x (by omega))).trans (hf x hx)) xe2 (fun j hj => by
        by_cases hq : j = i
        · rw [hq, va_upe]
        · rw [va_upn hq]; exact h1 j (by omega)) (by omega)

set_option maxHeartbeats 4000000 in
set_option maxRecDepth 100000 in
theorem cy_undoP {N : Nat} {μ : am_M} {b : List Int} {C : Snap} {rem : Nat} {hs : Nat → Snap} (hX : Mx μ b C rem hs) (hN : 141 ≤ N) (hn : 0 < rem) : am_Met YX10_undo [.ref 120] N μ (mq N μ (am_i ((rem - 1 : Nat) : Int)) b (hs (rem - 1)) (rem - 1) hs) := by
  obtain ⟨⟨zm, zd, ze, zi, zu, zc, zg, hM⟩, ⟨g, hV, hv1⟩, ⟨h, hH, hh1⟩, ⟨tg, hT, ht1⟩, ⟨fi, hI⟩, hS, ⟨f8, h138⟩, ⟨f9, h139⟩, ⟨f0, h140⟩, hr5, hb1, hb2, hC, hhs⟩ := id hX
  refine am_met (by first | decide | rfl) (Nat.le_of_ble_eq_true rfl) (fun h => by first | rfl | cases h) ?_
  show am_W YX10_undo _ 0 0 0 [(0, .ref 120)] [] _ _
  refine ap_aload_n dX10_undo_0 rfl rfl ?_
  refine ap_get ff_X10_72 dX10_undo_1 (by omega) hM rfl ?_
  refine ap_if_ne (tgt := 10) dX10_undo_4 (by decide) (by omega) (fun c4 => ?_) (fun c4 => (by exfalso; omega))
  refine ap_aload_n dX10_undo_10 rfl rfl ?_
  refine ap_dup dX10_undo_11 rfl ?_
  refine ap_get ff_X10_72 dX10_undo_12 (by omega) hM rfl ?_
  refine ap_iconst dX10_undo_15 ?_
  refine ap_isub dX10_undo_16 ?_
  refine ap_topi (b := ((rem - 1 : Nat) : Int)) (show ((rem : Int) - 1) = ((rem - 1 : Nat) : Int) from by omega) ?_
  refine ap_put (fs2 := [.ref 121, .ref 122, am_i ((rem - 1 : Nat) : Int), .ref 123, am_i (b.length : Int), am_i zm, am_i zd, am_i ze, am_i zi, .ref 124, .ref 125, am_i zu, .ref 126, .ref 127, .ref 128, .ref 129, .ref 130, .ref 131, .ref 132, .ref 133, .ref 134, .ref 135, am_i zc, .ref 136, .ref 137, .ref 138, .ref 139, .ref 140, am_i zg]) ff_X10_72 fc_X10_2 dX10_undo_17 (by omega) hM (fun _ => ⟨rfl, rfl⟩) (Nat.le_of_ble_eq_true rfl) rfl (fun μ1 xe2 xf3 => ?_)
  refine ap_iconst dX10_undo_20 ?_
  refine ap_Istore_n (lv2 := [(0, .ref 120), (1, am_i 0)]) dX10_undo_21 rfl (by decide) rfl ?_
  have xm4 : μ1 122 = am_I 0 2100 h := (xf3 _ (by omega)).trans hH
  have xm5 : μ1 121 = am_I 0 420 g := (xf3 _ (by omega)).trans hV
  have xm6 : μ1 123 = am_I 0 100 tg := (xf3 _ (by omega)).trans hT
  have xm7 : μ1 124 = am_I 0 4 fi := (xf3 _ (by omega)).trans hI
  have xm8 : μ1 138 = am_I 0 101 f8 := (xf3 _ (by omega)).trans h138
  have xm9 : μ1 139 = am_I 0 100 f9 := (xf3 _ (by omega)).trans h139
  have xm10 : μ1 140 = am_I 0 4 f0 := (xf3 _ (by omega)).trans h140
  refine lm_undo (r0 := rem - 1) xe2 xm4 hN (by omega) (fun μy gy hy1 hy2 hy3 => ⟨rfl, rfl, ?_, fun x hx => (hy1 x (by omega)).trans ((xf3 x (by omega)))⟩) 421 0 _ μ1 g rfl (by omega) (fun x hx => rfl) xm5 (fun j hj => absurd hj (Nat.not_lt_zero j)) (by omega)
  exact ⟨⟨_, _, _, _, _, _, _, (hy1 120 (by omega)).trans xe2⟩, ⟨gy, hy2, vrel_congr (hh1 (rem - 1) (by omega)) hy3⟩, ⟨_, (hy1 122 (by omega)).trans xm4, fun k hk => hh1 k (by omega)⟩, ⟨_, (hy1 123 (by omega)).trans xm6, ht1⟩, ⟨_, (hy1 124 (by omega)).trans xm7⟩, hS.kept (fun x y1 y2 => (hy1 x (by omega)).trans ((xf3 x (by omega)))), ⟨_, (hy1 138 (by omega)).trans xm8⟩, ⟨_, (hy1 139 (by omega)).trans xm9⟩, ⟨_, (hy1 140 (by omega)).trans xm10⟩, by omega, hb1, hb2, hhs (rem - 1) (by omega), fun k hk => hhs k (by omega)⟩

set_option maxHeartbeats 4000000 in
set_option maxRecDepth 100000 in
theorem cy_copyN {N : Nat} {μ : am_M} {b : List Int} {C : Snap} {rem : Nat} {hs : Nat → Snap} (hX : Mx μ b C rem hs) (hN : 141 ≤ N) {fr to : Int} (hfr : -2147483648 ≤ fr ∧ fr ≤ 2147483647) (hto : -2147483648 ≤ to ∧ to ≤ 2147483647) (hn : ¬ ((0 ≤ fr ∧ fr < 4) ∧ (0 ≤ to ∧ to < 4))) : am_Met YX10_copy [.ref 120, am_i fr, am_i to] N μ (mq N μ (am_i (-1)) b C rem hs) := by
  obtain ⟨⟨zm, zd, ze, zi, zu, zc, zg, hM⟩, ⟨g, hV, hv1⟩, ⟨h, hH, hh1⟩, ⟨tg, hT, ht1⟩, ⟨fi, hI⟩, hS, ⟨f8, h138⟩, ⟨f9, h139⟩, ⟨f0, h140⟩, hr5, hb1, hb2, hC, hhs⟩ := id hX
  refine am_met (by first | decide | rfl) (Nat.le_of_ble_eq_true rfl) (fun h => by first | rfl | cases h) ?_
  show am_W YX10_copy _ 0 0 0 [(0, .ref 120), (1, am_i fr), (2, am_i to)] [] _ _
  refine ap_iload_n dX10_copy_0 rfl rfl ?_
  refine ap_cS (As := [am_i fr]) (rest := []) (cm_isPart (by omega)) dX10_copy_1 lk_X10_163 hy_X10_isPart rfl (Nat.le_of_ble_eq_true rfl) ⟨Nat.le_of_ble_eq_true rfl, Nat.le_of_ble_eq_true rfl⟩ ⟨rfl, rfl⟩ ⟨Nat.le_of_ble_eq_true rfl, Nat.le_of_ble_eq_true rfl⟩ (fun xr1 xN2 μ3 xq4 => ?_)
  obtain ⟨rfl, rfl, rfl⟩ := xq4
  refine ap_if_eq (tgt := 14) dX10_copy_4 (by decide) (itr) (fun c4 => ?_) (fun c4 => ?_)
  · refine ap_iconst dX10_copy_14 ?_
    exact ap_iret dX10_copy_15 rfl rfl (Nat.le_of_ble_eq_true rfl) (Nat.le_of_ble_eq_true rfl) (⟨rfl, rfl, hX, fun x hx => rfl⟩)
  · have k4 := it1 c4
    refine ap_iload_n dX10_copy_7 rfl rfl ?_
    refine ap_cS (As := [am_i to]) (rest := []) (cm_isPart (by omega)) dX10_copy_8 lk_X10_163 hy_X10_isPart rfl (Nat.le_of_ble_eq_true rfl) ⟨Nat.le_of_ble_eq_true rfl, Nat.le_of_ble_eq_true rfl⟩ ⟨rfl, rfl⟩ ⟨Nat.le_of_ble_eq_true rfl, Nat.le_of_ble_eq_true rfl⟩ (fun xr5 xN6 μ7 xq8 => ?_)
    obtain ⟨rfl, rfl, rfl⟩ := xq8
    refine ap_topi (b := 0) (show (if 0 ≤ to ∧ to ≤ 3 then 1 else 0) = 0 from if_neg (by omega)) ?_
    refine ap_if_ne (tgt := 16) dX10_copy_11 (by decide) (by omega) (fun c11 => (by exfalso; omega)) (fun c11 => ?_)
    refine ap_iconst dX10_copy_14 ?_
    exact ap_iret dX10_copy_15 rfl rfl (Nat.le_of_ble_eq_true rfl) (Nat.le_of_ble_eq_true rfl) (⟨rfl, rfl, hX, fun x hx => rfl⟩)

set_option maxHeartbeats 4000000 in
set_option maxRecDepth 100000 in
theorem lm_copy {N : Nat} {μ0 : am_M} {zp zt zm zd ze zi zu zc zg : Int} {g0 : Nat → Int} {p p2 : Nat} {Q : Option Value → Nat → am_M → Prop} (hM0 : μ0 120 = mcl zp zt zm zd ze zi zu zc zg) (hN : 141 ≤ N) (hp : p < 4) (hp2 : p2 < 4) (hk : ∀ (μ : am_M) (g : Nat → Int), (∀ x, x ≠ 121 → μ x = μ0 x) → μ 121 = am_I 0 420 g → (∀ j, j < 101 → g (101 * p2 + j) = g0 (101 * p + j)) → (∀ j, ¬ (101 * p2 ≤ j ∧ j < 101 * p2 + 101) → g j = g0 j) → am_W YX10_copy Q 0 0 56 [(0, .ref 120), (1, am_i (p : Int)), (2, am_i (p2 : Int)), (3, am_i 101)] [] N μ) : ∀ (nn : Nat) (i : Nat) (z : Int) (μ : am_M) (g : Nat → Int), z = (i : Int) → i ≤ 101 → (∀ x, x ≠ 121 → μ x = μ0 x) → μ 121 = am_I 0 420 g → (∀ j, j < i → g (101 * p2 + j) = g0 (101 * p + j)) → (∀ j, ¬ (101 * p2 ≤ j ∧ j < 101 * p2 + i) → g j = g0 j) → 101 - i < nn → am_W YX10_copy (Q) 0 0 22 [(0, .ref 120), (1, am_i (p : Int)), (2, am_i (p2 : Int)), (3, am_i z)] [] N μ := by
  intro nn
  induction nn with
  | zero =>
    intro i z μ g hz hi hf hV h1 h2 hm
    exfalso; omega
  | succ nn ih =>
    intro i z μ g hz hi hf hV h1 h2 hm
    have hM : μ 120 = mcl zp zt zm zd ze zi zu zc zg := (hf 120 (by omega)).trans hM0
    refine ap_iload_n dX10_copy_22 rfl rfl ?_
    refine ap_bipush dX10_copy_23 (by decide) ?_
    refine ap_icmp_ge (tgt := 56) dX10_copy_25 (by decide) (by omega) (fun c25 => ?_) (fun c25 => ?_)
    · obtain rfl : i = 101 := by omega
      rw [hz]
      exact hk μ g hf hV h1 h2
    · refine ap_aload_n dX10_copy_28 rfl rfl ?_
      refine ap_get ff_X10_7 dX10_copy_29 (by omega) hM rfl ?_
      refine ap_bipush dX10_copy_32 (by decide) ?_
      refine ap_iload_n dX10_copy_34 rfl rfl ?_
      refine ap_imul dX10_copy_35 ?_
      refine ap_iload_n dX10_copy_36 rfl rfl ?_
      refine ap_iadd dX10_copy_37 ?_
      refine ap_aload_n dX10_copy_38 rfl rfl ?_
      refine ap_get ff_X10_7 dX10_copy_39 (by omega) hM rfl ?_
      refine ap_bipush dX10_copy_42 (by decide) ?_
      refine ap_iload_n dX10_copy_44 rfl rfl ?_
      refine ap_imul dX10_copy_45 ?_
      refine ap_iload_n dX10_copy_46 rfl rfl ?_
      refine ap_iadd dX10_copy_47 ?_
      refine ap_iald (j := 101 * p + i) dX10_copy_48 (by omega) hV (by omega) (by omega) ?_
      refine ap_iast (j := 101 * p2 + i) dX10_copy_49 (by omega) hV (by omega) (by omega) (fun μ1 xe2 xf3 => ?_)
      refine ap_Iinc (lv2 := [(0, .ref 120), (1, am_i (p : Int)), (2, am_i (p2 : Int)), (3, am_i (z + 1))]) dX10_copy_50 rfl (by decide) rfl ?_
      refine ap_goto (tgt := 22) dX10_copy_53 (by decide) ?_
      exact ih (i + 1) _ μ1 _ (by omega) (by omega) (fun x hx => ((xf3 x (by omega))).trans (hf x hx)) xe2 (fun j hj => by
        by_cases hq : j = i
        · rw [hq, va_upe]; exact h2 _ (by omega)
        · rw [va_upn (by omega)]; exact h1 j (by omega)) (fun j hj => by rw [va_upn (by omega)]; exact h2 j (by omega)) (by omega)

set_option maxHeartbeats 4000000 in
set_option maxRecDepth 100000 in
theorem cy_copyP {N : Nat} {μ : am_M} {b : List Int} {C : Snap} {rem : Nat} {hs : Nat → Snap} (hX : Mx μ b C rem hs) (hN : 141 ≤ N) {p p2 : Nat} (hp : p < 4) (hp2 : p2 < 4) : am_Met YX10_copy [.ref 120, am_i (p : Int), am_i (p2 : Int)] N μ (mq N μ (am_i (cnt (s_t C p))) b (va_up (s_t C) p2 (s_t C p), s_b C, s_v C, s_a C, s_w C) (rnx rem) (hnx rem hs C)) := by
  obtain ⟨⟨zm, zd, ze, zi, zu, zc, zg, hM⟩, ⟨g, hV, hv1⟩, ⟨h, hH, hh1⟩, ⟨tg, hT, ht1⟩, ⟨fi, hI⟩, hS, ⟨f8, h138⟩, ⟨f9, h139⟩, ⟨f0, h140⟩, hr5, hb1, hb2, hC, hhs⟩ := id hX
  refine am_met (by first | decide | rfl) (Nat.le_of_ble_eq_true rfl) (fun h => by first | rfl | cases h) ?_
  show am_W YX10_copy _ 0 0 0 [(0, .ref 120), (1, am_i (p : Int)), (2, am_i (p2 : Int))] [] _ _
  refine ap_iload_n dX10_copy_0 rfl rfl ?_
  refine ap_cS (As := [am_i (p : Int)]) (rest := []) (cm_isPart (by omega)) dX10_copy_1 lk_X10_163 hy_X10_isPart rfl (Nat.le_of_ble_eq_true rfl) ⟨Nat.le_of_ble_eq_true rfl, Nat.le_of_ble_eq_true rfl⟩ ⟨rfl, rfl⟩ ⟨Nat.le_of_ble_eq_true rfl, Nat.le_of_ble_eq_true rfl⟩ (fun xr1 xN2 μ3 xq4 => ?_)
  obtain ⟨rfl, rfl, rfl⟩ := xq4
  refine ap_topi (b := 1) (show (if 0 ≤ (p : Int) ∧ (p : Int) ≤ 3 then 1 else 0) = 1 from if_pos (by omega)) ?_
  refine ap_if_eq (tgt := 14) dX10_copy_4 (by decide) (by omega) (fun c4 => (by exfalso; omega)) (fun c4 => ?_)
  refine ap_iload_n dX10_copy_7 rfl rfl ?_
  refine ap_cS (As := [am_i (p2 : Int)]) (rest := []) (cm_isPart (by omega)) dX10_copy_8 lk_X10_163 hy_X10_isPart rfl (Nat.le_of_ble_eq_true rfl) ⟨Nat.le_of_ble_eq_true rfl, Nat.le_of_ble_eq_true rfl⟩ ⟨rfl, rfl⟩ ⟨Nat.le_of_ble_eq_true rfl, Nat.le_of_ble_eq_true rfl⟩ (fun xr5 xN6 μ7 xq8 => ?_)
  obtain ⟨rfl, rfl, rfl⟩ := xq8
  refine ap_topi (b := 1) (show (if 0 ≤ (p2 : Int) ∧ (p2 : Int) ≤ 3 then 1 else 0) = 1 from if_pos (by omega)) ?_
  refine ap_if_ne (tgt := 16) dX10_copy_11 (by decide) (by omega) (fun c11 => ?_) (fun c11 => (by exfalso; omega))
  refine ap_aload_n dX10_copy_16 rfl rfl ?_
  refine ap_cV (As := []) (rest := []) (cm_act (C := C) (hs := hs) hM hV hH hN hr5 hv1 hh1) dX10_copy_17 lk_X10_177 hy_X10_act rfl (by omega) hM ⟨_, _, rfl⟩ (Nat.le_of_ble_eq_true rfl) ⟨Nat.le_of_ble_eq_true rfl, Nat.le_of_ble_eq_true rfl⟩ ⟨rfl, rfl⟩ ⟨Nat.le_of_ble_eq_true rfl, Nat.le_of_ble_eq_true rfl⟩ (fun xr9 xN10 μw xq11 => ?_)
  obtain ⟨rfl, rfl, hw1, hw2, h9, hw3, hw4⟩ := xq11
  refine ap_iconst dX10_copy_20 ?_
  refine ap_Istore_n (lv2 := [(0, .ref 120), (1, am_i (p : Int)), (2, am_i (p2 : Int)), (3, am_i 0)]) dX10_copy_21 rfl (by decide) rfl ?_
  have xm12 : μw 121 = am_I 0 420 g := (hw1 _ (by omega)).trans hV
  refine lm_copy (g0 := g) (p := p) (p2 := p2) hw2 hN hp hp2 ?_ 102 0 _ μw g rfl (by omega) (fun x hx => rfl) xm12 (fun j hj => absurd hj (Nat.not_lt_zero j)) (fun j hj => rfl) (by omega)
  intro μy gy hy1 hy2 hy3 hy4
  have hvx : vtx gy p2 (s_t C p) := ⟨(hy3 0 (by omega)).trans (hv1.1 p hp).1, fun k hk => by
    have q := hy3 (1 + k) (by have := (hv1.1 p hp).2.2.1; omega)
    rw [← Nat.add_assoc, ← Nat.add_assoc] at q
    exact q.trans ((hv1.1 p hp).2.1 k hk), (hv1.1 p hp).2.2⟩
  refine ap_aload_n dX10_copy_56 rfl rfl ?_
  refine ap_iload_n dX10_copy_57 rfl rfl ?_
  have xm13 : μy 120 = am_O 10 [.ref 121, .ref 122, am_i ((rnx rem : Nat) : Int), .ref 123, am_i (b.length : Int), am_i zm, am_i zd, am_i ze, am_i zi, .ref 124, .ref 125, am_i zu, .ref 126, .ref 127, .ref 128, .ref 129, .ref 130, .ref 131, .ref 132, .ref 133, .ref 134, .ref 135, am_i zc, .ref 136, .ref 137, .ref 138, .ref 139, .ref 140, am_i zg] := (hy1 _ (by omega)).trans hw2
  refine ap_cV (As := [am_i (p2 : Int)]) (rest := []) (cm_works (p := p2) (xs := s_t C p) xm13 hy2 hN (by omega) hvx (hS.kept (fun x y1 y2 => (hy1 x (by omega)).trans ((hw1 x (by omega))))) ((hC.1 p hp).1)) dX10_copy_58 lk_X10_174 hy_X10_works rfl (by omega) xm13 ⟨_, _, rfl⟩ (Nat.le_of_ble_eq_true rfl) ⟨Nat.le_of_ble_eq_true rfl, Nat.le_of_ble_eq_true rfl⟩ ⟨rfl, rfl⟩ ⟨Nat.le_of_ble_eq_true rfl, Nat.le_of_ble_eq_true rfl⟩ (fun xr14 xN15 μv xq16 => ?_)
  obtain ⟨rfl, rfl, ⟨zu2, zc2, hk1, hk2⟩, hk3, hk4, hk5, hk6⟩ := xq16
  obtain ⟨⟨fo, fs, fa, fb, fn, fm, fl, ⟨m1, m2, m3, m4, m5, m6, m7⟩, m8, m9, m10, m11⟩, hbd⟩ := hk5 ((hC.1 p hp).2)
  refine ap_aload_n dX10_copy_61 rfl rfl ?_
  refine ap_get ff_X10_41 dX10_copy_62 (by omega) hk1 rfl ?_
  refine ap_iload_n dX10_copy_65 rfl rfl ?_
  refine ap_iald (j := p2) dX10_copy_66 (by omega) m6 (by omega) (by omega) ?_
  refine ap_topi (b := cnt (s_t C p)) (show (fm p2) = (cnt (s_t C p)) from m9) ?_
  have xm17 : μv 121 = am_I 0 420 gy := (hk4 _ (by omega)).trans hy2
  have xm18 : μv 122 = am_I 0 2100 h9 := (hk4 _ (by omega)).trans ((hy1 _ (by omega)).trans hw3)
  have xm19 : μv 123 = am_I 0 100 tg := (hk4 _ (by omega)).trans ((hy1 _ (by omega)).trans ((hw1 _ (by omega)).trans hT))
  have xm20 : μv 124 = am_I 0 4 fi := (hk4 _ (by omega)).trans ((hy1 _ (by omega)).trans ((hw1 _ (by omega)).trans hI))
  have xm21 : μv 138 = am_I 0 101 f8 := (hk4 _ (by omega)).trans ((hy1 _ (by omega)).trans ((hw1 _ (by omega)).trans h138))
  have xm22 : μv 139 = am_I 0 100 f9 := (hk4 _ (by omega)).trans ((hy1 _ (by omega)).trans ((hw1 _ (by omega)).trans h139))
  have xm23 : μv 140 = am_I 0 4 f0 := (hk4 _ (by omega)).trans ((hy1 _ (by omega)).trans ((hw1 _ (by omega)).trans h140))
  exact ap_iret dX10_copy_67 rfl rfl (Nat.le_of_ble_eq_true rfl) (Nat.le_of_ble_eq_true rfl) (⟨rfl, rfl, ⟨⟨_, _, _, _, _, _, _, hk1⟩, ⟨_, xm17, vrel_take hv1 hp2 hvx hy4⟩, ⟨_, xm18, hw4⟩, ⟨_, xm19, ht1⟩, ⟨_, xm20⟩, hk3, ⟨_, xm21⟩, ⟨_, xm22⟩, ⟨_, xm23⟩, rnx_le, hb1, hb2, csn_set hC (hC.1 p hp), hnx_cs hhs hC hr5⟩, fun x hx => (hk4 x (by omega)).trans ((hy1 x (by omega)).trans ((hw1 x (by omega))))⟩)

set_option maxHeartbeats 4000000 in
set_option maxRecDepth 100000 in
theorem cy_spreadN {N : Nat} {μ : am_M} {b : List Int} {C : Snap} {rem : Nat} {hs : Nat → Snap} (hX : Mx μ b C rem hs) (hN : 141 ≤ N) {k hi st le : Int} (hk : -2147483648 ≤ k ∧ k ≤ 2147483647) (hhi : -2147483648 ≤ hi ∧ hi ≤ 2147483647) (hst : -2147483648 ≤ st ∧ st ≤ 2147483647) (hle : -2147483648 ≤ le ∧ le ≤ 2147483647) (hn : ¬ ((0 ≤ k ∧ k < 4) ∧ (1 ≤ st ∧ st ≤ 32) ∧ (0 ≤ hi ∧ hi ≤ st) ∧ 0 ≤ hv le)) : am_Met YX10_spread [.ref 120, am_i k, am_i hi, am_i st, am_i le] N μ (mq N μ (am_i (-1)) b C rem hs) := by
  obtain ⟨⟨zm, zd, ze, zi, zu, zc, zg, hM⟩, ⟨g, hV, hv1⟩, ⟨h, hH, hh1⟩, ⟨tg, hT, ht1⟩, ⟨fi, hI⟩, hS, ⟨f8, h138⟩, ⟨f9, h139⟩, ⟨f0, h140⟩, hr5, hb1, hb2, hC, hhs⟩ := id hX
  refine am_met (by first | decide | rfl) (Nat.le_of_ble_eq_true rfl) (fun h => by first | rfl | cases h) ?_
  show am_W YX10_spread _ 0 0 0 [(0, .ref 120), (1, am_i k), (2, am_i hi), (3, am_i st), (4, am_i le)] [] _ _
  refine ap_iload_n dX10_spread_0 rfl rfl ?_
  refine ap_cS (As := [am_i k]) (rest := []) (cm_isPart (by omega)) dX10_spread_1 lk_X10_163 hy_X10_isPart rfl (Nat.le_of_ble_eq_true rfl) ⟨Nat.le_of_ble_eq_true rfl, Nat.le_of_ble_eq_true rfl⟩ ⟨rfl, rfl⟩ ⟨Nat.le_of_ble_eq_true rfl, Nat.le_of_ble_eq_true rfl⟩ (fun xr1 xN2 μ3 xq4 => ?_)
  obtain ⟨rfl, rfl, rfl⟩ := xq4
  refine ap_if_eq (tgt := 34) dX10_spread_4 (by decide) (itr) (fun c4 => ?_) (fun c4 => ?_)
  · refine ap_iconst dX10_spread_34 ?_
    exact ap_iret dX10_spread_35 rfl rfl (Nat.le_of_ble_eq_true rfl) (Nat.le_of_ble_eq_true rfl) (⟨rfl, rfl, hX, fun x hx => rfl⟩)
  · have k4 := it1 c4
    refine ap_iload_n dX10_spread_7 rfl rfl ?_
    refine ap_iconst dX10_spread_8 ?_
    refine ap_bipush dX10_spread_9 (by decide) ?_
    refine ap_cS (As := [am_i st, am_i 1, am_i 32]) (rest := []) (cm_in hst (by omega) (by omega)) dX10_spread_11 lk_X10_76 hy_X10_in rfl (Nat.le_of_ble_eq_true rfl) ⟨Nat.le_of_ble_eq_true rfl, Nat.le_of_ble_eq_true rfl⟩ ⟨rfl, rfl⟩ ⟨Nat.le_of_ble_eq_true rfl, Nat.le_of_ble_eq_true rfl⟩ (fun xr5 xN6 μ7 xq8 => ?_)
    obtain ⟨rfl, rfl, rfl⟩ := xq8
    refine ap_if_eq (tgt := 34) dX10_spread_14 (by decide) (itr) (fun c14 => ?_) (fun c14 => ?_)
    · refine ap_iconst dX10_spread_34 ?_
      exact ap_iret dX10_spread_35 rfl rfl (Nat.le_of_ble_eq_true rfl) (Nat.le_of_ble_eq_true rfl) (⟨rfl, rfl, hX, fun x hx => rfl⟩)
    · have k14 := it1 c14
      refine ap_iload_n dX10_spread_17 rfl rfl ?_
      refine ap_iconst dX10_spread_18 ?_
      refine ap_iload_n dX10_spread_19 rfl rfl ?_
      refine ap_cS (As := [am_i hi, am_i 0, am_i st]) (rest := []) (cm_in hhi (by omega) hst) dX10_spread_20 lk_X10_76 hy_X10_in rfl (Nat.le_of_ble_eq_true rfl) ⟨Nat.le_of_ble_eq_true rfl, Nat.le_of_ble_eq_true rfl⟩ ⟨rfl, rfl⟩ ⟨Nat.le_of_ble_eq_true rfl, Nat.le_of_ble_eq_true rfl⟩ (fun xr9 xN10 μ11 xq12 => ?_)
      obtain ⟨rfl, rfl, rfl⟩ := xq12
      refine ap_if_eq (tgt := 34) dX10_spread_23 (by decide) (itr) (fun c23 => ?_) (fun c23 => ?_)
      · refine ap_iconst dX10_spread_34 ?_
        exact ap_iret dX10_spread_35 rfl rfl (Nat.le_of_ble_eq_true rfl) (Nat.le_of_ble_eq_true rfl) (⟨rfl, rfl, hX, fun x hx => rfl⟩)
      · have k23 := it1 c23
        refine ap_iload dX10_spread_26 rfl ?_
        refine ap_cS (As := [am_i le]) (rest := []) (cm_halvings hle) dX10_spread_28 lk_X10_83 hy_X10_halvings rfl (Nat.le_of_ble_eq_true rfl) ⟨Nat.le_of_ble_eq_true rfl, Nat.le_of_ble_eq_true rfl⟩ ⟨rfl, rfl⟩ ⟨Nat.le_of_ble_eq_true rfl, Nat.le_of_ble_eq_true rfl⟩ (fun xr13 xN14 μ15 xq16 => ?_)
        obtain ⟨rfl, rfl, rfl⟩ := xq16
        refine ap_if_ge (tgt := 36) dX10_spread_31 (by decide) (by have := hv_r le; omega) (fun c31 => (by exfalso; omega)) (fun c31 => ?_)
        refine ap_iconst dX10_spread_34 ?_
        exact ap_iret dX10_spread_35 rfl rfl (Nat.le_of_ble_eq_true rfl) (Nat.le_of_ble_eq_true rfl) (⟨rfl, rfl, hX, fun x hx => rfl⟩)

set_option maxHeartbeats 4000000 in
set_option maxRecDepth 100000 in
theorem lm_spread {N : Nat} {μ0 : am_M} {zp zt zm zd ze zi zu zc zg : Int} {p hi st le : Nat} {Q : Option Value → Nat → am_M → Prop} (hM0 : μ0 120 = mcl zp zt zm zd ze zi zu zc zg) (hN : 141 ≤ N) (hst : 1 ≤ st ∧ st ≤ 32) (hhi : hi ≤ st) (hk : ∀ (μ : am_M) (f : Nat → Int), (∀ x, x ≠ 139 → μ x = μ0 x) → μ 139 = am_I 0 100 f → unr f (sprd hi st le st) → am_W YX10_spread Q 0 0 92 [(0, .ref 120), (1, am_i (p : Int)), (2, am_i (hi : Int)), (3, am_i (st : Int)), (4, am_i (le : Int)), (5, am_i ((sprd hi st le st).length : Int)), (6, am_i (st : Int))] [] N μ) : ∀ (nn : Nat) (i : Nat) (z : Int) (zn : Int) (μ : am_M) (f : Nat → Int), z = (i : Int) → i ≤ st → (∀ x, x ≠ 139 → μ x = μ0 x) → μ 139 = am_I 0 100 f → unr f (sprd hi st le i) → zn = ((sprd hi st le i).length : Int) → st - i < nn → am_W YX10_spread (Q) 0 0 46 [(0, .ref 120), (1, am_i (p : Int)), (2, am_i (hi : Int)), (3, am_i (st : Int)), (4, am_i (le : Int)), (5, am_i zn), (6, am_i z)] [] N μ := by
  intro nn
  induction nn with
  | zero =>
    intro i z zn μ f hz hi2 hf hF hu hzn hm
    exfalso; omega
  | succ nn ih =>
    intro i z zn μ f hz hi2 hf hF hu hzn hm
    have hM : μ 120 = mcl zp zt zm zd ze zi zu zc zg := (hf 120 (by omega)).trans hM0
    refine ap_iload dX10_spread_46 rfl ?_
    refine ap_iload_n dX10_spread_48 rfl rfl ?_
    refine ap_icmp_ge (tgt := 92) dX10_spread_49 (by decide) (by omega) (fun c49 => ?_) (fun c49 => ?_)
    · have hie : i = st := by omega
      rw [hie] at hz hzn hu
      rw [hz, hzn]
      exact hk μ f hf hF hu
    · have q8 : i * hi ≤ 32 * 32 := Nat.mul_le_mul (by omega) (by omega)
      have q9 : z * (hi : Int) ≤ 2147483647 := by rw [hz, ← Int.natCast_mul]; omega
      have q10 : z * (hi : Int) % (st : Int) = ((i * hi % st : Nat) : Int) := by rw [hz]; simp
      have q11 := Nat.mod_lt (i * hi) (show 0 < st by omega)
      have q12 := sprd_len hi st le i
      refine ap_iload dX10_spread_52 rfl ?_
      refine ap_iload_n dX10_spread_54 rfl rfl ?_
      refine ap_imul dX10_spread_55 ?_
      refine ap_iload_n dX10_spread_56 rfl rfl ?_
      refine ap_irem dX10_spread_57 (⟨⟨Int.mul_nonneg (by omega) (by omega), q9⟩, by omega⟩) ?_
      refine ap_topi (b := ((i * hi % st : Nat) : Int)) (show ((z * (hi : Int)) % (st : Int)) = ((i * hi % st : Nat) : Int) from q10) ?_
      refine ap_iload_n dX10_spread_58 rfl rfl ?_
      refine ap_icmp_lt (tgt := 74) dX10_spread_59 (by decide) (by omega) (fun c59 => ?_) (fun c59 => ?_)
      · refine ap_aload_n dX10_spread_74 rfl rfl ?_
        refine ap_get ff_X10_66 dX10_spread_75 (by omega) hM rfl ?_
        refine ap_iload dX10_spread_78 rfl ?_
        refine ap_iload dX10_spread_80 rfl ?_
        refine ap_iast (j := (sprd hi st le i).length) dX10_spread_82 (by omega) hF (by omega) (by omega) (fun μ1 xe2 xf3 => ?_)
        refine ap_Iinc (lv2 := [(0, .ref 120), (1, am_i (p : Int)), (2, am_i (hi : Int)), (3, am_i (st : Int)), (4, am_i (le : Int)), (5, am_i (zn + 1)), (6, am_i z)]) dX10_spread_83 rfl (by decide) rfl ?_
        refine ap_Iinc (lv2 := [(0, .ref 120), (1, am_i (p : Int)), (2, am_i (hi : Int)), (3, am_i (st : Int)), (4, am_i (le : Int)), (5, am_i (zn + 1)), (6, am_i (z + 1))]) dX10_spread_86 rfl (by decide) rfl ?_
        refine ap_goto (tgt := 46) dX10_spread_89 (by decide) ?_
        exact ih (i + 1) _ _ μ1 _ (by omega) (by omega) (fun x hx => ((xf3 x (by omega))).trans (hf x hx)) xe2 (by rw [sprd, if_neg (by omega), List.nil_append]; exact unr_app hu) (by rw [sprd, if_neg (by omega), List.nil_append]; simp only [List.length_append, List.length_singleton]; omega) (by omega)
      · refine ap_aload_n dX10_spread_62 rfl rfl ?_
        refine ap_get ff_X10_66 dX10_spread_63 (by omega) hM rfl ?_
        refine ap_iload dX10_spread_66 rfl ?_
        refine ap_bipush dX10_spread_68 (by decide) ?_
        refine ap_iast (j := (sprd hi st le i).length) dX10_spread_70 (by omega) hF (by omega) (by omega) (fun μ4 xe5 xf6 => ?_)
        refine ap_Iinc (lv2 := [(0, .ref 120), (1, am_i (p : Int)), (2, am_i (hi : Int)), (3, am_i (st : Int)), (4, am_i (le : Int)), (5, am_i (zn + 1)), (6, am_i z)]) dX10_spread_71 rfl (by decide) rfl ?_
        refine ap_aload_n dX10_spread_74 rfl rfl ?_
        have xm7 : μ4 120 = am_O 10 [.ref 121, .ref 122, am_i zp, .ref 123, am_i zt, am_i zm, am_i zd, am_i ze, am_i zi, .ref 124, .ref 125, am_i zu, .ref 126, .ref 127, .ref 128, .ref 129, .ref 130, .ref 131, .ref 132, .ref 133, .ref 134, .ref 135, am_i zc, .ref 136, .ref 137, .ref 138, .ref 139, .ref 140, am_i zg] := (xf6 _ (by omega)).trans hM
        refine ap_get ff_X10_66 dX10_spread_75 (by omega) xm7 rfl ?_
        refine ap_iload dX10_spread_78 rfl ?_
        refine ap_iload dX10_spread_80 rfl ?_
        refine ap_iast (j := (sprd hi st le i).length + 1) dX10_spread_82 (by omega) xe5 (by omega) (by omega) (fun μ8 xe9 xf10 => ?_)
        refine ap_Iinc (lv2 := [(0, .ref 120), (1, am_i (p : Int)), (2, am_i (hi : Int)), (3, am_i (st : Int)), (4, am_i (le : Int)), (5, am_i ((zn + 1) + 1)), (6, am_i z)]) dX10_spread_83 rfl (by decide) rfl ?_
        refine ap_Iinc (lv2 := [(0, .ref 120), (1, am_i (p : Int)), (2, am_i (hi : Int)), (3, am_i (st : Int)), (4, am_i (le : Int)), (5, am_i ((zn + 1) + 1)), (6, am_i (z + 1))]) dX10_spread_86 rfl (by decide) rfl ?_
        refine ap_goto (tgt := 46) dX10_spread_89 (by decide) ?_
        exact ih (i + 1) _ _ μ8 _ (by omega) (by omega) (fun x hx => ((xf10 x (by omega)).trans ((xf6 x (by omega)))).trans (hf x hx)) xe9 (by
          have r1 := unr_app (c := (le : Int)) (unr_app (c := 114) hu)
          rw [List.length_append, List.length_singleton] at r1
          rw [sprd, if_pos (by omega), ← List.append_assoc]; exact r1) (by rw [sprd, if_pos (by omega)]; simp only [List.length_append, List.length_singleton]; omega) (by omega)

theorem sprd_c {h st l i : Nat} (hl : l ≤ 126) : ∀ c ∈ sprd h st l i, 0 ≤ c ∧ c ≤ 126 := by
  induction i with
  | zero => intro c hc; cases hc
  | succ i ih =>
    intro c hc
    rcases List.mem_append.mp hc with q | q
    · exact ih c q
    · rcases List.mem_append.mp q with q | q
      · split at q
        · rw [List.mem_singleton.mp q]; omega
        · cases q
      · rw [List.mem_singleton.mp q]; omega
set_option maxHeartbeats 4000000 in
set_option maxRecDepth 100000 in
theorem cy_spreadP {N : Nat} {μ : am_M} {b : List Int} {C : Snap} {rem : Nat} {hs : Nat → Snap} (hX : Mx μ b C rem hs) (hN : 141 ≤ N) {p hi st le : Nat} (hp : p < 4) (hst : 1 ≤ st ∧ st ≤ 32) (hhi : hi ≤ st) (hle : le ≤ 126) (hlv : 0 ≤ hv (le : Int)) (hok : gtx (sprd hi st le st)) : am_Met YX10_spread [.ref 120, am_i (p : Int), am_i (hi : Int), am_i (st : Int), am_i (le : Int)] N μ (mq N μ (am_i (cnt (sprd hi st le st))) b (va_up (s_t C) p (sprd hi st le st), s_b C, s_v C, s_a C, s_w C) (rnx rem) (hnx rem hs C)) := by
  obtain ⟨⟨zm, zd, ze, zi, zu, zc, zg, hM⟩, ⟨g, hV, hv1⟩, ⟨h, hH, hh1⟩, ⟨tg, hT, ht1⟩, ⟨fi, hI⟩, hS, ⟨f8, h138⟩, ⟨f9, h139⟩, ⟨f0, h140⟩, hr5, hb1, hb2, hC, hhs⟩ := id hX
  refine am_met (by first | decide | rfl) (Nat.le_of_ble_eq_true rfl) (fun h => by first | rfl | cases h) ?_
  show am_W YX10_spread _ 0 0 0 [(0, .ref 120), (1, am_i (p : Int)), (2, am_i (hi : Int)), (3, am_i (st : Int)), (4, am_i (le : Int))] [] _ _
  refine ap_iload_n dX10_spread_0 rfl rfl ?_
  refine ap_cS (As := [am_i (p : Int)]) (rest := []) (cm_isPart (by omega)) dX10_spread_1 lk_X10_163 hy_X10_isPart rfl (Nat.le_of_ble_eq_true rfl) ⟨Nat.le_of_ble_eq_true rfl, Nat.le_of_ble_eq_true rfl⟩ ⟨rfl, rfl⟩ ⟨Nat.le_of_ble_eq_true rfl, Nat.le_of_ble_eq_true rfl⟩ (fun xr1 xN2 μ3 xq4 => ?_)
  obtain ⟨rfl, rfl, rfl⟩ := xq4
  refine ap_topi (b := 1) (show (if 0 ≤ (p : Int) ∧ (p : Int) ≤ 3 then 1 else 0) = 1 from if_pos (by omega)) ?_
  refine ap_if_eq (tgt := 34) dX10_spread_4 (by decide) (by omega) (fun c4 => (by exfalso; omega)) (fun c4 => ?_)
  refine ap_iload_n dX10_spread_7 rfl rfl ?_
  refine ap_iconst dX10_spread_8 ?_
  refine ap_bipush dX10_spread_9 (by decide) ?_
  refine ap_cS (As := [am_i (st : Int), am_i 1, am_i 32]) (rest := []) (cm_in (by omega) (by omega) (by omega)) dX10_spread_11 lk_X10_76 hy_X10_in rfl (Nat.le_of_ble_eq_true rfl) ⟨Nat.le_of_ble_eq_true rfl, Nat.le_of_ble_eq_true rfl⟩ ⟨rfl, rfl⟩ ⟨Nat.le_of_ble_eq_true rfl, Nat.le_of_ble_eq_true rfl⟩ (fun xr5 xN6 μ7 xq8 => ?_)
  obtain ⟨rfl, rfl, rfl⟩ := xq8
  refine ap_topi (b := 1) (show (if 1 ≤ (st : Int) ∧ (st : Int) ≤ 32 then 1 else 0) = 1 from if_pos (by omega)) ?_
  refine ap_if_eq (tgt := 34) dX10_spread_14 (by decide) (by omega) (fun c14 => (by exfalso; omega)) (fun c14 => ?_)
  refine ap_iload_n dX10_spread_17 rfl rfl ?_
  refine ap_iconst dX10_spread_18 ?_
  refine ap_iload_n dX10_spread_19 rfl rfl ?_
  refine ap_cS (As := [am_i (hi : Int), am_i 0, am_i (st : Int)]) (rest := []) (cm_in (by omega) (by omega) (by omega)) dX10_spread_20 lk_X10_76 hy_X10_in rfl (Nat.le_of_ble_eq_true rfl) ⟨Nat.le_of_ble_eq_true rfl, Nat.le_of_ble_eq_true rfl⟩ ⟨rfl, rfl⟩ ⟨Nat.le_of_ble_eq_true rfl, Nat.le_of_ble_eq_true rfl⟩ (fun xr9 xN10 μ11 xq12 => ?_)
  obtain ⟨rfl, rfl, rfl⟩ := xq12
  refine ap_topi (b := 1) (show (if 0 ≤ (hi : Int) ∧ (hi : Int) ≤ (st : Int) then 1 else 0) = 1 from if_pos (by omega)) ?_
  refine ap_if_eq (tgt := 34) dX10_spread_23 (by decide) (by omega) (fun c23 => (by exfalso; omega)) (fun c23 => ?_)
  refine ap_iload dX10_spread_26 rfl ?_
  refine ap_cS (As := [am_i (le : Int)]) (rest := []) (cm_halvings (by omega)) dX10_spread_28 lk_X10_83 hy_X10_halvings rfl (Nat.le_of_ble_eq_true rfl) ⟨Nat.le_of_ble_eq_true rfl, Nat.le_of_ble_eq_true rfl⟩ ⟨rfl, rfl⟩ ⟨Nat.le_of_ble_eq_true rfl, Nat.le_of_ble_eq_true rfl⟩ (fun xr13 xN14 μ15 xq16 => ?_)
  obtain ⟨rfl, rfl, rfl⟩ := xq16
  refine ap_if_ge (tgt := 36) dX10_spread_31 (by decide) (by have := hv_r (le : Int); omega) (fun c31 => ?_) (fun c31 => (by exfalso; omega))
  refine ap_aload_n dX10_spread_36 rfl rfl ?_
  refine ap_cV (As := []) (rest := []) (cm_act (C := C) (hs := hs) hM hV hH hN hr5 hv1 hh1) dX10_spread_37 lk_X10_177 hy_X10_act rfl (by omega) hM ⟨_, _, rfl⟩ (Nat.le_of_ble_eq_true rfl) ⟨Nat.le_of_ble_eq_true rfl, Nat.le_of_ble_eq_true rfl⟩ ⟨rfl, rfl⟩ ⟨Nat.le_of_ble_eq_true rfl, Nat.le_of_ble_eq_true rfl⟩ (fun xr17 xN18 μw xq19 => ?_)
  obtain ⟨rfl, rfl, hw1, hw2, h9, hw3, hw4⟩ := xq19
  refine ap_iconst dX10_spread_40 ?_
  refine ap_Istore (lv2 := [(0, .ref 120), (1, am_i (p : Int)), (2, am_i (hi : Int)), (3, am_i (st : Int)), (4, am_i (le : Int)), (5, am_i 0)]) dX10_spread_41 (by decide) rfl ?_
  refine ap_iconst dX10_spread_43 ?_
  refine ap_Istore (lv2 := [(0, .ref 120), (1, am_i (p : Int)), (2, am_i (hi : Int)), (3, am_i (st : Int)), (4, am_i (le : Int)), (5, am_i 0), (6, am_i 0)]) dX10_spread_44 (by decide) rfl ?_
  have xm20 : μw 139 = am_I 0 100 f9 := (hw1 _ (by omega)).trans h139
  refine lm_spread (p := p) (hi := hi) (st := st) (le := le) hw2 hN hst hhi ?_ 33 0 _ 0 μw f9 rfl (by omega) (fun x hx => rfl) xm20 (fun j hj => absurd hj (Nat.not_lt_zero j)) rfl (by omega)
  intro μy fy hy1 hy2 hy3
  have q12 := sprd_len hi st le st
  have hsc := sprd_c (h := hi) (st := st) (i := st) hle
  refine ap_aload_n dX10_spread_92 rfl rfl ?_
  refine ap_iload_n dX10_spread_93 rfl rfl ?_
  refine ap_aload_n dX10_spread_94 rfl rfl ?_
  have xm21 : μy 120 = am_O 10 [.ref 121, .ref 122, am_i ((rnx rem : Nat) : Int), .ref 123, am_i (b.length : Int), am_i zm, am_i zd, am_i ze, am_i zi, .ref 124, .ref 125, am_i zu, .ref 126, .ref 127, .ref 128, .ref 129, .ref 130, .ref 131, .ref 132, .ref 133, .ref 134, .ref 135, am_i zc, .ref 136, .ref 137, .ref 138, .ref 139, .ref 140, am_i zg] := (hy1 _ (by omega)).trans hw2
  refine ap_get ff_X10_66 dX10_spread_95 (by omega) xm21 rfl ?_
  refine ap_iload dX10_spread_98 rfl ?_
  have xm22 : μy 121 = am_I 0 420 g := (hy1 _ (by omega)).trans ((hw1 _ (by omega)).trans hV)
  refine ap_cV (As := [am_i (p : Int), .ref 139, am_i ((sprd hi st le st).length : Int)]) (rest := []) (cm_takes (p := p) (n := (sprd hi st le st).length) (q := 139) xm21 xm22 hy2 ⟨by omega, by omega⟩ hN hp (by omega)) dX10_spread_100 lk_X10_170 hy_X10_takes rfl (by omega) xm21 ⟨_, _, rfl⟩ (Nat.le_of_ble_eq_true rfl) ⟨Nat.le_of_ble_eq_true rfl, Nat.le_of_ble_eq_true rfl⟩ ⟨rfl, rfl⟩ ⟨Nat.le_of_ble_eq_true rfl, Nat.le_of_ble_eq_true rfl⟩ (fun xr23 xN24 μu xq25 => ?_)
  obtain ⟨rfl, rfl, hu1, gu, hu2, hu3, hu4, hu5⟩ := xq25
  have hvx : vtx gu p (sprd hi st le st) := ⟨hu3, fun k hk => (hu4 k hk).trans (hy3 k hk), by omega, hsc⟩
  refine ap_aload_n dX10_spread_103 rfl rfl ?_
  refine ap_iload_n dX10_spread_104 rfl rfl ?_
  have xm26 : μu 120 = am_O 10 [.ref 121, .ref 122, am_i ((rnx rem : Nat) : Int), .ref 123, am_i (b.length : Int), am_i zm, am_i zd, am_i ze, am_i zi, .ref 124, .ref 125, am_i zu, .ref 126, .ref 127, .ref 128, .ref 129, .ref 130, .ref 131, .ref 132, .ref 133, .ref 134, .ref 135, am_i zc, .ref 136, .ref 137, .ref 138, .ref 139, .ref 140, am_i zg] := (hu1 _ (by omega)).trans xm21
  refine ap_cV (As := [am_i (p : Int)]) (rest := []) (cm_works (p := p) (xs := sprd hi st le st) xm26 hu2 hN (by omega) hvx (hS.kept (fun x y1 y2 => (hu1 x (by omega)).trans ((hy1 x (by omega)).trans ((hw1 x (by omega)))))) (hok.1)) dX10_spread_105 lk_X10_174 hy_X10_works rfl (by omega) xm26 ⟨_, _, rfl⟩ (Nat.le_of_ble_eq_true rfl) ⟨Nat.le_of_ble_eq_true rfl, Nat.le_of_ble_eq_true rfl⟩ ⟨rfl, rfl⟩ ⟨Nat.le_of_ble_eq_true rfl, Nat.le_of_ble_eq_true rfl⟩ (fun xr27 xN28 μv xq29 => ?_)
  obtain ⟨rfl, rfl, ⟨zu2, zc2, hk1, hk2⟩, hk3, hk4, hk5, hk6⟩ := xq29
  obtain ⟨⟨fo, fs, fa, fb, fn, fm, fl, ⟨m1, m2, m3, m4, m5, m6, m7⟩, m8, m9, m10, m11⟩, hbd⟩ := hk5 (hok.2)
  refine ap_aload_n dX10_spread_108 rfl rfl ?_
  refine ap_get ff_X10_41 dX10_spread_109 (by omega) hk1 rfl ?_
  refine ap_iload_n dX10_spread_112 rfl rfl ?_
  refine ap_iald (j := p) dX10_spread_113 (by omega) m6 (by omega) (by omega) ?_
  refine ap_topi (b := cnt (sprd hi st le st)) (show (fm p) = (cnt (sprd hi st le st)) from m9) ?_
  have xm30 : μv 121 = am_I 0 420 gu := (hk4 _ (by omega)).trans hu2
  have xm31 : μv 122 = am_I 0 2100 h9 := (hk4 _ (by omega)).trans ((hu1 _ (by omega)).trans ((hy1 _ (by omega)).trans hw3))
  have xm32 : μv 123 = am_I 0 100 tg := (hk4 _ (by omega)).trans ((hu1 _ (by omega)).trans ((hy1 _ (by omega)).trans ((hw1 _ (by omega)).trans hT)))
  have xm33 : μv 124 = am_I 0 4 fi := (hk4 _ (by omega)).trans ((hu1 _ (by omega)).trans ((hy1 _ (by omega)).trans ((hw1 _ (by omega)).trans hI)))
  have xm34 : μv 138 = am_I 0 101 f8 := (hk4 _ (by omega)).trans ((hu1 _ (by omega)).trans ((hy1 _ (by omega)).trans ((hw1 _ (by omega)).trans h138)))
  have xm35 : μv 139 = am_I 0 100 fy := (hk4 _ (by omega)).trans ((hu1 _ (by omega)).trans hy2)
  have xm36 : μv 140 = am_I 0 4 f0 := (hk4 _ (by omega)).trans ((hu1 _ (by omega)).trans ((hy1 _ (by omega)).trans ((hw1 _ (by omega)).trans h140)))
  exact ap_iret dX10_spread_114 rfl rfl (Nat.le_of_ble_eq_true rfl) (Nat.le_of_ble_eq_true rfl) (⟨rfl, rfl, ⟨⟨_, _, _, _, _, _, _, hk1⟩, ⟨_, xm30, vrel_take hv1 hp hvx hu5⟩, ⟨_, xm31, hw4⟩, ⟨_, xm32, ht1⟩, ⟨_, xm33⟩, hk3, ⟨_, xm34⟩, ⟨_, xm35⟩, ⟨_, xm36⟩, rnx_le, hb1, hb2, csn_set hC hok, hnx_cs hhs hC hr5⟩, fun x hx => (hk4 x (by omega)).trans ((hu1 x (by omega)).trans ((hy1 x (by omega)).trans ((hw1 x (by omega)))))⟩)

