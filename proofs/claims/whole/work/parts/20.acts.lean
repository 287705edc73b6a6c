def bpost (N : Nat) (μ : am_M) (v : Value) (b : List Int) (C : Snap) (rem : Nat) (hs : Nat → Snap) : Option Value → Nat → am_M → Prop := fun r N2 μ2 => r = some v ∧ N = N2 ∧ Bx μ2 b C rem hs ∧ ∀ x, 120 ≤ x → μ2 x = μ x
theorem Bx.buf {μ μ2 : am_M} {b b2 : List Int} {C : Snap} {rem : Nat} {hs : Nat → Snap} (h : Bx μ b C rem hs) (hT : Tx μ2 1 100 b2) (hf : am_fr 1 3 μ μ2) : Bx μ2 b2 C rem hs := by
  obtain ⟨h1, h2, h3, h4, h5, h6⟩ := h
  exact ⟨(hf _ (by omega)).trans h1, hT, h3.kept (fun b q => hf b (by omega)), h4.kept (fun b q1 q2 => hf b (by omega)), h5.kept (fun b q1 q2 => hf b (by omega)), h6⟩
theorem Bx.rst {μ μ2 : am_M} {b : List Int} {C : Snap} {rem : Nat} {hs : Nat → Snap} (h : Bx μ b C rem hs) (hR : Rst μ2) (hf : ∀ x, x ≠ 3 → x ≠ 4 → x ≠ 5 → x ≠ 118 → x ≠ 119 → μ2 x = μ x) : Bx μ2 b C rem hs := by
  obtain ⟨h1, h2, h3, h4, h5, h6⟩ := h
  exact ⟨(hf _ (by omega) (by omega) (by omega) (by omega) (by omega)).trans h1, h2.kept (hf _ (by omega) (by omega) (by omega) (by omega) (by omega)) (hf _ (by omega) (by omega) (by omega) (by omega) (by omega)), hR, h4.kept (fun b q1 q2 => hf b (by omega) (by omega) (by omega) (by omega) (by omega)), h5.kept (fun b q1 q2 => hf b (by omega) (by omega) (by omega) (by omega) (by omega)), h6⟩
theorem Bx.sn {μ : am_M} {b : List Int} {C : Snap} {rem : Nat} {hs : Nat → Snap} (h : Bx μ b C rem hs) : snok C := ⟨fun k hk => (h.2.2.2.1.2 k hk).2.2.2.2, h.2.2.2.2.2.2.1⟩
theorem hnx_ok {rem : Nat} {hs : Nat → Snap} {C : Snap} (h : ∀ k, k < rem → snok (hs k)) (hC : snok C) (hr : rem ≤ 5) : ∀ k, k < rnx rem → snok (hnx rem hs C k) := by
  intro k hk
  unfold hnx
  unfold rnx at hk
  by_cases hlt : rem < 5
  · rw [if_pos hlt] at hk ⊢
    by_cases hkr : k = rem
    · rw [hkr, va_upe]; exact hC
    · rw [va_upn hkr]; exact h k (by omega)
  · rw [if_neg hlt] at hk ⊢
    by_cases hkr : k = 4
    · rw [hkr, va_upe]; exact hC
    · rw [va_upn hkr]; exact h _ (by omega)
theorem Bx.act {μ μ2 : am_M} {b b2 : List Int} {C : Snap} {rem : Nat} {hs : Nat → Snap} (h : Bx μ b C rem hs) {zb zv za zw : Int} {x : Nat → List Int} (h0 : μ2 0 = bcl (rnx rem : Int) zb zv za zw) (hT : Tx μ2 1 100 b2) (hR : Rst μ2) (hP : Pts μ2 x) (hH : Hst μ2 (hnx rem hs C)) (hm : mrok zb zv za zw) : Bx μ2 b2 (x, zb, zv, za, zw) (rnx rem) (hnx rem hs C) :=
  ⟨h0, hT, hR, hP, hH, by unfold rnx; split <;> omega, hm, hnx_ok h.2.2.2.2.2.2.2 h.sn h.2.2.2.2.2.1⟩
theorem Pts.set {μ μ2 : am_M} {x : Nat → List Int} {k : Nat} {ys : List Int} (h : Pts μ x) (hk : k < 4) (hP : Prt μ2 (7 + 15 * k) ys) (hf : am_fr (7 + 15 * k) (7 + 15 * k + 15) μ μ2) : Pts μ2 (va_up x k ys) := by
  obtain ⟨⟨f, h1, h2⟩, h3⟩ := h
  refine ⟨⟨f, (hf _ (by omega)).trans h1, h2⟩, fun j hj => ?_⟩
  by_cases hjk : j = k
  · subst hjk; rw [va_upe]; exact hP
  · rw [va_upn hjk]; exact (h3 j hj).fr hf (by omega)
def a_type (b : List Int) (c : Int) : Int := if c < 32 ∨ 126 < c then -1 else if 100 ≤ b.length then -3 else (b.length : Int) + 1
def b_type (b : List Int) (c : Int) : List Int := if c < 32 ∨ 126 < c then b else if 100 ≤ b.length then b else b ++ [c]
set_option maxHeartbeats 4000000 in
set_option maxRecDepth 100000 in
theorem cx_type {N : Nat} {μ : am_M} {b : List Int} {C : Snap} {rem : Nat} {hs : Nat → Snap} (hX : Bx μ b C rem hs) (hN : 120 ≤ N) {c : Int} (hc : -2147483648 ≤ c ∧ c ≤ 2147483647) : am_Met YX9_type [.ref 0, am_i c] N μ (bpost N μ (am_i (a_type b c)) (b_type b c) C rem hs) := by
  obtain ⟨h0, hT, hR, hP, hH, hrem, hm, hsn⟩ := id hX
  obtain ⟨b1, -, b4, b5, b6⟩ := id hT
  refine am_met (by first | decide | rfl) (Nat.le_of_ble_eq_true rfl) (fun h => by first | rfl | cases h) ?_
  show am_W YX9_type _ 0 0 0 [(0, .ref 0), (1, am_i c)] [] _ _
  refine ap_iload_n dX9_type_0 rfl rfl ?_
  refine ap_bipush dX9_type_1 (by decide) ?_
  refine ap_icmp_lt (tgt := 12) dX9_type_3 (by decide) (by omega) (fun c3 => ?_) (fun c3 => ?_)
  · refine ap_iconst dX9_type_12 ?_
    exact ap_iret dX9_type_13 rfl rfl (Nat.le_of_ble_eq_true rfl) (Nat.le_of_ble_eq_true rfl) (by
    rw [a_type, b_type, if_pos (by omega), if_pos (by omega)]
    exact ⟨rfl, rfl, hX, fun x hx => rfl⟩)
  · refine ap_iload_n dX9_type_6 rfl rfl ?_
    refine ap_bipush dX9_type_7 (by decide) ?_
    refine ap_icmp_le (tgt := 14) dX9_type_9 (by decide) (by omega) (fun c9 => ?_) (fun c9 => ?_)
    · refine ap_aload_n dX9_type_14 rfl rfl ?_
      refine ap_get ff_X9_14 dX9_type_15 (by omega) h0 rfl ?_
      refine ap_cV (As := []) (rest := []) (ct_isFull hT (by omega)) dX9_type_18 lk_X9_62 hy_X6_isFull rfl (by omega) b1 ⟨_, _, rfl⟩ (Nat.le_of_ble_eq_true rfl) ⟨Nat.le_of_ble_eq_true rfl, Nat.le_of_ble_eq_true rfl⟩ ⟨rfl, rfl⟩ ⟨Nat.le_of_ble_eq_true rfl, Nat.le_of_ble_eq_true rfl⟩ (fun xr1 xN2 μ3 xq4 => ?_)
      obtain ⟨rfl, rfl, rfl⟩ := xq4
      refine ap_if_eq (tgt := 27) dX9_type_21 (by decide) (by split <;> omega) (fun c21 => ?_) (fun c21 => ?_)
      · have hfl : b.length < 100 := by
          by_cases hfl : 100 ≤ b.length
          · rw [if_pos hfl] at c21; omega
          · omega
        refine ap_aload_n dX9_type_27 rfl rfl ?_
        refine ap_get ff_X9_14 dX9_type_28 (by omega) h0 rfl ?_
        refine ap_iload_n dX9_type_31 rfl rfl ?_
        refine ap_cV (As := [am_i c]) (rest := []) (ct_append hT (by omega) (c := c) (by omega) hfl) dX9_type_32 lk_X9_66 hy_X6_append rfl (by omega) b1 ⟨_, _, rfl⟩ (Nat.le_of_ble_eq_true rfl) ⟨Nat.le_of_ble_eq_true rfl, Nat.le_of_ble_eq_true rfl⟩ ⟨rfl, rfl⟩ ⟨Nat.le_of_ble_eq_true rfl, Nat.le_of_ble_eq_true rfl⟩ (fun xr5 xN6 μz xq7 => ?_)
        obtain ⟨rfl, rfl, hz1, hz2⟩ := xq7
        refine ap_aload_n dX9_type_35 rfl rfl ?_
        have xm8 : μz 0 = am_O 9 [.ref 1, .ref 3, .ref 5, .ref 6, .ref 67, .ref 118, am_i (rem : Int), am_i (s_b C), am_i (s_v C), am_i (s_a C), am_i (s_w C)] := (hz2 _ (by omega)).trans h0
        refine ap_get ff_X9_14 dX9_type_36 (by omega) xm8 rfl ?_
        refine ap_cV (As := []) (rest := []) (ct_size hz1 (by omega)) dX9_type_39 lk_X9_69 hy_X6_size rfl (by omega) hz1.1 ⟨_, _, rfl⟩ (Nat.le_of_ble_eq_true rfl) ⟨Nat.le_of_ble_eq_true rfl, Nat.le_of_ble_eq_true rfl⟩ ⟨rfl, rfl⟩ ⟨Nat.le_of_ble_eq_true rfl, Nat.le_of_ble_eq_true rfl⟩ (fun xr9 xN10 μ11 xq12 => ?_)
        obtain ⟨rfl, rfl, rfl⟩ := xq12
        exact ap_iret dX9_type_42 rfl rfl (Nat.le_of_ble_eq_true rfl) (Nat.le_of_ble_eq_true rfl) (by
    rw [a_type, b_type, if_neg (by omega), if_neg (by omega), if_neg (by omega), if_neg (by omega)]
    exact ⟨by simp, rfl, hX.buf hz1 hz2, fun x hx => hz2 x (by omega)⟩)
      · refine ap_bipush dX9_type_24 (by decide) ?_
        exact ap_iret dX9_type_26 rfl rfl (Nat.le_of_ble_eq_true rfl) (Nat.le_of_ble_eq_true rfl) (by
    have hfl : 100 ≤ b.length := by
      by_cases hfl : 100 ≤ b.length
      · exact hfl
      · rw [if_neg hfl] at c21; omega
    rw [a_type, b_type, if_neg (by omega), if_pos hfl, if_neg (by omega), if_pos hfl]
    exact ⟨rfl, rfl, hX, fun x hx => rfl⟩)
    · refine ap_iconst dX9_type_12 ?_
      exact ap_iret dX9_type_13 rfl rfl (Nat.le_of_ble_eq_true rfl) (Nat.le_of_ble_eq_true rfl) (by
    rw [a_type, b_type, if_pos (by omega), if_pos (by omega)]
    exact ⟨rfl, rfl, hX, fun x hx => rfl⟩)

set_option maxHeartbeats 4000000 in
set_option maxRecDepth 100000 in
theorem cx_clear {N : Nat} {μ : am_M} {b : List Int} {C : Snap} {rem : Nat} {hs : Nat → Snap} (hX : Bx μ b C rem hs) (hN : 120 ≤ N) : am_Met YX9_clear [.ref 0] N μ (bpost N μ (am_i (b.length : Int)) [] C rem hs) := by
  obtain ⟨h0, hT, hR, hP, hH, hrem, hm, hsn⟩ := id hX
  obtain ⟨b1, -, b4, b5, b6⟩ := id hT
  refine am_met (by first | decide | rfl) (Nat.le_of_ble_eq_true rfl) (fun h => by first | rfl | cases h) ?_
  show am_W YX9_clear _ 0 0 0 [(0, .ref 0)] [] _ _
  refine ap_aload_n dX9_clear_0 rfl rfl ?_
  refine ap_get ff_X9_14 dX9_clear_1 (by omega) h0 rfl ?_
  refine ap_cV (As := []) (rest := []) (ct_size hT (by omega)) dX9_clear_4 lk_X9_69 hy_X6_size rfl (by omega) b1 ⟨_, _, rfl⟩ (Nat.le_of_ble_eq_true rfl) ⟨Nat.le_of_ble_eq_true rfl, Nat.le_of_ble_eq_true rfl⟩ ⟨rfl, rfl⟩ ⟨Nat.le_of_ble_eq_true rfl, Nat.le_of_ble_eq_true rfl⟩ (fun xr1 xN2 μ3 xq4 => ?_)
  obtain ⟨rfl, rfl, rfl⟩ := xq4
  refine ap_Istore_n (lv2 := [(0, .ref 0), (1, am_i (b.length : Int))]) dX9_clear_7 rfl (by decide) rfl ?_
  refine ap_aload_n dX9_clear_8 rfl rfl ?_
  refine ap_get ff_X9_14 dX9_clear_9 (by omega) h0 rfl ?_
  refine ap_cV (As := []) (rest := []) (ct_makeEmpty hT (by omega)) dX9_clear_12 lk_X9_73 hy_X6_makeEmpty rfl (by omega) b1 ⟨_, _, rfl⟩ (Nat.le_of_ble_eq_true rfl) ⟨Nat.le_of_ble_eq_true rfl, Nat.le_of_ble_eq_true rfl⟩ ⟨rfl, rfl⟩ ⟨Nat.le_of_ble_eq_true rfl, Nat.le_of_ble_eq_true rfl⟩ (fun xr5 xN6 μz xq7 => ?_)
  obtain ⟨rfl, rfl, hz1, hz2⟩ := xq7
  refine ap_iload_n dX9_clear_15 rfl rfl ?_
  exact ap_iret dX9_clear_16 rfl rfl (Nat.le_of_ble_eq_true rfl) (Nat.le_of_ble_eq_true rfl) (⟨rfl, rfl, hX.buf hz1 hz2, fun x hx => hz2 x (by omega)⟩)

abbrev mv (v : Int) : Prop := v = 1 ∨ v = 2 ∨ v = 4 ∨ v = 8 ∨ v = 16
set_option maxHeartbeats 4000000 in
set_option maxRecDepth 100000 in
theorem cx_setMeterN {N : Nat} {μ : am_M} {b : List Int} {C : Snap} {rem : Nat} {hs : Nat → Snap} (hX : Bx μ b C rem hs) (hN : 120 ≤ N) {be va : Int} (hbe : -2147483648 ≤ be ∧ be ≤ 2147483647) (hva : -2147483648 ≤ va ∧ va ≤ 2147483647) (hn : ¬ ((1 ≤ be ∧ be ≤ 16) ∧ mv va)) : am_Met YX9_setMeter [.ref 0, am_i be, am_i va] N μ (bpost N μ (am_i (-1)) b C rem hs) := by
  obtain ⟨h0, hT, hR, hP, hH, hrem, hm, hsn⟩ := id hX
  obtain ⟨b1, -, b4, b5, b6⟩ := id hT
  refine am_met (by first | decide | rfl) (Nat.le_of_ble_eq_true rfl) (fun h => by first | rfl | cases h) ?_
  show am_W YX9_setMeter _ 0 0 0 [(0, .ref 0), (1, am_i be), (2, am_i va)] [] _ _
  refine ap_iload_n dX9_setMeter_0 rfl rfl ?_
  refine ap_iconst dX9_setMeter_1 ?_
  refine ap_icmp_lt (tgt := 18) dX9_setMeter_2 (by decide) (by omega) (fun c2 => ?_) (fun c2 => ?_)
  · refine ap_iconst dX9_setMeter_18 ?_
    exact ap_iret dX9_setMeter_19 rfl rfl (Nat.le_of_ble_eq_true rfl) (Nat.le_of_ble_eq_true rfl) (⟨rfl, rfl, hX, fun x hx => rfl⟩)
  · refine ap_iload_n dX9_setMeter_5 rfl rfl ?_
    refine ap_bipush dX9_setMeter_6 (by decide) ?_
    refine ap_icmp_gt (tgt := 18) dX9_setMeter_8 (by decide) (by omega) (fun c8 => ?_) (fun c8 => ?_)
    · refine ap_iconst dX9_setMeter_18 ?_
      exact ap_iret dX9_setMeter_19 rfl rfl (Nat.le_of_ble_eq_true rfl) (Nat.le_of_ble_eq_true rfl) (⟨rfl, rfl, hX, fun x hx => rfl⟩)
    · refine ap_iload_n dX9_setMeter_11 rfl rfl ?_
      refine ap_cS (As := [am_i va]) (rest := []) (ct_isMeterValue hva) dX9_setMeter_12 lk_X9_124 hy_X9_isMeterValue rfl (Nat.le_of_ble_eq_true rfl) ⟨Nat.le_of_ble_eq_true rfl, Nat.le_of_ble_eq_true rfl⟩ ⟨rfl, rfl⟩ ⟨Nat.le_of_ble_eq_true rfl, Nat.le_of_ble_eq_true rfl⟩ (fun xr1 xN2 μ3 xq4 => ?_)
      obtain ⟨rfl, rfl, rfl⟩ := xq4
      refine ap_topi (b := (0 : Int)) (show (if va = 1 ∨ va = 2 ∨ va = 4 ∨ va = 8 ∨ va = 16 then 1 else 0) = (0 : Int) from if_neg (fun q => hn ⟨by omega, q⟩)) ?_
      refine ap_if_ne (tgt := 20) dX9_setMeter_15 (by decide) (by omega) (fun c15 => (by exfalso; omega)) (fun c15 => ?_)
      refine ap_iconst dX9_setMeter_18 ?_
      exact ap_iret dX9_setMeter_19 rfl rfl (Nat.le_of_ble_eq_true rfl) (Nat.le_of_ble_eq_true rfl) (⟨rfl, rfl, hX, fun x hx => rfl⟩)

set_option maxHeartbeats 4000000 in
set_option maxRecDepth 100000 in
theorem cx_setMeterP {N : Nat} {μ : am_M} {b : List Int} {C : Snap} {rem : Nat} {hs : Nat → Snap} (hX : Bx μ b C rem hs) (hN : 120 ≤ N) {be va : Int} (hbe : 1 ≤ be ∧ be ≤ 16) (hva : mv va) : am_Met YX9_setMeter [.ref 0, am_i be, am_i va] N μ (bpost N μ (am_i (100 * s_b C + s_v C)) b (s_t C, be, va, s_a C, s_w C) (rnx rem) (hnx rem hs C)) := by
  obtain ⟨h0, hT, hR, hP, hH, hrem, hm, hsn⟩ := id hX
  obtain ⟨b1, -, b4, b5, b6⟩ := id hT
  refine am_met (by first | decide | rfl) (Nat.le_of_ble_eq_true rfl) (fun h => by first | rfl | cases h) ?_
  show am_W YX9_setMeter _ 0 0 0 [(0, .ref 0), (1, am_i be), (2, am_i va)] [] _ _
  refine ap_iload_n dX9_setMeter_0 rfl rfl ?_
  refine ap_iconst dX9_setMeter_1 ?_
  refine ap_icmp_lt (tgt := 18) dX9_setMeter_2 (by decide) (by omega) (fun c2 => (by exfalso; omega)) (fun c2 => ?_)
  refine ap_iload_n dX9_setMeter_5 rfl rfl ?_
  refine ap_bipush dX9_setMeter_6 (by decide) ?_
  refine ap_icmp_gt (tgt := 18) dX9_setMeter_8 (by decide) (by omega) (fun c8 => (by exfalso; omega)) (fun c8 => ?_)
  refine ap_iload_n dX9_setMeter_11 rfl rfl ?_
  refine ap_cS (As := [am_i va]) (rest := []) (ct_isMeterValue (by unfold mv at hva; omega)) dX9_setMeter_12 lk_X9_124 hy_X9_isMeterValue rfl (Nat.le_of_ble_eq_true rfl) ⟨Nat.le_of_ble_eq_true rfl, Nat.le_of_ble_eq_true rfl⟩ ⟨rfl, rfl⟩ ⟨Nat.le_of_ble_eq_true rfl, Nat.le_of_ble_eq_true rfl⟩ (fun xr1 xN2 μ3 xq4 => ?_)
  obtain ⟨rfl, rfl, rfl⟩ := xq4
  refine ap_topi (b := (1 : Int)) (show (if va = 1 ∨ va = 2 ∨ va = 4 ∨ va = 8 ∨ va = 16 then 1 else 0) = (1 : Int) from if_pos hva) ?_
  refine ap_if_ne (tgt := 20) dX9_setMeter_15 (by decide) (by omega) (fun c15 => ?_) (fun c15 => (by exfalso; omega))
  refine ap_aload_n dX9_setMeter_20 rfl rfl ?_
  refine ap_cV (As := []) (rest := []) (ct_remember h0 hH hP hN hrem) dX9_setMeter_21 lk_X9_93 hy_X9_remember rfl (by omega) h0 ⟨_, _, rfl⟩ (Nat.le_of_ble_eq_true rfl) ⟨Nat.le_of_ble_eq_true rfl, Nat.le_of_ble_eq_true rfl⟩ ⟨rfl, rfl⟩ ⟨Nat.le_of_ble_eq_true rfl, Nat.le_of_ble_eq_true rfl⟩ (fun xr5 xN6 μr xq7 => ?_)
  obtain ⟨rfl, rfl, hr1, hr2, hr3⟩ := xq7
  have rT : Tx μr 1 100 b := hT.kept (hr3 _ (by omega) (by omega)) (hr3 _ (by omega) (by omega))
  have rR : Rst μr := hR.kept (fun x q => hr3 x (by omega) (by omega))
  have rP : Pts μr (s_t C) := hP.kept (fun x q1 q2 => hr3 x (by omega) (by omega))
  have hr4 : ∀ x, ¬ (x = 0 ∨ (67 ≤ x ∧ x < 118)) → μr x = μ x := fun x q => hr3 x (by omega) (by omega)
  refine ap_bipush dX9_setMeter_24 (by decide) ?_
  refine ap_aload_n dX9_setMeter_26 rfl rfl ?_
  refine ap_get ff_X9_49 dX9_setMeter_27 (by omega) hr1 rfl ?_
  refine ap_imul dX9_setMeter_30 ?_
  refine ap_aload_n dX9_setMeter_31 rfl rfl ?_
  refine ap_get ff_X9_53 dX9_setMeter_32 (by omega) hr1 rfl ?_
  refine ap_iadd dX9_setMeter_35 ?_
  refine ap_Istore_n (lv2 := [(0, .ref 0), (1, am_i be), (2, am_i va), (3, am_i ((100 * (s_b C)) + (s_v C)))]) dX9_setMeter_36 rfl (by decide) rfl ?_
  refine ap_aload_n dX9_setMeter_37 rfl rfl ?_
  refine ap_iload_n dX9_setMeter_38 rfl rfl ?_
  refine ap_put (fs2 := [.ref 1, .ref 3, .ref 5, .ref 6, .ref 67, .ref 118, am_i (rnx rem : Int), am_i be, am_i (s_v C), am_i (s_a C), am_i (s_w C)]) ff_X9_49 fc_X9_7 dX9_setMeter_39 (by omega) hr1 (fun _ => ⟨rfl, rfl⟩) (Nat.le_of_ble_eq_true rfl) rfl (fun μ8 xe9 xf10 => ?_)
  refine ap_aload_n dX9_setMeter_42 rfl rfl ?_
  refine ap_iload_n dX9_setMeter_43 rfl rfl ?_
  refine ap_put (fs2 := [.ref 1, .ref 3, .ref 5, .ref 6, .ref 67, .ref 118, am_i (rnx rem : Int), am_i be, am_i va, am_i (s_a C), am_i (s_w C)]) ff_X9_53 fc_X9_8 dX9_setMeter_44 (by omega) xe9 (fun _ => ⟨rfl, rfl⟩) (Nat.le_of_ble_eq_true rfl) rfl (fun μ11 xe12 xf13 => ?_)
  refine ap_iload_n dX9_setMeter_47 rfl rfl ?_
  exact ap_iret dX9_setMeter_48 rfl rfl (Nat.le_of_ble_eq_true rfl) (Nat.le_of_ble_eq_true rfl) (⟨rfl, rfl, hX.act xe12 (rT.kept ((xf13 1 (by omega)).trans ((xf10 1 (by omega)))) ((xf13 (1 + 1) (by omega)).trans ((xf10 (1 + 1) (by omega))))) (rR.kept (fun x q => (xf13 x (by omega)).trans ((xf10 x (by omega))))) (rP.kept (fun x q1 q2 => (xf13 x (by omega)).trans ((xf10 x (by omega))))) (hr2.kept (fun x q1 q2 => (xf13 x (by omega)).trans ((xf10 x (by omega))))) (⟨hbe, hva, hm.2.2⟩), fun x hx => (xf13 x (by omega)).trans ((xf10 x (by omega)).trans ((hr4 x (by omega))))⟩)

set_option maxHeartbeats 4000000 in
set_option maxRecDepth 100000 in
theorem cx_setSwingN {N : Nat} {μ : am_M} {b : List Int} {C : Snap} {rem : Nat} {hs : Nat → Snap} (hX : Bx μ b C rem hs) (hN : 120 ≤ N) {sa sb : Int} (hsa : -2147483648 ≤ sa ∧ sa ≤ 2147483647) (hsb : -2147483648 ≤ sb ∧ sb ≤ 2147483647) (hn : ¬ ((1 ≤ sa ∧ sa ≤ 9) ∧ 1 ≤ sb ∧ sb ≤ 9)) : am_Met YX9_setSwing [.ref 0, am_i sa, am_i sb] N μ (bpost N μ (am_i (-1)) b C rem hs) := by
  obtain ⟨h0, hT, hR, hP, hH, hrem, hm, hsn⟩ := id hX
  obtain ⟨b1, -, b4, b5, b6⟩ := id hT
  refine am_met (by first | decide | rfl) (Nat.le_of_ble_eq_true rfl) (fun h => by first | rfl | cases h) ?_
  show am_W YX9_setSwing _ 0 0 0 [(0, .ref 0), (1, am_i sa), (2, am_i sb)] [] _ _
  refine ap_iload_n dX9_setSwing_0 rfl rfl ?_
  refine ap_iconst dX9_setSwing_1 ?_
  refine ap_icmp_lt (tgt := 22) dX9_setSwing_2 (by decide) (by omega) (fun c2 => ?_) (fun c2 => ?_)
  · refine ap_iconst dX9_setSwing_22 ?_
    exact ap_iret dX9_setSwing_23 rfl rfl (Nat.le_of_ble_eq_true rfl) (Nat.le_of_ble_eq_true rfl) (⟨rfl, rfl, hX, fun x hx => rfl⟩)
  · refine ap_iload_n dX9_setSwing_5 rfl rfl ?_
    refine ap_bipush dX9_setSwing_6 (by decide) ?_
    refine ap_icmp_gt (tgt := 22) dX9_setSwing_8 (by decide) (by omega) (fun c8 => ?_) (fun c8 => ?_)
    · refine ap_iconst dX9_setSwing_22 ?_
      exact ap_iret dX9_setSwing_23 rfl rfl (Nat.le_of_ble_eq_true rfl) (Nat.le_of_ble_eq_true rfl) (⟨rfl, rfl, hX, fun x hx => rfl⟩)
    · refine ap_iload_n dX9_setSwing_11 rfl rfl ?_
      refine ap_iconst dX9_setSwing_12 ?_
      refine ap_icmp_lt (tgt := 22) dX9_setSwing_13 (by decide) (by omega) (fun c13 => ?_) (fun c13 => ?_)
      · refine ap_iconst dX9_setSwing_22 ?_
        exact ap_iret dX9_setSwing_23 rfl rfl (Nat.le_of_ble_eq_true rfl) (Nat.le_of_ble_eq_true rfl) (⟨rfl, rfl, hX, fun x hx => rfl⟩)
      · refine ap_iload_n dX9_setSwing_16 rfl rfl ?_
        refine ap_bipush dX9_setSwing_17 (by decide) ?_
        refine ap_icmp_le (tgt := 24) dX9_setSwing_19 (by decide) (by omega) (fun c19 => (by exfalso; omega)) (fun c19 => ?_)
        refine ap_iconst dX9_setSwing_22 ?_
        exact ap_iret dX9_setSwing_23 rfl rfl (Nat.le_of_ble_eq_true rfl) (Nat.le_of_ble_eq_true rfl) (⟨rfl, rfl, hX, fun x hx => rfl⟩)

set_option maxHeartbeats 4000000 in
set_option maxRecDepth 100000 in
theorem cx_setSwingP {N : Nat} {μ : am_M} {b : List Int} {C : Snap} {rem : Nat} {hs : Nat → Snap} (hX : Bx μ b C rem hs) (hN : 120 ≤ N) {sa sb : Int} (hsa : 1 ≤ sa ∧ sa ≤ 9) (hsb : 1 ≤ sb ∧ sb ≤ 9) : am_Met YX9_setSwing [.ref 0, am_i sa, am_i sb] N μ (bpost N μ (am_i (10 * s_a C + s_w C)) b (s_t C, s_b C, s_v C, sa, sb) (rnx rem) (hnx rem hs C)) := by
  obtain ⟨h0, hT, hR, hP, hH, hrem, hm, hsn⟩ := id hX
  obtain ⟨b1, -, b4, b5, b6⟩ := id hT
  refine am_met (by first | decide | rfl) (Nat.le_of_ble_eq_true rfl) (fun h => by first | rfl | cases h) ?_
  show am_W YX9_setSwing _ 0 0 0 [(0, .ref 0), (1, am_i sa), (2, am_i sb)] [] _ _
  refine ap_iload_n dX9_setSwing_0 rfl rfl ?_
  refine ap_iconst dX9_setSwing_1 ?_
  refine ap_icmp_lt (tgt := 22) dX9_setSwing_2 (by decide) (by omega) (fun c2 => (by exfalso; omega)) (fun c2 => ?_)
  refine ap_iload_n dX9_setSwing_5 rfl rfl ?_
  refine ap_bipush dX9_setSwing_6 (by decide) ?_
  refine ap_icmp_gt (tgt := 22) dX9_setSwing_8 (by decide) (by omega) (fun c8 => (by exfalso; omega)) (fun c8 => ?_)
  refine ap_iload_n dX9_setSwing_11 rfl rfl ?_
  refine ap_iconst dX9_setSwing_12 ?_
  refine ap_icmp_lt (tgt := 22) dX9_setSwing_13 (by decide) (by omega) (fun c13 => (by exfalso; omega)) (fun c13 => ?_)
  refine ap_iload_n dX9_setSwing_16 rfl rfl ?_
  refine ap_bipush dX9_setSwing_17 (by decide) ?_
  refine ap_icmp_le (tgt := 24) dX9_setSwing_19 (by decide) (by omega) (fun c19 => ?_) (fun c19 => (by exfalso; omega))
  refine ap_aload_n dX9_setSwing_24 rfl rfl ?_
  refine ap_cV (As := []) (rest := []) (ct_remember h0 hH hP hN hrem) dX9_setSwing_25 lk_X9_93 hy_X9_remember rfl (by omega) h0 ⟨_, _, rfl⟩ (Nat.le_of_ble_eq_true rfl) ⟨Nat.le_of_ble_eq_true rfl, Nat.le_of_ble_eq_true rfl⟩ ⟨rfl, rfl⟩ ⟨Nat.le_of_ble_eq_true rfl, Nat.le_of_ble_eq_true rfl⟩ (fun xr1 xN2 μr xq3 => ?_)
  obtain ⟨rfl, rfl, hr1, hr2, hr3⟩ := xq3
  have rT : Tx μr 1 100 b := hT.kept (hr3 _ (by omega) (by omega)) (hr3 _ (by omega) (by omega))
  have rR : Rst μr := hR.kept (fun x q => hr3 x (by omega) (by omega))
  have rP : Pts μr (s_t C) := hP.kept (fun x q1 q2 => hr3 x (by omega) (by omega))
  have hr4 : ∀ x, ¬ (x = 0 ∨ (67 ≤ x ∧ x < 118)) → μr x = μ x := fun x q => hr3 x (by omega) (by omega)
  refine ap_bipush dX9_setSwing_28 (by decide) ?_
  refine ap_aload_n dX9_setSwing_30 rfl rfl ?_
  refine ap_get ff_X9_56 dX9_setSwing_31 (by omega) hr1 rfl ?_
  refine ap_imul dX9_setSwing_34 ?_
  refine ap_aload_n dX9_setSwing_35 rfl rfl ?_
  refine ap_get ff_X9_59 dX9_setSwing_36 (by omega) hr1 rfl ?_
  refine ap_iadd dX9_setSwing_39 ?_
  refine ap_Istore_n (lv2 := [(0, .ref 0), (1, am_i sa), (2, am_i sb), (3, am_i ((10 * (s_a C)) + (s_w C)))]) dX9_setSwing_40 rfl (by decide) rfl ?_
  refine ap_aload_n dX9_setSwing_41 rfl rfl ?_
  refine ap_iload_n dX9_setSwing_42 rfl rfl ?_
  refine ap_put (fs2 := [.ref 1, .ref 3, .ref 5, .ref 6, .ref 67, .ref 118, am_i (rnx rem : Int), am_i (s_b C), am_i (s_v C), am_i sa, am_i (s_w C)]) ff_X9_56 fc_X9_9 dX9_setSwing_43 (by omega) hr1 (fun _ => ⟨rfl, rfl⟩) (Nat.le_of_ble_eq_true rfl) rfl (fun μ4 xe5 xf6 => ?_)
  refine ap_aload_n dX9_setSwing_46 rfl rfl ?_
  refine ap_iload_n dX9_setSwing_47 rfl rfl ?_
  refine ap_put (fs2 := [.ref 1, .ref 3, .ref 5, .ref 6, .ref 67, .ref 118, am_i (rnx rem : Int), am_i (s_b C), am_i (s_v C), am_i sa, am_i sb]) ff_X9_59 fc_X9_10 dX9_setSwing_48 (by omega) xe5 (fun _ => ⟨rfl, rfl⟩) (Nat.le_of_ble_eq_true rfl) rfl (fun μ7 xe8 xf9 => ?_)
  refine ap_iload_n dX9_setSwing_51 rfl rfl ?_
  exact ap_iret dX9_setSwing_52 rfl rfl (Nat.le_of_ble_eq_true rfl) (Nat.le_of_ble_eq_true rfl) (⟨rfl, rfl, hX.act xe8 (rT.kept ((xf9 1 (by omega)).trans ((xf6 1 (by omega)))) ((xf9 (1 + 1) (by omega)).trans ((xf6 (1 + 1) (by omega))))) (rR.kept (fun x q => (xf9 x (by omega)).trans ((xf6 x (by omega))))) (rP.kept (fun x q1 q2 => (xf9 x (by omega)).trans ((xf6 x (by omega))))) (hr2.kept (fun x q1 q2 => (xf9 x (by omega)).trans ((xf6 x (by omega))))) (⟨hm.1, hm.2.1, hsa, hsb⟩), fun x hx => (xf9 x (by omega)).trans ((xf6 x (by omega)).trans ((hr4 x (by omega))))⟩)

set_option maxHeartbeats 4000000 in
set_option maxRecDepth 100000 in
theorem cx_copyN1 {N : Nat} {μ : am_M} {b : List Int} {C : Snap} {rem : Nat} {hs : Nat → Snap} (hX : Bx μ b C rem hs) (hN : 120 ≤ N) {fr to : Int} (hfr : -2147483648 ≤ fr ∧ fr ≤ 2147483647) (hto : -2147483648 ≤ to ∧ to ≤ 2147483647) (hn : ¬ (0 ≤ fr ∧ fr < 4)) (hn2 : ¬ (0 ≤ to ∧ to < 4)) : am_Met YX9_copy [.ref 0, am_i fr, am_i to] N μ (bpost N μ (am_i (-1)) b C rem hs) := by
  obtain ⟨h0, hT, hR, hP, hH, hrem, hm, hsn⟩ := id hX
  obtain ⟨b1, -, b4, b5, b6⟩ := id hT
  refine am_met (by first | decide | rfl) (Nat.le_of_ble_eq_true rfl) (fun h => by first | rfl | cases h) ?_
  show am_W YX9_copy _ 0 0 0 [(0, .ref 0), (1, am_i fr), (2, am_i to)] [] _ _
  refine ap_aload_n dX9_copy_0 rfl rfl ?_
  refine ap_iload_n dX9_copy_1 rfl rfl ?_
  refine ap_cV (As := [am_i fr]) (rest := []) (ct_partAtN hfr hn) dX9_copy_2 lk_X9_76 hy_X9_partAt rfl (by omega) h0 ⟨_, _, rfl⟩ (Nat.le_of_ble_eq_true rfl) ⟨Nat.le_of_ble_eq_true rfl, Nat.le_of_ble_eq_true rfl⟩ ⟨rfl, rfl⟩ ⟨Nat.le_of_ble_eq_true rfl, Nat.le_of_ble_eq_true rfl⟩ (fun xr1 xN2 μ3 xq4 => ?_)
  obtain ⟨rfl, rfl, rfl⟩ := xq4
  refine ap_Astore_nN (lv2 := [(0, .ref 0), (1, am_i fr), (2, am_i to), (3, .null)]) dX9_copy_5 rfl (by decide) rfl ?_
  refine ap_aload_n dX9_copy_6 rfl rfl ?_
  refine ap_iload_n dX9_copy_7 rfl rfl ?_
  refine ap_cV (As := [am_i to]) (rest := []) (ct_partAtN hto hn2) dX9_copy_8 lk_X9_76 hy_X9_partAt rfl (by omega) h0 ⟨_, _, rfl⟩ (Nat.le_of_ble_eq_true rfl) ⟨Nat.le_of_ble_eq_true rfl, Nat.le_of_ble_eq_true rfl⟩ ⟨rfl, rfl⟩ ⟨Nat.le_of_ble_eq_true rfl, Nat.le_of_ble_eq_true rfl⟩ (fun xr5 xN6 μ7 xq8 => ?_)
  obtain ⟨rfl, rfl, rfl⟩ := xq8
  refine ap_AstoreN (lv2 := [(0, .ref 0), (1, am_i fr), (2, am_i to), (3, .null), (4, .null)]) dX9_copy_11 (by decide) rfl ?_
  refine ap_aloadN_n dX9_copy_13 rfl rfl ?_
  refine ap_ifnullN (tgt := 22) dX9_copy_14 (by decide) ?_
  refine ap_iconst dX9_copy_22 ?_
  exact ap_iret dX9_copy_23 rfl rfl (Nat.le_of_ble_eq_true rfl) (Nat.le_of_ble_eq_true rfl) (⟨rfl, rfl, hX, fun x hx => rfl⟩)

set_option maxHeartbeats 4000000 in
set_option maxRecDepth 100000 in
theorem cx_copyN2 {N : Nat} {μ : am_M} {b : List Int} {C : Snap} {rem : Nat} {hs : Nat → Snap} (hX : Bx μ b C rem hs) (hN : 120 ≤ N) {fr : Int} {p : Nat} (hfr : -2147483648 ≤ fr ∧ fr ≤ 2147483647) (hn : ¬ (0 ≤ fr ∧ fr < 4)) (hp : p < 4) : am_Met YX9_copy [.ref 0, am_i fr, am_i (p : Int)] N μ (bpost N μ (am_i (-1)) b C rem hs) := by
  obtain ⟨h0, hT, hR, hP, hH, hrem, hm, hsn⟩ := id hX
  obtain ⟨b1, -, b4, b5, b6⟩ := id hT
  refine am_met (by first | decide | rfl) (Nat.le_of_ble_eq_true rfl) (fun h => by first | rfl | cases h) ?_
  show am_W YX9_copy _ 0 0 0 [(0, .ref 0), (1, am_i fr), (2, am_i (p : Int))] [] _ _
  refine ap_aload_n dX9_copy_0 rfl rfl ?_
  refine ap_iload_n dX9_copy_1 rfl rfl ?_
  refine ap_cV (As := [am_i fr]) (rest := []) (ct_partAtN hfr hn) dX9_copy_2 lk_X9_76 hy_X9_partAt rfl (by omega) h0 ⟨_, _, rfl⟩ (Nat.le_of_ble_eq_true rfl) ⟨Nat.le_of_ble_eq_true rfl, Nat.le_of_ble_eq_true rfl⟩ ⟨rfl, rfl⟩ ⟨Nat.le_of_ble_eq_true rfl, Nat.le_of_ble_eq_true rfl⟩ (fun xr1 xN2 μ3 xq4 => ?_)
  obtain ⟨rfl, rfl, rfl⟩ := xq4
  refine ap_Astore_nN (lv2 := [(0, .ref 0), (1, am_i fr), (2, am_i (p : Int)), (3, .null)]) dX9_copy_5 rfl (by decide) rfl ?_
  refine ap_aload_n dX9_copy_6 rfl rfl ?_
  refine ap_iload_n dX9_copy_7 rfl rfl ?_
  refine ap_cV (As := [am_i (p : Int)]) (rest := []) (ct_partAtP h0 hP hN hp) dX9_copy_8 lk_X9_76 hy_X9_partAt rfl (by omega) h0 ⟨_, _, rfl⟩ (Nat.le_of_ble_eq_true rfl) ⟨Nat.le_of_ble_eq_true rfl, Nat.le_of_ble_eq_true rfl⟩ ⟨rfl, rfl⟩ ⟨Nat.le_of_ble_eq_true rfl, Nat.le_of_ble_eq_true rfl⟩ (fun xr5 xN6 μ7 xq8 => ?_)
  obtain ⟨rfl, rfl, rfl⟩ := xq8
  refine ap_Astore (lv2 := [(0, .ref 0), (1, am_i fr), (2, am_i (p : Int)), (3, .null), (4, .ref (7 + 15 * p))]) dX9_copy_11 (by decide) rfl ?_
  refine ap_aloadN_n dX9_copy_13 rfl rfl ?_
  refine ap_ifnullN (tgt := 22) dX9_copy_14 (by decide) ?_
  refine ap_iconst dX9_copy_22 ?_
  exact ap_iret dX9_copy_23 rfl rfl (Nat.le_of_ble_eq_true rfl) (Nat.le_of_ble_eq_true rfl) (⟨rfl, rfl, hX, fun x hx => rfl⟩)

set_option maxHeartbeats 4000000 in
set_option maxRecDepth 100000 in
theorem cx_copyN3 {N : Nat} {μ : am_M} {b : List Int} {C : Snap} {rem : Nat} {hs : Nat → Snap} (hX : Bx μ b C rem hs) (hN : 120 ≤ N) {to : Int} {p : Nat} (hto : -2147483648 ≤ to ∧ to ≤ 2147483647) (hn : ¬ (0 ≤ to ∧ to < 4)) (hp : p < 4) : am_Met YX9_copy [.ref 0, am_i (p : Int), am_i to] N μ (bpost N μ (am_i (-1)) b C rem hs) := by
  obtain ⟨h0, hT, hR, hP, hH, hrem, hm, hsn⟩ := id hX
  obtain ⟨b1, -, b4, b5, b6⟩ := id hT
  refine am_met (by first | decide | rfl) (Nat.le_of_ble_eq_true rfl) (fun h => by first | rfl | cases h) ?_
  show am_W YX9_copy _ 0 0 0 [(0, .ref 0), (1, am_i (p : Int)), (2, am_i to)] [] _ _
  refine ap_aload_n dX9_copy_0 rfl rfl ?_
  refine ap_iload_n dX9_copy_1 rfl rfl ?_
  refine ap_cV (As := [am_i (p : Int)]) (rest := []) (ct_partAtP h0 hP hN hp) dX9_copy_2 lk_X9_76 hy_X9_partAt rfl (by omega) h0 ⟨_, _, rfl⟩ (Nat.le_of_ble_eq_true rfl) ⟨Nat.le_of_ble_eq_true rfl, Nat.le_of_ble_eq_true rfl⟩ ⟨rfl, rfl⟩ ⟨Nat.le_of_ble_eq_true rfl, Nat.le_of_ble_eq_true rfl⟩ (fun xr1 xN2 μ3 xq4 => ?_)
  obtain ⟨rfl, rfl, rfl⟩ := xq4
  refine ap_Astore_n (lv2 := [(0, .ref 0), (1, am_i (p : Int)), (2, am_i to), (3, .ref (7 + 15 * p))]) dX9_copy_5 rfl (by decide) rfl ?_
  refine ap_aload_n dX9_copy_6 rfl rfl ?_
  refine ap_iload_n dX9_copy_7 rfl rfl ?_
  refine ap_cV (As := [am_i to]) (rest := []) (ct_partAtN hto hn) dX9_copy_8 lk_X9_76 hy_X9_partAt rfl (by omega) h0 ⟨_, _, rfl⟩ (Nat.le_of_ble_eq_true rfl) ⟨Nat.le_of_ble_eq_true rfl, Nat.le_of_ble_eq_true rfl⟩ ⟨rfl, rfl⟩ ⟨Nat.le_of_ble_eq_true rfl, Nat.le_of_ble_eq_true rfl⟩ (fun xr5 xN6 μ7 xq8 => ?_)
  obtain ⟨rfl, rfl, rfl⟩ := xq8
  refine ap_AstoreN (lv2 := [(0, .ref 0), (1, am_i (p : Int)), (2, am_i to), (3, .ref (7 + 15 * p)), (4, .null)]) dX9_copy_11 (by decide) rfl ?_
  refine ap_aload_n dX9_copy_13 rfl rfl ?_
  refine ap_ifnull dX9_copy_14 ?_
  refine ap_aloadN dX9_copy_17 rfl ?_
  refine ap_ifnonnullN dX9_copy_19 ?_
  refine ap_iconst dX9_copy_22 ?_
  exact ap_iret dX9_copy_23 rfl rfl (Nat.le_of_ble_eq_true rfl) (Nat.le_of_ble_eq_true rfl) (⟨rfl, rfl, hX, fun x hx => rfl⟩)

def cnt (xs : List Int) : Int := (p_cnt (sp (uf xs 0) (uf xs 0).length) : Int)
set_option maxHeartbeats 4000000 in
set_option maxRecDepth 100000 in
theorem cx_copyP {N : Nat} {μ : am_M} {b : List Int} {C : Snap} {rem : Nat} {hs : Nat → Snap} (hX : Bx μ b C rem hs) (hN : 120 ≤ N) {p p2 : Nat} (hp : p < 4) (hp2 : p2 < 4) (hne : p ≠ p2) : am_Met YX9_copy [.ref 0, am_i (p : Int), am_i (p2 : Int)] N μ (bpost N μ (am_i (cnt (s_t C p))) b (va_up (s_t C) p2 (s_t C p), s_b C, s_v C, s_a C, s_w C) (rnx rem) (hnx rem hs C)) := by
  obtain ⟨h0, hT, hR, hP, hH, hrem, hm, hsn⟩ := id hX
  obtain ⟨b1, -, b4, b5, b6⟩ := id hT
  refine am_met (by first | decide | rfl) (Nat.le_of_ble_eq_true rfl) (fun h => by first | rfl | cases h) ?_
  show am_W YX9_copy _ 0 0 0 [(0, .ref 0), (1, am_i (p : Int)), (2, am_i (p2 : Int))] [] _ _
  refine ap_aload_n dX9_copy_0 rfl rfl ?_
  refine ap_iload_n dX9_copy_1 rfl rfl ?_
  refine ap_cV (As := [am_i (p : Int)]) (rest := []) (ct_partAtP h0 hP hN hp) dX9_copy_2 lk_X9_76 hy_X9_partAt rfl (by omega) h0 ⟨_, _, rfl⟩ (Nat.le_of_ble_eq_true rfl) ⟨Nat.le_of_ble_eq_true rfl, Nat.le_of_ble_eq_true rfl⟩ ⟨rfl, rfl⟩ ⟨Nat.le_of_ble_eq_true rfl, Nat.le_of_ble_eq_true rfl⟩ (fun xr1 xN2 μ3 xq4 => ?_)
  obtain ⟨rfl, rfl, rfl⟩ := xq4
  refine ap_Astore_n (lv2 := [(0, .ref 0), (1, am_i (p : Int)), (2, am_i (p2 : Int)), (3, .ref (7 + 15 * p))]) dX9_copy_5 rfl (by decide) rfl ?_
  refine ap_aload_n dX9_copy_6 rfl rfl ?_
  refine ap_iload_n dX9_copy_7 rfl rfl ?_
  refine ap_cV (As := [am_i (p2 : Int)]) (rest := []) (ct_partAtP h0 hP hN hp2) dX9_copy_8 lk_X9_76 hy_X9_partAt rfl (by omega) h0 ⟨_, _, rfl⟩ (Nat.le_of_ble_eq_true rfl) ⟨Nat.le_of_ble_eq_true rfl, Nat.le_of_ble_eq_true rfl⟩ ⟨rfl, rfl⟩ ⟨Nat.le_of_ble_eq_true rfl, Nat.le_of_ble_eq_true rfl⟩ (fun xr5 xN6 μ7 xq8 => ?_)
  obtain ⟨rfl, rfl, rfl⟩ := xq8
  refine ap_Astore (lv2 := [(0, .ref 0), (1, am_i (p : Int)), (2, am_i (p2 : Int)), (3, .ref (7 + 15 * p)), (4, .ref (7 + 15 * p2))]) dX9_copy_11 (by decide) rfl ?_
  refine ap_aload_n dX9_copy_13 rfl rfl ?_
  refine ap_ifnull dX9_copy_14 ?_
  refine ap_aload dX9_copy_17 rfl ?_
  refine ap_ifnonnull (tgt := 24) dX9_copy_19 (by decide) ?_
  refine ap_aload_n dX9_copy_24 rfl rfl ?_
  refine ap_cV (As := []) (rest := []) (ct_remember h0 hH hP hN hrem) dX9_copy_25 lk_X9_93 hy_X9_remember rfl (by omega) h0 ⟨_, _, rfl⟩ (Nat.le_of_ble_eq_true rfl) ⟨Nat.le_of_ble_eq_true rfl, Nat.le_of_ble_eq_true rfl⟩ ⟨rfl, rfl⟩ ⟨Nat.le_of_ble_eq_true rfl, Nat.le_of_ble_eq_true rfl⟩ (fun xr9 xN10 μr xq11 => ?_)
  obtain ⟨rfl, rfl, hr1, hr2, hr3⟩ := xq11
  have rT : Tx μr 1 100 b := hT.kept (hr3 _ (by omega) (by omega)) (hr3 _ (by omega) (by omega))
  have rR : Rst μr := hR.kept (fun x q => hr3 x (by omega) (by omega))
  have rP : Pts μr (s_t C) := hP.kept (fun x q1 q2 => hr3 x (by omega) (by omega))
  have hr4 : ∀ x, ¬ (x = 0 ∨ (67 ≤ x ∧ x < 118)) → μr x = μ x := fun x q => hr3 x (by omega) (by omega)
  refine ap_aload dX9_copy_28 rfl ?_
  refine ap_aload_n dX9_copy_30 rfl rfl ?_
  refine ap_getN ff_X9_109 dX9_copy_31 (by omega) (rP.2 p hp).1 rfl ?_
  refine ap_cV (As := [.ref (7 + 15 * p + 1)]) (rest := []) (ct_take (rP.2 p2 hp2) (rP.2 p hp).2.1 (by omega) (by omega) (by omega) (rP.2 p hp).2.2.2.2) dX9_copy_34 lk_X9_96 hy_X3_take rfl (by omega) (rP.2 p2 hp2).1 ⟨_, _, rfl⟩ (Nat.le_of_ble_eq_true rfl) ⟨Nat.le_of_ble_eq_true rfl, Nat.le_of_ble_eq_true rfl⟩ ⟨rfl, rfl⟩ ⟨Nat.le_of_ble_eq_true rfl, Nat.le_of_ble_eq_true rfl⟩ (fun xr12 xN13 μt xq14 => ?_)
  obtain ⟨rfl, rfl, ht1, ht2⟩ := xq14
  have tP := rP.set hp2 ht1 ht2
  have tS := ht1.2.2.2.1
  have tk2 := (ht1.2.2.2.2.2.2.2 _ (Nat.le_refl _)).1
  refine ap_aload dX9_copy_37 rfl ?_
  refine ap_getN ff_X9_100 dX9_copy_39 (by omega) ht1.1 rfl ?_
  refine ap_cV (As := []) (rest := []) (ct_count tS (by omega) tk2) dX9_copy_42 lk_X9_104 hy_X4_count rfl (by omega) tS.1 ⟨_, _, rfl⟩ (Nat.le_of_ble_eq_true rfl) ⟨Nat.le_of_ble_eq_true rfl, Nat.le_of_ble_eq_true rfl⟩ ⟨rfl, rfl⟩ ⟨Nat.le_of_ble_eq_true rfl, Nat.le_of_ble_eq_true rfl⟩ (fun xr15 xN16 μ17 xq18 => ?_)
  obtain ⟨rfl, rfl, rfl⟩ := xq18
  have xm19 : μt 0 = am_O 9 [.ref 1, .ref 3, .ref 5, .ref 6, .ref 67, .ref 118, am_i (rnx rem : Int), am_i (s_b C), am_i (s_v C), am_i (s_a C), am_i (s_w C)] := (ht2 _ (by omega)).trans hr1
  exact ap_iret dX9_copy_45 rfl rfl (Nat.le_of_ble_eq_true rfl) (Nat.le_of_ble_eq_true rfl) (⟨rfl, rfl, hX.act xm19 (rT.kept (ht2 _ (by omega)) (ht2 _ (by omega))) (rR.kept (fun x q => ht2 x (by omega))) tP (hr2.kept (fun x q1 q2 => ht2 x (by omega))) hm, fun x hx => (ht2 x (by omega)).trans ((hr4 x (by omega)))⟩)

set_option maxHeartbeats 4000000 in
set_option maxRecDepth 100000 in
theorem cx_copyS {N : Nat} {μ : am_M} {b : List Int} {C : Snap} {rem : Nat} {hs : Nat → Snap} (hX : Bx μ b C rem hs) (hN : 120 ≤ N) {p : Nat} (hp : p < 4) : am_Met YX9_copy [.ref 0, am_i (p : Int), am_i (p : Int)] N μ (bpost N μ (am_i (cnt (s_t C p))) b (va_up (s_t C) p (s_t C p), s_b C, s_v C, s_a C, s_w C) (rnx rem) (hnx rem hs C)) := by
  obtain ⟨h0, hT, hR, hP, hH, hrem, hm, hsn⟩ := id hX
  obtain ⟨b1, -, b4, b5, b6⟩ := id hT
  refine am_met (by first | decide | rfl) (Nat.le_of_ble_eq_true rfl) (fun h => by first | rfl | cases h) ?_
  show am_W YX9_copy _ 0 0 0 [(0, .ref 0), (1, am_i (p : Int)), (2, am_i (p : Int))] [] _ _
  refine ap_aload_n dX9_copy_0 rfl rfl ?_
  refine ap_iload_n dX9_copy_1 rfl rfl ?_
  refine ap_cV (As := [am_i (p : Int)]) (rest := []) (ct_partAtP h0 hP hN hp) dX9_copy_2 lk_X9_76 hy_X9_partAt rfl (by omega) h0 ⟨_, _, rfl⟩ (Nat.le_of_ble_eq_true rfl) ⟨Nat.le_of_ble_eq_true rfl, Nat.le_of_ble_eq_true rfl⟩ ⟨rfl, rfl⟩ ⟨Nat.le_of_ble_eq_true rfl, Nat.le_of_ble_eq_true rfl⟩ (fun xr1 xN2 μ3 xq4 => ?_)
  obtain ⟨rfl, rfl, rfl⟩ := xq4
  refine ap_Astore_n (lv2 := [(0, .ref 0), (1, am_i (p : Int)), (2, am_i (p : Int)), (3, .ref (7 + 15 * p))]) dX9_copy_5 rfl (by decide) rfl ?_
  refine ap_aload_n dX9_copy_6 rfl rfl ?_
  refine ap_iload_n dX9_copy_7 rfl rfl ?_
  refine ap_cV (As := [am_i (p : Int)]) (rest := []) (ct_partAtP h0 hP hN hp) dX9_copy_8 lk_X9_76 hy_X9_partAt rfl (by omega) h0 ⟨_, _, rfl⟩ (Nat.le_of_ble_eq_true rfl) ⟨Nat.le_of_ble_eq_true rfl, Nat.le_of_ble_eq_true rfl⟩ ⟨rfl, rfl⟩ ⟨Nat.le_of_ble_eq_true rfl, Nat.le_of_ble_eq_true rfl⟩ (fun xr5 xN6 μ7 xq8 => ?_)
  obtain ⟨rfl, rfl, rfl⟩ := xq8
  refine ap_Astore (lv2 := [(0, .ref 0), (1, am_i (p : Int)), (2, am_i (p : Int)), (3, .ref (7 + 15 * p)), (4, .ref (7 + 15 * p))]) dX9_copy_11 (by decide) rfl ?_
  refine ap_aload_n dX9_copy_13 rfl rfl ?_
  refine ap_ifnull dX9_copy_14 ?_
  refine ap_aload dX9_copy_17 rfl ?_
  refine ap_ifnonnull (tgt := 24) dX9_copy_19 (by decide) ?_
  refine ap_aload_n dX9_copy_24 rfl rfl ?_
  refine ap_cV (As := []) (rest := []) (ct_remember h0 hH hP hN hrem) dX9_copy_25 lk_X9_93 hy_X9_remember rfl (by omega) h0 ⟨_, _, rfl⟩ (Nat.le_of_ble_eq_true rfl) ⟨Nat.le_of_ble_eq_true rfl, Nat.le_of_ble_eq_true rfl⟩ ⟨rfl, rfl⟩ ⟨Nat.le_of_ble_eq_true rfl, Nat.le_of_ble_eq_true rfl⟩ (fun xr9 xN10 μr xq11 => ?_)
  obtain ⟨rfl, rfl, hr1, hr2, hr3⟩ := xq11
  have rT : Tx μr 1 100 b := hT.kept (hr3 _ (by omega) (by omega)) (hr3 _ (by omega) (by omega))
  have rR : Rst μr := hR.kept (fun x q => hr3 x (by omega) (by omega))
  have rP : Pts μr (s_t C) := hP.kept (fun x q1 q2 => hr3 x (by omega) (by omega))
  have hr4 : ∀ x, ¬ (x = 0 ∨ (67 ≤ x ∧ x < 118)) → μr x = μ x := fun x q => hr3 x (by omega) (by omega)
  refine ap_aload dX9_copy_28 rfl ?_
  refine ap_aload_n dX9_copy_30 rfl rfl ?_
  refine ap_getN ff_X9_109 dX9_copy_31 (by omega) (rP.2 p hp).1 rfl ?_
  refine ap_cV (As := [.ref (7 + 15 * p + 1)]) (rest := []) (ct_takeS (rP.2 p hp) (by omega) (rP.2 p hp).2.2.2.2) dX9_copy_34 lk_X9_96 hy_X3_take rfl (by omega) (rP.2 p hp).1 ⟨_, _, rfl⟩ (Nat.le_of_ble_eq_true rfl) ⟨Nat.le_of_ble_eq_true rfl, Nat.le_of_ble_eq_true rfl⟩ ⟨rfl, rfl⟩ ⟨Nat.le_of_ble_eq_true rfl, Nat.le_of_ble_eq_true rfl⟩ (fun xr12 xN13 μt xq14 => ?_)
  obtain ⟨rfl, rfl, ht1, ht2⟩ := xq14
  have tP := rP.set hp ht1 ht2
  have tS := ht1.2.2.2.1
  have tk2 := (ht1.2.2.2.2.2.2.2 _ (Nat.le_refl _)).1
  refine ap_aload dX9_copy_37 rfl ?_
  refine ap_getN ff_X9_100 dX9_copy_39 (by omega) ht1.1 rfl ?_
  refine ap_cV (As := []) (rest := []) (ct_count tS (by omega) tk2) dX9_copy_42 lk_X9_104 hy_X4_count rfl (by omega) tS.1 ⟨_, _, rfl⟩ (Nat.le_of_ble_eq_true rfl) ⟨Nat.le_of_ble_eq_true rfl, Nat.le_of_ble_eq_true rfl⟩ ⟨rfl, rfl⟩ ⟨Nat.le_of_ble_eq_true rfl, Nat.le_of_ble_eq_true rfl⟩ (fun xr15 xN16 μ17 xq18 => ?_)
  obtain ⟨rfl, rfl, rfl⟩ := xq18
  have xm19 : μt 0 = am_O 9 [.ref 1, .ref 3, .ref 5, .ref 6, .ref 67, .ref 118, am_i (rnx rem : Int), am_i (s_b C), am_i (s_v C), am_i (s_a C), am_i (s_w C)] := (ht2 _ (by omega)).trans hr1
  exact ap_iret dX9_copy_45 rfl rfl (Nat.le_of_ble_eq_true rfl) (Nat.le_of_ble_eq_true rfl) (⟨rfl, rfl, hX.act xm19 (rT.kept (ht2 _ (by omega)) (ht2 _ (by omega))) (rR.kept (fun x q => ht2 x (by omega))) tP (hr2.kept (fun x q1 q2 => ht2 x (by omega))) hm, fun x hx => (ht2 x (by omega)).trans ((hr4 x (by omega)))⟩)

theorem gw_r (s : GS) (xs : List Int) (k : Int) (hk : 0 ≤ k) : gw s xs k = -9 ∨ (k ≤ gw s xs k ∧ gw s xs k ≤ k + xs.length) := by
  induction xs generalizing s k with
  | nil =>
    simp only [gw]
    split
    · exact Or.inl rfl
    · right; simp
  | cons c r ih =>
    simp only [gw]
    split
    · right; simp only [List.length_cons]; omega
    · rename_i s2 _
      rcases ih s2 (k + 1) (by omega) with h | h
      · exact Or.inl h
      · right; simp only [List.length_cons]; omega
def gwb (b : List Int) : Int := gw (0, 0, 0, 0, 0, 0) b 0
/-- what a text that the grammar takes is good for -/
def tgood (b : List Int) : Prop := gwb b = -9 → wfr b ∧ (uf b 0).length ≤ 900 ∧ (lets (uf b 0) ≤ 300 → bok (uf b 0))
set_option maxHeartbeats 4000000 in
set_option maxRecDepth 100000 in
theorem cx_readN {N : Nat} {μ : am_M} {b : List Int} {C : Snap} {rem : Nat} {hs : Nat → Snap} (hX : Bx μ b C rem hs) (hN : 120 ≤ N) {k : Int} (hk : -2147483648 ≤ k ∧ k ≤ 2147483647) (hn : ¬ (0 ≤ k ∧ k < 4)) : am_Met YX9_read [.ref 0, am_i k] N μ (bpost N μ (am_i (-1)) b C rem hs) := by
  obtain ⟨h0, hT, hR, hP, hH, hrem, hm, hsn⟩ := id hX
  obtain ⟨b1, -, b4, b5, b6⟩ := id hT
  refine am_met (by first | decide | rfl) (Nat.le_of_ble_eq_true rfl) (fun h => by first | rfl | cases h) ?_
  show am_W YX9_read _ 0 0 0 [(0, .ref 0), (1, am_i k)] [] _ _
  refine ap_aload_n dX9_read_0 rfl rfl ?_
  refine ap_iload_n dX9_read_1 rfl rfl ?_
  refine ap_cV (As := [am_i k]) (rest := []) (ct_partAtN hk hn) dX9_read_2 lk_X9_76 hy_X9_partAt rfl (by omega) h0 ⟨_, _, rfl⟩ (Nat.le_of_ble_eq_true rfl) ⟨Nat.le_of_ble_eq_true rfl, Nat.le_of_ble_eq_true rfl⟩ ⟨rfl, rfl⟩ ⟨Nat.le_of_ble_eq_true rfl, Nat.le_of_ble_eq_true rfl⟩ (fun xr1 xN2 μ3 xq4 => ?_)
  obtain ⟨rfl, rfl, rfl⟩ := xq4
  refine ap_Astore_nN (lv2 := [(0, .ref 0), (1, am_i k), (2, .null)]) dX9_read_5 rfl (by decide) rfl ?_
  refine ap_aloadN_n dX9_read_6 rfl rfl ?_
  refine ap_ifnonnullN dX9_read_7 ?_
  refine ap_iconst dX9_read_10 ?_
  exact ap_iret dX9_read_11 rfl rfl (Nat.le_of_ble_eq_true rfl) (Nat.le_of_ble_eq_true rfl) (⟨rfl, rfl, hX, fun x hx => rfl⟩)

set_option maxHeartbeats 4000000 in
set_option maxRecDepth 100000 in
theorem cx_readW {N : Nat} {μ : am_M} {b : List Int} {C : Snap} {rem : Nat} {hs : Nat → Snap} (hX : Bx μ b C rem hs) (hN : 120 ≤ N) {p : Nat} (hp : p < 4) (hg : gwb b ≠ -9) : am_Met YX9_read [.ref 0, am_i (p : Int)] N μ (bpost N μ (am_i (-100 - gwb b)) b C rem hs) := by
  obtain ⟨h0, hT, hR, hP, hH, hrem, hm, hsn⟩ := id hX
  obtain ⟨b1, -, b4, b5, b6⟩ := id hT
  obtain ⟨⟨ds, hD⟩, ⟨ga, gb, gc, gd, ge, gf, hG⟩, hOv⟩ := id hR
  have hgr := gw_r (0, 0, 0, 0, 0, 0) b 0 (by omega)
  refine am_met (by first | decide | rfl) (Nat.le_of_ble_eq_true rfl) (fun h => by first | rfl | cases h) ?_
  show am_W YX9_read _ 0 0 0 [(0, .ref 0), (1, am_i (p : Int))] [] _ _
  refine ap_aload_n dX9_read_0 rfl rfl ?_
  refine ap_iload_n dX9_read_1 rfl rfl ?_
  refine ap_cV (As := [am_i (p : Int)]) (rest := []) (ct_partAtP h0 hP hN hp) dX9_read_2 lk_X9_76 hy_X9_partAt rfl (by omega) h0 ⟨_, _, rfl⟩ (Nat.le_of_ble_eq_true rfl) ⟨Nat.le_of_ble_eq_true rfl, Nat.le_of_ble_eq_true rfl⟩ ⟨rfl, rfl⟩ ⟨Nat.le_of_ble_eq_true rfl, Nat.le_of_ble_eq_true rfl⟩ (fun xr1 xN2 μ3 xq4 => ?_)
  obtain ⟨rfl, rfl, rfl⟩ := xq4
  refine ap_Astore_n (lv2 := [(0, .ref 0), (1, am_i (p : Int)), (2, .ref (7 + 15 * p))]) dX9_read_5 rfl (by decide) rfl ?_
  refine ap_aload_n dX9_read_6 rfl rfl ?_
  refine ap_ifnonnull (tgt := 12) dX9_read_7 (by decide) ?_
  refine ap_aload_n dX9_read_12 rfl rfl ?_
  refine ap_get ff_X9_24 dX9_read_13 (by omega) h0 rfl ?_
  refine ap_aload_n dX9_read_16 rfl rfl ?_
  refine ap_get ff_X9_14 dX9_read_17 (by omega) h0 rfl ?_
  refine ap_cV (As := [.ref 1]) (rest := []) (ct_wrongPlace (g := 5) (t := 1) hT (by omega) (by omega) (by omega) hG) dX9_read_20 lk_X9_80 hy_X0_wrongPlace rfl (by omega) hG ⟨_, _, rfl⟩ (Nat.le_of_ble_eq_true rfl) ⟨Nat.le_of_ble_eq_true rfl, Nat.le_of_ble_eq_true rfl⟩ ⟨rfl, rfl⟩ ⟨Nat.le_of_ble_eq_true rfl, Nat.le_of_ble_eq_true rfl⟩ (fun xr5 xN6 μw xq7 => ?_)
  obtain ⟨rfl, rfl, hw2, wa, wb, wc, wd, we, wf, hw1⟩ := xq7
  have hwR : Rst μw := by
    obtain ⟨zn, zs, fo, o1, o2⟩ := hOv
    exact ⟨⟨ds, hD.kept (hw2 _ (by omega)) (hw2 _ (by omega))⟩, ⟨wa, wb, wc, wd, we, wf, hw1⟩, zn, zs, fo, (hw2 _ (by omega)).trans o1, (hw2 _ (by omega)).trans o2⟩
  have hwX : Bx μw b C rem hs := hX.rst hwR (fun x q1 q2 q3 q4 q5 => hw2 x q3)
  refine ap_Istore_n (lv2 := [(0, .ref 0), (1, am_i (p : Int)), (2, .ref (7 + 15 * p)), (3, am_i (gw (0, 0, 0, 0, 0, 0) b 0))]) dX9_read_23 rfl (by decide) rfl ?_
  refine ap_iload_n dX9_read_24 rfl rfl ?_
  refine ap_bipush dX9_read_25 (by decide) ?_
  refine ap_icmp_eq (tgt := 35) dX9_read_27 (by decide) (by omega) (fun c27 => (by exfalso; exact hg c27)) (fun c27 => ?_)
  refine ap_bipush dX9_read_30 (by decide) ?_
  refine ap_iload_n dX9_read_32 rfl rfl ?_
  refine ap_isub dX9_read_33 ?_
  exact ap_iret dX9_read_34 rfl rfl (Nat.le_of_ble_eq_true rfl) (Nat.le_of_ble_eq_true rfl) (⟨rfl, rfl, hwX, fun x hx => (hw2 x (by omega))⟩)

set_option maxHeartbeats 4000000 in
set_option maxRecDepth 100000 in
theorem cx_readF {N : Nat} {μ : am_M} {b : List Int} {C : Snap} {rem : Nat} {hs : Nat → Snap} (hX : Bx μ b C rem hs) (hN : 120 ≤ N) {p : Nat} (hp : p < 4) (hgood : tgood b) (hg : gwb b = -9) (hl : 300 < lets (uf b 0)) : am_Met YX9_read [.ref 0, am_i (p : Int)] N μ (bpost N μ (am_i (-3)) b C rem hs) := by
  obtain ⟨h0, hT, hR, hP, hH, hrem, hm, hsn⟩ := id hX
  obtain ⟨b1, -, b4, b5, b6⟩ := id hT
  obtain ⟨⟨ds, hD⟩, ⟨ga, gb, gc, gd, ge, gf, hG⟩, hOv⟩ := id hR
  have hgr := gw_r (0, 0, 0, 0, 0, 0) b 0 (by omega)
  have hll := lets_le (uf b 0)
  have hlu := (hgood hg).2.1
  refine am_met (by first | decide | rfl) (Nat.le_of_ble_eq_true rfl) (fun h => by first | rfl | cases h) ?_
  show am_W YX9_read _ 0 0 0 [(0, .ref 0), (1, am_i (p : Int))] [] _ _
  refine ap_aload_n dX9_read_0 rfl rfl ?_
  refine ap_iload_n dX9_read_1 rfl rfl ?_
  refine ap_cV (As := [am_i (p : Int)]) (rest := []) (ct_partAtP h0 hP hN hp) dX9_read_2 lk_X9_76 hy_X9_partAt rfl (by omega) h0 ⟨_, _, rfl⟩ (Nat.le_of_ble_eq_true rfl) ⟨Nat.le_of_ble_eq_true rfl, Nat.le_of_ble_eq_true rfl⟩ ⟨rfl, rfl⟩ ⟨Nat.le_of_ble_eq_true rfl, Nat.le_of_ble_eq_true rfl⟩ (fun xr1 xN2 μ3 xq4 => ?_)
  obtain ⟨rfl, rfl, rfl⟩ := xq4
  refine ap_Astore_n (lv2 := [(0, .ref 0), (1, am_i (p : Int)), (2, .ref (7 + 15 * p))]) dX9_read_5 rfl (by decide) rfl ?_
  refine ap_aload_n dX9_read_6 rfl rfl ?_
  refine ap_ifnonnull (tgt := 12) dX9_read_7 (by decide) ?_
  refine ap_aload_n dX9_read_12 rfl rfl ?_
  refine ap_get ff_X9_24 dX9_read_13 (by omega) h0 rfl ?_
  refine ap_aload_n dX9_read_16 rfl rfl ?_
  refine ap_get ff_X9_14 dX9_read_17 (by omega) h0 rfl ?_
  refine ap_cV (As := [.ref 1]) (rest := []) (ct_wrongPlace (g := 5) (t := 1) hT (by omega) (by omega) (by omega) hG) dX9_read_20 lk_X9_80 hy_X0_wrongPlace rfl (by omega) hG ⟨_, _, rfl⟩ (Nat.le_of_ble_eq_true rfl) ⟨Nat.le_of_ble_eq_true rfl, Nat.le_of_ble_eq_true rfl⟩ ⟨rfl, rfl⟩ ⟨Nat.le_of_ble_eq_true rfl, Nat.le_of_ble_eq_true rfl⟩ (fun xr5 xN6 μw xq7 => ?_)
  obtain ⟨rfl, rfl, hw2, wa, wb, wc, wd, we, wf, hw1⟩ := xq7
  have hwR : Rst μw := by
    obtain ⟨zn, zs, fo, o1, o2⟩ := hOv
    exact ⟨⟨ds, hD.kept (hw2 _ (by omega)) (hw2 _ (by omega))⟩, ⟨wa, wb, wc, wd, we, wf, hw1⟩, zn, zs, fo, (hw2 _ (by omega)).trans o1, (hw2 _ (by omega)).trans o2⟩
  have hwX : Bx μw b C rem hs := hX.rst hwR (fun x q1 q2 q3 q4 q5 => hw2 x q3)
  refine ap_Istore_n (lv2 := [(0, .ref 0), (1, am_i (p : Int)), (2, .ref (7 + 15 * p)), (3, am_i (gw (0, 0, 0, 0, 0, 0) b 0))]) dX9_read_23 rfl (by decide) rfl ?_
  refine ap_iload_n dX9_read_24 rfl rfl ?_
  refine ap_bipush dX9_read_25 (by decide) ?_
  refine ap_icmp_eq (tgt := 35) dX9_read_27 (by decide) (by omega) (fun c27 => ?_) (fun c27 => (by exfalso; exact c27 hg))
  refine ap_aload_n dX9_read_35 rfl rfl ?_
  have xm8 : μw 0 = am_O 9 [.ref 1, .ref 3, .ref 5, .ref 6, .ref 67, .ref 118, am_i (rem : Int), am_i (s_b C), am_i (s_v C), am_i (s_a C), am_i (s_w C)] := (hw2 _ (by omega)).trans h0
  refine ap_get ff_X9_14 dX9_read_36 (by omega) xm8 rfl ?_
  refine ap_aload_n dX9_read_39 rfl rfl ?_
  refine ap_get ff_X9_18 dX9_read_40 (by omega) xm8 rfl ?_
  refine ap_cS (As := [.ref 1, .ref 3]) (rest := []) (ct_unfold (t := 1) (u := 3) (hT.kept ((hw2 1 (by omega))) ((hw2 (1 + 1) (by omega)))) (hD.kept ((hw2 3 (by omega))) ((hw2 (3 + 1) (by omega)))) (by omega) (by omega) (by omega) (hgood hg).1 (hgood hg).2.1) dX9_read_43 lk_X9_84 hy_X8_unfold rfl (Nat.le_of_ble_eq_true rfl) ⟨Nat.le_of_ble_eq_true rfl, Nat.le_of_ble_eq_true rfl⟩ ⟨rfl, rfl⟩ ⟨Nat.le_of_ble_eq_true rfl, Nat.le_of_ble_eq_true rfl⟩ (fun xr9 xN10 μu xq11 => ?_)
  obtain ⟨rfl, rfl, hu1, hu2⟩ := xq11
  have huR : Rst μu := by
    obtain ⟨-, -, zn, zs, fo, o1, o2⟩ := hwR
    exact ⟨⟨_, hu1⟩, ⟨wa, wb, wc, wd, we, wf, (hu2 _ (by omega)).trans hw1⟩, zn, zs, fo, (hu2 _ (by omega)).trans o1, (hu2 _ (by omega)).trans o2⟩
  have huX : Bx μu b C rem hs := hwX.rst huR (fun x q1 q2 q3 q4 q5 => hu2 x (by omega))
  refine ap_aload_n dX9_read_46 rfl rfl ?_
  have xm12 : μu 0 = am_O 9 [.ref 1, .ref 3, .ref 5, .ref 6, .ref 67, .ref 118, am_i (rem : Int), am_i (s_b C), am_i (s_v C), am_i (s_a C), am_i (s_w C)] := (hu2 _ (by omega)).trans xm8
  refine ap_get ff_X9_18 dX9_read_47 (by omega) xm12 rfl ?_
  refine ap_cS (As := [.ref 3]) (rest := []) (ct_sounds hu1 (by omega)) dX9_read_50 lk_X9_90 hy_X8_sounds rfl (Nat.le_of_ble_eq_true rfl) ⟨Nat.le_of_ble_eq_true rfl, Nat.le_of_ble_eq_true rfl⟩ ⟨rfl, rfl⟩ ⟨Nat.le_of_ble_eq_true rfl, Nat.le_of_ble_eq_true rfl⟩ (fun xr13 xN14 μ15 xq16 => ?_)
  obtain ⟨rfl, rfl, rfl⟩ := xq16
  refine ap_sipush dX9_read_53 (by decide) ?_
  refine ap_icmp_le (tgt := 62) dX9_read_56 (by decide) (by omega) (fun c56 => (by exfalso; omega)) (fun c56 => ?_)
  refine ap_bipush dX9_read_59 (by decide) ?_
  exact ap_iret dX9_read_61 rfl rfl (Nat.le_of_ble_eq_true rfl) (Nat.le_of_ble_eq_true rfl) (⟨rfl, rfl, huX, fun x hx => (hu2 x (by omega)).trans ((hw2 x (by omega)))⟩)

set_option maxHeartbeats 4000000 in
set_option maxRecDepth 100000 in
theorem cx_readP {N : Nat} {μ : am_M} {b : List Int} {C : Snap} {rem : Nat} {hs : Nat → Snap} (hX : Bx μ b C rem hs) (hN : 120 ≤ N) {p : Nat} (hp : p < 4) (hgood : tgood b) (hg : gwb b = -9) (hl : lets (uf b 0) ≤ 300) : am_Met YX9_read [.ref 0, am_i (p : Int)] N μ (bpost N μ (am_i (cnt b)) [] (va_up (s_t C) p b, s_b C, s_v C, s_a C, s_w C) (rnx rem) (hnx rem hs C)) := by
  obtain ⟨h0, hT, hR, hP, hH, hrem, hm, hsn⟩ := id hX
  obtain ⟨b1, -, b4, b5, b6⟩ := id hT
  obtain ⟨⟨ds, hD⟩, ⟨ga, gb, gc, gd, ge, gf, hG⟩, hOv⟩ := id hR
  have hgr := gw_r (0, 0, 0, 0, 0, 0) b 0 (by omega)
  have hll := lets_le (uf b 0)
  have hlu := (hgood hg).2.1
  refine am_met (by first | decide | rfl) (Nat.le_of_ble_eq_true rfl) (fun h => by first | rfl | cases h) ?_
  show am_W YX9_read _ 0 0 0 [(0, .ref 0), (1, am_i (p : Int))] [] _ _
  refine ap_aload_n dX9_read_0 rfl rfl ?_
  refine ap_iload_n dX9_read_1 rfl rfl ?_
  refine ap_cV (As := [am_i (p : Int)]) (rest := []) (ct_partAtP h0 hP hN hp) dX9_read_2 lk_X9_76 hy_X9_partAt rfl (by omega) h0 ⟨_, _, rfl⟩ (Nat.le_of_ble_eq_true rfl) ⟨Nat.le_of_ble_eq_true rfl, Nat.le_of_ble_eq_true rfl⟩ ⟨rfl, rfl⟩ ⟨Nat.le_of_ble_eq_true rfl, Nat.le_of_ble_eq_true rfl⟩ (fun xr1 xN2 μ3 xq4 => ?_)
  obtain ⟨rfl, rfl, rfl⟩ := xq4
  refine ap_Astore_n (lv2 := [(0, .ref 0), (1, am_i (p : Int)), (2, .ref (7 + 15 * p))]) dX9_read_5 rfl (by decide) rfl ?_
  refine ap_aload_n dX9_read_6 rfl rfl ?_
  refine ap_ifnonnull (tgt := 12) dX9_read_7 (by decide) ?_
  refine ap_aload_n dX9_read_12 rfl rfl ?_
  refine ap_get ff_X9_24 dX9_read_13 (by omega) h0 rfl ?_
  refine ap_aload_n dX9_read_16 rfl rfl ?_
  refine ap_get ff_X9_14 dX9_read_17 (by omega) h0 rfl ?_
  refine ap_cV (As := [.ref 1]) (rest := []) (ct_wrongPlace (g := 5) (t := 1) hT (by omega) (by omega) (by omega) hG) dX9_read_20 lk_X9_80 hy_X0_wrongPlace rfl (by omega) hG ⟨_, _, rfl⟩ (Nat.le_of_ble_eq_true rfl) ⟨Nat.le_of_ble_eq_true rfl, Nat.le_of_ble_eq_true rfl⟩ ⟨rfl, rfl⟩ ⟨Nat.le_of_ble_eq_true rfl, Nat.le_of_ble_eq_true rfl⟩ (fun xr5 xN6 μw xq7 => ?_)
  obtain ⟨rfl, rfl, hw2, wa, wb, wc, wd, we, wf, hw1⟩ := xq7
  have hwR : Rst μw := by
    obtain ⟨zn, zs, fo, o1, o2⟩ := hOv
    exact ⟨⟨ds, hD.kept (hw2 _ (by omega)) (hw2 _ (by omega))⟩, ⟨wa, wb, wc, wd, we, wf, hw1⟩, zn, zs, fo, (hw2 _ (by omega)).trans o1, (hw2 _ (by omega)).trans o2⟩
  have hwX : Bx μw b C rem hs := hX.rst hwR (fun x q1 q2 q3 q4 q5 => hw2 x q3)
  refine ap_Istore_n (lv2 := [(0, .ref 0), (1, am_i (p : Int)), (2, .ref (7 + 15 * p)), (3, am_i (gw (0, 0, 0, 0, 0, 0) b 0))]) dX9_read_23 rfl (by decide) rfl ?_
  refine ap_iload_n dX9_read_24 rfl rfl ?_
  refine ap_bipush dX9_read_25 (by decide) ?_
  refine ap_icmp_eq (tgt := 35) dX9_read_27 (by decide) (by omega) (fun c27 => ?_) (fun c27 => (by exfalso; exact c27 hg))
  refine ap_aload_n dX9_read_35 rfl rfl ?_
  have xm8 : μw 0 = am_O 9 [.ref 1, .ref 3, .ref 5, .ref 6, .ref 67, .ref 118, am_i (rem : Int), am_i (s_b C), am_i (s_v C), am_i (s_a C), am_i (s_w C)] := (hw2 _ (by omega)).trans h0
  refine ap_get ff_X9_14 dX9_read_36 (by omega) xm8 rfl ?_
  refine ap_aload_n dX9_read_39 rfl rfl ?_
  refine ap_get ff_X9_18 dX9_read_40 (by omega) xm8 rfl ?_
  refine ap_cS (As := [.ref 1, .ref 3]) (rest := []) (ct_unfold (t := 1) (u := 3) (hT.kept ((hw2 1 (by omega))) ((hw2 (1 + 1) (by omega)))) (hD.kept ((hw2 3 (by omega))) ((hw2 (3 + 1) (by omega)))) (by omega) (by omega) (by omega) (hgood hg).1 (hgood hg).2.1) dX9_read_43 lk_X9_84 hy_X8_unfold rfl (Nat.le_of_ble_eq_true rfl) ⟨Nat.le_of_ble_eq_true rfl, Nat.le_of_ble_eq_true rfl⟩ ⟨rfl, rfl⟩ ⟨Nat.le_of_ble_eq_true rfl, Nat.le_of_ble_eq_true rfl⟩ (fun xr9 xN10 μu xq11 => ?_)
  obtain ⟨rfl, rfl, hu1, hu2⟩ := xq11
  have huR : Rst μu := by
    obtain ⟨-, -, zn, zs, fo, o1, o2⟩ := hwR
    exact ⟨⟨_, hu1⟩, ⟨wa, wb, wc, wd, we, wf, (hu2 _ (by omega)).trans hw1⟩, zn, zs, fo, (hu2 _ (by omega)).trans o1, (hu2 _ (by omega)).trans o2⟩
  have huX : Bx μu b C rem hs := hwX.rst huR (fun x q1 q2 q3 q4 q5 => hu2 x (by omega))
  refine ap_aload_n dX9_read_46 rfl rfl ?_
  have xm12 : μu 0 = am_O 9 [.ref 1, .ref 3, .ref 5, .ref 6, .ref 67, .ref 118, am_i (rem : Int), am_i (s_b C), am_i (s_v C), am_i (s_a C), am_i (s_w C)] := (hu2 _ (by omega)).trans xm8
  refine ap_get ff_X9_18 dX9_read_47 (by omega) xm12 rfl ?_
  refine ap_cS (As := [.ref 3]) (rest := []) (ct_sounds hu1 (by omega)) dX9_read_50 lk_X9_90 hy_X8_sounds rfl (Nat.le_of_ble_eq_true rfl) ⟨Nat.le_of_ble_eq_true rfl, Nat.le_of_ble_eq_true rfl⟩ ⟨rfl, rfl⟩ ⟨Nat.le_of_ble_eq_true rfl, Nat.le_of_ble_eq_true rfl⟩ (fun xr13 xN14 μ15 xq16 => ?_)
  obtain ⟨rfl, rfl, rfl⟩ := xq16
  refine ap_sipush dX9_read_53 (by decide) ?_
  refine ap_icmp_le (tgt := 62) dX9_read_56 (by decide) (by omega) (fun c56 => ?_) (fun c56 => (by exfalso; omega))
  refine ap_aload_n dX9_read_62 rfl rfl ?_
  refine ap_cV (As := []) (rest := []) (ct_remember (huX.1) (huX.2.2.2.2.1) (huX.2.2.2.1) hN hrem) dX9_read_63 lk_X9_93 hy_X9_remember rfl (by omega) xm12 ⟨_, _, rfl⟩ (Nat.le_of_ble_eq_true rfl) ⟨Nat.le_of_ble_eq_true rfl, Nat.le_of_ble_eq_true rfl⟩ ⟨rfl, rfl⟩ ⟨Nat.le_of_ble_eq_true rfl, Nat.le_of_ble_eq_true rfl⟩ (fun xr17 xN18 μr xq19 => ?_)
  obtain ⟨rfl, rfl, hr1, hr2, hr3⟩ := xq19
  have rT : Tx μr 1 100 b := huX.2.1.kept (hr3 _ (by omega) (by omega)) (hr3 _ (by omega) (by omega))
  have rR : Rst μr := huR.kept (fun x q => hr3 x (by omega) (by omega))
  have rP : Pts μr (s_t C) := huX.2.2.2.1.kept (fun x q1 q2 => hr3 x (by omega) (by omega))
  have hr4 : ∀ x, ¬ (x = 0 ∨ (67 ≤ x ∧ x < 118)) → μr x = μu x := fun x q => hr3 x (by omega) (by omega)
  refine ap_aload_n dX9_read_66 rfl rfl ?_
  refine ap_aload_n dX9_read_67 rfl rfl ?_
  refine ap_get ff_X9_14 dX9_read_68 (by omega) hr1 rfl ?_
  refine ap_cV (As := [.ref 1]) (rest := []) (ct_take (rP.2 p hp) rT (by omega) (by omega) (by omega) ⟨hT.2.2.1, (hgood hg).1, (hgood hg).2.1, (hgood hg).2.2 hl⟩) dX9_read_71 lk_X9_96 hy_X3_take rfl (by omega) (rP.2 p hp).1 ⟨_, _, rfl⟩ (Nat.le_of_ble_eq_true rfl) ⟨Nat.le_of_ble_eq_true rfl, Nat.le_of_ble_eq_true rfl⟩ ⟨rfl, rfl⟩ ⟨Nat.le_of_ble_eq_true rfl, Nat.le_of_ble_eq_true rfl⟩ (fun xr20 xN21 μt xq22 => ?_)
  obtain ⟨rfl, rfl, ht1, ht2⟩ := xq22
  have tP := rP.set hp ht1 ht2
  have tS := ht1.2.2.2.1
  have tk2 := (ht1.2.2.2.2.2.2.2 _ (Nat.le_refl _)).1
  refine ap_aload_n dX9_read_74 rfl rfl ?_
  have xm23 : μt 0 = am_O 9 [.ref 1, .ref 3, .ref 5, .ref 6, .ref 67, .ref 118, am_i (rnx rem : Int), am_i (s_b C), am_i (s_v C), am_i (s_a C), am_i (s_w C)] := (ht2 _ (by omega)).trans hr1
  refine ap_get ff_X9_14 dX9_read_75 (by omega) xm23 rfl ?_
  have xm27 : μt 1 = am_O 6 [.ref (1 + 1), am_i (b.length : Int)] := (ht2 _ (by omega)).trans rT.1
  refine ap_cV (As := []) (rest := []) (ct_makeEmpty (rT.kept (ht2 _ (by omega)) (ht2 _ (by omega))) (by omega)) dX9_read_78 lk_X9_73 hy_X6_makeEmpty rfl (by omega) xm27 ⟨_, _, rfl⟩ (Nat.le_of_ble_eq_true rfl) ⟨Nat.le_of_ble_eq_true rfl, Nat.le_of_ble_eq_true rfl⟩ ⟨rfl, rfl⟩ ⟨Nat.le_of_ble_eq_true rfl, Nat.le_of_ble_eq_true rfl⟩ (fun xr24 xN25 μe xq26 => ?_)
  obtain ⟨rfl, rfl, he1, he2⟩ := xq26
  have eS := tS.fr he2 (by omega)
  refine ap_aload_n dX9_read_81 rfl rfl ?_
  have xm28 : μe (7 + 15 * p) = am_O 3 [.ref (7 + 15 * p + 1), .ref (7 + 15 * p + 3), .ref (7 + 15 * p + 5)] := (he2 _ (by omega)).trans ht1.1
  refine ap_getN ff_X9_100 dX9_read_82 (by omega) xm28 rfl ?_
  have xm33 : μe (7 + 15 * p + 5) = am_O 4 [.ref (7 + 15 * p + 5 + 1), .ref (7 + 15 * p + 5 + 2), .ref (7 + 15 * p + 5 + 3), .ref (7 + 15 * p + 5 + 4), .ref (7 + 15 * p + 5 + 5), .ref (7 + 15 * p + 5 + 6), .ref (7 + 15 * p + 5 + 7), am_i (p_cnt (sp (uf b 0) (uf b 0).length) : Int), am_i (p_nb (sp (uf b 0) (uf b 0).length) : Int), am_l (p_tot (sp (uf b 0) (uf b 0).length)), am_i (p_td (sp (uf b 0) (uf b 0).length))] := (he2 _ (by omega)).trans tS.1
  refine ap_cV (As := []) (rest := []) (ct_count eS (by omega) tk2) dX9_read_85 lk_X9_104 hy_X4_count rfl (by omega) xm33 ⟨_, _, rfl⟩ (Nat.le_of_ble_eq_true rfl) ⟨Nat.le_of_ble_eq_true rfl, Nat.le_of_ble_eq_true rfl⟩ ⟨rfl, rfl⟩ ⟨Nat.le_of_ble_eq_true rfl, Nat.le_of_ble_eq_true rfl⟩ (fun xr29 xN30 μ31 xq32 => ?_)
  obtain ⟨rfl, rfl, rfl⟩ := xq32
  have xm34 : μe 0 = am_O 9 [.ref 1, .ref 3, .ref 5, .ref 6, .ref 67, .ref 118, am_i (rnx rem : Int), am_i (s_b C), am_i (s_v C), am_i (s_a C), am_i (s_w C)] := (he2 _ (by omega)).trans xm23
  exact ap_iret dX9_read_88 rfl rfl (Nat.le_of_ble_eq_true rfl) (Nat.le_of_ble_eq_true rfl) (⟨rfl, rfl, hX.act xm34 he1 ((rR.kept (fun x q => ht2 x (by omega))).kept (fun x q => he2 x (by omega))) (tP.kept (fun x q1 q2 => he2 x (by omega))) ((hr2.kept (fun x q1 q2 => ht2 x (by omega))).kept (fun x q1 q2 => he2 x (by omega))) hm, fun x hx => (he2 x (by omega)).trans ((ht2 x (by omega)).trans ((hr4 x (by omega)).trans ((hu2 x (by omega)).trans ((hw2 x (by omega))))))⟩)

def sprd (h st l : Nat) (i : Nat) : List Int := match i with
  | 0 => []
  | i + 1 => sprd h st l i ++ ((if h ≤ i * h % st then [114] else []) ++ [(l : Int)])
theorem sprd_len (h st l i : Nat) : (sprd h st l i).length ≤ 2 * i := by
  induction i with
  | zero => simp [sprd]
  | succ i ih => simp only [sprd, List.length_append, List.length_singleton]; split <;> simp <;> omega
set_option maxHeartbeats 4000000 in
set_option maxRecDepth 100000 in
theorem cx_spreadN1 {N : Nat} {μ : am_M} {b : List Int} {C : Snap} {rem : Nat} {hs : Nat → Snap} (hX : Bx μ b C rem hs) (hN : 120 ≤ N) {k hi st le : Int} (hk : -2147483648 ≤ k ∧ k ≤ 2147483647) (hhi : -2147483648 ≤ hi ∧ hi ≤ 2147483647) (hst : -2147483648 ≤ st ∧ st ≤ 2147483647) (hle : -2147483648 ≤ le ∧ le ≤ 2147483647) (hn : ¬ (0 ≤ k ∧ k < 4)) : am_Met YX9_spread [.ref 0, am_i k, am_i hi, am_i st, am_i le] N μ (bpost N μ (am_i (-1)) b C rem hs) := by
  obtain ⟨h0, hT, hR, hP, hH, hrem, hm, hsn⟩ := id hX
  obtain ⟨b1, -, b4, b5, b6⟩ := id hT
  refine am_met (by first | decide | rfl) (Nat.le_of_ble_eq_true rfl) (fun h => by first | rfl | cases h) ?_
  show am_W YX9_spread _ 0 0 0 [(0, .ref 0), (1, am_i k), (2, am_i hi), (3, am_i st), (4, am_i le)] [] _ _
  refine ap_aload_n dX9_spread_0 rfl rfl ?_
  refine ap_iload_n dX9_spread_1 rfl rfl ?_
  refine ap_cV (As := [am_i k]) (rest := []) (ct_partAtN hk hn) dX9_spread_2 lk_X9_76 hy_X9_partAt rfl (by omega) h0 ⟨_, _, rfl⟩ (Nat.le_of_ble_eq_true rfl) ⟨Nat.le_of_ble_eq_true rfl, Nat.le_of_ble_eq_true rfl⟩ ⟨rfl, rfl⟩ ⟨Nat.le_of_ble_eq_true rfl, Nat.le_of_ble_eq_true rfl⟩ (fun xr1 xN2 μ3 xq4 => ?_)
  obtain ⟨rfl, rfl, rfl⟩ := xq4
  refine ap_AstoreN (lv2 := [(0, .ref 0), (1, am_i k), (2, am_i hi), (3, am_i st), (4, am_i le), (5, .null)]) dX9_spread_5 (by decide) rfl ?_
  refine ap_aloadN dX9_spread_7 rfl ?_
  refine ap_ifnullN (tgt := 32) dX9_spread_9 (by decide) ?_
  refine ap_iconst dX9_spread_32 ?_
  exact ap_iret dX9_spread_33 rfl rfl (Nat.le_of_ble_eq_true rfl) (Nat.le_of_ble_eq_true rfl) (⟨rfl, rfl, hX, fun x hx => rfl⟩)

set_option maxHeartbeats 4000000 in
set_option maxRecDepth 100000 in
theorem cx_spreadN2 {N : Nat} {μ : am_M} {b : List Int} {C : Snap} {rem : Nat} {hs : Nat → Snap} (hX : Bx μ b C rem hs) (hN : 120 ≤ N) {p : Nat} {hi st le : Int} (hhi : -2147483648 ≤ hi ∧ hi ≤ 2147483647) (hst : -2147483648 ≤ st ∧ st ≤ 2147483647) (hle : -2147483648 ≤ le ∧ le ≤ 2147483647) (hp : p < 4) (hn : ¬ ((1 ≤ st ∧ st ≤ 32) ∧ (0 ≤ hi ∧ hi ≤ st) ∧ 0 ≤ hv le)) : am_Met YX9_spread [.ref 0, am_i (p : Int), am_i hi, am_i st, am_i le] N μ (bpost N μ (am_i (-1)) b C rem hs) := by
  obtain ⟨h0, hT, hR, hP, hH, hrem, hm, hsn⟩ := id hX
  obtain ⟨b1, -, b4, b5, b6⟩ := id hT
  refine am_met (by first | decide | rfl) (Nat.le_of_ble_eq_true rfl) (fun h => by first | rfl | cases h) ?_
  show am_W YX9_spread _ 0 0 0 [(0, .ref 0), (1, am_i (p : Int)), (2, am_i hi), (3, am_i st), (4, am_i le)] [] _ _
  refine ap_aload_n dX9_spread_0 rfl rfl ?_
  refine ap_iload_n dX9_spread_1 rfl rfl ?_
  refine ap_cV (As := [am_i (p : Int)]) (rest := []) (ct_partAtP h0 hP hN hp) dX9_spread_2 lk_X9_76 hy_X9_partAt rfl (by omega) h0 ⟨_, _, rfl⟩ (Nat.le_of_ble_eq_true rfl) ⟨Nat.le_of_ble_eq_true rfl, Nat.le_of_ble_eq_true rfl⟩ ⟨rfl, rfl⟩ ⟨Nat.le_of_ble_eq_true rfl, Nat.le_of_ble_eq_true rfl⟩ (fun xr1 xN2 μ3 xq4 => ?_)
  obtain ⟨rfl, rfl, rfl⟩ := xq4
  refine ap_Astore (lv2 := [(0, .ref 0), (1, am_i (p : Int)), (2, am_i hi), (3, am_i st), (4, am_i le), (5, .ref (7 + 15 * p))]) dX9_spread_5 (by decide) rfl ?_
  refine ap_aload dX9_spread_7 rfl ?_
  refine ap_ifnull dX9_spread_9 ?_
  refine ap_iload_n dX9_spread_12 rfl rfl ?_
  refine ap_iconst dX9_spread_13 ?_
  refine ap_icmp_lt (tgt := 32) dX9_spread_14 (by decide) (by omega) (fun c14 => ?_) (fun c14 => ?_)
  · refine ap_iconst dX9_spread_32 ?_
    exact ap_iret dX9_spread_33 rfl rfl (Nat.le_of_ble_eq_true rfl) (Nat.le_of_ble_eq_true rfl) (⟨rfl, rfl, hX, fun x hx => rfl⟩)
  · refine ap_iload_n dX9_spread_17 rfl rfl ?_
    refine ap_bipush dX9_spread_18 (by decide) ?_
    refine ap_icmp_gt (tgt := 32) dX9_spread_20 (by decide) (by omega) (fun c20 => ?_) (fun c20 => ?_)
    · refine ap_iconst dX9_spread_32 ?_
      exact ap_iret dX9_spread_33 rfl rfl (Nat.le_of_ble_eq_true rfl) (Nat.le_of_ble_eq_true rfl) (⟨rfl, rfl, hX, fun x hx => rfl⟩)
    · refine ap_iload_n dX9_spread_23 rfl rfl ?_
      refine ap_if_lt (tgt := 32) dX9_spread_24 (by decide) (by omega) (fun c24 => ?_) (fun c24 => ?_)
      · refine ap_iconst dX9_spread_32 ?_
        exact ap_iret dX9_spread_33 rfl rfl (Nat.le_of_ble_eq_true rfl) (Nat.le_of_ble_eq_true rfl) (⟨rfl, rfl, hX, fun x hx => rfl⟩)
      · refine ap_iload_n dX9_spread_27 rfl rfl ?_
        refine ap_iload_n dX9_spread_28 rfl rfl ?_
        refine ap_icmp_le (tgt := 34) dX9_spread_29 (by decide) (by omega) (fun c29 => ?_) (fun c29 => ?_)
        · refine ap_iload dX9_spread_34 rfl ?_
          refine ap_cS (As := [am_i le]) (rest := []) (ct_halvings hle) dX9_spread_36 lk_X9_112 hy_X1_halvings rfl (Nat.le_of_ble_eq_true rfl) ⟨Nat.le_of_ble_eq_true rfl, Nat.le_of_ble_eq_true rfl⟩ ⟨rfl, rfl⟩ ⟨Nat.le_of_ble_eq_true rfl, Nat.le_of_ble_eq_true rfl⟩ (fun xr5 xN6 μ7 xq8 => ?_)
          obtain ⟨rfl, rfl, rfl⟩ := xq8
          refine ap_if_ge (tgt := 44) dX9_spread_39 (by decide) (by have := hv_r le; omega) (fun c39 => (by exfalso; omega)) (fun c39 => ?_)
          refine ap_iconst dX9_spread_42 ?_
          exact ap_iret dX9_spread_43 rfl rfl (Nat.le_of_ble_eq_true rfl) (Nat.le_of_ble_eq_true rfl) (⟨rfl, rfl, hX, fun x hx => rfl⟩)
        · refine ap_iconst dX9_spread_32 ?_
          exact ap_iret dX9_spread_33 rfl rfl (Nat.le_of_ble_eq_true rfl) (Nat.le_of_ble_eq_true rfl) (⟨rfl, rfl, hX, fun x hx => rfl⟩)

set_option maxHeartbeats 4000000 in
set_option maxRecDepth 100000 in
theorem lp_spread {N : Nat} {μ μ1 : am_M} {b : List Int} {C : Snap} {rem : Nat} {hs : Nat → Snap} (hX : Bx μ b C rem hs) (hN : 120 ≤ N) {p hi st le : Nat} (hp : p < 4) (hst : 1 ≤ st ∧ st ≤ 32) (hhi : hi ≤ st) (hle : le ≤ 126) (hok : okx (sprd hi st le st)) (k0 : μ1 0 = bcl (rnx rem : Int) (s_b C) (s_v C) (s_a C) (s_w C)) (kT : Tx μ1 1 100 b) (kP : Pts μ1 (s_t C)) (kH : Hst μ1 (hnx rem hs C)) {ga gb gc gd ge gf zn zs : Int} {fo : Nat → Int} (kG : μ1 5 = gcl ga gb gc gd ge gf) (kO1 : μ1 118 = am_O 2 [.ref 119, am_l zn, am_i zs]) (kO2 : μ1 119 = am_I 0 4 fo) (h1f : ∀ x, 120 ≤ x → μ1 x = μ x) : ∀ (nn : Nat) (i : Nat) (z : Int) (μ2 : am_M), z = (i : Int) → i ≤ st → Tx μ2 3 900 (sprd hi st le i) → am_fr 3 5 μ1 μ2 → st - i < nn → am_W YX9_spread (fun r N2 μ2 => r = some (am_i (cnt (sprd hi st le st))) ∧ N = N2 ∧ Bx μ2 b (va_up (s_t C) p (sprd hi st le st), s_b C, s_v C, s_a C, s_w C) (rnx rem) (hnx rem hs C) ∧ ∀ x, 120 ≤ x → μ2 x = μ x) 0 0 58 [(0, .ref 0), (1, am_i (p : Int)), (2, am_i (hi : Int)), (3, am_i (st : Int)), (4, am_i (le : Int)), (5, .ref (7 + 15 * p)), (6, am_i z)] [] N μ2 := by
  intro nn
  induction nn with
  | zero =>
    intro i z μ2 hz hi2 hU hf hm
    exfalso; omega
  | succ nn ih =>
    intro i z μ2 hz hi2 hU hf hm
    have l0 : μ2 0 = _ := (hf _ (by omega)).trans k0
    have lT : Tx μ2 1 100 b := kT.fr hf (by omega)
    have lP : Pts μ2 (s_t C) := kP.kept (fun x q1 q2 => hf x (by omega))
    have lH : Hst μ2 (hnx rem hs C) := kH.kept (fun x q1 q2 => hf x (by omega))
    have lG : μ2 5 = _ := (hf _ (by omega)).trans kG
    have lO1 : μ2 118 = _ := (hf _ (by omega)).trans kO1
    have lO2 : μ2 119 = _ := (hf _ (by omega)).trans kO2
    refine ap_iload dX9_spread_58 rfl ?_
    refine ap_iload_n dX9_spread_60 rfl rfl ?_
    refine ap_icmp_ge (tgt := 98) dX9_spread_61 (by decide) (by omega) (fun c61 => ?_) (fun c61 => ?_)
    · obtain rfl : i = st := by omega
      have rP := lP
      refine ap_aload dX9_spread_98 rfl ?_
      refine ap_aload_n dX9_spread_100 rfl rfl ?_
      refine ap_get ff_X9_18 dX9_spread_101 (by omega) l0 rfl ?_
      refine ap_cV (As := [.ref 3]) (rest := []) (ct_take (lP.2 p hp) hU (by omega) (by omega) (by omega) hok) dX9_spread_104 lk_X9_96 hy_X3_take rfl (by omega) (lP.2 p hp).1 ⟨_, _, rfl⟩ (Nat.le_of_ble_eq_true rfl) ⟨Nat.le_of_ble_eq_true rfl, Nat.le_of_ble_eq_true rfl⟩ ⟨rfl, rfl⟩ ⟨Nat.le_of_ble_eq_true rfl, Nat.le_of_ble_eq_true rfl⟩ (fun xr1 xN2 μt xq3 => ?_)
      obtain ⟨rfl, rfl, ht1, ht2⟩ := xq3
      have tP := rP.set hp ht1 ht2
      have tS := ht1.2.2.2.1
      have tk2 := (ht1.2.2.2.2.2.2.2 _ (Nat.le_refl _)).1
      refine ap_aload dX9_spread_107 rfl ?_
      refine ap_getN ff_X9_100 dX9_spread_109 (by omega) ht1.1 rfl ?_
      refine ap_cV (As := []) (rest := []) (ct_count tS (by omega) tk2) dX9_spread_112 lk_X9_104 hy_X4_count rfl (by omega) tS.1 ⟨_, _, rfl⟩ (Nat.le_of_ble_eq_true rfl) ⟨Nat.le_of_ble_eq_true rfl, Nat.le_of_ble_eq_true rfl⟩ ⟨rfl, rfl⟩ ⟨Nat.le_of_ble_eq_true rfl, Nat.le_of_ble_eq_true rfl⟩ (fun xr4 xN5 μ6 xq7 => ?_)
      obtain ⟨rfl, rfl, rfl⟩ := xq7
      have xm8 : μt 0 = am_O 9 [.ref 1, .ref 3, .ref 5, .ref 6, .ref 67, .ref 118, am_i (rnx rem : Int), am_i (s_b C), am_i (s_v C), am_i (s_a C), am_i (s_w C)] := (ht2 _ (by omega)).trans l0
      exact ap_iret dX9_spread_115 rfl rfl (Nat.le_of_ble_eq_true rfl) (Nat.le_of_ble_eq_true rfl) (⟨rfl, rfl, hX.act xm8 (lT.kept (ht2 _ (by omega)) (ht2 _ (by omega))) ⟨⟨_, hU.kept (ht2 _ (by omega)) (ht2 _ (by omega))⟩, ⟨_, _, _, _, _, _, (ht2 _ (by omega)).trans lG⟩, _, _, _, (ht2 _ (by omega)).trans lO1, (ht2 _ (by omega)).trans lO2⟩ tP (lH.kept (fun x q1 q2 => ht2 x (by omega))) hX.2.2.2.2.2.2.1, fun x hx => ((ht2 x (by omega))).trans ((hf x (by omega)).trans (h1f x hx))⟩)
    · have q8 : i * hi ≤ 32 * 32 := Nat.mul_le_mul (by omega) (by omega)
      have q9 : z * (hi : Int) ≤ 2147483647 := by rw [hz, ← Int.natCast_mul]; omega
      have q10 : z * (hi : Int) % (st : Int) = ((i * hi % st : Nat) : Int) := by rw [hz]; simp
      have q11 := Nat.mod_lt (i * hi) (show 0 < st by omega)
      have q12 := sprd_len hi st le i
      refine ap_iload dX9_spread_64 rfl ?_
      refine ap_iload_n dX9_spread_66 rfl rfl ?_
      refine ap_imul dX9_spread_67 ?_
      refine ap_iload_n dX9_spread_68 rfl rfl ?_
      refine ap_irem dX9_spread_69 (⟨⟨Int.mul_nonneg (by omega) (by omega), q9⟩, by omega⟩) ?_
      refine ap_topi (b := ((i * hi % st : Nat) : Int)) (show ((z * (hi : Int)) % (st : Int)) = ((i * hi % st : Nat) : Int) from q10) ?_
      refine ap_iload_n dX9_spread_70 rfl rfl ?_
      refine ap_icmp_lt (tgt := 83) dX9_spread_71 (by decide) (by omega) (fun c71 => ?_) (fun c71 => ?_)
      · refine ap_aload_n dX9_spread_83 rfl rfl ?_
        refine ap_get ff_X9_18 dX9_spread_84 (by omega) l0 rfl ?_
        refine ap_iload dX9_spread_87 rfl ?_
        refine ap_cV (As := [am_i (le : Int)]) (rest := []) (ct_append hU (by omega) (c := (le : Int)) (by omega) (by omega)) dX9_spread_89 lk_X9_66 hy_X6_append rfl (by omega) hU.1 ⟨_, _, rfl⟩ (Nat.le_of_ble_eq_true rfl) ⟨Nat.le_of_ble_eq_true rfl, Nat.le_of_ble_eq_true rfl⟩ ⟨rfl, rfl⟩ ⟨Nat.le_of_ble_eq_true rfl, Nat.le_of_ble_eq_true rfl⟩ (fun xr9 xN10 μb xq11 => ?_)
        obtain ⟨rfl, rfl, hb1, hb2⟩ := xq11
        refine ap_Iinc (lv2 := [(0, .ref 0), (1, am_i (p : Int)), (2, am_i (hi : Int)), (3, am_i (st : Int)), (4, am_i (le : Int)), (5, .ref (7 + 15 * p)), (6, am_i (z + 1))]) dX9_spread_92 rfl (by decide) rfl ?_
        refine ap_goto (tgt := 58) dX9_spread_95 (by decide) ?_
        exact ih (i + 1) _ μb (by omega) (by omega) (by rw [sprd, if_neg (by omega), List.nil_append]; exact hb1) (hf.trans hb2) (by omega)
      · refine ap_aload_n dX9_spread_74 rfl rfl ?_
        refine ap_get ff_X9_18 dX9_spread_75 (by omega) l0 rfl ?_
        refine ap_bipush dX9_spread_78 (by decide) ?_
        refine ap_cV (As := [am_i 114]) (rest := []) (ct_append hU (by omega) (c := 114) (by omega) (by omega)) dX9_spread_80 lk_X9_66 hy_X6_append rfl (by omega) hU.1 ⟨_, _, rfl⟩ (Nat.le_of_ble_eq_true rfl) ⟨Nat.le_of_ble_eq_true rfl, Nat.le_of_ble_eq_true rfl⟩ ⟨rfl, rfl⟩ ⟨Nat.le_of_ble_eq_true rfl, Nat.le_of_ble_eq_true rfl⟩ (fun xr12 xN13 μa xq14 => ?_)
        obtain ⟨rfl, rfl, ha1, ha2⟩ := xq14
        refine ap_aload_n dX9_spread_83 rfl rfl ?_
        have xm15 : μa 0 = am_O 9 [.ref 1, .ref 3, .ref 5, .ref 6, .ref 67, .ref 118, am_i (rnx rem : Int), am_i (s_b C), am_i (s_v C), am_i (s_a C), am_i (s_w C)] := (ha2 _ (by omega)).trans l0
        refine ap_get ff_X9_18 dX9_spread_84 (by omega) xm15 rfl ?_
        refine ap_iload dX9_spread_87 rfl ?_
        refine ap_cV (As := [am_i (le : Int)]) (rest := []) (ct_append ha1 (by omega) (c := (le : Int)) (by omega) (by simp; omega)) dX9_spread_89 lk_X9_66 hy_X6_append rfl (by omega) ha1.1 ⟨_, _, rfl⟩ (Nat.le_of_ble_eq_true rfl) ⟨Nat.le_of_ble_eq_true rfl, Nat.le_of_ble_eq_true rfl⟩ ⟨rfl, rfl⟩ ⟨Nat.le_of_ble_eq_true rfl, Nat.le_of_ble_eq_true rfl⟩ (fun xr16 xN17 μb xq18 => ?_)
        obtain ⟨rfl, rfl, hb1, hb2⟩ := xq18
        refine ap_Iinc (lv2 := [(0, .ref 0), (1, am_i (p : Int)), (2, am_i (hi : Int)), (3, am_i (st : Int)), (4, am_i (le : Int)), (5, .ref (7 + 15 * p)), (6, am_i (z + 1))]) dX9_spread_92 rfl (by decide) rfl ?_
        refine ap_goto (tgt := 58) dX9_spread_95 (by decide) ?_
        exact ih (i + 1) _ μb (by omega) (by omega) (by rw [sprd, if_pos (by omega), ← List.append_assoc]; exact hb1) (hf.trans (ha2.trans hb2)) (by omega)

set_option maxHeartbeats 4000000 in
set_option maxRecDepth 100000 in
theorem cx_spreadP {N : Nat} {μ : am_M} {b : List Int} {C : Snap} {rem : Nat} {hs : Nat → Snap} (hX : Bx μ b C rem hs) (hN : 120 ≤ N) {p hi st le : Nat} (hp : p < 4) (hst : 1 ≤ st ∧ st ≤ 32) (hhi : hi ≤ st) (hle : le ≤ 126) (hlv : 0 ≤ hv (le : Int)) (hok : okx (sprd hi st le st)) : am_Met YX9_spread [.ref 0, am_i (p : Int), am_i (hi : Int), am_i (st : Int), am_i (le : Int)] N μ (fun r N2 μ2 => r = some (am_i (cnt (sprd hi st le st))) ∧ N = N2 ∧ Bx μ2 b (va_up (s_t C) p (sprd hi st le st), s_b C, s_v C, s_a C, s_w C) (rnx rem) (hnx rem hs C) ∧ ∀ x, 120 ≤ x → μ2 x = μ x) := by
  obtain ⟨h0, hT, hR, hP, hH, hrem, hm, hsn⟩ := id hX
  obtain ⟨b1, -, b4, b5, b6⟩ := id hT
  obtain ⟨⟨ds, hD⟩, ⟨ga, gb, gc, gd, ge, gf, hG⟩, hOv⟩ := id hR
  refine am_met (by first | decide | rfl) (Nat.le_of_ble_eq_true rfl) (fun h => by first | rfl | cases h) ?_
  show am_W YX9_spread _ 0 0 0 [(0, .ref 0), (1, am_i (p : Int)), (2, am_i (hi : Int)), (3, am_i (st : Int)), (4, am_i (le : Int))] [] _ _
  refine ap_aload_n dX9_spread_0 rfl rfl ?_
  refine ap_iload_n dX9_spread_1 rfl rfl ?_
  refine ap_cV (As := [am_i (p : Int)]) (rest := []) (ct_partAtP h0 hP hN hp) dX9_spread_2 lk_X9_76 hy_X9_partAt rfl (by omega) h0 ⟨_, _, rfl⟩ (Nat.le_of_ble_eq_true rfl) ⟨Nat.le_of_ble_eq_true rfl, Nat.le_of_ble_eq_true rfl⟩ ⟨rfl, rfl⟩ ⟨Nat.le_of_ble_eq_true rfl, Nat.le_of_ble_eq_true rfl⟩ (fun xr1 xN2 μ3 xq4 => ?_)
  obtain ⟨rfl, rfl, rfl⟩ := xq4
  refine ap_Astore (lv2 := [(0, .ref 0), (1, am_i (p : Int)), (2, am_i (hi : Int)), (3, am_i (st : Int)), (4, am_i (le : Int)), (5, .ref (7 + 15 * p))]) dX9_spread_5 (by decide) rfl ?_
  refine ap_aload dX9_spread_7 rfl ?_
  refine ap_ifnull dX9_spread_9 ?_
  refine ap_iload_n dX9_spread_12 rfl rfl ?_
  refine ap_iconst dX9_spread_13 ?_
  refine ap_icmp_lt (tgt := 32) dX9_spread_14 (by decide) (by omega) (fun c14 => (by exfalso; omega)) (fun c14 => ?_)
  refine ap_iload_n dX9_spread_17 rfl rfl ?_
  refine ap_bipush dX9_spread_18 (by decide) ?_
  refine ap_icmp_gt (tgt := 32) dX9_spread_20 (by decide) (by omega) (fun c20 => (by exfalso; omega)) (fun c20 => ?_)
  refine ap_iload_n dX9_spread_23 rfl rfl ?_
  refine ap_if_lt (tgt := 32) dX9_spread_24 (by decide) (by omega) (fun c24 => (by exfalso; omega)) (fun c24 => ?_)
  refine ap_iload_n dX9_spread_27 rfl rfl ?_
  refine ap_iload_n dX9_spread_28 rfl rfl ?_
  refine ap_icmp_le (tgt := 34) dX9_spread_29 (by decide) (by omega) (fun c29 => ?_) (fun c29 => (by exfalso; omega))
  refine ap_iload dX9_spread_34 rfl ?_
  refine ap_cS (As := [am_i (le : Int)]) (rest := []) (ct_halvings (by omega)) dX9_spread_36 lk_X9_112 hy_X1_halvings rfl (Nat.le_of_ble_eq_true rfl) ⟨Nat.le_of_ble_eq_true rfl, Nat.le_of_ble_eq_true rfl⟩ ⟨rfl, rfl⟩ ⟨Nat.le_of_ble_eq_true rfl, Nat.le_of_ble_eq_true rfl⟩ (fun xr5 xN6 μ7 xq8 => ?_)
  obtain ⟨rfl, rfl, rfl⟩ := xq8
  refine ap_if_ge (tgt := 44) dX9_spread_39 (by decide) (by have := hv_r (le : Int); omega) (fun c39 => ?_) (fun c39 => (by exfalso; omega))
  refine ap_aload_n dX9_spread_44 rfl rfl ?_
  refine ap_cV (As := []) (rest := []) (ct_remember h0 hH hP hN hrem) dX9_spread_45 lk_X9_93 hy_X9_remember rfl (by omega) h0 ⟨_, _, rfl⟩ (Nat.le_of_ble_eq_true rfl) ⟨Nat.le_of_ble_eq_true rfl, Nat.le_of_ble_eq_true rfl⟩ ⟨rfl, rfl⟩ ⟨Nat.le_of_ble_eq_true rfl, Nat.le_of_ble_eq_true rfl⟩ (fun xr9 xN10 μr xq11 => ?_)
  obtain ⟨rfl, rfl, hr1, hr2, hr3⟩ := xq11
  have rT : Tx μr 1 100 b := hT.kept (hr3 _ (by omega) (by omega)) (hr3 _ (by omega) (by omega))
  have rR : Rst μr := hR.kept (fun x q => hr3 x (by omega) (by omega))
  have rP : Pts μr (s_t C) := hP.kept (fun x q1 q2 => hr3 x (by omega) (by omega))
  have hr4 : ∀ x, ¬ (x = 0 ∨ (67 ≤ x ∧ x < 118)) → μr x = μ x := fun x q => hr3 x (by omega) (by omega)
  refine ap_aload_n dX9_spread_48 rfl rfl ?_
  refine ap_get ff_X9_18 dX9_spread_49 (by omega) hr1 rfl ?_
  have xm15 : μr 3 = am_O 6 [.ref (3 + 1), am_i (ds.length : Int)] := (hr4 _ (by omega)).trans hD.1
  refine ap_cV (As := []) (rest := []) (ct_makeEmpty (hD.kept (hr4 _ (by omega)) (hr4 _ (by omega))) (by omega)) dX9_spread_52 lk_X9_73 hy_X6_makeEmpty rfl (by omega) xm15 ⟨_, _, rfl⟩ (Nat.le_of_ble_eq_true rfl) ⟨Nat.le_of_ble_eq_true rfl, Nat.le_of_ble_eq_true rfl⟩ ⟨rfl, rfl⟩ ⟨Nat.le_of_ble_eq_true rfl, Nat.le_of_ble_eq_true rfl⟩ (fun xr12 xN13 μe xq14 => ?_)
  obtain ⟨rfl, rfl, he1, he2⟩ := xq14
  obtain ⟨zn, zs, fo, o1, o2⟩ := hOv
  refine ap_iconst dX9_spread_55 ?_
  refine ap_Istore (lv2 := [(0, .ref 0), (1, am_i (p : Int)), (2, am_i (hi : Int)), (3, am_i (st : Int)), (4, am_i (le : Int)), (5, .ref (7 + 15 * p)), (6, am_i 0)]) dX9_spread_56 (by decide) rfl ?_
  have xm16 : μe 0 = am_O 9 [.ref 1, .ref 3, .ref 5, .ref 6, .ref 67, .ref 118, am_i (rnx rem : Int), am_i (s_b C), am_i (s_v C), am_i (s_a C), am_i (s_w C)] := (he2 _ (by omega)).trans hr1
  exact lp_spread hX hN hp hst hhi hle hok xm16 (rT.fr he2 (by omega)) (rP.kept (fun x q1 q2 => he2 x (by omega))) (hr2.kept (fun x q1 q2 => he2 x (by omega))) ((he2 _ (by omega)).trans ((hr4 _ (by omega)).trans hG)) ((he2 _ (by omega)).trans ((hr4 _ (by omega)).trans o1)) ((he2 _ (by omega)).trans ((hr4 _ (by omega)).trans o2)) (fun x hx => (he2 x (by omega)).trans (hr4 x (by omega))) 33 0 _ μe rfl (Nat.zero_le _) he1 am_fr.rf (by omega)

set_option maxHeartbeats 4000000 in
set_option maxRecDepth 100000 in
theorem cx_undoN {N : Nat} {μ : am_M} {b : List Int} {C : Snap} {rem : Nat} {hs : Nat → Snap} (hX : Bx μ b C rem hs) (hN : 120 ≤ N) (hn : rem = 0) : am_Met YX9_undo [.ref 0] N μ (bpost N μ (am_i (-9)) b C rem hs) := by
  obtain ⟨h0, hT, hR, hP, hH, hrem, hm, hsn⟩ := id hX
  obtain ⟨b1, -, b4, b5, b6⟩ := id hT
  refine am_met (by first | decide | rfl) (Nat.le_of_ble_eq_true rfl) (fun h => by first | rfl | cases h) ?_
  show am_W YX9_undo _ 0 0 0 [(0, .ref 0)] [] _ _
  refine ap_aload_n dX9_undo_0 rfl rfl ?_
  refine ap_get ff_X9_212 dX9_undo_1 (by omega) h0 rfl ?_
  refine ap_iconst dX9_undo_4 ?_
  refine ap_icmp_lt (tgt := 16) dX9_undo_5 (by decide) (by omega) (fun c5 => ?_) (fun c5 => (by exfalso; omega))
  refine ap_bipush dX9_undo_16 (by decide) ?_
  exact ap_iret dX9_undo_18 rfl rfl (Nat.le_of_ble_eq_true rfl) (Nat.le_of_ble_eq_true rfl) (⟨rfl, rfl, hX, fun x hx => rfl⟩)

set_option maxHeartbeats 8000000 in
set_option maxRecDepth 100000 in
theorem cx_undoP {N : Nat} {μ : am_M} {b : List Int} {C : Snap} {rem : Nat} {hs : Nat → Snap} (hX : Bx μ b C rem hs) (hN : 120 ≤ N) (hn : 0 < rem) : am_Met YX9_undo [.ref 0] N μ (bpost N μ (am_i ((rem - 1 : Nat) : Int)) b (hs (rem - 1)) (rem - 1) hs) := by
  obtain ⟨h0, hT, hR, hP, hH, hrem, hm, hsn⟩ := id hX
  obtain ⟨b1, -, b4, b5, b6⟩ := id hT
  obtain ⟨f, ρ, h67, h8, h9⟩ := id hH
  obtain ⟨⟨fp, h6, h7⟩, hPt⟩ := id hP
  obtain ⟨q, hq⟩ : ∃ q, q = 68 + 10 * ((rem - 1 + ρ) % 5) := ⟨_, rfl⟩
  have hqr : 68 ≤ q ∧ q ≤ 108 := by omega
  obtain ⟨hq1, ⟨fq, hq2, hq3⟩, hq4⟩ : StO μ q (hs (rem - 1)) := by rw [hq]; exact h9 (rem - 1) (by omega)
  have T0 : Tx μ (q + 2) 100 (s_t (hs (rem - 1)) 0) := hq4 0 (by omega)
  have T1 : Tx μ (q + 4) 100 (s_t (hs (rem - 1)) 1) := hq4 1 (by omega)
  have T2 : Tx μ (q + 6) 100 (s_t (hs (rem - 1)) 2) := hq4 2 (by omega)
  have T3 : Tx μ (q + 8) 100 (s_t (hs (rem - 1)) 3) := hq4 3 (by omega)
  have P0 : Prt μ 7 (s_t C 0) := hPt 0 (by omega)
  have P1 : Prt μ 22 (s_t C 1) := hPt 1 (by omega)
  have P2 : Prt μ 37 (s_t C 2) := hPt 2 (by omega)
  have P3 : Prt μ 52 (s_t C 3) := hPt 3 (by omega)
  refine am_met (by first | decide | rfl) (Nat.le_of_ble_eq_true rfl) (fun h => by first | rfl | cases h) ?_
  show am_W YX9_undo _ 0 0 0 [(0, .ref 0)] [] _ _
  refine ap_aload_n dX9_undo_0 rfl rfl ?_
  refine ap_get ff_X9_212 dX9_undo_1 (by omega) h0 rfl ?_
  refine ap_iconst dX9_undo_4 ?_
  refine ap_icmp_lt (tgt := 16) dX9_undo_5 (by decide) (by omega) (fun c5 => (by exfalso; omega)) (fun c5 => ?_)
  refine ap_aload_n dX9_undo_8 rfl rfl ?_
  refine ap_get ff_X9_212 dX9_undo_9 (by omega) h0 rfl ?_
  refine ap_iconst dX9_undo_12 ?_
  refine ap_icmp_le (tgt := 19) dX9_undo_13 (by decide) (by omega) (fun c13 => ?_) (fun c13 => (by exfalso; omega))
  refine ap_aload_n dX9_undo_19 rfl rfl ?_
  refine ap_dup dX9_undo_20 rfl ?_
  refine ap_get ff_X9_212 dX9_undo_21 (by omega) h0 rfl ?_
  refine ap_iconst dX9_undo_24 ?_
  refine ap_isub dX9_undo_25 ?_
  refine ap_put (fs2 := [.ref 1, .ref 3, .ref 5, .ref 6, .ref 67, .ref 118, am_i ((rem : Int) - 1), am_i (s_b C), am_i (s_v C), am_i (s_a C), am_i (s_w C)]) ff_X9_212 fc_X9_6 dX9_undo_26 (by omega) h0 (fun _ => ⟨rfl, rfl⟩) (Nat.le_of_ble_eq_true rfl) rfl (fun μ1 xe2 xf3 => ?_)
  refine ap_aload_n dX9_undo_29 rfl rfl ?_
  refine ap_get ff_X9_37 dX9_undo_30 (by omega) xe2 rfl ?_
  refine ap_aload_n dX9_undo_33 rfl rfl ?_
  refine ap_get ff_X9_212 dX9_undo_34 (by omega) xe2 rfl ?_
  have xm4 : μ1 67 = am_R 5 5 f := (xf3 _ (by omega)).trans h67
  refine ap_aald5 (j := rem - 1) (r := q) dX9_undo_37 (by omega) xm4 (by omega) (by omega) (by rw [hq]; exact h8 (rem - 1) (by omega)) ?_
  refine ap_Astore_n (lv2 := [(0, .ref 0), (1, .ref q)]) dX9_undo_38 rfl (by decide) rfl ?_
  refine ap_iconst dX9_undo_39 ?_
  refine ap_Istore_n (lv2 := [(0, .ref 0), (1, .ref q), (2, am_i 0)]) dX9_undo_40 rfl (by decide) rfl ?_
  refine ap_iload_n dX9_undo_41 rfl rfl ?_
  refine ap_iconst dX9_undo_42 ?_
  refine ap_icmp_ge (tgt := 67) dX9_undo_43 (by decide) (by omega) (fun c43 => (by exfalso; omega)) (fun c43 => ?_)
  refine ap_aload_n dX9_undo_46 rfl rfl ?_
  refine ap_get ff_X9_30 dX9_undo_47 (by omega) xe2 rfl ?_
  refine ap_iload_n dX9_undo_50 rfl rfl ?_
  have xm5 : μ1 6 = am_R 4 4 fp := (xf3 _ (by omega)).trans h6
  refine ap_aald4 (j := 0) (r := 7) dX9_undo_51 (by omega) xm5 (by omega) (by omega) (h7 0 (by omega)) ?_
  refine ap_aload_n dX9_undo_52 rfl rfl ?_
  have xm6 : μ1 q = am_O 5 [.ref (q + 1), am_i (s_b (hs (rem - 1))), am_i (s_v (hs (rem - 1))), am_i (s_a (hs (rem - 1))), am_i (s_w (hs (rem - 1)))] := (xf3 _ (by omega)).trans hq1
  refine ap_getN ff_X9_215 dX9_undo_53 (by omega) xm6 rfl ?_
  refine ap_iload_n dX9_undo_56 rfl rfl ?_
  have xm7 : μ1 (q + 1) = am_R 6 4 fq := (xf3 _ (by omega)).trans hq2
  refine ap_aald6 (j := 0) (r := q + 2) dX9_undo_57 (by omega) xm7 (by omega) (by omega) (hq3 0 (by omega)) ?_
  have xm11 : μ1 7 = am_O 3 [.ref 8, .ref 10, .ref 12] := (xf3 _ (by omega)).trans ((P0).1)
  refine ap_cV (As := [.ref (q + 2)]) (rest := []) (ct_take (p := 7) (u := q + 2) ((P0).kept (fun x q1 q2 => (xf3 x (by omega)))) ((T0).kept ((xf3 (q + 2) (by omega))) ((xf3 (q + 3) (by omega)))) (by omega) (by omega) (by omega) ((hsn (rem - 1) (by omega)).1 0 (by omega))) dX9_undo_58 lk_X9_96 hy_X3_take rfl (by omega) xm11 ⟨_, _, rfl⟩ (Nat.le_of_ble_eq_true rfl) ⟨Nat.le_of_ble_eq_true rfl, Nat.le_of_ble_eq_true rfl⟩ ⟨rfl, rfl⟩ ⟨Nat.le_of_ble_eq_true rfl, Nat.le_of_ble_eq_true rfl⟩ (fun xr8 xN9 μa xq10 => ?_)
  obtain ⟨rfl, rfl, ha1, ha2⟩ := xq10
  refine ap_Iinc (lv2 := [(0, .ref 0), (1, .ref q), (2, am_i (0 + 1))]) dX9_undo_61 rfl (by decide) rfl ?_
  refine ap_goto (tgt := 41) dX9_undo_64 (by decide) ?_
  refine ap_iload_n dX9_undo_41 rfl rfl ?_
  refine ap_iconst dX9_undo_42 ?_
  refine ap_icmp_ge (tgt := 67) dX9_undo_43 (by decide) (by omega) (fun c43 => (by exfalso; omega)) (fun c43 => ?_)
  refine ap_aload_n dX9_undo_46 rfl rfl ?_
  have xm12 : μa 0 = am_O 9 [.ref 1, .ref 3, .ref 5, .ref 6, .ref 67, .ref 118, am_i ((rem : Int) - 1), am_i (s_b C), am_i (s_v C), am_i (s_a C), am_i (s_w C)] := (ha2 _ (by omega)).trans xe2
  refine ap_get ff_X9_30 dX9_undo_47 (by omega) xm12 rfl ?_
  refine ap_iload_n dX9_undo_50 rfl rfl ?_
  have xm13 : μa 6 = am_R 4 4 fp := (ha2 _ (by omega)).trans xm5
  refine ap_aald4 (j := 1) (r := 22) dX9_undo_51 (by omega) xm13 (by omega) (by omega) (h7 1 (by omega)) ?_
  refine ap_aload_n dX9_undo_52 rfl rfl ?_
  have xm14 : μa q = am_O 5 [.ref (q + 1), am_i (s_b (hs (rem - 1))), am_i (s_v (hs (rem - 1))), am_i (s_a (hs (rem - 1))), am_i (s_w (hs (rem - 1)))] := (ha2 _ (by omega)).trans xm6
  refine ap_getN ff_X9_215 dX9_undo_53 (by omega) xm14 rfl ?_
  refine ap_iload_n dX9_undo_56 rfl rfl ?_
  have xm15 : μa (q + 1) = am_R 6 4 fq := (ha2 _ (by omega)).trans xm7
  refine ap_aald6 (j := 1) (r := q + 4) dX9_undo_57 (by omega) xm15 (by omega) (by omega) (hq3 1 (by omega)) ?_
  have xm19 : μa 22 = am_O 3 [.ref 23, .ref 25, .ref 27] := (ha2 _ (by omega)).trans ((xf3 _ (by omega)).trans ((P1).1))
  refine ap_cV (As := [.ref (q + 4)]) (rest := []) (ct_take (p := 22) (u := q + 4) ((P1).kept (fun x q1 q2 => (ha2 x (by omega)).trans ((xf3 x (by omega))))) ((T1).kept ((ha2 (q + 4) (by omega)).trans ((xf3 (q + 4) (by omega)))) ((ha2 (q + 5) (by omega)).trans ((xf3 (q + 5) (by omega))))) (by omega) (by omega) (by omega) ((hsn (rem - 1) (by omega)).1 1 (by omega))) dX9_undo_58 lk_X9_96 hy_X3_take rfl (by omega) xm19 ⟨_, _, rfl⟩ (Nat.le_of_ble_eq_true rfl) ⟨Nat.le_of_ble_eq_true rfl, Nat.le_of_ble_eq_true rfl⟩ ⟨rfl, rfl⟩ ⟨Nat.le_of_ble_eq_true rfl, Nat.le_of_ble_eq_true rfl⟩ (fun xr16 xN17 μb xq18 => ?_)
  obtain ⟨rfl, rfl, hb1, hb2⟩ := xq18
  refine ap_Iinc (lv2 := [(0, .ref 0), (1, .ref q), (2, am_i ((0 + 1) + 1))]) dX9_undo_61 rfl (by decide) rfl ?_
  refine ap_goto (tgt := 41) dX9_undo_64 (by decide) ?_
  refine ap_iload_n dX9_undo_41 rfl rfl ?_
  refine ap_iconst dX9_undo_42 ?_
  refine ap_icmp_ge (tgt := 67) dX9_undo_43 (by decide) (by omega) (fun c43 => (by exfalso; omega)) (fun c43 => ?_)
  refine ap_aload_n dX9_undo_46 rfl rfl ?_
  have xm20 : μb 0 = am_O 9 [.ref 1, .ref 3, .ref 5, .ref 6, .ref 67, .ref 118, am_i ((rem : Int) - 1), am_i (s_b C), am_i (s_v C), am_i (s_a C), am_i (s_w C)] := (hb2 _ (by omega)).trans xm12
  refine ap_get ff_X9_30 dX9_undo_47 (by omega) xm20 rfl ?_
  refine ap_iload_n dX9_undo_50 rfl rfl ?_
  have xm21 : μb 6 = am_R 4 4 fp := (hb2 _ (by omega)).trans xm13
  refine ap_aald4 (j := 2) (r := 37) dX9_undo_51 (by omega) xm21 (by omega) (by omega) (h7 2 (by omega)) ?_
  refine ap_aload_n dX9_undo_52 rfl rfl ?_
  have xm22 : μb q = am_O 5 [.ref (q + 1), am_i (s_b (hs (rem - 1))), am_i (s_v (hs (rem - 1))), am_i (s_a (hs (rem - 1))), am_i (s_w (hs (rem - 1)))] := (hb2 _ (by omega)).trans xm14
  refine ap_getN ff_X9_215 dX9_undo_53 (by omega) xm22 rfl ?_
  refine ap_iload_n dX9_undo_56 rfl rfl ?_
  have xm23 : μb (q + 1) = am_R 6 4 fq := (hb2 _ (by omega)).trans xm15
  refine ap_aald6 (j := 2) (r := q + 6) dX9_undo_57 (by omega) xm23 (by omega) (by omega) (hq3 2 (by omega)) ?_
  have xm27 : μb 37 = am_O 3 [.ref 38, .ref 40, .ref 42] := (hb2 _ (by omega)).trans ((ha2 _ (by omega)).trans ((xf3 _ (by omega)).trans ((P2).1)))
  refine ap_cV (As := [.ref (q + 6)]) (rest := []) (ct_take (p := 37) (u := q + 6) ((P2).kept (fun x q1 q2 => (hb2 x (by omega)).trans ((ha2 x (by omega)).trans ((xf3 x (by omega)))))) ((T2).kept ((hb2 (q + 6) (by omega)).trans ((ha2 (q + 6) (by omega)).trans ((xf3 (q + 6) (by omega))))) ((hb2 (q + 7) (by omega)).trans ((ha2 (q + 7) (by omega)).trans ((xf3 (q + 7) (by omega)))))) (by omega) (by omega) (by omega) ((hsn (rem - 1) (by omega)).1 2 (by omega))) dX9_undo_58 lk_X9_96 hy_X3_take rfl (by omega) xm27 ⟨_, _, rfl⟩ (Nat.le_of_ble_eq_true rfl) ⟨Nat.le_of_ble_eq_true rfl, Nat.le_of_ble_eq_true rfl⟩ ⟨rfl, rfl⟩ ⟨Nat.le_of_ble_eq_true rfl, Nat.le_of_ble_eq_true rfl⟩ (fun xr24 xN25 μc xq26 => ?_)
  obtain ⟨rfl, rfl, hc1, hc2⟩ := xq26
  refine ap_Iinc (lv2 := [(0, .ref 0), (1, .ref q), (2, am_i (((0 + 1) + 1) + 1))]) dX9_undo_61 rfl (by decide) rfl ?_
  refine ap_goto (tgt := 41) dX9_undo_64 (by decide) ?_
  refine ap_iload_n dX9_undo_41 rfl rfl ?_
  refine ap_iconst dX9_undo_42 ?_
  refine ap_icmp_ge (tgt := 67) dX9_undo_43 (by decide) (by omega) (fun c43 => (by exfalso; omega)) (fun c43 => ?_)
  refine ap_aload_n dX9_undo_46 rfl rfl ?_
  have xm28 : μc 0 = am_O 9 [.ref 1, .ref 3, .ref 5, .ref 6, .ref 67, .ref 118, am_i ((rem : Int) - 1), am_i (s_b C), am_i (s_v C), am_i (s_a C), am_i (s_w C)] := (hc2 _ (by omega)).trans xm20
  refine ap_get ff_X9_30 dX9_undo_47 (by omega) xm28 rfl ?_
  refine ap_iload_n dX9_undo_50 rfl rfl ?_
  have xm29 : μc 6 = am_R 4 4 fp := (hc2 _ (by omega)).trans xm21
  refine ap_aald4 (j := 3) (r := 52) dX9_undo_51 (by omega) xm29 (by omega) (by omega) (h7 3 (by omega)) ?_
  refine ap_aload_n dX9_undo_52 rfl rfl ?_
  have xm30 : μc q = am_O 5 [.ref (q + 1), am_i (s_b (hs (rem - 1))), am_i (s_v (hs (rem - 1))), am_i (s_a (hs (rem - 1))), am_i (s_w (hs (rem - 1)))] := (hc2 _ (by omega)).trans xm22
  refine ap_getN ff_X9_215 dX9_undo_53 (by omega) xm30 rfl ?_
  refine ap_iload_n dX9_undo_56 rfl rfl ?_
  have xm31 : μc (q + 1) = am_R 6 4 fq := (hc2 _ (by omega)).trans xm23
  refine ap_aald6 (j := 3) (r := q + 8) dX9_undo_57 (by omega) xm31 (by omega) (by omega) (hq3 3 (by omega)) ?_
  have xm35 : μc 52 = am_O 3 [.ref 53, .ref 55, .ref 57] := (hc2 _ (by omega)).trans ((hb2 _ (by omega)).trans ((ha2 _ (by omega)).trans ((xf3 _ (by omega)).trans ((P3).1))))
  refine ap_cV (As := [.ref (q + 8)]) (rest := []) (ct_take (p := 52) (u := q + 8) ((P3).kept (fun x q1 q2 => (hc2 x (by omega)).trans ((hb2 x (by omega)).trans ((ha2 x (by omega)).trans ((xf3 x (by omega))))))) ((T3).kept ((hc2 (q + 8) (by omega)).trans ((hb2 (q + 8) (by omega)).trans ((ha2 (q + 8) (by omega)).trans ((xf3 (q + 8) (by omega)))))) ((hc2 (q + 9) (by omega)).trans ((hb2 (q + 9) (by omega)).trans ((ha2 (q + 9) (by omega)).trans ((xf3 (q + 9) (by omega))))))) (by omega) (by omega) (by omega) ((hsn (rem - 1) (by omega)).1 3 (by omega))) dX9_undo_58 lk_X9_96 hy_X3_take rfl (by omega) xm35 ⟨_, _, rfl⟩ (Nat.le_of_ble_eq_true rfl) ⟨Nat.le_of_ble_eq_true rfl, Nat.le_of_ble_eq_true rfl⟩ ⟨rfl, rfl⟩ ⟨Nat.le_of_ble_eq_true rfl, Nat.le_of_ble_eq_true rfl⟩ (fun xr32 xN33 μd xq34 => ?_)
  obtain ⟨rfl, rfl, hd1, hd2⟩ := xq34
  refine ap_Iinc (lv2 := [(0, .ref 0), (1, .ref q), (2, am_i ((((0 + 1) + 1) + 1) + 1))]) dX9_undo_61 rfl (by decide) rfl ?_
  refine ap_goto (tgt := 41) dX9_undo_64 (by decide) ?_
  refine ap_iload_n dX9_undo_41 rfl rfl ?_
  refine ap_iconst dX9_undo_42 ?_
  refine ap_icmp_ge (tgt := 67) dX9_undo_43 (by decide) (by omega) (fun c43 => ?_) (fun c43 => (by exfalso; omega))
  refine ap_aload_n dX9_undo_67 rfl rfl ?_
  refine ap_aload_n dX9_undo_68 rfl rfl ?_
  have xm36 : μd q = am_O 5 [.ref (q + 1), am_i (s_b (hs (rem - 1))), am_i (s_v (hs (rem - 1))), am_i (s_a (hs (rem - 1))), am_i (s_w (hs (rem - 1)))] := (hd2 _ (by omega)).trans xm30
  refine ap_getN ff_X9_219 dX9_undo_69 (by omega) xm36 rfl ?_
  have xm37 : μd 0 = am_O 9 [.ref 1, .ref 3, .ref 5, .ref 6, .ref 67, .ref 118, am_i ((rem : Int) - 1), am_i (s_b C), am_i (s_v C), am_i (s_a C), am_i (s_w C)] := (hd2 _ (by omega)).trans xm28
  refine ap_put (fs2 := [.ref 1, .ref 3, .ref 5, .ref 6, .ref 67, .ref 118, am_i ((rem : Int) - 1), am_i (s_b (hs (rem - 1))), am_i (s_v C), am_i (s_a C), am_i (s_w C)]) ff_X9_49 fc_X9_7 dX9_undo_72 (by omega) xm37 (fun _ => ⟨rfl, rfl⟩) (Nat.le_of_ble_eq_true rfl) rfl (fun μ38 xe39 xf40 => ?_)
  refine ap_aload_n dX9_undo_75 rfl rfl ?_
  refine ap_aload_n dX9_undo_76 rfl rfl ?_
  have xm41 : μ38 q = am_O 5 [.ref (q + 1), am_i (s_b (hs (rem - 1))), am_i (s_v (hs (rem - 1))), am_i (s_a (hs (rem - 1))), am_i (s_w (hs (rem - 1)))] := (xf40 _ (by omega)).trans xm36
  refine ap_getN ff_X9_220 dX9_undo_77 (by omega) xm41 rfl ?_
  refine ap_put (fs2 := [.ref 1, .ref 3, .ref 5, .ref 6, .ref 67, .ref 118, am_i ((rem : Int) - 1), am_i (s_b (hs (rem - 1))), am_i (s_v (hs (rem - 1))), am_i (s_a C), am_i (s_w C)]) ff_X9_53 fc_X9_8 dX9_undo_80 (by omega) xe39 (fun _ => ⟨rfl, rfl⟩) (Nat.le_of_ble_eq_true rfl) rfl (fun μ42 xe43 xf44 => ?_)
  refine ap_aload_n dX9_undo_83 rfl rfl ?_
  refine ap_aload_n dX9_undo_84 rfl rfl ?_
  have xm45 : μ42 q = am_O 5 [.ref (q + 1), am_i (s_b (hs (rem - 1))), am_i (s_v (hs (rem - 1))), am_i (s_a (hs (rem - 1))), am_i (s_w (hs (rem - 1)))] := (xf44 _ (by omega)).trans xm41
  refine ap_getN ff_X9_221 dX9_undo_85 (by omega) xm45 rfl ?_
  refine ap_put (fs2 := [.ref 1, .ref 3, .ref 5, .ref 6, .ref 67, .ref 118, am_i ((rem : Int) - 1), am_i (s_b (hs (rem - 1))), am_i (s_v (hs (rem - 1))), am_i (s_a (hs (rem - 1))), am_i (s_w C)]) ff_X9_56 fc_X9_9 dX9_undo_88 (by omega) xe43 (fun _ => ⟨rfl, rfl⟩) (Nat.le_of_ble_eq_true rfl) rfl (fun μ46 xe47 xf48 => ?_)
  refine ap_aload_n dX9_undo_91 rfl rfl ?_
  refine ap_aload_n dX9_undo_92 rfl rfl ?_
  have xm49 : μ46 q = am_O 5 [.ref (q + 1), am_i (s_b (hs (rem - 1))), am_i (s_v (hs (rem - 1))), am_i (s_a (hs (rem - 1))), am_i (s_w (hs (rem - 1)))] := (xf48 _ (by omega)).trans xm45
  refine ap_getN ff_X9_222 dX9_undo_93 (by omega) xm49 rfl ?_
  refine ap_put (fs2 := [.ref 1, .ref 3, .ref 5, .ref 6, .ref 67, .ref 118, am_i ((rem : Int) - 1), am_i (s_b (hs (rem - 1))), am_i (s_v (hs (rem - 1))), am_i (s_a (hs (rem - 1))), am_i (s_w (hs (rem - 1)))]) ff_X9_59 fc_X9_10 dX9_undo_96 (by omega) xe47 (fun _ => ⟨rfl, rfl⟩) (Nat.le_of_ble_eq_true rfl) rfl (fun μ50 xe51 xf52 => ?_)
  refine ap_aload_n dX9_undo_99 rfl rfl ?_
  refine ap_get ff_X9_212 dX9_undo_100 (by omega) xe51 rfl ?_
  refine ap_topi (b := ((rem - 1 : Nat) : Int)) (show ((rem : Int) - 1) = ((rem - 1 : Nat) : Int) from by omega) ?_
  have xm53 : μ50 6 = am_R 4 4 fp := (xf52 _ (by omega)).trans ((xf48 _ (by omega)).trans ((xf44 _ (by omega)).trans ((xf40 _ (by omega)).trans ((hd2 _ (by omega)).trans xm29))))
  exact ap_iret dX9_undo_103 rfl rfl (Nat.le_of_ble_eq_true rfl) (Nat.le_of_ble_eq_true rfl) (⟨rfl, rfl, ⟨by rw [xe51, show (rem : Int) - 1 = ((rem - 1 : Nat) : Int) from by omega], hT.kept ((xf52 1 (by omega)).trans ((xf48 1 (by omega)).trans ((xf44 1 (by omega)).trans ((xf40 1 (by omega)).trans ((hd2 1 (by omega)).trans ((hc2 1 (by omega)).trans ((hb2 1 (by omega)).trans ((ha2 1 (by omega)).trans ((xf3 1 (by omega))))))))))) ((xf52 (1 + 1) (by omega)).trans ((xf48 (1 + 1) (by omega)).trans ((xf44 (1 + 1) (by omega)).trans ((xf40 (1 + 1) (by omega)).trans ((hd2 (1 + 1) (by omega)).trans ((hc2 (1 + 1) (by omega)).trans ((hb2 (1 + 1) (by omega)).trans ((ha2 (1 + 1) (by omega)).trans ((xf3 (1 + 1) (by omega))))))))))), hR.kept (fun x q => (xf52 x (by omega)).trans ((xf48 x (by omega)).trans ((xf44 x (by omega)).trans ((xf40 x (by omega)).trans ((hd2 x (by omega)).trans ((hc2 x (by omega)).trans ((hb2 x (by omega)).trans ((ha2 x (by omega)).trans ((xf3 x (by omega))))))))))), ⟨⟨fp, xm53, h7⟩, fun k hk => by
    rcases (show k = 0 ∨ k = 1 ∨ k = 2 ∨ k = 3 by omega) with rfl | rfl | rfl | rfl
    · exact ha1.kept (fun x q1 q2 => (xf52 x (by omega)).trans ((xf48 x (by omega)).trans ((xf44 x (by omega)).trans ((xf40 x (by omega)).trans ((hd2 x (by omega)).trans ((hc2 x (by omega)).trans ((hb2 x (by omega)))))))))
    · exact hb1.kept (fun x q1 q2 => (xf52 x (by omega)).trans ((xf48 x (by omega)).trans ((xf44 x (by omega)).trans ((xf40 x (by omega)).trans ((hd2 x (by omega)).trans ((hc2 x (by omega))))))))
    · exact hc1.kept (fun x q1 q2 => (xf52 x (by omega)).trans ((xf48 x (by omega)).trans ((xf44 x (by omega)).trans ((xf40 x (by omega)).trans ((hd2 x (by omega)))))))
    · exact hd1.kept (fun x q1 q2 => (xf52 x (by omega)).trans ((xf48 x (by omega)).trans ((xf44 x (by omega)).trans ((xf40 x (by omega))))))⟩, hH.kept (fun x q1 q2 => (xf52 x (by omega)).trans ((xf48 x (by omega)).trans ((xf44 x (by omega)).trans ((xf40 x (by omega)).trans ((hd2 x (by omega)).trans ((hc2 x (by omega)).trans ((hb2 x (by omega)).trans ((ha2 x (by omega)).trans ((xf3 x (by omega))))))))))), by omega, (hsn (rem - 1) (by omega)).2, fun k hk => hsn k (by omega)⟩, fun x hx => (xf52 x (by omega)).trans ((xf48 x (by omega)).trans ((xf44 x (by omega)).trans ((xf40 x (by omega)).trans ((hd2 x (by omega)).trans ((hc2 x (by omega)).trans ((hb2 x (by omega)).trans ((ha2 x (by omega)).trans ((xf3 x (by omega))))))))))⟩)

