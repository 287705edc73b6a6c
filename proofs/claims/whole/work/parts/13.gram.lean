/-- a weaker end -/
theorem am_mono {Y : am_Y} {Q Q2 : Option Value → Nat → am_M → Prop} {k n pc N : Nat} {lv : List (Nat × Value)} {st : List Value} {μ : am_M} (h : am_W Y Q k n pc lv st N μ) (hq : ∀ r N2 μ2, Q r N2 μ2 → Q2 r N2 μ2) : am_W Y Q2 k n pc lv st N μ := by
  intro p l e s m args below meth c bs D dA S H locs ls hP hz hS hl T hT X
  obtain ⟨t, a1, oc, h1, h2, ⟨⟨r, N2, μ2, e1, e2, e3⟩, e4⟩, h4⟩ := h p l e s m args below meth c bs D dA S H locs ls hP hz hS hl T hT X
  exact ⟨t, a1, oc, h1, h2, ⟨⟨r, N2, μ2, e1, hq r N2 μ2 e2, e3⟩, e4⟩, h4⟩
/-! the grammar as an automaton: state, depth, filled, repeat, dots left, can tie -/
abbrev GS : Type := Int × Int × Int × Int × Int × Int
def gsI (b w u q y ch : Int) : Option GS :=
  if ch = 46 then (if 1 ≤ q then some (0, b, w, u, q - 1, y) else none)
  else if ch = 126 then (if y = 1 then some (0, b, w, u, 0, 0) else none)
  else if ch = 94 then some (1, b, w, u, 0, 0)
  else if ch = 114 then some (2, b, w, u, 0, 0)
  else if ch = 123 then (if b < 2 then some (3, b + 1, 0, u, 0, 0) else none)
  else if ch = 125 then (if 1 ≤ b ∧ w = 1 then some (0, b - 1, w, u, 0, 0) else none)
  else if ch = 124 then (if b = 0 then some (0, b, w, u, 0, 0) else none)
  else if ch = 91 then (if b ≤ 0 ∧ u = 0 then some (0, b, w, 1, 0, 0) else none)
  else if ch = 47 then (if u = 1 ∧ b = 0 then some (6, b, w, u, 0, 0) else none)
  else if ch = 93 then (if b ≤ 0 ∧ u = 1 then some (8, b, w, 0, 0, 0) else none)
  else if 0 ≤ hv ch then some (0, b, 1, u, 2, 1) else none
def gst (a b w u q y ch : Int) : Option GS :=
  if a = 1 then (if 0 ≤ hv ch then some (0, b, 1, u, 2, 1) else none)
  else if a = 2 then (if 0 ≤ hv ch then some (0, b, 1, u, 2, 0) else none)
  else if a = 3 then (if 2 ≤ dg ch then some (4, b, w, u, q, y) else none)
  else if a = 4 then (if ch = 58 then some (5, b, w, u, q, y) else none)
  else if a = 5 then (if 2 ≤ dg ch then some (0, b, w, u, q, y) else none)
  else if a = 6 then (if 1 ≤ dg ch then some (7, b, w, u, q, y) else none)
  else if a = 7 then (if 1 ≤ dg ch then some (7, b, w, u, q, y) else if ch = 58 then some (0, b, w, u, q, y) else none)
  else if a = 8 then (if 2 ≤ dg ch then some (0, b, w, u, q, y) else none)
  else gsI b w u q y ch
abbrev gcl (a b w u q y : Int) : am_E := am_O 0 [am_i a, am_i b, am_i w, am_i u, am_i q, am_i y]
def gok (a b w u q y : Int) : Prop := (0 ≤ a ∧ a ≤ 8) ∧ (0 ≤ b ∧ b ≤ 2) ∧ (w = 0 ∨ w = 1) ∧ (u = 0 ∨ u = 1) ∧ (0 ≤ q ∧ q ≤ 2) ∧ (y = 0 ∨ y = 1)
theorem hv_r (c : Int) : -1 ≤ hv c ∧ hv c ≤ 5 := by
  unfold hv
  split <;> (try split) <;> (try split) <;> (try split) <;> (try split) <;> (try split) <;> omega
theorem dg_r (c : Int) : -1 ≤ dg c ∧ dg c ≤ 9 := by
  unfold dg
  split <;> omega
/-- what a call that answers whether it goes on leaves: the new state, or none -/
def gpost (g N : Nat) (μ : am_M) (x : Option GS) : Option Value → Nat → am_M → Prop := fun r N2 μ2 => N = N2 ∧ (∀ b, b ≠ g → μ2 b = μ b) ∧ ((∃ a b w u q y, x = some (a, b, w, u, q, y) ∧ r = some (am_i 1) ∧ μ2 g = gcl a b w u q y) ∨ (x = none ∧ r = some (am_i 0) ∧ ∃ a b w u q y, μ2 g = gcl a b w u q y))
set_option maxHeartbeats 4000000 in
set_option maxRecDepth 100000 in
theorem ct_endSound {N g : Nat} {μ : am_M} {a b w u q y : Int} (hG : μ g = gcl a b w u q y) (hN : g < N) : am_Met YX0_endSound [.ref g] N μ (fun r N2 μ2 => r = none ∧ N = N2 ∧ μ2 g = gcl a b w u 0 0 ∧ ∀ x, x ≠ g → μ2 x = μ x) := by
  refine am_met (by first | decide | rfl) (Nat.le_of_ble_eq_true rfl) (fun h => by first | rfl | cases h) ?_
  show am_W YX0_endSound _ 0 0 0 [(0, .ref g)] [] _ _
  refine ap_aload_n dX0_endSound_0 rfl rfl ?_
  refine ap_iconst dX0_endSound_1 ?_
  refine ap_put (fs2 := [am_i a, am_i b, am_i w, am_i u, am_i 0, am_i y]) ff_X0_83 fc_X0_4 dX0_endSound_2 (by omega) hG (fun _ => ⟨rfl, rfl⟩) (Nat.le_of_ble_eq_true rfl) rfl (fun μ1 xe2 xf3 => ?_)
  refine ap_aload_n dX0_endSound_5 rfl rfl ?_
  refine ap_iconst dX0_endSound_6 ?_
  refine ap_put (fs2 := [am_i a, am_i b, am_i w, am_i u, am_i 0, am_i 0]) ff_X0_86 fc_X0_5 dX0_endSound_7 (by omega) xe2 (am_bool (Or.inl rfl)) (Nat.le_of_ble_eq_true rfl) rfl (fun μ4 xe5 xf6 => ?_)
  exact ap_vret dX0_endSound_10 rfl (Nat.le_of_ble_eq_true rfl) (Nat.le_of_ble_eq_true rfl) (⟨rfl, rfl, xe5, fun x hx => (xf6 x (by omega)).trans ((xf3 x (by omega)))⟩)

set_option maxHeartbeats 4000000 in
set_option maxRecDepth 100000 in
theorem ct_gstart {N g : Nat} {μ : am_M} {a b w u q y : Int} (hG : μ g = gcl a b w u q y) (hN : g < N) : am_Met YX0_start [.ref g] N μ (fun r N2 μ2 => r = none ∧ N = N2 ∧ μ2 g = gcl 0 0 0 0 0 0 ∧ ∀ x, x ≠ g → μ2 x = μ x) := by
  refine am_met (by first | decide | rfl) (Nat.le_of_ble_eq_true rfl) (fun h => by first | rfl | cases h) ?_
  show am_W YX0_start _ 0 0 0 [(0, .ref g)] [] _ _
  refine ap_aload_n dX0_start_0 rfl rfl ?_
  refine ap_iconst dX0_start_1 ?_
  refine ap_put (fs2 := [am_i 0, am_i b, am_i w, am_i u, am_i q, am_i y]) ff_X0_28 fc_X0_0 dX0_start_2 (by omega) hG (fun _ => ⟨rfl, rfl⟩) (Nat.le_of_ble_eq_true rfl) rfl (fun μ1 xe2 xf3 => ?_)
  refine ap_aload_n dX0_start_5 rfl rfl ?_
  refine ap_iconst dX0_start_6 ?_
  refine ap_put (fs2 := [am_i 0, am_i 0, am_i w, am_i u, am_i q, am_i y]) ff_X0_32 fc_X0_1 dX0_start_7 (by omega) xe2 (fun _ => ⟨rfl, rfl⟩) (Nat.le_of_ble_eq_true rfl) rfl (fun μ4 xe5 xf6 => ?_)
  refine ap_aload_n dX0_start_10 rfl rfl ?_
  refine ap_iconst dX0_start_11 ?_
  refine ap_put (fs2 := [am_i 0, am_i 0, am_i 0, am_i u, am_i q, am_i y]) ff_X0_39 fc_X0_2 dX0_start_12 (by omega) xe5 (am_bool (Or.inl rfl)) (Nat.le_of_ble_eq_true rfl) rfl (fun μ7 xe8 xf9 => ?_)
  refine ap_aload_n dX0_start_15 rfl rfl ?_
  refine ap_iconst dX0_start_16 ?_
  refine ap_put (fs2 := [am_i 0, am_i 0, am_i 0, am_i 0, am_i q, am_i y]) ff_X0_35 fc_X0_3 dX0_start_17 (by omega) xe8 (am_bool (Or.inl rfl)) (Nat.le_of_ble_eq_true rfl) rfl (fun μ10 xe11 xf12 => ?_)
  refine ap_aload_n dX0_start_20 rfl rfl ?_
  refine ap_cV (As := []) (rest := []) (ct_endSound xe11 hN) dX0_start_21 lk_X0_42 hy_X0_endSound rfl (by omega) xe11 ⟨_, _, rfl⟩ (Nat.le_of_ble_eq_true rfl) ⟨Nat.le_of_ble_eq_true rfl, Nat.le_of_ble_eq_true rfl⟩ ⟨rfl, rfl⟩ ⟨Nat.le_of_ble_eq_true rfl, Nat.le_of_ble_eq_true rfl⟩ (fun xr13 xN14 μz xq15 => ?_)
  obtain ⟨rfl, rfl, hz1, hz2⟩ := xq15
  exact ap_vret dX0_start_24 rfl (Nat.le_of_ble_eq_true rfl) (Nat.le_of_ble_eq_true rfl) (⟨rfl, rfl, hz1, fun x hx => (hz2 x (by omega)).trans ((xf12 x (by omega)).trans ((xf9 x (by omega)).trans ((xf6 x (by omega)).trans ((xf3 x (by omega))))))⟩)

set_option maxHeartbeats 4000000 in
set_option maxRecDepth 100000 in
theorem ct_goesOn1 {N g : Nat} {μ : am_M} {a b w u q y : Int} (hG : μ g = gcl a b w u q y) (hN : g < N) {nx : Int} : am_Met YX0_goesOn [.ref g, am_i 1, am_i nx] N μ (gpost g N μ (some (nx, b, w, u, q, y))) := by
  refine am_met (by first | decide | rfl) (Nat.le_of_ble_eq_true rfl) (fun h => by first | rfl | cases h) ?_
  show am_W YX0_goesOn _ 0 0 0 [(0, .ref g), (1, am_i 1), (2, am_i nx)] [] _ _
  refine ap_iload_n dX0_goesOn_0 rfl rfl ?_
  refine ap_if_eq (tgt := 9) dX0_goesOn_1 (by decide) (by omega) (fun c1 => (by exfalso; omega)) (fun c1 => ?_)
  refine ap_aload_n dX0_goesOn_4 rfl rfl ?_
  refine ap_iload_n dX0_goesOn_5 rfl rfl ?_
  refine ap_put (fs2 := [am_i nx, am_i b, am_i w, am_i u, am_i q, am_i y]) ff_X0_28 fc_X0_0 dX0_goesOn_6 (by omega) hG (fun _ => ⟨rfl, rfl⟩) (Nat.le_of_ble_eq_true rfl) rfl (fun μ1 xe2 xf3 => ?_)
  refine ap_iload_n dX0_goesOn_9 rfl rfl ?_
  exact ap_iret dX0_goesOn_10 rfl (am_nz (by first | omega | decide)) (Nat.le_of_ble_eq_true rfl) (Nat.le_of_ble_eq_true rfl) (⟨rfl, fun x hx => (xf3 x (by omega)), Or.inl ⟨_, _, _, _, _, _, rfl, rfl, xe2⟩⟩)

set_option maxHeartbeats 4000000 in
set_option maxRecDepth 100000 in
theorem ct_goesOn0 {N g : Nat} {μ : am_M} {a b w u q y : Int} (hG : μ g = gcl a b w u q y) (hN : g < N) {nx : Int} : am_Met YX0_goesOn [.ref g, am_i 0, am_i nx] N μ (gpost g N μ none) := by
  refine am_met (by first | decide | rfl) (Nat.le_of_ble_eq_true rfl) (fun h => by first | rfl | cases h) ?_
  show am_W YX0_goesOn _ 0 0 0 [(0, .ref g), (1, am_i 0), (2, am_i nx)] [] _ _
  refine ap_iload_n dX0_goesOn_0 rfl rfl ?_
  refine ap_if_eq (tgt := 9) dX0_goesOn_1 (by decide) (by omega) (fun c1 => ?_) (fun c1 => (by exfalso; omega))
  refine ap_iload_n dX0_goesOn_9 rfl rfl ?_
  exact ap_iret dX0_goesOn_10 rfl (am_nz (by first | omega | decide)) (Nat.le_of_ble_eq_true rfl) (Nat.le_of_ble_eq_true rfl) (⟨rfl, fun x hx => rfl, Or.inr ⟨rfl, rfl, _, _, _, _, _, _, hG⟩⟩)

set_option maxHeartbeats 4000000 in
set_option maxRecDepth 100000 in
theorem ct_beginsSound {N g : Nat} {μ : am_M} {a b w u q y : Int} (hG : μ g = gcl a b w u q y) (hN : g < N) {ch nt : Int} (hc : -2147483648 ≤ ch ∧ ch ≤ 2147483647) (hn : nt = 0 ∨ nt = 1) : am_Met YX0_beginsSound [.ref g, am_i ch, am_i nt] N μ (gpost g N μ (if 0 ≤ hv ch then some (0, b, 1, u, 2, nt) else none)) := by
  have hh := hv_r ch
  refine am_met (by first | decide | rfl) (Nat.le_of_ble_eq_true rfl) (fun h => by first | rfl | cases h) ?_
  show am_W YX0_beginsSound _ 0 0 0 [(0, .ref g), (1, am_i ch), (2, am_i nt)] [] _ _
  refine ap_iload_n dX0_beginsSound_0 rfl rfl ?_
  refine ap_cS (As := [am_i ch]) (rest := []) (ct_halvings hc) dX0_beginsSound_1 lk_X0_80 hy_X1_halvings rfl (Nat.le_of_ble_eq_true rfl) ⟨Nat.le_of_ble_eq_true rfl, Nat.le_of_ble_eq_true rfl⟩ ⟨rfl, rfl⟩ ⟨Nat.le_of_ble_eq_true rfl, Nat.le_of_ble_eq_true rfl⟩ (fun xr1 xN2 μ3 xq4 => ?_)
  obtain ⟨rfl, rfl, rfl⟩ := xq4
  refine ap_if_ge (tgt := 9) dX0_beginsSound_4 (by decide) (by omega) (fun c4 => ?_) (fun c4 => ?_)
  · refine ap_aload_n dX0_beginsSound_9 rfl rfl ?_
    refine ap_iconst dX0_beginsSound_10 ?_
    refine ap_put (fs2 := [am_i 0, am_i b, am_i w, am_i u, am_i q, am_i y]) ff_X0_28 fc_X0_0 dX0_beginsSound_11 (by omega) hG (fun _ => ⟨rfl, rfl⟩) (Nat.le_of_ble_eq_true rfl) rfl (fun μ5 xe6 xf7 => ?_)
    refine ap_aload_n dX0_beginsSound_14 rfl rfl ?_
    refine ap_iconst dX0_beginsSound_15 ?_
    refine ap_put (fs2 := [am_i 0, am_i b, am_i 1, am_i u, am_i q, am_i y]) ff_X0_39 fc_X0_2 dX0_beginsSound_16 (by omega) xe6 (am_bool (Or.inr rfl)) (Nat.le_of_ble_eq_true rfl) rfl (fun μ8 xe9 xf10 => ?_)
    refine ap_aload_n dX0_beginsSound_19 rfl rfl ?_
    refine ap_iconst dX0_beginsSound_20 ?_
    refine ap_put (fs2 := [am_i 0, am_i b, am_i 1, am_i u, am_i 2, am_i y]) ff_X0_83 fc_X0_4 dX0_beginsSound_21 (by omega) xe9 (fun _ => ⟨rfl, rfl⟩) (Nat.le_of_ble_eq_true rfl) rfl (fun μ11 xe12 xf13 => ?_)
    refine ap_aload_n dX0_beginsSound_24 rfl rfl ?_
    refine ap_iload_n dX0_beginsSound_25 rfl rfl ?_
    refine ap_put (fs2 := [am_i 0, am_i b, am_i 1, am_i u, am_i 2, am_i nt]) ff_X0_86 fc_X0_5 dX0_beginsSound_26 (by omega) xe12 (am_bool (hn)) (Nat.le_of_ble_eq_true rfl) rfl (fun μ14 xe15 xf16 => ?_)
    refine ap_iconst dX0_beginsSound_29 ?_
    exact ap_iret dX0_beginsSound_30 rfl (am_nz (by first | omega | decide)) (Nat.le_of_ble_eq_true rfl) (Nat.le_of_ble_eq_true rfl) (⟨rfl, fun x hx => (xf16 x (by omega)).trans ((xf13 x (by omega)).trans ((xf10 x (by omega)).trans ((xf7 x (by omega))))), Or.inl ⟨_, _, _, _, _, _, if_pos c4, rfl, xe15⟩⟩)
  · refine ap_iconst dX0_beginsSound_7 ?_
    exact ap_iret dX0_beginsSound_8 rfl (am_nz (by first | omega | decide)) (Nat.le_of_ble_eq_true rfl) (Nat.le_of_ble_eq_true rfl) (⟨rfl, fun x hx => rfl, Or.inr ⟨if_neg c4, rfl, _, _, _, _, _, _, hG⟩⟩)

set_option maxHeartbeats 4000000 in
set_option maxRecDepth 100000 in
theorem ct_addsDot {N g : Nat} {μ : am_M} {a b w u q y : Int} (hG : μ g = gcl a b w u q y) (hN : g < N) (hk : gok a b w u q y) : am_Met YX0_addsDot [.ref g] N μ (gpost g N μ (if 1 ≤ q then some (a, b, w, u, q - 1, y) else none)) := by
  obtain ⟨k1, k2, k3, k4, k5, k6⟩ := hk
  refine am_met (by first | decide | rfl) (Nat.le_of_ble_eq_true rfl) (fun h => by first | rfl | cases h) ?_
  show am_W YX0_addsDot _ 0 0 0 [(0, .ref g)] [] _ _
  refine ap_aload_n dX0_addsDot_0 rfl rfl ?_
  refine ap_get ff_X0_83 dX0_addsDot_1 (by omega) hG rfl ?_
  refine ap_iconst dX0_addsDot_4 ?_
  refine ap_icmp_ge (tgt := 10) dX0_addsDot_5 (by decide) (by omega) (fun c5 => ?_) (fun c5 => ?_)
  · refine ap_aload_n dX0_addsDot_10 rfl rfl ?_
    refine ap_dup dX0_addsDot_11 rfl ?_
    refine ap_get ff_X0_83 dX0_addsDot_12 (by omega) hG rfl ?_
    refine ap_iconst dX0_addsDot_15 ?_
    refine ap_isub dX0_addsDot_16 ?_
    refine ap_put (fs2 := [am_i a, am_i b, am_i w, am_i u, am_i (q - 1), am_i y]) ff_X0_83 fc_X0_4 dX0_addsDot_17 (by omega) hG (fun _ => ⟨rfl, rfl⟩) (Nat.le_of_ble_eq_true rfl) rfl (fun μ1 xe2 xf3 => ?_)
    refine ap_iconst dX0_addsDot_20 ?_
    exact ap_iret dX0_addsDot_21 rfl (am_nz (by first | omega | decide)) (Nat.le_of_ble_eq_true rfl) (Nat.le_of_ble_eq_true rfl) (⟨rfl, fun x hx => (xf3 x (by omega)), Or.inl ⟨_, _, _, _, _, _, if_pos c5, rfl, xe2⟩⟩)
  · refine ap_iconst dX0_addsDot_8 ?_
    exact ap_iret dX0_addsDot_9 rfl (am_nz (by first | omega | decide)) (Nat.le_of_ble_eq_true rfl) (Nat.le_of_ble_eq_true rfl) (⟨rfl, fun x hx => rfl, Or.inr ⟨if_neg c5, rfl, _, _, _, _, _, _, hG⟩⟩)

set_option maxHeartbeats 4000000 in
set_option maxRecDepth 100000 in
theorem ct_addsTie0 {N g : Nat} {μ : am_M} {a b w u q : Int} (hG : μ g = gcl a b w u q 0) (hN : g < N) : am_Met YX0_addsTie [.ref g] N μ (gpost g N μ (if (0 : Int) = 1 then some (a, b, w, u, 0, 0) else none)) := by
  refine am_met (by first | decide | rfl) (Nat.le_of_ble_eq_true rfl) (fun h => by first | rfl | cases h) ?_
  show am_W YX0_addsTie _ 0 0 0 [(0, .ref g)] [] _ _
  refine ap_aload_n dX0_addsTie_0 rfl rfl ?_
  refine ap_get ff_X0_86 dX0_addsTie_1 (by omega) hG rfl ?_
  refine ap_Istore_n (lv2 := [(0, .ref g), (1, am_i 0)]) dX0_addsTie_4 rfl (by decide) rfl ?_
  refine ap_aload_n dX0_addsTie_5 rfl rfl ?_
  refine ap_cV (As := []) (rest := []) (ct_endSound hG hN) dX0_addsTie_6 lk_X0_42 hy_X0_endSound rfl (by omega) hG ⟨_, _, rfl⟩ (Nat.le_of_ble_eq_true rfl) ⟨Nat.le_of_ble_eq_true rfl, Nat.le_of_ble_eq_true rfl⟩ ⟨rfl, rfl⟩ ⟨Nat.le_of_ble_eq_true rfl, Nat.le_of_ble_eq_true rfl⟩ (fun xr1 xN2 μz xq3 => ?_)
  obtain ⟨rfl, rfl, hz1, hz2⟩ := xq3
  refine ap_iload_n dX0_addsTie_9 rfl rfl ?_
  exact ap_iret dX0_addsTie_10 rfl (am_nz (by first | omega | decide)) (Nat.le_of_ble_eq_true rfl) (Nat.le_of_ble_eq_true rfl) (⟨rfl, fun x hx => (hz2 x (by omega)), Or.inr ⟨rfl, rfl, _, _, _, _, _, _, hz1⟩⟩)

set_option maxHeartbeats 4000000 in
set_option maxRecDepth 100000 in
theorem ct_addsTie1 {N g : Nat} {μ : am_M} {a b w u q : Int} (hG : μ g = gcl a b w u q 1) (hN : g < N) : am_Met YX0_addsTie [.ref g] N μ (gpost g N μ (if (1 : Int) = 1 then some (a, b, w, u, 0, 0) else none)) := by
  refine am_met (by first | decide | rfl) (Nat.le_of_ble_eq_true rfl) (fun h => by first | rfl | cases h) ?_
  show am_W YX0_addsTie _ 0 0 0 [(0, .ref g)] [] _ _
  refine ap_aload_n dX0_addsTie_0 rfl rfl ?_
  refine ap_get ff_X0_86 dX0_addsTie_1 (by omega) hG rfl ?_
  refine ap_Istore_n (lv2 := [(0, .ref g), (1, am_i 1)]) dX0_addsTie_4 rfl (by decide) rfl ?_
  refine ap_aload_n dX0_addsTie_5 rfl rfl ?_
  refine ap_cV (As := []) (rest := []) (ct_endSound hG hN) dX0_addsTie_6 lk_X0_42 hy_X0_endSound rfl (by omega) hG ⟨_, _, rfl⟩ (Nat.le_of_ble_eq_true rfl) ⟨Nat.le_of_ble_eq_true rfl, Nat.le_of_ble_eq_true rfl⟩ ⟨rfl, rfl⟩ ⟨Nat.le_of_ble_eq_true rfl, Nat.le_of_ble_eq_true rfl⟩ (fun xr1 xN2 μz xq3 => ?_)
  obtain ⟨rfl, rfl, hz1, hz2⟩ := xq3
  refine ap_iload_n dX0_addsTie_9 rfl rfl ?_
  exact ap_iret dX0_addsTie_10 rfl (am_nz (by first | omega | decide)) (Nat.le_of_ble_eq_true rfl) (Nat.le_of_ble_eq_true rfl) (⟨rfl, fun x hx => (hz2 x (by omega)), Or.inl ⟨_, _, _, _, _, _, rfl, rfl, hz1⟩⟩)

theorem ct_addsTie {N g : Nat} {μ : am_M} {a b w u q y : Int} (hG : μ g = gcl a b w u q y) (hN : g < N) (hk : gok a b w u q y) : am_Met YX0_addsTie [.ref g] N μ (gpost g N μ (if y = 1 then some (a, b, w, u, 0, 0) else none)) := by
  rcases hk.2.2.2.2.2 with rfl | rfl
  · exact ct_addsTie0 hG hN
  · exact ct_addsTie1 hG hN
theorem gp_ret {Y : am_Y} {pc g N N2 : Nat} {μ0 μ μ2 : am_M} {x x2 : Option GS} {r : Option Value} {lv : List (Nat × Value)} (hd : decode (am_c Y) pc = .ok (.ireturn, 1)) (ht : am_t Y = some .boolean) (hq : gpost g N μ x r N2 μ2) (hf : ∀ b, b ≠ g → μ b = μ0 b) (hx : x2 = x) : am_W Y (gpost g N μ0 x2) 0 0 pc lv (r.toList ++ []) N2 μ2 := by
  subst hx
  obtain ⟨rfl, h2, h3⟩ := hq
  rcases h3 with ⟨a, b, w, u, q, y, h4, rfl, h5⟩ | ⟨h4, rfl, h5⟩
  · exact ap_iret hd ht (am_nz (Or.inr rfl)) (Nat.zero_le _) (Nat.zero_le _) ⟨rfl, fun b hb => (h2 b hb).trans (hf b hb), Or.inl ⟨a, b, w, u, q, y, h4, rfl, h5⟩⟩
  · exact ap_iret hd ht (am_nz (Or.inl rfl)) (Nat.zero_le _) (Nat.zero_le _) ⟨rfl, fun b hb => (h2 b hb).trans (hf b hb), Or.inr ⟨h4, rfl, h5⟩⟩
set_option maxHeartbeats 4000000 in
set_option maxRecDepth 100000 in
theorem ct_opensTuplet {N g : Nat} {μ : am_M} {a b w u q y : Int} (hG : μ g = gcl a b w u q y) (hN : g < N) (hk : gok a b w u q y) : am_Met YX0_opensTuplet [.ref g] N μ (gpost g N μ (if b < 2 then some (3, b + 1, 0, u, q, y) else none)) := by
  obtain ⟨k1, k2, k3, k4, k5, k6⟩ := hk
  refine am_met (by first | decide | rfl) (Nat.le_of_ble_eq_true rfl) (fun h => by first | rfl | cases h) ?_
  show am_W YX0_opensTuplet _ 0 0 0 [(0, .ref g)] [] _ _
  refine ap_aload_n dX0_opensTuplet_0 rfl rfl ?_
  refine ap_get ff_X0_32 dX0_opensTuplet_1 (by omega) hG rfl ?_
  refine ap_iconst dX0_opensTuplet_4 ?_
  refine ap_icmp_lt (tgt := 10) dX0_opensTuplet_5 (by decide) (by omega) (fun c5 => ?_) (fun c5 => ?_)
  · refine ap_aload_n dX0_opensTuplet_10 rfl rfl ?_
    refine ap_dup dX0_opensTuplet_11 rfl ?_
    refine ap_get ff_X0_32 dX0_opensTuplet_12 (by omega) hG rfl ?_
    refine ap_iconst dX0_opensTuplet_15 ?_
    refine ap_iadd dX0_opensTuplet_16 ?_
    refine ap_put (fs2 := [am_i a, am_i (b + 1), am_i w, am_i u, am_i q, am_i y]) ff_X0_32 fc_X0_1 dX0_opensTuplet_17 (by omega) hG (fun _ => ⟨rfl, rfl⟩) (Nat.le_of_ble_eq_true rfl) rfl (fun μ1 xe2 xf3 => ?_)
    refine ap_aload_n dX0_opensTuplet_20 rfl rfl ?_
    refine ap_iconst dX0_opensTuplet_21 ?_
    refine ap_put (fs2 := [am_i a, am_i (b + 1), am_i 0, am_i u, am_i q, am_i y]) ff_X0_39 fc_X0_2 dX0_opensTuplet_22 (by omega) xe2 (am_bool (Or.inl rfl)) (Nat.le_of_ble_eq_true rfl) rfl (fun μ4 xe5 xf6 => ?_)
    refine ap_aload_n dX0_opensTuplet_25 rfl rfl ?_
    refine ap_iconst dX0_opensTuplet_26 ?_
    refine ap_iconst dX0_opensTuplet_27 ?_
    refine ap_cV (As := [am_i 1, am_i 3]) (rest := []) (ct_goesOn1 xe5 hN) dX0_opensTuplet_28 lk_X0_54 hy_X0_goesOn rfl (by omega) xe5 ⟨_, _, rfl⟩ (Nat.le_of_ble_eq_true rfl) ⟨Nat.le_of_ble_eq_true rfl, Nat.le_of_ble_eq_true rfl⟩ ⟨rfl, rfl⟩ ⟨Nat.le_of_ble_eq_true rfl, Nat.le_of_ble_eq_true rfl⟩ (fun r2 N2 μ2 hq => ?_)
    exact gp_ret dX0_opensTuplet_31 rfl hq (fun x hx => (xf6 x (by omega)).trans ((xf3 x (by omega)))) (by rw [if_pos c5])
  · refine ap_iconst dX0_opensTuplet_8 ?_
    exact ap_iret dX0_opensTuplet_9 rfl (am_nz (by first | omega | decide)) (Nat.le_of_ble_eq_true rfl) (Nat.le_of_ble_eq_true rfl) (⟨rfl, fun x hx => rfl, Or.inr ⟨if_neg c5, rfl, _, _, _, _, _, _, hG⟩⟩)

set_option maxHeartbeats 4000000 in
set_option maxRecDepth 100000 in
theorem ct_closesTuplet {N g : Nat} {μ : am_M} {a b w u q y : Int} (hG : μ g = gcl a b w u q y) (hN : g < N) (hk : gok a b w u q y) : am_Met YX0_closesTuplet [.ref g] N μ (gpost g N μ (if 1 ≤ b ∧ w = 1 then some (a, b - 1, w, u, q, y) else none)) := by
  obtain ⟨k1, k2, k3, k4, k5, k6⟩ := hk
  refine am_met (by first | decide | rfl) (Nat.le_of_ble_eq_true rfl) (fun h => by first | rfl | cases h) ?_
  show am_W YX0_closesTuplet _ 0 0 0 [(0, .ref g)] [] _ _
  refine ap_aload_n dX0_closesTuplet_0 rfl rfl ?_
  refine ap_get ff_X0_32 dX0_closesTuplet_1 (by omega) hG rfl ?_
  refine ap_iconst dX0_closesTuplet_4 ?_
  refine ap_icmp_lt (tgt := 15) dX0_closesTuplet_5 (by decide) (by omega) (fun c5 => ?_) (fun c5 => ?_)
  · refine ap_iconst dX0_closesTuplet_15 ?_
    exact ap_iret dX0_closesTuplet_16 rfl (am_nz (by first | omega | decide)) (Nat.le_of_ble_eq_true rfl) (Nat.le_of_ble_eq_true rfl) (⟨rfl, fun x hx => rfl, Or.inr ⟨if_neg (by omega), rfl, _, _, _, _, _, _, hG⟩⟩)
  · refine ap_aload_n dX0_closesTuplet_8 rfl rfl ?_
    refine ap_get ff_X0_39 dX0_closesTuplet_9 (by omega) hG rfl ?_
    refine ap_if_ne (tgt := 17) dX0_closesTuplet_12 (by decide) (by omega) (fun c12 => ?_) (fun c12 => ?_)
    · refine ap_aload_n dX0_closesTuplet_17 rfl rfl ?_
      refine ap_dup dX0_closesTuplet_18 rfl ?_
      refine ap_get ff_X0_32 dX0_closesTuplet_19 (by omega) hG rfl ?_
      refine ap_iconst dX0_closesTuplet_22 ?_
      refine ap_isub dX0_closesTuplet_23 ?_
      refine ap_put (fs2 := [am_i a, am_i (b - 1), am_i w, am_i u, am_i q, am_i y]) ff_X0_32 fc_X0_1 dX0_closesTuplet_24 (by omega) hG (fun _ => ⟨rfl, rfl⟩) (Nat.le_of_ble_eq_true rfl) rfl (fun μ1 xe2 xf3 => ?_)
      refine ap_iconst dX0_closesTuplet_27 ?_
      exact ap_iret dX0_closesTuplet_28 rfl (am_nz (by first | omega | decide)) (Nat.le_of_ble_eq_true rfl) (Nat.le_of_ble_eq_true rfl) (⟨rfl, fun x hx => (xf3 x (by omega)), Or.inl ⟨_, _, _, _, _, _, if_pos (by omega), rfl, xe2⟩⟩)
    · refine ap_iconst dX0_closesTuplet_15 ?_
      exact ap_iret dX0_closesTuplet_16 rfl (am_nz (by first | omega | decide)) (Nat.le_of_ble_eq_true rfl) (Nat.le_of_ble_eq_true rfl) (⟨rfl, fun x hx => rfl, Or.inr ⟨if_neg (by omega), rfl, _, _, _, _, _, _, hG⟩⟩)

set_option maxHeartbeats 4000000 in
set_option maxRecDepth 100000 in
theorem ct_opensRepeat {N g : Nat} {μ : am_M} {a b w u q y : Int} (hG : μ g = gcl a b w u q y) (hN : g < N) (hk : gok a b w u q y) : am_Met YX0_opensRepeat [.ref g] N μ (gpost g N μ (if b ≤ 0 ∧ u = 0 then some (a, b, w, 1, q, y) else none)) := by
  obtain ⟨k1, k2, k3, k4, k5, k6⟩ := hk
  refine am_met (by first | decide | rfl) (Nat.le_of_ble_eq_true rfl) (fun h => by first | rfl | cases h) ?_
  show am_W YX0_opensRepeat _ 0 0 0 [(0, .ref g)] [] _ _
  refine ap_aload_n dX0_opensRepeat_0 rfl rfl ?_
  refine ap_get ff_X0_32 dX0_opensRepeat_1 (by omega) hG rfl ?_
  refine ap_if_gt (tgt := 14) dX0_opensRepeat_4 (by decide) (by omega) (fun c4 => ?_) (fun c4 => ?_)
  · refine ap_iconst dX0_opensRepeat_14 ?_
    exact ap_iret dX0_opensRepeat_15 rfl (am_nz (by first | omega | decide)) (Nat.le_of_ble_eq_true rfl) (Nat.le_of_ble_eq_true rfl) (⟨rfl, fun x hx => rfl, Or.inr ⟨if_neg (by omega), rfl, _, _, _, _, _, _, hG⟩⟩)
  · refine ap_aload_n dX0_opensRepeat_7 rfl rfl ?_
    refine ap_get ff_X0_35 dX0_opensRepeat_8 (by omega) hG rfl ?_
    refine ap_if_eq (tgt := 16) dX0_opensRepeat_11 (by decide) (by omega) (fun c11 => ?_) (fun c11 => ?_)
    · refine ap_aload_n dX0_opensRepeat_16 rfl rfl ?_
      refine ap_iconst dX0_opensRepeat_17 ?_
      refine ap_put (fs2 := [am_i a, am_i b, am_i w, am_i 1, am_i q, am_i y]) ff_X0_35 fc_X0_3 dX0_opensRepeat_18 (by omega) hG (am_bool (Or.inr rfl)) (Nat.le_of_ble_eq_true rfl) rfl (fun μ1 xe2 xf3 => ?_)
      refine ap_iconst dX0_opensRepeat_21 ?_
      exact ap_iret dX0_opensRepeat_22 rfl (am_nz (by first | omega | decide)) (Nat.le_of_ble_eq_true rfl) (Nat.le_of_ble_eq_true rfl) (⟨rfl, fun x hx => (xf3 x (by omega)), Or.inl ⟨_, _, _, _, _, _, if_pos (by omega), rfl, xe2⟩⟩)
    · refine ap_iconst dX0_opensRepeat_14 ?_
      exact ap_iret dX0_opensRepeat_15 rfl (am_nz (by first | omega | decide)) (Nat.le_of_ble_eq_true rfl) (Nat.le_of_ble_eq_true rfl) (⟨rfl, fun x hx => rfl, Or.inr ⟨if_neg (by omega), rfl, _, _, _, _, _, _, hG⟩⟩)

set_option maxHeartbeats 4000000 in
set_option maxRecDepth 100000 in
theorem ct_closesRepeat {N g : Nat} {μ : am_M} {a b w u q y : Int} (hG : μ g = gcl a b w u q y) (hN : g < N) (hk : gok a b w u q y) : am_Met YX0_closesRepeat [.ref g] N μ (gpost g N μ (if b ≤ 0 ∧ u = 1 then some (8, b, w, 0, q, y) else none)) := by
  obtain ⟨k1, k2, k3, k4, k5, k6⟩ := hk
  refine am_met (by first | decide | rfl) (Nat.le_of_ble_eq_true rfl) (fun h => by first | rfl | cases h) ?_
  show am_W YX0_closesRepeat _ 0 0 0 [(0, .ref g)] [] _ _
  refine ap_aload_n dX0_closesRepeat_0 rfl rfl ?_
  refine ap_get ff_X0_32 dX0_closesRepeat_1 (by omega) hG rfl ?_
  refine ap_if_gt (tgt := 14) dX0_closesRepeat_4 (by decide) (by omega) (fun c4 => ?_) (fun c4 => ?_)
  · refine ap_iconst dX0_closesRepeat_14 ?_
    exact ap_iret dX0_closesRepeat_15 rfl (am_nz (by first | omega | decide)) (Nat.le_of_ble_eq_true rfl) (Nat.le_of_ble_eq_true rfl) (⟨rfl, fun x hx => rfl, Or.inr ⟨if_neg (by omega), rfl, _, _, _, _, _, _, hG⟩⟩)
  · refine ap_aload_n dX0_closesRepeat_7 rfl rfl ?_
    refine ap_get ff_X0_35 dX0_closesRepeat_8 (by omega) hG rfl ?_
    refine ap_if_ne (tgt := 16) dX0_closesRepeat_11 (by decide) (by omega) (fun c11 => ?_) (fun c11 => ?_)
    · refine ap_aload_n dX0_closesRepeat_16 rfl rfl ?_
      refine ap_iconst dX0_closesRepeat_17 ?_
      refine ap_put (fs2 := [am_i a, am_i b, am_i w, am_i 0, am_i q, am_i y]) ff_X0_35 fc_X0_3 dX0_closesRepeat_18 (by omega) hG (am_bool (Or.inl rfl)) (Nat.le_of_ble_eq_true rfl) rfl (fun μ1 xe2 xf3 => ?_)
      refine ap_aload_n dX0_closesRepeat_21 rfl rfl ?_
      refine ap_iconst dX0_closesRepeat_22 ?_
      refine ap_bipush dX0_closesRepeat_23 (by decide) ?_
      refine ap_cV (As := [am_i 1, am_i 8]) (rest := []) (ct_goesOn1 xe2 hN) dX0_closesRepeat_25 lk_X0_54 hy_X0_goesOn rfl (by omega) xe2 ⟨_, _, rfl⟩ (Nat.le_of_ble_eq_true rfl) ⟨Nat.le_of_ble_eq_true rfl, Nat.le_of_ble_eq_true rfl⟩ ⟨rfl, rfl⟩ ⟨Nat.le_of_ble_eq_true rfl, Nat.le_of_ble_eq_true rfl⟩ (fun r2 N2 μ2 hq => ?_)
      exact gp_ret dX0_closesRepeat_28 rfl hq (fun x hx => (xf3 x (by omega))) (by rw [if_pos (by omega)])
    · refine ap_iconst dX0_closesRepeat_14 ?_
      exact ap_iret dX0_closesRepeat_15 rfl (am_nz (by first | omega | decide)) (Nat.le_of_ble_eq_true rfl) (Nat.le_of_ble_eq_true rfl) (⟨rfl, fun x hx => rfl, Or.inr ⟨if_neg (by omega), rfl, _, _, _, _, _, _, hG⟩⟩)

set_option maxHeartbeats 4000000 in
set_option maxRecDepth 100000 in
theorem ct_acceptsItem {N g : Nat} {μ : am_M} {b w u q y ch : Int} (hG : μ g = gcl 0 b w u q y) (hN : g < N) (hk : gok 0 b w u q y) (hc : -2147483648 ≤ ch ∧ ch ≤ 2147483647) : am_Met YX0_acceptsItem [.ref g, am_i ch] N μ (gpost g N μ (gsI b w u q y ch)) := by
  have ⟨k1, k2, k3, k4, k5, k6⟩ := hk
  refine am_met (by first | decide | rfl) (Nat.le_of_ble_eq_true rfl) (fun h => by first | rfl | cases h) ?_
  show am_W YX0_acceptsItem _ 0 0 0 [(0, .ref g), (1, am_i ch)] [] _ _
  refine ap_iload_n dX0_acceptsItem_0 rfl rfl ?_
  refine ap_bipush dX0_acceptsItem_1 (by decide) ?_
  refine ap_icmp_ne (tgt := 11) dX0_acceptsItem_3 (by decide) (by omega) (fun c3 => ?_) (fun c3 => ?_)
  · refine ap_iload_n dX0_acceptsItem_11 rfl rfl ?_
    refine ap_bipush dX0_acceptsItem_12 (by decide) ?_
    refine ap_icmp_ne (tgt := 22) dX0_acceptsItem_14 (by decide) (by omega) (fun c14 => ?_) (fun c14 => ?_)
    · refine ap_aload_n dX0_acceptsItem_22 rfl rfl ?_
      refine ap_cV (As := []) (rest := []) (ct_endSound hG hN) dX0_acceptsItem_23 lk_X0_42 hy_X0_endSound rfl (by omega) hG ⟨_, _, rfl⟩ (Nat.le_of_ble_eq_true rfl) ⟨Nat.le_of_ble_eq_true rfl, Nat.le_of_ble_eq_true rfl⟩ ⟨rfl, rfl⟩ ⟨Nat.le_of_ble_eq_true rfl, Nat.le_of_ble_eq_true rfl⟩ (fun xr1 xN2 μz xq3 => ?_)
      obtain ⟨rfl, rfl, hz1, hz2⟩ := xq3
      have hk2 : gok 0 b w u 0 0 := ⟨by omega, hk.2.1, hk.2.2.1, hk.2.2.2.1, by omega, Or.inl rfl⟩
      refine ap_iload_n dX0_acceptsItem_26 rfl rfl ?_
      by_cases c27_47 : ch = 47
      · refine ap_lookup (off := 115) (tgt := 142) dX0_acceptsItem_27 (by omega) (by decide) (by rw [c27_47]; rfl) (by decide) ?_
        refine ap_aload_n dX0_acceptsItem_142 rfl rfl ?_
        refine ap_aload_n dX0_acceptsItem_143 rfl rfl ?_
        refine ap_get ff_X0_35 dX0_acceptsItem_144 (by omega) hz1 rfl ?_
        refine ap_if_eq (tgt := 161) dX0_acceptsItem_147 (by decide) (by omega) (fun c147 => ?_) (fun c147 => ?_)
        · refine ap_iconst dX0_acceptsItem_161 ?_
          refine ap_bipush dX0_acceptsItem_162 (by decide) ?_
          refine ap_cV (As := [am_i 0, am_i 6]) (rest := []) (ct_goesOn0 hz1 hN) dX0_acceptsItem_164 lk_X0_54 hy_X0_goesOn rfl (by omega) hz1 ⟨_, _, rfl⟩ (Nat.le_of_ble_eq_true rfl) ⟨Nat.le_of_ble_eq_true rfl, Nat.le_of_ble_eq_true rfl⟩ ⟨rfl, rfl⟩ ⟨Nat.le_of_ble_eq_true rfl, Nat.le_of_ble_eq_true rfl⟩ (fun r2 N2 μ2 hq => ?_)
          exact gp_ret dX0_acceptsItem_167 rfl hq (fun x hx => (hz2 x (by omega))) (by subst c27_47; simp [gsI, c147])
        · refine ap_aload_n dX0_acceptsItem_150 rfl rfl ?_
          refine ap_get ff_X0_32 dX0_acceptsItem_151 (by omega) hz1 rfl ?_
          refine ap_if_ne (tgt := 161) dX0_acceptsItem_154 (by decide) (by omega) (fun c154 => ?_) (fun c154 => ?_)
          · refine ap_iconst dX0_acceptsItem_161 ?_
            refine ap_bipush dX0_acceptsItem_162 (by decide) ?_
            refine ap_cV (As := [am_i 0, am_i 6]) (rest := []) (ct_goesOn0 hz1 hN) dX0_acceptsItem_164 lk_X0_54 hy_X0_goesOn rfl (by omega) hz1 ⟨_, _, rfl⟩ (Nat.le_of_ble_eq_true rfl) ⟨Nat.le_of_ble_eq_true rfl, Nat.le_of_ble_eq_true rfl⟩ ⟨rfl, rfl⟩ ⟨Nat.le_of_ble_eq_true rfl, Nat.le_of_ble_eq_true rfl⟩ (fun r2 N2 μ2 hq => ?_)
            exact gp_ret dX0_acceptsItem_167 rfl hq (fun x hx => (hz2 x (by omega))) (by subst c27_47; simp [gsI, c154])
          · refine ap_iconst dX0_acceptsItem_157 ?_
            refine ap_goto (tgt := 162) dX0_acceptsItem_158 (by decide) ?_
            refine ap_bipush dX0_acceptsItem_162 (by decide) ?_
            refine ap_cV (As := [am_i 1, am_i 6]) (rest := []) (ct_goesOn1 hz1 hN) dX0_acceptsItem_164 lk_X0_54 hy_X0_goesOn rfl (by omega) hz1 ⟨_, _, rfl⟩ (Nat.le_of_ble_eq_true rfl) ⟨Nat.le_of_ble_eq_true rfl, Nat.le_of_ble_eq_true rfl⟩ ⟨rfl, rfl⟩ ⟨Nat.le_of_ble_eq_true rfl, Nat.le_of_ble_eq_true rfl⟩ (fun r2 N2 μ2 hq => ?_)
            exact gp_ret dX0_acceptsItem_167 rfl hq (fun x hx => (hz2 x (by omega))) (by subst c27_47; simp [gsI, show u = 1 by omega, c154])
      · by_cases c27_91 : ch = 91
        · refine ap_lookup (off := 110) (tgt := 137) dX0_acceptsItem_27 (by omega) (by decide) (by rw [c27_91]; rfl) (by decide) ?_
          refine ap_aload_n dX0_acceptsItem_137 rfl rfl ?_
          refine ap_cV (As := []) (rest := []) (ct_opensRepeat hz1 hN hk2) dX0_acceptsItem_138 lk_X0_74 hy_X0_opensRepeat rfl (by omega) hz1 ⟨_, _, rfl⟩ (Nat.le_of_ble_eq_true rfl) ⟨Nat.le_of_ble_eq_true rfl, Nat.le_of_ble_eq_true rfl⟩ ⟨rfl, rfl⟩ ⟨Nat.le_of_ble_eq_true rfl, Nat.le_of_ble_eq_true rfl⟩ (fun r2 N2 μ2 hq => ?_)
          exact gp_ret dX0_acceptsItem_141 rfl hq (fun x hx => (hz2 x (by omega))) (by subst c27_91; simp [gsI])
        · by_cases c27_93 : ch = 93
          · refine ap_lookup (off := 141) (tgt := 168) dX0_acceptsItem_27 (by omega) (by decide) (by rw [c27_93]; rfl) (by decide) ?_
            refine ap_aload_n dX0_acceptsItem_168 rfl rfl ?_
            refine ap_cV (As := []) (rest := []) (ct_closesRepeat hz1 hN hk2) dX0_acceptsItem_169 lk_X0_77 hy_X0_closesRepeat rfl (by omega) hz1 ⟨_, _, rfl⟩ (Nat.le_of_ble_eq_true rfl) ⟨Nat.le_of_ble_eq_true rfl, Nat.le_of_ble_eq_true rfl⟩ ⟨rfl, rfl⟩ ⟨Nat.le_of_ble_eq_true rfl, Nat.le_of_ble_eq_true rfl⟩ (fun r2 N2 μ2 hq => ?_)
            exact gp_ret dX0_acceptsItem_172 rfl hq (fun x hx => (hz2 x (by omega))) (by subst c27_93; simp [gsI])
          · by_cases c27_94 : ch = 94
            · refine ap_lookup (off := 73) (tgt := 100) dX0_acceptsItem_27 (by omega) (by decide) (by rw [c27_94]; rfl) (by decide) ?_
              refine ap_aload_n dX0_acceptsItem_100 rfl rfl ?_
              refine ap_iconst dX0_acceptsItem_101 ?_
              refine ap_iconst dX0_acceptsItem_102 ?_
              refine ap_cV (As := [am_i 1, am_i 1]) (rest := []) (ct_goesOn1 hz1 hN) dX0_acceptsItem_103 lk_X0_54 hy_X0_goesOn rfl (by omega) hz1 ⟨_, _, rfl⟩ (Nat.le_of_ble_eq_true rfl) ⟨Nat.le_of_ble_eq_true rfl, Nat.le_of_ble_eq_true rfl⟩ ⟨rfl, rfl⟩ ⟨Nat.le_of_ble_eq_true rfl, Nat.le_of_ble_eq_true rfl⟩ (fun r2 N2 μ2 hq => ?_)
              exact gp_ret dX0_acceptsItem_106 rfl hq (fun x hx => (hz2 x (by omega))) (by subst c27_94; simp [gsI])
            · by_cases c27_114 : ch = 114
              · refine ap_lookup (off := 80) (tgt := 107) dX0_acceptsItem_27 (by omega) (by decide) (by rw [c27_114]; rfl) (by decide) ?_
                refine ap_aload_n dX0_acceptsItem_107 rfl rfl ?_
                refine ap_iconst dX0_acceptsItem_108 ?_
                refine ap_iconst dX0_acceptsItem_109 ?_
                refine ap_cV (As := [am_i 1, am_i 2]) (rest := []) (ct_goesOn1 hz1 hN) dX0_acceptsItem_110 lk_X0_54 hy_X0_goesOn rfl (by omega) hz1 ⟨_, _, rfl⟩ (Nat.le_of_ble_eq_true rfl) ⟨Nat.le_of_ble_eq_true rfl, Nat.le_of_ble_eq_true rfl⟩ ⟨rfl, rfl⟩ ⟨Nat.le_of_ble_eq_true rfl, Nat.le_of_ble_eq_true rfl⟩ (fun r2 N2 μ2 hq => ?_)
                exact gp_ret dX0_acceptsItem_113 rfl hq (fun x hx => (hz2 x (by omega))) (by subst c27_114; simp [gsI])
              · by_cases c27_123 : ch = 123
                · refine ap_lookup (off := 87) (tgt := 114) dX0_acceptsItem_27 (by omega) (by decide) (by rw [c27_123]; rfl) (by decide) ?_
                  refine ap_aload_n dX0_acceptsItem_114 rfl rfl ?_
                  refine ap_cV (As := []) (rest := []) (ct_opensTuplet hz1 hN hk2) dX0_acceptsItem_115 lk_X0_68 hy_X0_opensTuplet rfl (by omega) hz1 ⟨_, _, rfl⟩ (Nat.le_of_ble_eq_true rfl) ⟨Nat.le_of_ble_eq_true rfl, Nat.le_of_ble_eq_true rfl⟩ ⟨rfl, rfl⟩ ⟨Nat.le_of_ble_eq_true rfl, Nat.le_of_ble_eq_true rfl⟩ (fun r2 N2 μ2 hq => ?_)
                  exact gp_ret dX0_acceptsItem_118 rfl hq (fun x hx => (hz2 x (by omega))) (by subst c27_123; simp [gsI])
                · by_cases c27_124 : ch = 124
                  · refine ap_lookup (off := 97) (tgt := 124) dX0_acceptsItem_27 (by omega) (by decide) (by rw [c27_124]; rfl) (by decide) ?_
                    refine ap_aload_n dX0_acceptsItem_124 rfl rfl ?_
                    refine ap_get ff_X0_32 dX0_acceptsItem_125 (by omega) hz1 rfl ?_
                    refine ap_if_ne (tgt := 135) dX0_acceptsItem_128 (by decide) (by omega) (fun c128 => ?_) (fun c128 => ?_)
                    · refine ap_iconst dX0_acceptsItem_135 ?_
                      exact ap_iret dX0_acceptsItem_136 rfl (am_nz (by first | omega | decide)) (Nat.le_of_ble_eq_true rfl) (Nat.le_of_ble_eq_true rfl) (⟨rfl, fun x hx => (hz2 x (by omega)), Or.inr ⟨by subst c27_124; simp [gsI, c128], rfl, _, _, _, _, _, _, hz1⟩⟩)
                    · refine ap_iconst dX0_acceptsItem_131 ?_
                      refine ap_goto (tgt := 136) dX0_acceptsItem_132 (by decide) ?_
                      exact ap_iret dX0_acceptsItem_136 rfl (am_nz (by first | omega | decide)) (Nat.le_of_ble_eq_true rfl) (Nat.le_of_ble_eq_true rfl) (⟨rfl, fun x hx => (hz2 x (by omega)), Or.inl ⟨_, _, _, _, _, _, by subst c27_124; simp [gsI, c128], rfl, hz1⟩⟩)
                  · by_cases c27_125 : ch = 125
                    · refine ap_lookup (off := 92) (tgt := 119) dX0_acceptsItem_27 (by omega) (by decide) (by rw [c27_125]; rfl) (by decide) ?_
                      refine ap_aload_n dX0_acceptsItem_119 rfl rfl ?_
                      refine ap_cV (As := []) (rest := []) (ct_closesTuplet hz1 hN hk2) dX0_acceptsItem_120 lk_X0_71 hy_X0_closesTuplet rfl (by omega) hz1 ⟨_, _, rfl⟩ (Nat.le_of_ble_eq_true rfl) ⟨Nat.le_of_ble_eq_true rfl, Nat.le_of_ble_eq_true rfl⟩ ⟨rfl, rfl⟩ ⟨Nat.le_of_ble_eq_true rfl, Nat.le_of_ble_eq_true rfl⟩ (fun r2 N2 μ2 hq => ?_)
                      exact gp_ret dX0_acceptsItem_123 rfl hq (fun x hx => (hz2 x (by omega))) (by subst c27_125; simp [gsI])
                    · refine ap_lookup (off := 146) (tgt := 173) dX0_acceptsItem_27 (by omega) (by decide) (by simp [Op.lookupswitch.offset]; repeat (first | rfl | rw [if_neg (by omega)])) (by decide) ?_
                      refine ap_aload_n dX0_acceptsItem_173 rfl rfl ?_
                      refine ap_iload_n dX0_acceptsItem_174 rfl rfl ?_
                      refine ap_iconst dX0_acceptsItem_175 ?_
                      refine ap_cV (As := [am_i ch, am_i 1]) (rest := []) (ct_beginsSound hz1 hN hc (Or.inr rfl)) dX0_acceptsItem_176 lk_X0_50 hy_X0_beginsSound rfl (by omega) hz1 ⟨_, _, rfl⟩ (Nat.le_of_ble_eq_true rfl) ⟨Nat.le_of_ble_eq_true rfl, Nat.le_of_ble_eq_true rfl⟩ ⟨rfl, rfl⟩ ⟨Nat.le_of_ble_eq_true rfl, Nat.le_of_ble_eq_true rfl⟩ (fun r2 N2 μ2 hq => ?_)
                      exact gp_ret dX0_acceptsItem_179 rfl hq (fun x hx => (hz2 x (by omega))) (by simp [gsI, c3, c14, c27_47, c27_91, c27_93, c27_94, c27_114, c27_123, c27_124, c27_125])
    · refine ap_aload_n dX0_acceptsItem_17 rfl rfl ?_
      refine ap_cV (As := []) (rest := []) (ct_addsTie hG hN hk) dX0_acceptsItem_18 lk_X0_65 hy_X0_addsTie rfl (by omega) hG ⟨_, _, rfl⟩ (Nat.le_of_ble_eq_true rfl) ⟨Nat.le_of_ble_eq_true rfl, Nat.le_of_ble_eq_true rfl⟩ ⟨rfl, rfl⟩ ⟨Nat.le_of_ble_eq_true rfl, Nat.le_of_ble_eq_true rfl⟩ (fun r2 N2 μ2 hq => ?_)
      exact gp_ret dX0_acceptsItem_21 rfl hq (fun x hx => rfl) (by rw [gsI, if_neg c3, if_pos c14])
  · refine ap_aload_n dX0_acceptsItem_6 rfl rfl ?_
    refine ap_cV (As := []) (rest := []) (ct_addsDot hG hN hk) dX0_acceptsItem_7 lk_X0_61 hy_X0_addsDot rfl (by omega) hG ⟨_, _, rfl⟩ (Nat.le_of_ble_eq_true rfl) ⟨Nat.le_of_ble_eq_true rfl, Nat.le_of_ble_eq_true rfl⟩ ⟨rfl, rfl⟩ ⟨Nat.le_of_ble_eq_true rfl, Nat.le_of_ble_eq_true rfl⟩ (fun r2 N2 μ2 hq => ?_)
    exact gp_ret dX0_acceptsItem_10 rfl hq (fun x hx => rfl) (by rw [gsI, if_pos c3])

theorem gp_some {g N : Nat} {μ : am_M} {a b w u q y : Int} {r : Option Value} {N2 : Nat} {μ2 : am_M} (h : gpost g N μ (some (a, b, w, u, q, y)) r N2 μ2) : r = some (am_i 1) ∧ N = N2 ∧ μ2 g = gcl a b w u q y ∧ ∀ x, x ≠ g → μ2 x = μ x := by
  obtain ⟨h1, h2, ⟨a2, b2, w2, u2, q2, y2, hx, h3, h4⟩ | ⟨hx, -⟩⟩ := h
  · cases hx
    exact ⟨h3, h1, h4, h2⟩
  · cases hx
theorem gp_none {g N : Nat} {μ : am_M} {r : Option Value} {N2 : Nat} {μ2 : am_M} (h : gpost g N μ none r N2 μ2) : r = some (am_i 0) ∧ N = N2 ∧ (∃ a b w u q y, μ2 g = gcl a b w u q y) ∧ ∀ x, x ≠ g → μ2 x = μ x := by
  obtain ⟨h1, h2, ⟨a2, b2, w2, u2, q2, y2, hx, h3, h4⟩ | ⟨-, h3, h4⟩⟩ := h
  · cases hx
  · exact ⟨h3, h1, h4, h2⟩
set_option maxHeartbeats 4000000 in
set_option maxRecDepth 100000 in
theorem ct_accepts {N g : Nat} {μ : am_M} {a b w u q y : Int} (hG : μ g = gcl a b w u q y) (hN : g < N) (hk : gok a b w u q y) {ch : Int} (hc : -2147483648 ≤ ch ∧ ch ≤ 2147483647) : am_Met YX0_accepts [.ref g, am_i ch] N μ (gpost g N μ (gst a b w u q y ch)) := by
  have ⟨k1, k2, k3, k4, k5, k6⟩ := hk
  have hdr := dg_r ch
  refine am_met (by first | decide | rfl) (Nat.le_of_ble_eq_true rfl) (fun h => by first | rfl | cases h) ?_
  show am_W YX0_accepts _ 0 0 0 [(0, .ref g), (1, am_i ch)] [] _ _
  refine ap_iload_n dX0_accepts_0 rfl rfl ?_
  refine ap_cS (As := [am_i ch]) (rest := []) (ct_digit hc) dX0_accepts_1 lk_X0_45 hy_X1_digit rfl (Nat.le_of_ble_eq_true rfl) ⟨Nat.le_of_ble_eq_true rfl, Nat.le_of_ble_eq_true rfl⟩ ⟨rfl, rfl⟩ ⟨Nat.le_of_ble_eq_true rfl, Nat.le_of_ble_eq_true rfl⟩ (fun xr1 xN2 μ3 xq4 => ?_)
  obtain ⟨rfl, rfl, rfl⟩ := xq4
  refine ap_Istore_n (lv2 := [(0, .ref g), (1, am_i ch), (2, am_i (dg ch))]) dX0_accepts_4 rfl (by decide) rfl ?_
  refine ap_aload_n dX0_accepts_5 rfl rfl ?_
  refine ap_get ff_X0_28 dX0_accepts_6 (by omega) hG rfl ?_
  by_cases c9_1 : a = 1
  · refine ap_tableIn (off := 47) (tgt := 56) dX0_accepts_9 (by omega) (by omega) (by rw [c9_1]; rfl) (by decide) ?_
    refine ap_aload_n dX0_accepts_56 rfl rfl ?_
    refine ap_iload_n dX0_accepts_57 rfl rfl ?_
    refine ap_iconst dX0_accepts_58 ?_
    refine ap_cV (As := [am_i ch, am_i 1]) (rest := []) (ct_beginsSound hG hN hc (Or.inr rfl)) dX0_accepts_59 lk_X0_50 hy_X0_beginsSound rfl (by omega) hG ⟨_, _, rfl⟩ (Nat.le_of_ble_eq_true rfl) ⟨Nat.le_of_ble_eq_true rfl, Nat.le_of_ble_eq_true rfl⟩ ⟨rfl, rfl⟩ ⟨Nat.le_of_ble_eq_true rfl, Nat.le_of_ble_eq_true rfl⟩ (fun r2 N2 μ2 hq => ?_)
    exact gp_ret dX0_accepts_62 rfl hq (fun x hx => rfl) (by rw [gst, if_pos c9_1])
  · by_cases c9_2 : a = 2
    · refine ap_tableIn (off := 54) (tgt := 63) dX0_accepts_9 (by omega) (by omega) (by rw [c9_2]; rfl) (by decide) ?_
      refine ap_aload_n dX0_accepts_63 rfl rfl ?_
      refine ap_iload_n dX0_accepts_64 rfl rfl ?_
      refine ap_iconst dX0_accepts_65 ?_
      refine ap_cV (As := [am_i ch, am_i 0]) (rest := []) (ct_beginsSound hG hN hc (Or.inl rfl)) dX0_accepts_66 lk_X0_50 hy_X0_beginsSound rfl (by omega) hG ⟨_, _, rfl⟩ (Nat.le_of_ble_eq_true rfl) ⟨Nat.le_of_ble_eq_true rfl, Nat.le_of_ble_eq_true rfl⟩ ⟨rfl, rfl⟩ ⟨Nat.le_of_ble_eq_true rfl, Nat.le_of_ble_eq_true rfl⟩ (fun r2 N2 μ2 hq => ?_)
      exact gp_ret dX0_accepts_69 rfl hq (fun x hx => rfl) (by rw [gst, if_neg c9_1, if_pos c9_2])
    · by_cases c9_3 : a = 3
      · refine ap_tableIn (off := 61) (tgt := 70) dX0_accepts_9 (by omega) (by omega) (by rw [c9_3]; rfl) (by decide) ?_
        refine ap_aload_n dX0_accepts_70 rfl rfl ?_
        refine ap_iload_n dX0_accepts_71 rfl rfl ?_
        refine ap_iconst dX0_accepts_72 ?_
        refine ap_icmp_lt (tgt := 80) dX0_accepts_73 (by decide) (by omega) (fun c73 => ?_) (fun c73 => ?_)
        · refine ap_iconst dX0_accepts_80 ?_
          refine ap_iconst dX0_accepts_81 ?_
          refine ap_cV (As := [am_i 0, am_i 4]) (rest := []) (ct_goesOn0 hG hN) dX0_accepts_82 lk_X0_54 hy_X0_goesOn rfl (by omega) hG ⟨_, _, rfl⟩ (Nat.le_of_ble_eq_true rfl) ⟨Nat.le_of_ble_eq_true rfl, Nat.le_of_ble_eq_true rfl⟩ ⟨rfl, rfl⟩ ⟨Nat.le_of_ble_eq_true rfl, Nat.le_of_ble_eq_true rfl⟩ (fun r2 N2 μ2 hq => ?_)
          exact gp_ret dX0_accepts_85 rfl hq (fun x hx => rfl) (by rw [gst, if_neg c9_1, if_neg c9_2, if_pos c9_3, if_neg (by omega)])
        · refine ap_iconst dX0_accepts_76 ?_
          refine ap_goto (tgt := 81) dX0_accepts_77 (by decide) ?_
          refine ap_iconst dX0_accepts_81 ?_
          refine ap_cV (As := [am_i 1, am_i 4]) (rest := []) (ct_goesOn1 hG hN) dX0_accepts_82 lk_X0_54 hy_X0_goesOn rfl (by omega) hG ⟨_, _, rfl⟩ (Nat.le_of_ble_eq_true rfl) ⟨Nat.le_of_ble_eq_true rfl, Nat.le_of_ble_eq_true rfl⟩ ⟨rfl, rfl⟩ ⟨Nat.le_of_ble_eq_true rfl, Nat.le_of_ble_eq_true rfl⟩ (fun r2 N2 μ2 hq => ?_)
          exact gp_ret dX0_accepts_85 rfl hq (fun x hx => rfl) (by rw [gst, if_neg c9_1, if_neg c9_2, if_pos c9_3, if_pos (by omega)])
      · by_cases c9_4 : a = 4
        · refine ap_tableIn (off := 77) (tgt := 86) dX0_accepts_9 (by omega) (by omega) (by rw [c9_4]; rfl) (by decide) ?_
          refine ap_aload_n dX0_accepts_86 rfl rfl ?_
          refine ap_iload_n dX0_accepts_87 rfl rfl ?_
          refine ap_bipush dX0_accepts_88 (by decide) ?_
          refine ap_icmp_ne (tgt := 97) dX0_accepts_90 (by decide) (by omega) (fun c90 => ?_) (fun c90 => ?_)
          · refine ap_iconst dX0_accepts_97 ?_
            refine ap_iconst dX0_accepts_98 ?_
            refine ap_cV (As := [am_i 0, am_i 5]) (rest := []) (ct_goesOn0 hG hN) dX0_accepts_99 lk_X0_54 hy_X0_goesOn rfl (by omega) hG ⟨_, _, rfl⟩ (Nat.le_of_ble_eq_true rfl) ⟨Nat.le_of_ble_eq_true rfl, Nat.le_of_ble_eq_true rfl⟩ ⟨rfl, rfl⟩ ⟨Nat.le_of_ble_eq_true rfl, Nat.le_of_ble_eq_true rfl⟩ (fun r2 N2 μ2 hq => ?_)
            exact gp_ret dX0_accepts_102 rfl hq (fun x hx => rfl) (by rw [gst, if_neg c9_1, if_neg c9_2, if_neg c9_3, if_pos c9_4, if_neg (by omega)])
          · refine ap_iconst dX0_accepts_93 ?_
            refine ap_goto (tgt := 98) dX0_accepts_94 (by decide) ?_
            refine ap_iconst dX0_accepts_98 ?_
            refine ap_cV (As := [am_i 1, am_i 5]) (rest := []) (ct_goesOn1 hG hN) dX0_accepts_99 lk_X0_54 hy_X0_goesOn rfl (by omega) hG ⟨_, _, rfl⟩ (Nat.le_of_ble_eq_true rfl) ⟨Nat.le_of_ble_eq_true rfl, Nat.le_of_ble_eq_true rfl⟩ ⟨rfl, rfl⟩ ⟨Nat.le_of_ble_eq_true rfl, Nat.le_of_ble_eq_true rfl⟩ (fun r2 N2 μ2 hq => ?_)
            exact gp_ret dX0_accepts_102 rfl hq (fun x hx => rfl) (by rw [gst, if_neg c9_1, if_neg c9_2, if_neg c9_3, if_pos c9_4, if_pos (by omega)])
        · by_cases c9_5 : a = 5
          · refine ap_tableIn (off := 94) (tgt := 103) dX0_accepts_9 (by omega) (by omega) (by rw [c9_5]; rfl) (by decide) ?_
            refine ap_aload_n dX0_accepts_103 rfl rfl ?_
            refine ap_iload_n dX0_accepts_104 rfl rfl ?_
            refine ap_iconst dX0_accepts_105 ?_
            refine ap_icmp_lt (tgt := 113) dX0_accepts_106 (by decide) (by omega) (fun c106 => ?_) (fun c106 => ?_)
            · refine ap_iconst dX0_accepts_113 ?_
              refine ap_iconst dX0_accepts_114 ?_
              refine ap_cV (As := [am_i 0, am_i 0]) (rest := []) (ct_goesOn0 hG hN) dX0_accepts_115 lk_X0_54 hy_X0_goesOn rfl (by omega) hG ⟨_, _, rfl⟩ (Nat.le_of_ble_eq_true rfl) ⟨Nat.le_of_ble_eq_true rfl, Nat.le_of_ble_eq_true rfl⟩ ⟨rfl, rfl⟩ ⟨Nat.le_of_ble_eq_true rfl, Nat.le_of_ble_eq_true rfl⟩ (fun r2 N2 μ2 hq => ?_)
              exact gp_ret dX0_accepts_118 rfl hq (fun x hx => rfl) (by rw [gst, if_neg c9_1, if_neg c9_2, if_neg c9_3, if_neg c9_4, if_pos c9_5, if_neg (by omega)])
            · refine ap_iconst dX0_accepts_109 ?_
              refine ap_goto (tgt := 114) dX0_accepts_110 (by decide) ?_
              refine ap_iconst dX0_accepts_114 ?_
              refine ap_cV (As := [am_i 1, am_i 0]) (rest := []) (ct_goesOn1 hG hN) dX0_accepts_115 lk_X0_54 hy_X0_goesOn rfl (by omega) hG ⟨_, _, rfl⟩ (Nat.le_of_ble_eq_true rfl) ⟨Nat.le_of_ble_eq_true rfl, Nat.le_of_ble_eq_true rfl⟩ ⟨rfl, rfl⟩ ⟨Nat.le_of_ble_eq_true rfl, Nat.le_of_ble_eq_true rfl⟩ (fun r2 N2 μ2 hq => ?_)
              exact gp_ret dX0_accepts_118 rfl hq (fun x hx => rfl) (by rw [gst, if_neg c9_1, if_neg c9_2, if_neg c9_3, if_neg c9_4, if_pos c9_5, if_pos (by omega)])
          · by_cases c9_6 : a = 6
            · refine ap_tableIn (off := 110) (tgt := 119) dX0_accepts_9 (by omega) (by omega) (by rw [c9_6]; rfl) (by decide) ?_
              refine ap_aload_n dX0_accepts_119 rfl rfl ?_
              refine ap_iload_n dX0_accepts_120 rfl rfl ?_
              refine ap_iconst dX0_accepts_121 ?_
              refine ap_icmp_lt (tgt := 129) dX0_accepts_122 (by decide) (by omega) (fun c122 => ?_) (fun c122 => ?_)
              · refine ap_iconst dX0_accepts_129 ?_
                refine ap_bipush dX0_accepts_130 (by decide) ?_
                refine ap_cV (As := [am_i 0, am_i 7]) (rest := []) (ct_goesOn0 hG hN) dX0_accepts_132 lk_X0_54 hy_X0_goesOn rfl (by omega) hG ⟨_, _, rfl⟩ (Nat.le_of_ble_eq_true rfl) ⟨Nat.le_of_ble_eq_true rfl, Nat.le_of_ble_eq_true rfl⟩ ⟨rfl, rfl⟩ ⟨Nat.le_of_ble_eq_true rfl, Nat.le_of_ble_eq_true rfl⟩ (fun r2 N2 μ2 hq => ?_)
                exact gp_ret dX0_accepts_135 rfl hq (fun x hx => rfl) (by rw [gst, if_neg c9_1, if_neg c9_2, if_neg c9_3, if_neg c9_4, if_neg c9_5, if_pos c9_6, if_neg (by omega)])
              · refine ap_iconst dX0_accepts_125 ?_
                refine ap_goto (tgt := 130) dX0_accepts_126 (by decide) ?_
                refine ap_bipush dX0_accepts_130 (by decide) ?_
                refine ap_cV (As := [am_i 1, am_i 7]) (rest := []) (ct_goesOn1 hG hN) dX0_accepts_132 lk_X0_54 hy_X0_goesOn rfl (by omega) hG ⟨_, _, rfl⟩ (Nat.le_of_ble_eq_true rfl) ⟨Nat.le_of_ble_eq_true rfl, Nat.le_of_ble_eq_true rfl⟩ ⟨rfl, rfl⟩ ⟨Nat.le_of_ble_eq_true rfl, Nat.le_of_ble_eq_true rfl⟩ (fun r2 N2 μ2 hq => ?_)
                exact gp_ret dX0_accepts_135 rfl hq (fun x hx => rfl) (by rw [gst, if_neg c9_1, if_neg c9_2, if_neg c9_3, if_neg c9_4, if_neg c9_5, if_pos c9_6, if_pos (by omega)])
            · by_cases c9_7 : a = 7
              · refine ap_tableIn (off := 127) (tgt := 136) dX0_accepts_9 (by omega) (by omega) (by rw [c9_7]; rfl) (by decide) ?_
                refine ap_iload_n dX0_accepts_136 rfl rfl ?_
                refine ap_iconst dX0_accepts_137 ?_
                refine ap_icmp_ge (tgt := 160) dX0_accepts_138 (by decide) (by omega) (fun c138 => ?_) (fun c138 => ?_)
                · refine ap_iconst dX0_accepts_160 ?_
                  refine ap_goto (tgt := 165) dX0_accepts_161 (by decide) ?_
                  exact ap_iret dX0_accepts_165 rfl (am_nz (by first | omega | decide)) (Nat.le_of_ble_eq_true rfl) (Nat.le_of_ble_eq_true rfl) (⟨rfl, fun x hx => rfl, Or.inl ⟨_, _, _, _, _, _, by simp [gst, c9_7, c138], rfl, hG⟩⟩)
                · refine ap_aload_n dX0_accepts_141 rfl rfl ?_
                  refine ap_iload_n dX0_accepts_142 rfl rfl ?_
                  refine ap_bipush dX0_accepts_143 (by decide) ?_
                  refine ap_icmp_ne (tgt := 152) dX0_accepts_145 (by decide) (by omega) (fun c145 => ?_) (fun c145 => ?_)
                  · refine ap_iconst dX0_accepts_152 ?_
                    refine ap_iconst dX0_accepts_153 ?_
                    refine ap_cV (As := [am_i 0, am_i 0]) (rest := []) (ct_goesOn0 hG hN) dX0_accepts_154 lk_X0_54 hy_X0_goesOn rfl (by omega) hG ⟨_, _, rfl⟩ (Nat.le_of_ble_eq_true rfl) ⟨Nat.le_of_ble_eq_true rfl, Nat.le_of_ble_eq_true rfl⟩ ⟨rfl, rfl⟩ ⟨Nat.le_of_ble_eq_true rfl, Nat.le_of_ble_eq_true rfl⟩ (fun xr5 xN6 μz xq7 => ?_)
                    obtain ⟨rfl, rfl, ⟨a2, b2, w2, u2, q2, y2, hz1⟩, hz2⟩ := gp_none xq7
                    refine ap_if_eq (tgt := 164) dX0_accepts_157 (by decide) (by omega) (fun c157 => ?_) (fun c157 => (by exfalso; omega))
                    refine ap_iconst dX0_accepts_164 ?_
                    exact ap_iret dX0_accepts_165 rfl (am_nz (by first | omega | decide)) (Nat.le_of_ble_eq_true rfl) (Nat.le_of_ble_eq_true rfl) (⟨rfl, fun x hx => (hz2 x (by omega)), Or.inr ⟨by simp [gst, c9_7, c138, c145], rfl, _, _, _, _, _, _, hz1⟩⟩)
                  · refine ap_iconst dX0_accepts_148 ?_
                    refine ap_goto (tgt := 153) dX0_accepts_149 (by decide) ?_
                    refine ap_iconst dX0_accepts_153 ?_
                    refine ap_cV (As := [am_i 1, am_i 0]) (rest := []) (ct_goesOn1 hG hN) dX0_accepts_154 lk_X0_54 hy_X0_goesOn rfl (by omega) hG ⟨_, _, rfl⟩ (Nat.le_of_ble_eq_true rfl) ⟨Nat.le_of_ble_eq_true rfl, Nat.le_of_ble_eq_true rfl⟩ ⟨rfl, rfl⟩ ⟨Nat.le_of_ble_eq_true rfl, Nat.le_of_ble_eq_true rfl⟩ (fun xr8 xN9 μz xq10 => ?_)
                    obtain ⟨rfl, rfl, hz1, hz2⟩ := gp_some xq10
                    refine ap_if_eq (tgt := 164) dX0_accepts_157 (by decide) (by omega) (fun c157 => (by exfalso; omega)) (fun c157 => ?_)
                    refine ap_iconst dX0_accepts_160 ?_
                    refine ap_goto (tgt := 165) dX0_accepts_161 (by decide) ?_
                    exact ap_iret dX0_accepts_165 rfl (am_nz (by first | omega | decide)) (Nat.le_of_ble_eq_true rfl) (Nat.le_of_ble_eq_true rfl) (⟨rfl, fun x hx => (hz2 x (by omega)), Or.inl ⟨_, _, _, _, _, _, by simp [gst, c9_7, c145, dg], rfl, hz1⟩⟩)
              · by_cases c9_8 : a = 8
                · refine ap_tableIn (off := 157) (tgt := 166) dX0_accepts_9 (by omega) (by omega) (by rw [c9_8]; rfl) (by decide) ?_
                  refine ap_aload_n dX0_accepts_166 rfl rfl ?_
                  refine ap_iload_n dX0_accepts_167 rfl rfl ?_
                  refine ap_iconst dX0_accepts_168 ?_
                  refine ap_icmp_lt (tgt := 176) dX0_accepts_169 (by decide) (by omega) (fun c169 => ?_) (fun c169 => ?_)
                  · refine ap_iconst dX0_accepts_176 ?_
                    refine ap_iconst dX0_accepts_177 ?_
                    refine ap_cV (As := [am_i 0, am_i 0]) (rest := []) (ct_goesOn0 hG hN) dX0_accepts_178 lk_X0_54 hy_X0_goesOn rfl (by omega) hG ⟨_, _, rfl⟩ (Nat.le_of_ble_eq_true rfl) ⟨Nat.le_of_ble_eq_true rfl, Nat.le_of_ble_eq_true rfl⟩ ⟨rfl, rfl⟩ ⟨Nat.le_of_ble_eq_true rfl, Nat.le_of_ble_eq_true rfl⟩ (fun r2 N2 μ2 hq => ?_)
                    exact gp_ret dX0_accepts_181 rfl hq (fun x hx => rfl) (by rw [gst, if_neg c9_1, if_neg c9_2, if_neg c9_3, if_neg c9_4, if_neg c9_5, if_neg c9_6, if_neg c9_7, if_pos c9_8, if_neg (by omega)])
                  · refine ap_iconst dX0_accepts_172 ?_
                    refine ap_goto (tgt := 177) dX0_accepts_173 (by decide) ?_
                    refine ap_iconst dX0_accepts_177 ?_
                    refine ap_cV (As := [am_i 1, am_i 0]) (rest := []) (ct_goesOn1 hG hN) dX0_accepts_178 lk_X0_54 hy_X0_goesOn rfl (by omega) hG ⟨_, _, rfl⟩ (Nat.le_of_ble_eq_true rfl) ⟨Nat.le_of_ble_eq_true rfl, Nat.le_of_ble_eq_true rfl⟩ ⟨rfl, rfl⟩ ⟨Nat.le_of_ble_eq_true rfl, Nat.le_of_ble_eq_true rfl⟩ (fun r2 N2 μ2 hq => ?_)
                    exact gp_ret dX0_accepts_181 rfl hq (fun x hx => rfl) (by rw [gst, if_neg c9_1, if_neg c9_2, if_neg c9_3, if_neg c9_4, if_neg c9_5, if_neg c9_6, if_neg c9_7, if_pos c9_8, if_pos (by omega)])
                · refine ap_tableOut (tgt := 182) dX0_accepts_9 (by omega) (by omega) (by decide) ?_
                  refine ap_aload_n dX0_accepts_182 rfl rfl ?_
                  refine ap_iload_n dX0_accepts_183 rfl rfl ?_
                  obtain rfl : a = 0 := by omega
                  refine ap_cV (As := [am_i ch]) (rest := []) (ct_acceptsItem hG hN hk hc) dX0_accepts_184 lk_X0_58 hy_X0_acceptsItem rfl (by omega) hG ⟨_, _, rfl⟩ (Nat.le_of_ble_eq_true rfl) ⟨Nat.le_of_ble_eq_true rfl, Nat.le_of_ble_eq_true rfl⟩ ⟨rfl, rfl⟩ ⟨Nat.le_of_ble_eq_true rfl, Nat.le_of_ble_eq_true rfl⟩ (fun r2 N2 μ2 hq => ?_)
                  exact gp_ret dX0_accepts_187 rfl hq (fun x hx => rfl) (rfl)

def gw (s : GS) (xs : List Int) (k : Int) : Int := match xs with
  | [] => if s.1 = 0 ∧ s.2.1 = 0 ∧ s.2.2.2.1 = 0 then -9 else k
  | c :: r => match gst s.1 s.2.1 s.2.2.1 s.2.2.2.1 s.2.2.2.2.1 s.2.2.2.2.2 c with
    | none => k
    | some s2 => gw s2 r (k + 1)
def gokS (s : GS) : Prop := gok s.1 s.2.1 s.2.2.1 s.2.2.2.1 s.2.2.2.2.1 s.2.2.2.2.2
theorem gsI_ok {b w u q y ch : Int} {s : GS} (h : gsI b w u q y ch = some s) (hk : gok 0 b w u q y) : gokS s := by
  obtain ⟨k1, k2, k3, k4, k5, k6⟩ := hk
  unfold gsI at h
  by_cases c0 : ch = 46
  · rw [if_pos c0] at h
    by_cases d0 : 1 ≤ q
    · rw [if_pos d0] at h; cases h; exact ⟨by dsimp only; omega, by dsimp only; omega, by dsimp only; omega, by dsimp only; omega, by dsimp only; omega, by dsimp only; omega⟩
    · rw [if_neg d0] at h; cases h
  rw [if_neg c0] at h
  by_cases c1 : ch = 126
  · rw [if_pos c1] at h
    by_cases d1 : y = 1
    · rw [if_pos d1] at h; cases h; exact ⟨by dsimp only; omega, by dsimp only; omega, by dsimp only; omega, by dsimp only; omega, by dsimp only; omega, by dsimp only; omega⟩
    · rw [if_neg d1] at h; cases h
  rw [if_neg c1] at h
  by_cases c2 : ch = 94
  · rw [if_pos c2] at h; cases h; exact ⟨by dsimp only; omega, by dsimp only; omega, by dsimp only; omega, by dsimp only; omega, by dsimp only; omega, by dsimp only; omega⟩
  rw [if_neg c2] at h
  by_cases c3 : ch = 114
  · rw [if_pos c3] at h; cases h; exact ⟨by dsimp only; omega, by dsimp only; omega, by dsimp only; omega, by dsimp only; omega, by dsimp only; omega, by dsimp only; omega⟩
  rw [if_neg c3] at h
  by_cases c4 : ch = 123
  · rw [if_pos c4] at h
    by_cases d4 : b < 2
    · rw [if_pos d4] at h; cases h; exact ⟨by dsimp only; omega, by dsimp only; omega, by dsimp only; omega, by dsimp only; omega, by dsimp only; omega, by dsimp only; omega⟩
    · rw [if_neg d4] at h; cases h
  rw [if_neg c4] at h
  by_cases c5 : ch = 125
  · rw [if_pos c5] at h
    by_cases d5 : 1 ≤ b ∧ w = 1
    · rw [if_pos d5] at h; cases h; exact ⟨by dsimp only; omega, by dsimp only; omega, by dsimp only; omega, by dsimp only; omega, by dsimp only; omega, by dsimp only; omega⟩
    · rw [if_neg d5] at h; cases h
  rw [if_neg c5] at h
  by_cases c6 : ch = 124
  · rw [if_pos c6] at h
    by_cases d6 : b = 0
    · rw [if_pos d6] at h; cases h; exact ⟨by dsimp only; omega, by dsimp only; omega, by dsimp only; omega, by dsimp only; omega, by dsimp only; omega, by dsimp only; omega⟩
    · rw [if_neg d6] at h; cases h
  rw [if_neg c6] at h
  by_cases c7 : ch = 91
  · rw [if_pos c7] at h
    by_cases d7 : b ≤ 0 ∧ u = 0
    · rw [if_pos d7] at h; cases h; exact ⟨by dsimp only; omega, by dsimp only; omega, by dsimp only; omega, by dsimp only; omega, by dsimp only; omega, by dsimp only; omega⟩
    · rw [if_neg d7] at h; cases h
  rw [if_neg c7] at h
  by_cases c8 : ch = 47
  · rw [if_pos c8] at h
    by_cases d8 : u = 1 ∧ b = 0
    · rw [if_pos d8] at h; cases h; exact ⟨by dsimp only; omega, by dsimp only; omega, by dsimp only; omega, by dsimp only; omega, by dsimp only; omega, by dsimp only; omega⟩
    · rw [if_neg d8] at h; cases h
  rw [if_neg c8] at h
  by_cases c9 : ch = 93
  · rw [if_pos c9] at h
    by_cases d9 : b ≤ 0 ∧ u = 1
    · rw [if_pos d9] at h; cases h; exact ⟨by dsimp only; omega, by dsimp only; omega, by dsimp only; omega, by dsimp only; omega, by dsimp only; omega, by dsimp only; omega⟩
    · rw [if_neg d9] at h; cases h
  rw [if_neg c9] at h
  by_cases d9 : 0 ≤ hv ch
  · rw [if_pos d9] at h; cases h; exact ⟨by dsimp only; omega, by dsimp only; omega, by dsimp only; omega, by dsimp only; omega, by dsimp only; omega, by dsimp only; omega⟩
  · rw [if_neg d9] at h; cases h
theorem gst_ok {a b w u q y ch : Int} {s : GS} (h : gst a b w u q y ch = some s) (hk : gok a b w u q y) : gokS s := by
  obtain ⟨k1, k2, k3, k4, k5, k6⟩ := hk
  unfold gst at h
  by_cases c1 : a = 1
  · rw [if_pos c1] at h
    by_cases d1 : 0 ≤ hv ch
    · rw [if_pos d1] at h; cases h; exact ⟨by dsimp only; omega, by dsimp only; omega, by dsimp only; omega, by dsimp only; omega, by dsimp only; omega, by dsimp only; omega⟩
    · rw [if_neg d1] at h; cases h
  rw [if_neg c1] at h
  by_cases c2 : a = 2
  · rw [if_pos c2] at h
    by_cases d2 : 0 ≤ hv ch
    · rw [if_pos d2] at h; cases h; exact ⟨by dsimp only; omega, by dsimp only; omega, by dsimp only; omega, by dsimp only; omega, by dsimp only; omega, by dsimp only; omega⟩
    · rw [if_neg d2] at h; cases h
  rw [if_neg c2] at h
  by_cases c3 : a = 3
  · rw [if_pos c3] at h
    by_cases d3 : 2 ≤ dg ch
    · rw [if_pos d3] at h; cases h; exact ⟨by dsimp only; omega, by dsimp only; omega, by dsimp only; omega, by dsimp only; omega, by dsimp only; omega, by dsimp only; omega⟩
    · rw [if_neg d3] at h; cases h
  rw [if_neg c3] at h
  by_cases c4 : a = 4
  · rw [if_pos c4] at h
    by_cases d4 : ch = 58
    · rw [if_pos d4] at h; cases h; exact ⟨by dsimp only; omega, by dsimp only; omega, by dsimp only; omega, by dsimp only; omega, by dsimp only; omega, by dsimp only; omega⟩
    · rw [if_neg d4] at h; cases h
  rw [if_neg c4] at h
  by_cases c5 : a = 5
  · rw [if_pos c5] at h
    by_cases d5 : 2 ≤ dg ch
    · rw [if_pos d5] at h; cases h; exact ⟨by dsimp only; omega, by dsimp only; omega, by dsimp only; omega, by dsimp only; omega, by dsimp only; omega, by dsimp only; omega⟩
    · rw [if_neg d5] at h; cases h
  rw [if_neg c5] at h
  by_cases c6 : a = 6
  · rw [if_pos c6] at h
    by_cases d6 : 1 ≤ dg ch
    · rw [if_pos d6] at h; cases h; exact ⟨by dsimp only; omega, by dsimp only; omega, by dsimp only; omega, by dsimp only; omega, by dsimp only; omega, by dsimp only; omega⟩
    · rw [if_neg d6] at h; cases h
  rw [if_neg c6] at h
  by_cases c7 : a = 7
  · rw [if_pos c7] at h
    by_cases d7 : 1 ≤ dg ch
    · rw [if_pos d7] at h; cases h; exact ⟨by dsimp only; omega, by dsimp only; omega, by dsimp only; omega, by dsimp only; omega, by dsimp only; omega, by dsimp only; omega⟩
    · rw [if_neg d7] at h
      by_cases e7 : ch = 58
      · rw [if_pos e7] at h; cases h; exact ⟨by dsimp only; omega, by dsimp only; omega, by dsimp only; omega, by dsimp only; omega, by dsimp only; omega, by dsimp only; omega⟩
      · rw [if_neg e7] at h; cases h
  rw [if_neg c7] at h
  by_cases c8 : a = 8
  · rw [if_pos c8] at h
    by_cases d8 : 2 ≤ dg ch
    · rw [if_pos d8] at h; cases h; exact ⟨by dsimp only; omega, by dsimp only; omega, by dsimp only; omega, by dsimp only; omega, by dsimp only; omega, by dsimp only; omega⟩
    · rw [if_neg d8] at h; cases h
  rw [if_neg c8] at h
  exact gsI_ok h ⟨by omega, k2, k3, k4, k5, k6⟩
theorem gw_nil {a b w u q y k : Int} : gw (a, b, w, u, q, y) [] k = if a = 0 ∧ b = 0 ∧ u = 0 then -9 else k := rfl

set_option maxHeartbeats 4000000 in
set_option maxRecDepth 100000 in
theorem lp_wrongPlace {N g t cap : Nat} {μ0 : am_M} {xs : List Int} (hT0 : Tx μ0 t cap xs) (hN : g < N) (hN2 : t + 1 < N) (hgt : g ≠ t ∧ g ≠ t + 1) {R : Int} : ∀ (nn : Nat) (i : Nat) (z : Int) (μ : am_M) (a : Int) (b : Int) (w : Int) (u : Int) (q : Int) (y : Int), z = (i : Int) → i ≤ xs.length → (∀ x, x ≠ g → μ x = μ0 x) → μ g = gcl a b w u q y → gok a b w u q y → gw (a, b, w, u, q, y) (xs.drop i) (i : Int) = R → xs.length - i < nn → am_W YX0_wrongPlace (fun r N2 μ2 => r = some (am_i R) ∧ N = N2 ∧ (∀ x, x ≠ g → μ2 x = μ0 x) ∧ ∃ a b w u q y, μ2 g = gcl a b w u q y) 0 0 6 [(0, .ref g), (1, .ref t), (2, am_i z)] [] N μ := by
  intro nn
  induction nn with
  | zero =>
    intro i z μ a b w u q y hz hi hf hG hk hR hm
    exfalso; omega
  | succ nn ih =>
    intro i z μ a b w u q y hz hi hf hG hk hR hm
    have hT : Tx μ t cap xs := hT0.kept (hf _ (by omega)) (hf _ (by omega))
    obtain ⟨h1, ⟨g9, h2, h3⟩, h4, h5, h6⟩ := id hT
    have ⟨k1, k2, k3, k4, k5, k6⟩ := hk
    refine ap_iload_n dX0_wrongPlace_6 rfl rfl ?_
    refine ap_aload_n dX0_wrongPlace_7 rfl rfl ?_
    refine ap_cV (As := []) (rest := [am_i z]) (ct_size hT hN2) dX0_wrongPlace_8 lk_X0_14 hy_X6_size rfl (by omega) h1 ⟨_, _, rfl⟩ (Nat.le_of_ble_eq_true rfl) ⟨Nat.le_of_ble_eq_true rfl, Nat.le_of_ble_eq_true rfl⟩ ⟨rfl, rfl⟩ ⟨Nat.le_of_ble_eq_true rfl, Nat.le_of_ble_eq_true rfl⟩ (fun xr1 xN2 μ3 xq4 => ?_)
    obtain ⟨rfl, rfl, rfl⟩ := xq4
    refine ap_icmp_ge (tgt := 34) dX0_wrongPlace_11 (by decide) (by omega) (fun c11 => ?_) (fun c11 => ?_)
    · rw [show xs.drop i = [] from List.drop_eq_nil_of_le (by omega), gw_nil] at hR
      refine ap_aload_n dX0_wrongPlace_34 rfl rfl ?_
      refine ap_get ff_X0_28 dX0_wrongPlace_35 (by omega) hG rfl ?_
      refine ap_if_ne (tgt := 59) dX0_wrongPlace_38 (by decide) (by omega) (fun c38 => ?_) (fun c38 => ?_)
      · refine ap_iconst dX0_wrongPlace_59 ?_
        refine ap_Istore_n (lv2 := [(0, .ref g), (1, .ref t), (2, am_i 0)]) dX0_wrongPlace_60 rfl (by decide) rfl ?_
        refine ap_iload_n dX0_wrongPlace_61 rfl rfl ?_
        refine ap_if_eq (tgt := 70) dX0_wrongPlace_62 (by decide) (by omega) (fun c62 => ?_) (fun c62 => (by exfalso; omega))
        refine ap_aload_n dX0_wrongPlace_70 rfl rfl ?_
        refine ap_cV (As := []) (rest := []) (ct_size hT hN2) dX0_wrongPlace_71 lk_X0_14 hy_X6_size rfl (by omega) h1 ⟨_, _, rfl⟩ (Nat.le_of_ble_eq_true rfl) ⟨Nat.le_of_ble_eq_true rfl, Nat.le_of_ble_eq_true rfl⟩ ⟨rfl, rfl⟩ ⟨Nat.le_of_ble_eq_true rfl, Nat.le_of_ble_eq_true rfl⟩ (fun xr5 xN6 μ7 xq8 => ?_)
        obtain ⟨rfl, rfl, rfl⟩ := xq8
        exact ap_iret dX0_wrongPlace_74 rfl rfl (Nat.le_of_ble_eq_true rfl) (Nat.le_of_ble_eq_true rfl) (⟨by rw [if_neg (by omega)] at hR; rw [← hR, show i = xs.length by omega], rfl, fun x hx => hf x hx, _, _, _, _, _, _, hG⟩)
      · refine ap_aload_n dX0_wrongPlace_41 rfl rfl ?_
        refine ap_get ff_X0_32 dX0_wrongPlace_42 (by omega) hG rfl ?_
        refine ap_if_ne (tgt := 59) dX0_wrongPlace_45 (by decide) (by omega) (fun c45 => ?_) (fun c45 => ?_)
        · refine ap_iconst dX0_wrongPlace_59 ?_
          refine ap_Istore_n (lv2 := [(0, .ref g), (1, .ref t), (2, am_i 0)]) dX0_wrongPlace_60 rfl (by decide) rfl ?_
          refine ap_iload_n dX0_wrongPlace_61 rfl rfl ?_
          refine ap_if_eq (tgt := 70) dX0_wrongPlace_62 (by decide) (by omega) (fun c62 => ?_) (fun c62 => (by exfalso; omega))
          refine ap_aload_n dX0_wrongPlace_70 rfl rfl ?_
          refine ap_cV (As := []) (rest := []) (ct_size hT hN2) dX0_wrongPlace_71 lk_X0_14 hy_X6_size rfl (by omega) h1 ⟨_, _, rfl⟩ (Nat.le_of_ble_eq_true rfl) ⟨Nat.le_of_ble_eq_true rfl, Nat.le_of_ble_eq_true rfl⟩ ⟨rfl, rfl⟩ ⟨Nat.le_of_ble_eq_true rfl, Nat.le_of_ble_eq_true rfl⟩ (fun xr9 xN10 μ11 xq12 => ?_)
          obtain ⟨rfl, rfl, rfl⟩ := xq12
          exact ap_iret dX0_wrongPlace_74 rfl rfl (Nat.le_of_ble_eq_true rfl) (Nat.le_of_ble_eq_true rfl) (⟨by rw [if_neg (by omega)] at hR; rw [← hR, show i = xs.length by omega], rfl, fun x hx => hf x hx, _, _, _, _, _, _, hG⟩)
        · refine ap_aload_n dX0_wrongPlace_48 rfl rfl ?_
          refine ap_get ff_X0_35 dX0_wrongPlace_49 (by omega) hG rfl ?_
          refine ap_if_ne (tgt := 59) dX0_wrongPlace_52 (by decide) (by omega) (fun c52 => ?_) (fun c52 => ?_)
          · refine ap_iconst dX0_wrongPlace_59 ?_
            refine ap_Istore_n (lv2 := [(0, .ref g), (1, .ref t), (2, am_i 0)]) dX0_wrongPlace_60 rfl (by decide) rfl ?_
            refine ap_iload_n dX0_wrongPlace_61 rfl rfl ?_
            refine ap_if_eq (tgt := 70) dX0_wrongPlace_62 (by decide) (by omega) (fun c62 => ?_) (fun c62 => (by exfalso; omega))
            refine ap_aload_n dX0_wrongPlace_70 rfl rfl ?_
            refine ap_cV (As := []) (rest := []) (ct_size hT hN2) dX0_wrongPlace_71 lk_X0_14 hy_X6_size rfl (by omega) h1 ⟨_, _, rfl⟩ (Nat.le_of_ble_eq_true rfl) ⟨Nat.le_of_ble_eq_true rfl, Nat.le_of_ble_eq_true rfl⟩ ⟨rfl, rfl⟩ ⟨Nat.le_of_ble_eq_true rfl, Nat.le_of_ble_eq_true rfl⟩ (fun xr13 xN14 μ15 xq16 => ?_)
            obtain ⟨rfl, rfl, rfl⟩ := xq16
            exact ap_iret dX0_wrongPlace_74 rfl rfl (Nat.le_of_ble_eq_true rfl) (Nat.le_of_ble_eq_true rfl) (⟨by rw [if_neg (by omega)] at hR; rw [← hR, show i = xs.length by omega], rfl, fun x hx => hf x hx, _, _, _, _, _, _, hG⟩)
          · refine ap_iconst dX0_wrongPlace_55 ?_
            refine ap_goto (tgt := 60) dX0_wrongPlace_56 (by decide) ?_
            refine ap_Istore_n (lv2 := [(0, .ref g), (1, .ref t), (2, am_i 1)]) dX0_wrongPlace_60 rfl (by decide) rfl ?_
            refine ap_iload_n dX0_wrongPlace_61 rfl rfl ?_
            refine ap_if_eq (tgt := 70) dX0_wrongPlace_62 (by decide) (by omega) (fun c62 => (by exfalso; omega)) (fun c62 => ?_)
            refine ap_bipush dX0_wrongPlace_65 (by decide) ?_
            refine ap_goto (tgt := 74) dX0_wrongPlace_67 (by decide) ?_
            exact ap_iret dX0_wrongPlace_74 rfl rfl (Nat.le_of_ble_eq_true rfl) (Nat.le_of_ble_eq_true rfl) (⟨by rw [if_pos (by omega)] at hR; rw [← hR], rfl, fun x hx => hf x hx, _, _, _, _, _, _, hG⟩)
    · have hlt : i < xs.length := by omega
      have hch := h6 _ (am_gd hlt)
      rw [List.drop_eq_getElem_cons hlt, show xs[i] = xs.getD i 0 by simp [List.getD_eq_getElem?_getD, List.getElem?_eq_getElem hlt], gw] at hR
      refine ap_aload_n dX0_wrongPlace_14 rfl rfl ?_
      refine ap_aload_n dX0_wrongPlace_15 rfl rfl ?_
      refine ap_iload_n dX0_wrongPlace_16 rfl rfl ?_
      refine ap_cV (As := [am_i z]) (rest := [.ref g]) (ct_at hT hN2 (k := z) (by omega)) dX0_wrongPlace_17 lk_X0_20 hy_X6_at rfl (by omega) h1 ⟨_, _, rfl⟩ (Nat.le_of_ble_eq_true rfl) ⟨Nat.le_of_ble_eq_true rfl, Nat.le_of_ble_eq_true rfl⟩ ⟨rfl, rfl⟩ ⟨Nat.le_of_ble_eq_true rfl, Nat.le_of_ble_eq_true rfl⟩ (fun xr17 xN18 μ19 xq20 => ?_)
      obtain ⟨rfl, rfl, rfl⟩ := xq20
      refine ap_topi (b := xs.getD i 0) (show (tat xs z) = (xs.getD i 0) from by rw [tat, if_pos (by omega), hz]; rfl) ?_
      refine ap_cV (As := [am_i (xs.getD i 0)]) (rest := []) (ct_accepts hG hN hk (ch := xs.getD i 0) (by omega)) dX0_wrongPlace_20 lk_X0_24 hy_X0_accepts rfl (by omega) hG ⟨_, _, rfl⟩ (Nat.le_of_ble_eq_true rfl) ⟨Nat.le_of_ble_eq_true rfl, Nat.le_of_ble_eq_true rfl⟩ ⟨rfl, rfl⟩ ⟨Nat.le_of_ble_eq_true rfl, Nat.le_of_ble_eq_true rfl⟩ (fun xr21 xN22 μz xq23 => ?_)
      have hq0 := xq23
      obtain ⟨rfl, hz2, hz3⟩ := xq23
      obtain ⟨v, hv1, hv2, a2, b2, w2, u2, q2, y2, hz1, hz4⟩ : ∃ v : Int, xr21 = some (am_i v) ∧ (v = 0 ∨ v = 1) ∧ ∃ a2 b2 w2 u2 q2 y2, μz g = gcl a2 b2 w2 u2 q2 y2 ∧ ((v = 1 ∧ gst a b w u q y (xs.getD i 0) = some (a2, b2, w2, u2, q2, y2)) ∨ (v = 0 ∧ gst a b w u q y (xs.getD i 0) = none)) := by
        rcases hz3 with ⟨a2, b2, w2, u2, q2, y2, e1, e2, e3⟩ | ⟨e1, e2, a2, b2, w2, u2, q2, y2, e3⟩
        · exact ⟨1, e2, Or.inr rfl, a2, b2, w2, u2, q2, y2, e3, Or.inl ⟨rfl, e1⟩⟩
        · exact ⟨0, e2, Or.inl rfl, a2, b2, w2, u2, q2, y2, e3, Or.inr ⟨rfl, e1⟩⟩
      subst hv1
      refine ap_if_ne (tgt := 28) dX0_wrongPlace_23 (by decide) (by omega) (fun c23 => ?_) (fun c23 => ?_)
      · refine ap_Iinc (lv2 := [(0, .ref g), (1, .ref t), (2, am_i (z + 1))]) dX0_wrongPlace_28 rfl (by decide) rfl ?_
        refine ap_goto (tgt := 6) dX0_wrongPlace_31 (by decide) ?_
        rcases hz4 with ⟨-, e2⟩ | ⟨e1, -⟩
        · simp only [e2] at hR
          exact ih (i + 1) _ μz a2 b2 w2 u2 q2 y2 (by omega) (by omega) (fun x hx => (hz2 x hx).trans (hf x hx)) hz1 (gst_ok e2 hk) (by rw [show ((i + 1 : Nat) : Int) = (i : Int) + 1 from by omega]; exact hR) (by omega)
        · omega
      · refine ap_iload_n dX0_wrongPlace_26 rfl rfl ?_
        exact ap_iret dX0_wrongPlace_27 rfl rfl (Nat.le_of_ble_eq_true rfl) (Nat.le_of_ble_eq_true rfl) (⟨(by rcases hz4 with ⟨e1, -⟩ | ⟨-, e2⟩ <;> first | omega | (simp only [e2] at hR; rw [hz, hR])), rfl, fun x hx => ((hz2 x (by omega))).trans (hf x hx), _, _, _, _, _, _, hz1⟩)

set_option maxHeartbeats 4000000 in
set_option maxRecDepth 100000 in
theorem ct_wrongPlace {N g t cap : Nat} {μ : am_M} {xs : List Int} (hT : Tx μ t cap xs) (hN : g < N) (hN2 : t + 1 < N) (hgt : g ≠ t ∧ g ≠ t + 1) {a b w u q y : Int} (hG : μ g = gcl a b w u q y) : am_Met YX0_wrongPlace [.ref g, .ref t] N μ (fun r N2 μ2 => r = some (am_i (gw (0, 0, 0, 0, 0, 0) xs 0)) ∧ N = N2 ∧ (∀ x, x ≠ g → μ2 x = μ x) ∧ ∃ a b w u q y, μ2 g = gcl a b w u q y) := by
  refine am_met (by first | decide | rfl) (Nat.le_of_ble_eq_true rfl) (fun h => by first | rfl | cases h) ?_
  show am_W YX0_wrongPlace _ 0 0 0 [(0, .ref g), (1, .ref t)] [] _ _
  refine ap_aload_n dX0_wrongPlace_0 rfl rfl ?_
  refine ap_cV (As := []) (rest := []) (ct_gstart hG hN) dX0_wrongPlace_1 lk_X0_9 hy_X0_start rfl (by omega) hG ⟨_, _, rfl⟩ (Nat.le_of_ble_eq_true rfl) ⟨Nat.le_of_ble_eq_true rfl, Nat.le_of_ble_eq_true rfl⟩ ⟨rfl, rfl⟩ ⟨Nat.le_of_ble_eq_true rfl, Nat.le_of_ble_eq_true rfl⟩ (fun xr1 xN2 μz xq3 => ?_)
  obtain ⟨rfl, rfl, hz1, hz2⟩ := xq3
  refine ap_iconst dX0_wrongPlace_4 ?_
  refine ap_Istore_n (lv2 := [(0, .ref g), (1, .ref t), (2, am_i 0)]) dX0_wrongPlace_5 rfl (by decide) rfl ?_
  have hgo := lp_wrongPlace (N := N) (μ0 := μz) (hT.kept (hz2 _ (by omega)) (hz2 _ (by omega))) hN hN2 hgt (R := gw (0, 0, 0, 0, 0, 0) xs 0) (xs.length + 1) 0 0 μz 0 0 0 0 0 0 rfl (Nat.zero_le _) (fun x hx => rfl) hz1 ⟨by omega, by omega, by omega, by omega, by omega, by omega⟩ rfl (by omega)
  exact am_mono hgo (fun r N2 μ2 hq => ⟨hq.1, hq.2.1, fun x hx => (hq.2.2.1 x hx).trans (hz2 x hx), hq.2.2.2⟩)

