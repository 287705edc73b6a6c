/-! Text: object at t, its row at t + 1 -/
def am_fr (lo hi : Nat) (μ μ2 : am_M) : Prop := ∀ b, ¬ (lo ≤ b ∧ b < hi) → μ2 b = μ b
theorem am_fr.rf {lo hi : Nat} {μ : am_M} : am_fr lo hi μ μ := fun _ _ => rfl
theorem am_fr.trans {lo hi : Nat} {μ μ2 μ3 : am_M} (h : am_fr lo hi μ μ2) (h2 : am_fr lo hi μ2 μ3) : am_fr lo hi μ μ3 := fun b hb => (h2 b hb).trans (h b hb)
theorem am_fr.mono {lo hi lo2 hi2 : Nat} {μ μ2 : am_M} (h : am_fr lo hi μ μ2) (h1 : lo2 ≤ lo) (h2 : hi ≤ hi2) : am_fr lo2 hi2 μ μ2 := fun b hb => h b (by omega)
def Tx (μ : am_M) (t cap : Nat) (xs : List Int) : Prop := μ t = am_O 6 [.ref (t + 1), am_i (xs.length : Int)] ∧ (∃ g : Nat → Int, μ (t + 1) = am_I 2 cap g ∧ ∀ j, j < xs.length → g j = xs.getD j 0) ∧ xs.length ≤ cap ∧ cap ≤ 900 ∧ ∀ c ∈ xs, 0 ≤ c ∧ c ≤ 126
theorem Tx.kept {μ μ2 : am_M} {t cap : Nat} {xs : List Int} (h : Tx μ t cap xs) (h1 : μ2 t = μ t) (h2 : μ2 (t + 1) = μ (t + 1)) : Tx μ2 t cap xs := by
  obtain ⟨a, ⟨g, b, c⟩, d⟩ := h
  exact ⟨h1.trans a, ⟨g, h2.trans b, c⟩, d⟩
theorem Tx.fr {μ μ2 : am_M} {t cap lo hi : Nat} {xs : List Int} (h : Tx μ t cap xs) (hf : am_fr lo hi μ μ2) (hd : t + 2 ≤ lo ∨ hi ≤ t) : Tx μ2 t cap xs := h.kept (hf _ (by omega)) (hf _ (by omega))
abbrev am_pv (v : Value) (N : Nat) (μ : am_M) : Option Value → Nat → am_M → Prop := fun r N2 μ2 => r = some v ∧ N = N2 ∧ μ = μ2
theorem am_gd {xs : List Int} {j : Nat} (h : j < xs.length) : xs.getD j 0 ∈ xs := by
  rw [List.getD_eq_getElem?_getD, List.getElem?_eq_getElem h]
  exact List.getElem_mem h
def tat (xs : List Int) (k : Int) : Int := if 0 ≤ k ∧ k < xs.length then xs.getD k.toNat 0 else -9
def sk (xs : List Int) (c d : Int) (k : Nat) : Nat := if k < xs.length then (if xs.getD k 0 = c ∨ xs.getD k 0 = d then k else sk xs c d (k + 1)) else xs.length
termination_by xs.length - k
theorem am_gd_app {xs ys : List Int} {j : Nat} (h : j < xs.length) : (xs ++ ys).getD j 0 = xs.getD j 0 := by
  simp [List.getD_eq_getElem?_getD, List.getElem?_append_left h]
theorem am_gd_last {xs : List Int} {c : Int} : (xs ++ [c]).getD xs.length 0 = c := by simp [List.getD_eq_getElem?_getD]
set_option maxHeartbeats 4000000 in
set_option maxRecDepth 100000 in
theorem ct_size {N : Nat} {μ : am_M} {t cap : Nat} {xs : List Int} (hT : Tx μ t cap xs) (hN : t + 1 < N) : am_Met YX6_size [.ref t] N μ (am_pv (am_i (xs.length : Int)) N μ) := by
  obtain ⟨h1, ⟨g, h2, h3⟩, h4, h5, h6⟩ := id hT
  refine am_met (by first | decide | rfl) (Nat.le_of_ble_eq_true rfl) (fun h => by first | rfl | cases h) ?_
  show am_W YX6_size _ 0 0 0 [(0, .ref t)] [] _ _
  refine ap_aload_n dX6_size_0 rfl rfl ?_
  refine ap_get ff_X6_21 dX6_size_1 (by omega) h1 rfl ?_
  exact ap_iret dX6_size_4 rfl rfl (Nat.le_of_ble_eq_true rfl) (Nat.le_of_ble_eq_true rfl) (⟨rfl, rfl, rfl⟩)

set_option maxHeartbeats 4000000 in
set_option maxRecDepth 100000 in
theorem ct_isFull {N : Nat} {μ : am_M} {t cap : Nat} {xs : List Int} (hT : Tx μ t cap xs) (hN : t + 1 < N) : am_Met YX6_isFull [.ref t] N μ (am_pv (am_i (if cap ≤ xs.length then 1 else 0)) N μ) := by
  obtain ⟨h1, ⟨g, h2, h3⟩, h4, h5, h6⟩ := id hT
  refine am_met (by first | decide | rfl) (Nat.le_of_ble_eq_true rfl) (fun h => by first | rfl | cases h) ?_
  show am_W YX6_isFull _ 0 0 0 [(0, .ref t)] [] _ _
  refine ap_aload_n dX6_isFull_0 rfl rfl ?_
  refine ap_get ff_X6_21 dX6_isFull_1 (by omega) h1 rfl ?_
  refine ap_aload_n dX6_isFull_4 rfl rfl ?_
  refine ap_get ff_X6_15 dX6_isFull_5 (by omega) h1 rfl ?_
  refine ap_alen (L := cap) dX6_isFull_8 (by omega) h2 (by decide) ?_
  refine ap_icmp_lt (tgt := 16) dX6_isFull_9 (by decide) (by omega) (fun c9 => ?_) (fun c9 => ?_)
  · refine ap_iconst dX6_isFull_16 ?_
    exact ap_iret dX6_isFull_17 rfl (am_nz (by first | omega | decide)) (Nat.le_of_ble_eq_true rfl) (Nat.le_of_ble_eq_true rfl) (⟨by rw [if_neg (by omega)], rfl, rfl⟩)
  · refine ap_iconst dX6_isFull_12 ?_
    refine ap_goto (tgt := 17) dX6_isFull_13 (by decide) ?_
    exact ap_iret dX6_isFull_17 rfl (am_nz (by first | omega | decide)) (Nat.le_of_ble_eq_true rfl) (Nat.le_of_ble_eq_true rfl) (⟨by rw [if_pos (by omega)], rfl, rfl⟩)

set_option maxHeartbeats 4000000 in
set_option maxRecDepth 100000 in
theorem ct_at {N : Nat} {μ : am_M} {t cap : Nat} {xs : List Int} (hT : Tx μ t cap xs) (hN : t + 1 < N) {k : Int} (hk : -2147483648 ≤ k ∧ k ≤ 2147483647) : am_Met YX6_at [.ref t, am_i k] N μ (am_pv (am_i (tat xs k)) N μ) := by
  obtain ⟨h1, ⟨g, h2, h3⟩, h4, h5, h6⟩ := id hT
  refine am_met (by first | decide | rfl) (Nat.le_of_ble_eq_true rfl) (fun h => by first | rfl | cases h) ?_
  show am_W YX6_at _ 0 0 0 [(0, .ref t), (1, am_i k)] [] _ _
  refine ap_iload_n dX6_at_0 rfl rfl ?_
  refine ap_if_lt (tgt := 21) dX6_at_1 (by decide) (by omega) (fun c1 => ?_) (fun c1 => ?_)
  · refine ap_bipush dX6_at_21 (by decide) ?_
    exact ap_iret dX6_at_23 rfl rfl (Nat.le_of_ble_eq_true rfl) (Nat.le_of_ble_eq_true rfl) (⟨by rw [tat, if_neg (by omega)], rfl, rfl⟩)
  · refine ap_iload_n dX6_at_4 rfl rfl ?_
    refine ap_aload_n dX6_at_5 rfl rfl ?_
    refine ap_get ff_X6_21 dX6_at_6 (by omega) h1 rfl ?_
    refine ap_icmp_ge (tgt := 21) dX6_at_9 (by decide) (by omega) (fun c9 => ?_) (fun c9 => ?_)
    · refine ap_bipush dX6_at_21 (by decide) ?_
      exact ap_iret dX6_at_23 rfl rfl (Nat.le_of_ble_eq_true rfl) (Nat.le_of_ble_eq_true rfl) (⟨by rw [tat, if_neg (by omega)], rfl, rfl⟩)
    · refine ap_aload_n dX6_at_12 rfl rfl ?_
      refine ap_get ff_X6_15 dX6_at_13 (by omega) h1 rfl ?_
      refine ap_iload_n dX6_at_16 rfl rfl ?_
      refine ap_cald (j := k.toNat) dX6_at_17 (by omega) h2 (by omega) (by omega) ?_
      refine ap_goto (tgt := 23) dX6_at_18 (by decide) ?_
      exact ap_iret dX6_at_23 rfl rfl (Nat.le_of_ble_eq_true rfl) (Nat.le_of_ble_eq_true rfl) (⟨by rw [tat, if_pos (by omega), h3 _ (by omega)], rfl, rfl⟩)

set_option maxHeartbeats 4000000 in
set_option maxRecDepth 100000 in
theorem ct_makeEmpty {N : Nat} {μ : am_M} {t cap : Nat} {xs : List Int} (hT : Tx μ t cap xs) (hN : t + 1 < N) : am_Met YX6_makeEmpty [.ref t] N μ (fun r N2 μ2 => r = none ∧ N = N2 ∧ Tx μ2 t cap [] ∧ am_fr t (t + 2) μ μ2) := by
  obtain ⟨h1, ⟨g, h2, h3⟩, h4, h5, h6⟩ := id hT
  refine am_met (by first | decide | rfl) (Nat.le_of_ble_eq_true rfl) (fun h => by first | rfl | cases h) ?_
  show am_W YX6_makeEmpty _ 0 0 0 [(0, .ref t)] [] _ _
  refine ap_aload_n dX6_makeEmpty_0 rfl rfl ?_
  refine ap_iconst dX6_makeEmpty_1 ?_
  refine ap_put (fs2 := [.ref (t + 1), am_i 0]) ff_X6_21 fc_X6_1 dX6_makeEmpty_2 (by omega) h1 (fun _ => ⟨rfl, rfl⟩) (Nat.le_of_ble_eq_true rfl) rfl (fun μ1 xe2 xf3 => ?_)
  have xm4 : μ1 (t + 1) = am_I 2 cap g := (xf3 _ (by omega)).trans h2
  exact ap_vret dX6_makeEmpty_5 rfl (Nat.le_of_ble_eq_true rfl) (Nat.le_of_ble_eq_true rfl) (⟨rfl, rfl, ⟨xe2, ⟨g, xm4, fun j hj => by cases hj⟩, Nat.zero_le _, h5, fun c hc => by cases hc⟩, fun b hb => (xf3 b (by omega))⟩)

set_option maxHeartbeats 4000000 in
set_option maxRecDepth 100000 in
theorem ct_append {N : Nat} {μ : am_M} {t cap : Nat} {xs : List Int} (hT : Tx μ t cap xs) (hN : t + 1 < N) {c : Int} (hc : 0 ≤ c ∧ c ≤ 126) (hx : xs.length < cap) : am_Met YX6_append [.ref t, am_i c] N μ (fun r N2 μ2 => r = none ∧ N = N2 ∧ Tx μ2 t cap (xs ++ [c]) ∧ am_fr t (t + 2) μ μ2) := by
  obtain ⟨h1, ⟨g, h2, h3⟩, h4, h5, h6⟩ := id hT
  refine am_met (by first | decide | rfl) (Nat.le_of_ble_eq_true rfl) (fun h => by first | rfl | cases h) ?_
  show am_W YX6_append _ 0 0 0 [(0, .ref t), (1, am_i c)] [] _ _
  refine ap_aload_n dX6_append_0 rfl rfl ?_
  refine ap_get ff_X6_21 dX6_append_1 (by omega) h1 rfl ?_
  refine ap_aload_n dX6_append_4 rfl rfl ?_
  refine ap_get ff_X6_15 dX6_append_5 (by omega) h1 rfl ?_
  refine ap_alen (L := cap) dX6_append_8 (by omega) h2 (by decide) ?_
  refine ap_icmp_ge (tgt := 33) dX6_append_9 (by decide) (by omega) (fun c9 => (by exfalso; omega)) (fun c9 => ?_)
  refine ap_aload_n dX6_append_12 rfl rfl ?_
  refine ap_get ff_X6_15 dX6_append_13 (by omega) h1 rfl ?_
  refine ap_aload_n dX6_append_16 rfl rfl ?_
  refine ap_get ff_X6_21 dX6_append_17 (by omega) h1 rfl ?_
  refine ap_iload_n dX6_append_20 rfl rfl ?_
  refine ap_i2c dX6_append_21 (by omega) ?_
  refine ap_cast (j := xs.length) dX6_append_22 (by omega) h2 (by omega) (by omega) (by omega) (fun μ1 xe2 xf3 => ?_)
  refine ap_aload_n dX6_append_23 rfl rfl ?_
  refine ap_dup dX6_append_24 rfl ?_
  have xm4 : μ1 t = am_O 6 [.ref (t + 1), am_i (xs.length : Int)] := (xf3 _ (by omega)).trans h1
  refine ap_get ff_X6_21 dX6_append_25 (by omega) xm4 rfl ?_
  refine ap_iconst dX6_append_28 ?_
  refine ap_iadd dX6_append_29 ?_
  refine ap_put (fs2 := [.ref (t + 1), am_i ((xs.length : Int) + 1)]) ff_X6_21 fc_X6_1 dX6_append_30 (by omega) xm4 (fun _ => ⟨rfl, rfl⟩) (Nat.le_of_ble_eq_true rfl) rfl (fun μ5 xe6 xf7 => ?_)
  have xm8 : μ5 (t + 1) = am_I 2 cap (va_up g xs.length c) := (xf7 _ (by omega)).trans xe2
  exact ap_vret dX6_append_33 rfl (Nat.le_of_ble_eq_true rfl) (Nat.le_of_ble_eq_true rfl) (⟨rfl, rfl, ⟨by rw [xe6]; simp, ⟨_, xm8, fun j hj => by
    simp at hj
    by_cases hj2 : j = xs.length
    · subst hj2; rw [am_gd_last]; simp [va_up]
    · rw [am_gd_app (by omega), ← h3 j (by omega)]; simp [va_up, hj2]⟩, by simp; omega, h5, fun x hx => by
    rcases List.mem_append.mp hx with h | h
    · exact h6 x h
    · rw [List.mem_singleton.mp h]; exact hc⟩, fun b hb => (xf7 b (by omega)).trans ((xf3 b (by omega)))⟩)

set_option maxHeartbeats 4000000 in
set_option maxRecDepth 100000 in
theorem lp_seek {N : Nat} {μ : am_M} {t cap : Nat} {xs : List Int} (hT : Tx μ t cap xs) (hN : t + 1 < N) {a c d : Int} (hcd : (-2147483648 ≤ c ∧ c ≤ 2147483647) ∧ (-2147483648 ≤ d ∧ d ≤ 2147483647)) {R : Nat} : ∀ (nn : Nat) (i : Nat) (z : Int), z = (i : Int) → i ≤ xs.length → sk xs c d i = R → xs.length - i < nn → am_W YX6_seek (am_pv (am_i (R : Int)) N μ) 0 0 11 [(0, .ref t), (1, am_i a), (2, am_i c), (3, am_i d), (4, am_i z)] [] N μ := by
  intro nn
  induction nn with
  | zero =>
    intro i z hz hi hR hm
    exfalso; omega
  | succ nn ih =>
    intro i z hz hi hR hm
    obtain ⟨h1, ⟨g, h2, h3⟩, h4, h5, h6⟩ := id hT
    refine ap_iload dX6_seek_11 rfl ?_
    refine ap_aload_n dX6_seek_13 rfl rfl ?_
    refine ap_get ff_X6_21 dX6_seek_14 (by omega) h1 rfl ?_
    rw [sk] at hR
    refine ap_icmp_ge (tgt := 51) dX6_seek_17 (by decide) (by omega) (fun c17 => ?_) (fun c17 => ?_)
    · refine ap_aload_n dX6_seek_51 rfl rfl ?_
      refine ap_get ff_X6_21 dX6_seek_52 (by omega) h1 rfl ?_
      exact ap_iret dX6_seek_55 rfl rfl (Nat.le_of_ble_eq_true rfl) (Nat.le_of_ble_eq_true rfl) (⟨by rw [if_neg (by omega)] at hR; rw [hR], rfl, rfl⟩)
    · rw [if_pos (by omega)] at hR
      have h7 := h3 i (by omega)
      have h8 := h6 _ (am_gd (show i < xs.length by omega))
      rw [← h7] at h8 hR
      refine ap_aload_n dX6_seek_20 rfl rfl ?_
      refine ap_get ff_X6_15 dX6_seek_21 (by omega) h1 rfl ?_
      refine ap_iload dX6_seek_24 rfl ?_
      refine ap_cald (j := i) dX6_seek_26 (by omega) h2 (by omega) (by omega) ?_
      refine ap_iload_n dX6_seek_27 rfl rfl ?_
      refine ap_icmp_eq (tgt := 42) dX6_seek_28 (by decide) (by omega) (fun c28 => ?_) (fun c28 => ?_)
      · refine ap_iload dX6_seek_42 rfl ?_
        exact ap_iret dX6_seek_44 rfl rfl (Nat.le_of_ble_eq_true rfl) (Nat.le_of_ble_eq_true rfl) (⟨by rw [if_pos (Or.inl c28)] at hR; rw [hz, hR], rfl, rfl⟩)
      · refine ap_aload_n dX6_seek_31 rfl rfl ?_
        refine ap_get ff_X6_15 dX6_seek_32 (by omega) h1 rfl ?_
        refine ap_iload dX6_seek_35 rfl ?_
        refine ap_cald (j := i) dX6_seek_37 (by omega) h2 (by omega) (by omega) ?_
        refine ap_iload_n dX6_seek_38 rfl rfl ?_
        refine ap_icmp_ne (tgt := 45) dX6_seek_39 (by decide) (by omega) (fun c39 => ?_) (fun c39 => ?_)
        · rw [if_neg (by omega)] at hR
          refine ap_Iinc (lv2 := [(0, .ref t), (1, am_i a), (2, am_i c), (3, am_i d), (4, am_i (z + 1))]) dX6_seek_45 rfl (by decide) rfl ?_
          refine ap_goto (tgt := 11) dX6_seek_48 (by decide) ?_
          exact ih (i + 1) _ (by omega) (by omega) hR (by omega)
        · refine ap_iload dX6_seek_42 rfl ?_
          exact ap_iret dX6_seek_44 rfl rfl (Nat.le_of_ble_eq_true rfl) (Nat.le_of_ble_eq_true rfl) (⟨by rw [if_pos (Or.inr c39)] at hR; rw [hz, hR], rfl, rfl⟩)

set_option maxHeartbeats 4000000 in
set_option maxRecDepth 100000 in
theorem ct_seek {N : Nat} {μ : am_M} {t cap : Nat} {xs : List Int} (hT : Tx μ t cap xs) (hN : t + 1 < N) {a c d : Int} (hcd : (-2147483648 ≤ c ∧ c ≤ 2147483647) ∧ (-2147483648 ≤ d ∧ d ≤ 2147483647)) {i : Nat} (ha : a = (i : Int)) (hi : i ≤ xs.length) : am_Met YX6_seek [.ref t, am_i a, am_i c, am_i d] N μ (am_pv (am_i (sk xs c d i : Int)) N μ) := by
  obtain ⟨h1, ⟨g, h2, h3⟩, h4, h5, h6⟩ := id hT
  refine am_met (by first | decide | rfl) (Nat.le_of_ble_eq_true rfl) (fun h => by first | rfl | cases h) ?_
  show am_W YX6_seek _ 0 0 0 [(0, .ref t), (1, am_i a), (2, am_i c), (3, am_i d)] [] _ _
  refine ap_iload_n dX6_seek_0 rfl rfl ?_
  refine ap_if_ge (tgt := 8) dX6_seek_1 (by decide) (by omega) (fun c1 => ?_) (fun c1 => (by exfalso; omega))
  refine ap_iload_n dX6_seek_8 rfl rfl ?_
  refine ap_Istore (lv2 := [(0, .ref t), (1, am_i a), (2, am_i c), (3, am_i d), (4, am_i a)]) dX6_seek_9 (by decide) rfl ?_
  exact lp_seek hT hN hcd (xs.length - i + 1) i _ ha hi rfl (by omega)

set_option maxHeartbeats 4000000 in
set_option maxRecDepth 100000 in
theorem lp_become {N : Nat} {μ0 : am_M} {t u cap cap2 : Nat} {xs ys : List Int} (hN : t + 1 < N) (hN2 : u + 1 < N) (hd : u + 2 ≤ t ∨ t + 2 ≤ u) (hy : ys.length ≤ cap) (hU0 : Tx μ0 u cap2 ys) : ∀ (nn : Nat) (i : Nat) (z : Int) (μ : am_M) (g : Nat → Int), z = (i : Int) → i ≤ ys.length → μ t = am_O 6 [.ref (t + 1), am_i (xs.length : Int)] → μ (t + 1) = am_I 2 cap g → (∀ j, j < i → g j = ys.getD j 0) → am_fr t (t + 2) μ0 μ → cap ≤ 900 → ys.length - i < nn → am_W YX6_become (fun r N2 μ2 => r = none ∧ N = N2 ∧ Tx μ2 t cap ys ∧ am_fr t (t + 2) μ0 μ2) 0 0 15 [(0, .ref t), (1, .ref u), (2, am_i (ys.length : Int)), (3, am_i z)] [] N μ := by
  intro nn
  induction nn with
  | zero =>
    intro i z μ g hz hi h1 h2 h3 hf hc hm
    exfalso; omega
  | succ nn ih =>
    intro i z μ g hz hi h1 h2 h3 hf hc hm
    obtain ⟨k1, ⟨g2, k2, k3⟩, k4, k5, k6⟩ := hU0.fr hf hd
    refine ap_iload_n dX6_become_15 rfl rfl ?_
    refine ap_iload_n dX6_become_16 rfl rfl ?_
    refine ap_icmp_ge (tgt := 38) dX6_become_17 (by decide) (by omega) (fun c17 => ?_) (fun c17 => ?_)
    · refine ap_aload_n dX6_become_38 rfl rfl ?_
      refine ap_iload_n dX6_become_39 rfl rfl ?_
      refine ap_put (fs2 := [.ref (t + 1), am_i (ys.length : Int)]) ff_X6_21 fc_X6_1 dX6_become_40 (by omega) h1 (fun _ => ⟨rfl, rfl⟩) (Nat.le_of_ble_eq_true rfl) rfl (fun μ1 xe2 xf3 => ?_)
      have xm4 : μ1 (t + 1) = am_I 2 cap g := (xf3 _ (by omega)).trans h2
      exact ap_vret dX6_become_43 rfl (Nat.le_of_ble_eq_true rfl) (Nat.le_of_ble_eq_true rfl) (⟨rfl, rfl, ⟨xe2, ⟨g, xm4, fun j hj => h3 j (by omega)⟩, hy, hc, k6⟩, fun b hb => ((xf3 b (by omega))).trans (hf b hb)⟩)
    · have k7 := k3 i (by omega)
      have k8 := k6 _ (am_gd (show i < ys.length by omega))
      have k8 : 0 ≤ ys.getD i 0 ∧ ys.getD i 0 ≤ 65535 := by omega
      refine ap_aload_n dX6_become_20 rfl rfl ?_
      refine ap_get ff_X6_15 dX6_become_21 (by omega) h1 rfl ?_
      refine ap_iload_n dX6_become_24 rfl rfl ?_
      refine ap_aload_n dX6_become_25 rfl rfl ?_
      refine ap_get ff_X6_15 dX6_become_26 (by omega) k1 rfl ?_
      refine ap_iload_n dX6_become_29 rfl rfl ?_
      refine ap_cald (j := i) dX6_become_30 (by omega) k2 (by omega) (by omega) ?_
      refine ap_cast (j := i) dX6_become_31 (by omega) h2 (by omega) (by omega) (k7 ▸ k8) (fun μ5 xe6 xf7 => ?_)
      refine ap_Iinc (lv2 := [(0, .ref t), (1, .ref u), (2, am_i (ys.length : Int)), (3, am_i (z + 1))]) dX6_become_32 rfl (by decide) rfl ?_
      refine ap_goto (tgt := 15) dX6_become_35 (by decide) ?_
      have xm8 : μ5 t = am_O 6 [.ref (t + 1), am_i (xs.length : Int)] := (xf7 _ (by omega)).trans h1
      exact ih (i + 1) _ _ _ (by omega) (by omega) xm8 xe6 (fun j hj => by
        by_cases hj2 : j = i
        · subst hj2; simp [va_up, k7]
        · simp [va_up, hj2]; exact h3 j (by omega)) (fun b hb => ((xf7 b (by omega))).trans (hf b hb)) hc (by omega)

set_option maxHeartbeats 4000000 in
set_option maxRecDepth 100000 in
theorem ct_become {N : Nat} {μ : am_M} {t u cap cap2 : Nat} {xs ys : List Int} (hT : Tx μ t cap xs) (hU : Tx μ u cap2 ys) (hN : t + 1 < N) (hN2 : u + 1 < N) (hd : u + 2 ≤ t ∨ t + 2 ≤ u) (hy : ys.length ≤ cap) : am_Met YX6_become [.ref t, .ref u] N μ (fun r N2 μ2 => r = none ∧ N = N2 ∧ Tx μ2 t cap ys ∧ am_fr t (t + 2) μ μ2) := by
  obtain ⟨h1, ⟨g, h2, h3⟩, h4, h5, h6⟩ := id hT
  obtain ⟨k1, ⟨g2, k2, k3⟩, k4, k5, k6⟩ := id hU
  refine am_met (by first | decide | rfl) (Nat.le_of_ble_eq_true rfl) (fun h => by first | rfl | cases h) ?_
  show am_W YX6_become _ 0 0 0 [(0, .ref t), (1, .ref u)] [] _ _
  refine ap_aload_n dX6_become_0 rfl rfl ?_
  refine ap_get ff_X6_21 dX6_become_1 (by omega) k1 rfl ?_
  refine ap_aload_n dX6_become_4 rfl rfl ?_
  refine ap_get ff_X6_15 dX6_become_5 (by omega) h1 rfl ?_
  refine ap_alen (L := cap) dX6_become_8 (by omega) h2 (by decide) ?_
  refine ap_min dX6_become_9 lk_X6_25 ⟨Nat.le_of_ble_eq_true rfl, Nat.le_of_ble_eq_true rfl⟩ ⟨Nat.le_of_ble_eq_true rfl, Nat.le_of_ble_eq_true rfl⟩ (by omega) ?_
  refine ap_topi (b := (ys.length : Int)) (show (if ((cap : Nat) : Int) < (ys.length : Int) then ((cap : Nat) : Int) else (ys.length : Int)) = (ys.length : Int) from by split <;> omega) ?_
  refine ap_Istore_n (lv2 := [(0, .ref t), (1, .ref u), (2, am_i (ys.length : Int))]) dX6_become_12 rfl (by decide) rfl ?_
  refine ap_iconst dX6_become_13 ?_
  refine ap_Istore_n (lv2 := [(0, .ref t), (1, .ref u), (2, am_i (ys.length : Int)), (3, am_i 0)]) dX6_become_14 rfl (by decide) rfl ?_
  exact lp_become hN hN2 hd hy hU (ys.length + 1) 0 _ _ _ rfl (Nat.zero_le _) h1 h2 (fun j hj => by omega) am_fr.rf h5 (by omega)

set_option maxHeartbeats 4000000 in
set_option maxRecDepth 100000 in
theorem lp_becomeS {N : Nat} {μ0 : am_M} {t cap : Nat} {xs : List Int} (hN : t + 1 < N) : ∀ (nn : Nat) (i : Nat) (z : Int) (μ : am_M), z = (i : Int) → i ≤ xs.length → Tx μ t cap xs → am_fr t (t + 2) μ0 μ → xs.length - i < nn → am_W YX6_become (fun r N2 μ2 => r = none ∧ N = N2 ∧ Tx μ2 t cap xs ∧ am_fr t (t + 2) μ0 μ2) 0 0 15 [(0, .ref t), (1, .ref t), (2, am_i (xs.length : Int)), (3, am_i z)] [] N μ := by
  intro nn
  induction nn with
  | zero =>
    intro i z μ hz hi hT hf hm
    exfalso; omega
  | succ nn ih =>
    intro i z μ hz hi hT hf hm
    obtain ⟨h1, ⟨g, h2, h3⟩, h4, h5, h6⟩ := id hT
    refine ap_iload_n dX6_become_15 rfl rfl ?_
    refine ap_iload_n dX6_become_16 rfl rfl ?_
    refine ap_icmp_ge (tgt := 38) dX6_become_17 (by decide) (by omega) (fun c17 => ?_) (fun c17 => ?_)
    · refine ap_aload_n dX6_become_38 rfl rfl ?_
      refine ap_iload_n dX6_become_39 rfl rfl ?_
      refine ap_put (fs2 := [.ref (t + 1), am_i (xs.length : Int)]) ff_X6_21 fc_X6_1 dX6_become_40 (by omega) h1 (fun _ => ⟨rfl, rfl⟩) (Nat.le_of_ble_eq_true rfl) rfl (fun μ1 xe2 xf3 => ?_)
      have xm4 : μ1 (t + 1) = am_I 2 cap g := (xf3 _ (by omega)).trans h2
      exact ap_vret dX6_become_43 rfl (Nat.le_of_ble_eq_true rfl) (Nat.le_of_ble_eq_true rfl) (⟨rfl, rfl, ⟨xe2, ⟨g, xm4, h3⟩, h4, h5, h6⟩, fun b hb => ((xf3 b (by omega))).trans (hf b hb)⟩)
    · have k7 := h3 i (by omega)
      have k8 := h6 _ (am_gd (show i < xs.length by omega))
      have k8 : 0 ≤ xs.getD i 0 ∧ xs.getD i 0 ≤ 65535 := by omega
      refine ap_aload_n dX6_become_20 rfl rfl ?_
      refine ap_get ff_X6_15 dX6_become_21 (by omega) h1 rfl ?_
      refine ap_iload_n dX6_become_24 rfl rfl ?_
      refine ap_aload_n dX6_become_25 rfl rfl ?_
      refine ap_get ff_X6_15 dX6_become_26 (by omega) h1 rfl ?_
      refine ap_iload_n dX6_become_29 rfl rfl ?_
      refine ap_cald (j := i) dX6_become_30 (by omega) h2 (by omega) (by omega) ?_
      refine ap_cast (j := i) dX6_become_31 (by omega) h2 (by omega) (by omega) (k7 ▸ k8) (fun μ5 xe6 xf7 => ?_)
      refine ap_Iinc (lv2 := [(0, .ref t), (1, .ref t), (2, am_i (xs.length : Int)), (3, am_i (z + 1))]) dX6_become_32 rfl (by decide) rfl ?_
      refine ap_goto (tgt := 15) dX6_become_35 (by decide) ?_
      have xm8 : μ5 t = am_O 6 [.ref (t + 1), am_i (xs.length : Int)] := (xf7 _ (by omega)).trans h1
      exact ih (i + 1) _ _ (by omega) (by omega) ⟨xm8, ⟨_, xe6, fun j hj => by
        by_cases hj2 : j = i
        · subst hj2; simp [va_up, k7]
        · simp [va_up, hj2]; exact h3 j (by omega)⟩, h4, h5, h6⟩ (fun b hb => ((xf7 b (by omega))).trans (hf b hb)) (by omega)

set_option maxHeartbeats 4000000 in
set_option maxRecDepth 100000 in
theorem ct_becomeS {N : Nat} {μ : am_M} {t cap : Nat} {xs : List Int} (hT : Tx μ t cap xs) (hN : t + 1 < N) : am_Met YX6_become [.ref t, .ref t] N μ (fun r N2 μ2 => r = none ∧ N = N2 ∧ Tx μ2 t cap xs ∧ am_fr t (t + 2) μ μ2) := by
  obtain ⟨h1, ⟨g, h2, h3⟩, h4, h5, h6⟩ := id hT
  refine am_met (by first | decide | rfl) (Nat.le_of_ble_eq_true rfl) (fun h => by first | rfl | cases h) ?_
  show am_W YX6_become _ 0 0 0 [(0, .ref t), (1, .ref t)] [] _ _
  refine ap_aload_n dX6_become_0 rfl rfl ?_
  refine ap_get ff_X6_21 dX6_become_1 (by omega) h1 rfl ?_
  refine ap_aload_n dX6_become_4 rfl rfl ?_
  refine ap_get ff_X6_15 dX6_become_5 (by omega) h1 rfl ?_
  refine ap_alen (L := cap) dX6_become_8 (by omega) h2 (by decide) ?_
  refine ap_min dX6_become_9 lk_X6_25 ⟨Nat.le_of_ble_eq_true rfl, Nat.le_of_ble_eq_true rfl⟩ ⟨Nat.le_of_ble_eq_true rfl, Nat.le_of_ble_eq_true rfl⟩ (by omega) ?_
  refine ap_topi (b := (xs.length : Int)) (show (if ((cap : Nat) : Int) < (xs.length : Int) then ((cap : Nat) : Int) else (xs.length : Int)) = (xs.length : Int) from by split <;> omega) ?_
  refine ap_Istore_n (lv2 := [(0, .ref t), (1, .ref t), (2, am_i (xs.length : Int))]) dX6_become_12 rfl (by decide) rfl ?_
  refine ap_iconst dX6_become_13 ?_
  refine ap_Istore_n (lv2 := [(0, .ref t), (1, .ref t), (2, am_i (xs.length : Int)), (3, am_i 0)]) dX6_become_14 rfl (by decide) rfl ?_
  exact lp_becomeS hN (xs.length + 1) 0 _ _ rfl (Nat.zero_le _) hT am_fr.rf (by omega)

def piece (ys : List Int) (a b : Nat) : List Int := (ys.take b).drop a
theorem piece_len (ys : List Int) (a b : Nat) : (piece ys a b).length = min b ys.length - a := by simp [piece]
theorem piece_get {ys : List Int} {a b j : Nat} (h : j < min b ys.length - a) : (piece ys a b).getD j 0 = ys.getD (a + j) 0 := by
  simp only [piece, List.getD_eq_getElem?_getD, List.getElem?_drop, List.getElem?_take]
  rw [if_pos (by omega)]
theorem piece_succ {ys : List Int} {a b : Nat} (h : a ≤ b) (hb : b < ys.length) : piece ys a (b + 1) = piece ys a b ++ [ys.getD b 0] := by
  apply List.ext_getElem?
  intro j
  simp only [piece, List.getElem?_drop, List.getElem?_take]
  by_cases hj : a + j < b
  · rw [if_pos (by omega), List.getElem?_append_left (by simp; omega)]
    simp only [List.getElem?_drop, List.getElem?_take]
    rw [if_pos hj]
  · rw [List.getElem?_append_right (by simp; omega)]
    by_cases hj2 : a + j = b
    · rw [if_pos (by omega), show j - ((ys.take b).drop a).length = 0 by simp; omega, hj2]
      simp [List.getD_eq_getElem?_getD, List.getElem?_eq_getElem hb]
    · rw [if_neg (by omega), List.getElem?_eq_none (by simp; omega)]
theorem piece_nil {ys : List Int} {a : Nat} : piece ys a a = [] := by simp [piece]
theorem piece_mem {ys : List Int} {a b : Nat} {c : Int} (h : c ∈ piece ys a b) : c ∈ ys := List.mem_of_mem_take (List.mem_of_mem_drop h)
set_option maxHeartbeats 4000000 in
set_option maxRecDepth 100000 in
theorem lp_appendPiece {N : Nat} {μ0 : am_M} {t u cap cap2 : Nat} {xs ys : List Int} {a b : Nat} (hN : t + 1 < N) (hN2 : u + 1 < N) (hd : u + 2 ≤ t ∨ t + 2 ≤ u) (hab : b ≤ ys.length) (hx : xs.length + (b - a) ≤ cap) (ha : a ≤ 1000) (hU0 : Tx μ0 u cap2 ys) {fa : Int} {fb : Int} : ∀ (nn : Nat) (i : Nat) (z : Int) (μ : am_M), z = (i : Int) → a ≤ i ∧ (i ≤ b ∨ i = a) → Tx μ t cap (xs ++ piece ys a i) → am_fr t (t + 2) μ0 μ → b - i < nn → am_W YX6_appendPiece (fun r N2 μ2 => r = none ∧ N = N2 ∧ Tx μ2 t cap (xs ++ piece ys a b) ∧ am_fr t (t + 2) μ0 μ2) 0 0 17 [(0, .ref t), (1, .ref u), (2, am_i fa), (3, am_i fb), (4, am_i (b : Int)), (5, am_i z)] [] N μ := by
  intro nn
  induction nn with
  | zero =>
    intro i z μ hz hi hT hf hm
    exfalso; omega
  | succ nn ih =>
    intro i z μ hz hi hT hf hm
    obtain ⟨k1, ⟨g2, k2, k3⟩, k4, k5, k6⟩ := hU0.fr hf hd
    obtain ⟨h1, ⟨g, h2, h3⟩, h4, h5, h6⟩ := id hT
    refine ap_iload dX6_appendPiece_17 rfl ?_
    refine ap_iload dX6_appendPiece_19 rfl ?_
    refine ap_icmp_ge (tgt := 41) dX6_appendPiece_21 (by decide) (by omega) (fun c21 => ?_) (fun c21 => ?_)
    · exact ap_vret dX6_appendPiece_41 rfl (Nat.le_of_ble_eq_true rfl) (Nat.le_of_ble_eq_true rfl) (⟨rfl, rfl, by
    have hib : piece ys a i = piece ys a b := by
      by_cases hab2 : a ≤ b
      · rw [show i = b by omega]
      · rw [show i = a by omega, piece_nil]
        exact (List.eq_nil_of_length_eq_zero (by rw [piece_len]; omega)).symm
    rw [← hib]; exact hT, hf⟩)
    · have k7 := k3 i (by omega)
      have k8 := k6 _ (am_gd (show i < ys.length by omega))
      refine ap_aload_n dX6_appendPiece_24 rfl rfl ?_
      refine ap_aload_n dX6_appendPiece_25 rfl rfl ?_
      refine ap_get ff_X6_15 dX6_appendPiece_26 (by omega) k1 rfl ?_
      refine ap_iload dX6_appendPiece_29 rfl ?_
      refine ap_cald (j := i) dX6_appendPiece_31 (by omega) k2 (by omega) (by omega) ?_
      refine ap_topi (b := ys.getD i 0) (show (g2 i) = (ys.getD i 0) from k7) ?_
      refine ap_cV (As := [am_i (ys.getD i 0)]) (rest := []) (ct_append hT hN (c := ys.getD i 0) k8 (by rw [List.length_append, piece_len]; omega)) dX6_appendPiece_32 lk_X6_28 hy_X6_append rfl (by omega) h1 ⟨_, _, rfl⟩ (Nat.le_of_ble_eq_true rfl) ⟨Nat.le_of_ble_eq_true rfl, Nat.le_of_ble_eq_true rfl⟩ ⟨rfl, rfl⟩ ⟨Nat.le_of_ble_eq_true rfl, Nat.le_of_ble_eq_true rfl⟩ (fun xr1 xN2 μ1 xq3 => ?_)
      obtain ⟨rfl, rfl, hT1, hf1⟩ := xq3
      refine ap_Iinc (lv2 := [(0, .ref t), (1, .ref u), (2, am_i fa), (3, am_i fb), (4, am_i (b : Int)), (5, am_i (z + 1))]) dX6_appendPiece_35 rfl (by decide) rfl ?_
      refine ap_goto (tgt := 17) dX6_appendPiece_38 (by decide) ?_
      exact ih (i + 1) _ μ1 (by omega) (by omega) (by rw [piece_succ (by omega) (by omega), ← List.append_assoc]; exact hT1) (hf.trans hf1) (by omega)

set_option maxHeartbeats 4000000 in
set_option maxRecDepth 100000 in
theorem ct_appendPiece {N : Nat} {μ : am_M} {t u cap cap2 : Nat} {xs ys : List Int} {a b : Nat} {fa fb : Int} (hT : Tx μ t cap xs) (hU : Tx μ u cap2 ys) (hN : t + 1 < N) (hN2 : u + 1 < N) (hd : u + 2 ≤ t ∨ t + 2 ≤ u) (hab : b ≤ ys.length) (hx : xs.length + (b - a) ≤ cap) (hfa : fa = (a : Int) ∧ a ≤ 1000) (hfb : fb = (b : Int)) : am_Met YX6_appendPiece [.ref t, .ref u, am_i fa, am_i fb] N μ (fun r N2 μ2 => r = none ∧ N = N2 ∧ Tx μ2 t cap (xs ++ piece ys a b) ∧ am_fr t (t + 2) μ μ2) := by
  obtain ⟨h1, ⟨g, h2, h3⟩, h4, h5, h6⟩ := id hT
  obtain ⟨k1, ⟨g2, k2, k3⟩, k4, k5, k6⟩ := id hU
  refine am_met (by first | decide | rfl) (Nat.le_of_ble_eq_true rfl) (fun h => by first | rfl | cases h) ?_
  show am_W YX6_appendPiece _ 0 0 0 [(0, .ref t), (1, .ref u), (2, am_i fa), (3, am_i fb)] [] _ _
  refine ap_iload_n dX6_appendPiece_0 rfl rfl ?_
  refine ap_aload_n dX6_appendPiece_1 rfl rfl ?_
  refine ap_get ff_X6_21 dX6_appendPiece_2 (by omega) k1 rfl ?_
  refine ap_min dX6_appendPiece_5 lk_X6_25 ⟨Nat.le_of_ble_eq_true rfl, Nat.le_of_ble_eq_true rfl⟩ ⟨Nat.le_of_ble_eq_true rfl, Nat.le_of_ble_eq_true rfl⟩ (by omega) ?_
  refine ap_topi (b := (b : Int)) (show (if (ys.length : Int) < fb then (ys.length : Int) else fb) = (b : Int) from by split <;> omega) ?_
  refine ap_Istore (lv2 := [(0, .ref t), (1, .ref u), (2, am_i fa), (3, am_i fb), (4, am_i (b : Int))]) dX6_appendPiece_8 (by decide) rfl ?_
  refine ap_iload_n dX6_appendPiece_10 rfl rfl ?_
  refine ap_iconst dX6_appendPiece_11 ?_
  refine ap_max dX6_appendPiece_12 lk_X6_9 ⟨Nat.le_of_ble_eq_true rfl, Nat.le_of_ble_eq_true rfl⟩ ⟨Nat.le_of_ble_eq_true rfl, Nat.le_of_ble_eq_true rfl⟩ (by omega) ?_
  refine ap_topi (b := (a : Int)) (show (if fa < 0 then 0 else fa) = (a : Int) from by split <;> omega) ?_
  refine ap_Istore (lv2 := [(0, .ref t), (1, .ref u), (2, am_i fa), (3, am_i fb), (4, am_i (b : Int)), (5, am_i (a : Int))]) dX6_appendPiece_15 (by decide) rfl ?_
  exact lp_appendPiece hN hN2 hd hab hx hfa.2 hU (b + 1) a _ _ rfl (by omega) (by rw [piece_nil, List.append_nil]; exact hT) am_fr.rf (by omega)

set_option maxHeartbeats 4000000 in
set_option maxRecDepth 100000 in
theorem ct_Text_init {μ : am_M} {t L : Nat} (hL : L ≤ 900) (h1 : μ t = am_O 6 [.null, am_i 0]) : am_Met (YX6_init L) [.ref t, am_i (L : Int)] (t + 1) μ (fun r N2 μ2 => r = none ∧ N2 = t + 2 ∧ Tx μ2 t L [] ∧ ∀ b, b ≠ t → b ≠ t + 1 → μ2 b = μ b) := by
  refine am_met (by first | decide | rfl) (Nat.le_of_ble_eq_true rfl) (fun h => by first | rfl | cases h) ?_
  show am_W (YX6_init L) _ 0 0 0 [(0, .ref t), (1, am_i (L : Int))] [] _ _
  refine ap_aload_n dX6_init_0 rfl rfl ?_
  refine ap_obj dX6_init_1 lk_X6_3 ⟨Nat.le_of_ble_eq_true rfl, Nat.le_of_ble_eq_true rfl⟩ ?_
  refine ap_aload_n dX6_init_4 rfl rfl ?_
  refine ap_iload_n dX6_init_5 rfl rfl ?_
  refine ap_iconst dX6_init_6 ?_
  refine ap_max dX6_init_7 lk_X6_9 ⟨Nat.le_of_ble_eq_true rfl, Nat.le_of_ble_eq_true rfl⟩ ⟨Nat.le_of_ble_eq_true rfl, Nat.le_of_ble_eq_true rfl⟩ (by omega) ?_
  refine ap_topi (b := (L : Int)) (show (if (L : Int) < 0 then 0 else (L : Int)) = (L : Int) from by split <;> omega) ?_
  refine ap_newc (L := L) dX6_init_10 ac_char (rfl) (by omega) (by show 0 + 1 ≤ 1; omega) (by show 0 + L ≤ L; omega) (fun μ1 xe2 xf3 => ?_)
  have xm4 : μ1 t = am_O 6 [.null, am_i 0] := (xf3 _ (by omega)).trans h1
  refine ap_putF (fs2 := [.ref (t + 1), am_i 0]) ff_X6_15 fc_X6_0 dX6_init_12 (by omega) xm4 (fun _ => ⟨rfl, rfl⟩) (Nat.le_of_ble_eq_true rfl) rfl rfl (fun _ _ _ h => by cases h; rfl) (fun μ5 xe6 xf7 => ?_)
  have xm8 : μ5 (t + 1) = am_I 2 L (fun _ => 0) := (xf7 _ (by omega)).trans xe2
  exact ap_vret dX6_init_15 rfl (by show 0 + 1 ≤ 1; omega) (by show 0 + L ≤ L; omega) (⟨rfl, rfl, ⟨xe6, ⟨_, xm8, fun j hj => by cases hj⟩, Nat.zero_le _, hL, fun c hc => by cases hc⟩, fun b hb hb2 => (xf7 b (by omega)).trans ((xf3 b (by omega)))⟩)
