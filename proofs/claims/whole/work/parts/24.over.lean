/-! the overlay: ahead, now, set -/
abbrev OS : Type := (Nat → Nat) × Int × Int
def ofr (n s : Int) (k : Nat) (t : Int) : Int × Int := if s = 0 ∨ t < n then (t, 2 ^ k) else if t = n then (n, s + 2 ^ k) else (n, s)
def ovk (X : Nat → PS) (ah : Nat → Nat) (n0 : Int) (k : Nat) : Int × Int := match k with
  | 0 => (n0, 0)
  | k + 1 => if ah k < p_cnt (X k) then ofr (ovk X ah n0 k).1 (ovk X ah n0 k).2 k (p_B (X k) (ah k)) else ovk X ah n0 k
def onx (X : Nat → PS) (S : OS) : OS := (fun k => S.1 k + ((ovk X S.1 S.2.1 4).2 / 2 ^ k % 2).toNat, (ovk X S.1 S.2.1 4).1, (ovk X S.1 S.2.1 4).2)
def ose (X : Nat → PS) (m : Nat) : OS := match m with
  | 0 => (fun _ => 0, 0, 0)
  | m + 1 => onx X (ose X m)
def Ov (μ : am_M) (S : OS) : Prop := μ 118 = am_O 2 [.ref 119, am_l S.2.1, am_i S.2.2] ∧ ∃ f : Nat → Int, μ 119 = am_I 0 4 f ∧ ∀ k, k < 4 → f k = (S.1 k : Int)
theorem sh1 {z : Int} {k : Nat} (hz : z = (k : Int)) (hk : k < 4) : Int32.ofInt 1 <<< (Int32.ofInt z &&& 31) = Int32.ofInt (2 ^ k) := by
  subst hz
  rcases (show k = 0 ∨ k = 1 ∨ k = 2 ∨ k = 3 by omega) with rfl | rfl | rfl | rfl <;> decide
theorem or1_ : ∀ k, k < 4 → ∀ s, s < 2 ^ k → Int32.ofInt ((s : Nat) : Int) ||| Int32.ofInt (2 ^ k) = Int32.ofInt ((s : Int) + 2 ^ k) := by decide
theorem or1 {s : Int} {k : Nat} (hk : k < 4) (hs : 0 ≤ s ∧ s < 2 ^ k) : Int32.ofInt s ||| Int32.ofInt (2 ^ k) = Int32.ofInt (s + 2 ^ k) := by
  obtain ⟨n, rfl⟩ := Int.eq_ofNat_of_zero_le hs.1
  exact or1_ k hk n (by have := hs.2; rcases (show k = 0 ∨ k = 1 ∨ k = 2 ∨ k = 3 by omega) with rfl | rfl | rfl | rfl <;> simp at this ⊢ <;> omega)
theorem sr1_ : ∀ s, s < 16 → ∀ k, k < 4 → Int32.ofInt ((s : Nat) : Int) >>> (Int32.ofInt ((k : Nat) : Int) &&& 31) = Int32.ofInt (((s / 2 ^ k : Nat)) : Int) := by decide +kernel
theorem an1_ : ∀ s, s < 16 → ∀ k, k < 4 → Int32.ofInt ((s / 2 ^ k : Nat) : Int) &&& Int32.ofInt 1 = Int32.ofInt ((s / 2 ^ k % 2 : Nat) : Int) := by decide +kernel
theorem sr1 {s z : Int} {k : Nat} (hz : z = (k : Int)) (hk : k < 4) (hs : 0 ≤ s ∧ s < 16) : Int32.ofInt s >>> (Int32.ofInt z &&& 31) = Int32.ofInt (s / 2 ^ k) := by
  obtain ⟨n, rfl⟩ := Int.eq_ofNat_of_zero_le hs.1
  subst hz
  rw [sr1_ n (by omega) k hk, Int.natCast_ediv, Int.natCast_pow]; rfl
theorem an1 {s : Int} {k : Nat} (hk : k < 4) (hs : 0 ≤ s ∧ s < 16) : Int32.ofInt (s / 2 ^ k) &&& Int32.ofInt 1 = Int32.ofInt (s / 2 ^ k % 2) := by
  obtain ⟨n, rfl⟩ := Int.eq_ofNat_of_zero_le hs.1
  have h := an1_ n (by omega) k hk
  rw [Int.natCast_emod, Int.natCast_ediv, Int.natCast_pow] at h
  exact h
theorem p2_r {k : Nat} (hk : k ≤ 4) : (1 : Int) ≤ 2 ^ k ∧ (2 : Int) ^ k ≤ 16 := by
  rcases (show k = 0 ∨ k = 1 ∨ k = 2 ∨ k = 3 ∨ k = 4 by omega) with rfl | rfl | rfl | rfl | rfl <;> decide
theorem ofr_r {n s t : Int} {k : Nat} (hs : 0 ≤ s ∧ s < 2 ^ k) : 0 ≤ (ofr n s k t).2 ∧ (ofr n s k t).2 < 2 ^ (k + 1) := by
  have h2 : (2 : Int) ^ (k + 1) = 2 ^ k * 2 := Int.pow_succ 2 k
  unfold ofr
  split
  · dsimp only; omega
  · split <;> dsimp only <;> omega
theorem ovk_r (X : Nat → PS) (ah : Nat → Nat) (n0 : Int) (k : Nat) : 0 ≤ (ovk X ah n0 k).2 ∧ (ovk X ah n0 k).2 < 2 ^ k := by
  induction k with
  | zero => simp [ovk]
  | succ k ih =>
    simp only [ovk]
    split
    · exact ofr_r ih
    · have h2 : (2 : Int) ^ (k + 1) = 2 ^ k * 2 := Int.pow_succ 2 k
      omega
/-- a bit of the set tells a part that has an event ahead -/
theorem ovk_bit (X : Nat → PS) (ah : Nat → Nat) (n0 : Int) {k : Nat} (hk : k ≤ 4) {j : Nat} (hj : j < 4) (h : (ovk X ah n0 k).2 / 2 ^ j % 2 ≠ 0) : ah j < p_cnt (X j) := by
  induction k with
  | zero =>
    rcases (show j = 0 ∨ j = 1 ∨ j = 2 ∨ j = 3 by omega) with rfl | rfl | rfl | rfl <;> simp [ovk] at h
  | succ k ih =>
    have hr := ovk_r X ah n0 k
    simp only [ovk] at h
    by_cases hc : ah k < p_cnt (X k)
    · rw [if_pos hc] at h
      by_cases hjk : j = k
      · rw [hjk]; exact hc
      · refine ih (by omega) (fun q => h ?_)
        generalize hg : ovk X ah n0 k = r at *
        unfold ofr
        rcases (show k = 0 ∨ k = 1 ∨ k = 2 ∨ k = 3 by omega) with rfl | rfl | rfl | rfl <;> rcases (show j = 0 ∨ j = 1 ∨ j = 2 ∨ j = 3 by omega) with rfl | rfl | rfl | rfl <;> (first | (exact absurd rfl hjk) | (simp only [Int.reducePow] at hr q ⊢; split <;> (try split) <;> dsimp only <;> omega))
    · rw [if_neg hc] at h
      exact ih (by omega) h
theorem onx_ok {X : Nat → PS} {S : OS} (h : ∀ k, k < 4 → S.1 k ≤ p_cnt (X k)) : ∀ k, k < 4 → (onx X S).1 k ≤ p_cnt (X k) := by
  intro k hk
  show S.1 k + ((ovk X S.1 S.2.1 4).2 / 2 ^ k % 2).toNat ≤ _
  have h0 := h k hk
  by_cases hb : (ovk X S.1 S.2.1 4).2 / 2 ^ k % 2 = 0
  · rw [hb]; simpa using h0
  · have := ovk_bit X S.1 S.2.1 (Nat.le_refl 4) hk hb
    omega
theorem ose_ok (X : Nat → PS) (m : Nat) : ∀ k, k < 4 → (ose X m).1 k ≤ p_cnt (X k) := by
  induction m with
  | zero => intro k hk; exact Nat.zero_le _
  | succ m ih => exact onx_ok ih
set_option maxHeartbeats 4000000 in
set_option maxRecDepth 100000 in
theorem ct_ostart {N : Nat} {μ : am_M} (hN : 120 ≤ N) {zn zs : Int} {f : Nat → Int} (h1 : μ 118 = am_O 2 [.ref 119, am_l zn, am_i zs]) (h2 : μ 119 = am_I 0 4 f) : am_Met YX2_start [.ref 118] N μ (fun r N2 μ2 => r = none ∧ N = N2 ∧ Ov μ2 (fun _ => 0, 0, 0) ∧ am_fr 118 120 μ μ2) := by
  refine am_met (by first | decide | rfl) (Nat.le_of_ble_eq_true rfl) (fun h => by first | rfl | cases h) ?_
  show am_W YX2_start _ 0 0 0 [(0, .ref 118)] [] _ _
  refine ap_iconst dX2_start_0 ?_
  refine ap_Istore_n (lv2 := [(0, .ref 118), (1, am_i 0)]) dX2_start_1 rfl (by decide) rfl ?_
  refine ap_iload_n dX2_start_2 rfl rfl ?_
  refine ap_iconst dX2_start_3 ?_
  refine ap_icmp_ge (tgt := 20) dX2_start_4 (by decide) (by omega) (fun c4 => (by exfalso; omega)) (fun c4 => ?_)
  refine ap_aload_n dX2_start_7 rfl rfl ?_
  refine ap_get ff_X2_9 dX2_start_8 (by omega) h1 rfl ?_
  refine ap_iload_n dX2_start_11 rfl rfl ?_
  refine ap_iconst dX2_start_12 ?_
  refine ap_iast (j := 0) dX2_start_13 (by omega) h2 (by omega) (by omega) (fun μ1 xe2 xf3 => ?_)
  refine ap_Iinc (lv2 := [(0, .ref 118), (1, am_i (0 + 1))]) dX2_start_14 rfl (by decide) rfl ?_
  refine ap_goto (tgt := 2) dX2_start_17 (by decide) ?_
  refine ap_iload_n dX2_start_2 rfl rfl ?_
  refine ap_iconst dX2_start_3 ?_
  refine ap_icmp_ge (tgt := 20) dX2_start_4 (by decide) (by omega) (fun c4 => (by exfalso; omega)) (fun c4 => ?_)
  refine ap_aload_n dX2_start_7 rfl rfl ?_
  have xm4 : μ1 118 = am_O 2 [.ref 119, am_l zn, am_i zs] := (xf3 _ (by omega)).trans h1
  refine ap_get ff_X2_9 dX2_start_8 (by omega) xm4 rfl ?_
  refine ap_iload_n dX2_start_11 rfl rfl ?_
  refine ap_iconst dX2_start_12 ?_
  refine ap_iast (j := 1) dX2_start_13 (by omega) xe2 (by omega) (by omega) (fun μ5 xe6 xf7 => ?_)
  refine ap_Iinc (lv2 := [(0, .ref 118), (1, am_i ((0 + 1) + 1))]) dX2_start_14 rfl (by decide) rfl ?_
  refine ap_goto (tgt := 2) dX2_start_17 (by decide) ?_
  refine ap_iload_n dX2_start_2 rfl rfl ?_
  refine ap_iconst dX2_start_3 ?_
  refine ap_icmp_ge (tgt := 20) dX2_start_4 (by decide) (by omega) (fun c4 => (by exfalso; omega)) (fun c4 => ?_)
  refine ap_aload_n dX2_start_7 rfl rfl ?_
  have xm8 : μ5 118 = am_O 2 [.ref 119, am_l zn, am_i zs] := (xf7 _ (by omega)).trans xm4
  refine ap_get ff_X2_9 dX2_start_8 (by omega) xm8 rfl ?_
  refine ap_iload_n dX2_start_11 rfl rfl ?_
  refine ap_iconst dX2_start_12 ?_
  refine ap_iast (j := 2) dX2_start_13 (by omega) xe6 (by omega) (by omega) (fun μ9 xe10 xf11 => ?_)
  refine ap_Iinc (lv2 := [(0, .ref 118), (1, am_i (((0 + 1) + 1) + 1))]) dX2_start_14 rfl (by decide) rfl ?_
  refine ap_goto (tgt := 2) dX2_start_17 (by decide) ?_
  refine ap_iload_n dX2_start_2 rfl rfl ?_
  refine ap_iconst dX2_start_3 ?_
  refine ap_icmp_ge (tgt := 20) dX2_start_4 (by decide) (by omega) (fun c4 => (by exfalso; omega)) (fun c4 => ?_)
  refine ap_aload_n dX2_start_7 rfl rfl ?_
  have xm12 : μ9 118 = am_O 2 [.ref 119, am_l zn, am_i zs] := (xf11 _ (by omega)).trans xm8
  refine ap_get ff_X2_9 dX2_start_8 (by omega) xm12 rfl ?_
  refine ap_iload_n dX2_start_11 rfl rfl ?_
  refine ap_iconst dX2_start_12 ?_
  refine ap_iast (j := 3) dX2_start_13 (by omega) xe10 (by omega) (by omega) (fun μ13 xe14 xf15 => ?_)
  refine ap_Iinc (lv2 := [(0, .ref 118), (1, am_i ((((0 + 1) + 1) + 1) + 1))]) dX2_start_14 rfl (by decide) rfl ?_
  refine ap_goto (tgt := 2) dX2_start_17 (by decide) ?_
  refine ap_iload_n dX2_start_2 rfl rfl ?_
  refine ap_iconst dX2_start_3 ?_
  refine ap_icmp_ge (tgt := 20) dX2_start_4 (by decide) (by omega) (fun c4 => ?_) (fun c4 => (by exfalso; omega))
  refine ap_aload_n dX2_start_20 rfl rfl ?_
  refine ap_lconst (v := 0) dX2_start_21 rfl ?_
  have xm16 : μ13 118 = am_O 2 [.ref 119, am_l zn, am_i zs] := (xf15 _ (by omega)).trans xm12
  refine ap_put (fs2 := [.ref 119, am_l 0, am_i zs]) ff_X2_15 fc_X2_1 dX2_start_22 (by omega) xm16 (fun _ => ⟨rfl, rfl⟩) (Nat.le_of_ble_eq_true rfl) rfl (fun μ17 xe18 xf19 => ?_)
  refine ap_aload_n dX2_start_25 rfl rfl ?_
  refine ap_iconst dX2_start_26 ?_
  refine ap_put (fs2 := [.ref 119, am_l 0, am_i 0]) ff_X2_19 fc_X2_2 dX2_start_27 (by omega) xe18 (fun _ => ⟨rfl, rfl⟩) (Nat.le_of_ble_eq_true rfl) rfl (fun μ20 xe21 xf22 => ?_)
  have xm23 : μ20 119 = am_I 0 4 (va_up (va_up (va_up (va_up f 0 0) 1 0) 2 0) 3 0) := (xf22 _ (by omega)).trans ((xf19 _ (by omega)).trans xe14)
  exact ap_vret dX2_start_30 rfl (Nat.le_of_ble_eq_true rfl) (Nat.le_of_ble_eq_true rfl) (⟨rfl, rfl, ⟨xe21, _, xm23, fun k hk => by rcases (show k = 0 ∨ k = 1 ∨ k = 2 ∨ k = 3 by omega) with rfl | rfl | rfl | rfl <;> simp [va_up]⟩, fun b hb => (xf22 b (by omega)).trans ((xf19 b (by omega)).trans ((xf15 b (by omega)).trans ((xf11 b (by omega)).trans ((xf7 b (by omega)).trans ((xf3 b (by omega)))))))⟩)

set_option maxHeartbeats 4000000 in
set_option maxRecDepth 100000 in
theorem ct_onow {N : Nat} {μ : am_M} (hN : 120 ≤ N) {S : OS} (hO : Ov μ S) : am_Met YX2_now [.ref 118] N μ (am_pv (am_l S.2.1) N μ) := by
  obtain ⟨h1, f, h2, h3⟩ := id hO
  refine am_met (by first | decide | rfl) (Nat.le_of_ble_eq_true rfl) (fun h => by first | rfl | cases h) ?_
  show am_W YX2_now _ 0 0 0 [(0, .ref 118)] [] _ _
  refine ap_aload_n dX2_now_0 rfl rfl ?_
  refine ap_get ff_X2_15 dX2_now_1 (by omega) h1 rfl ?_
  exact ap_lret dX2_now_4 rfl (Nat.le_of_ble_eq_true rfl) (Nat.le_of_ble_eq_true rfl) (⟨rfl, rfl, rfl⟩)

set_option maxHeartbeats 4000000 in
set_option maxRecDepth 100000 in
theorem ct_oset {N : Nat} {μ : am_M} (hN : 120 ≤ N) {S : OS} (hO : Ov μ S) : am_Met YX2_set [.ref 118] N μ (am_pv (am_i S.2.2) N μ) := by
  obtain ⟨h1, f, h2, h3⟩ := id hO
  refine am_met (by first | decide | rfl) (Nat.le_of_ble_eq_true rfl) (fun h => by first | rfl | cases h) ?_
  show am_W YX2_set _ 0 0 0 [(0, .ref 118)] [] _ _
  refine ap_aload_n dX2_set_0 rfl rfl ?_
  refine ap_get ff_X2_19 dX2_set_1 (by omega) h1 rfl ?_
  exact ap_iret dX2_set_4 rfl rfl (Nat.le_of_ble_eq_true rfl) (Nat.le_of_ble_eq_true rfl) (⟨rfl, rfl, rfl⟩)

set_option maxHeartbeats 4000000 in
set_option maxRecDepth 100000 in
theorem ct_offer {N : Nat} {μ : am_M} (hN : 120 ≤ N) {n s t z : Int} {k : Nat} (h1 : μ 118 = am_O 2 [.ref 119, am_l n, am_i s]) (hz : z = (k : Int)) (hk : k < 4) (hs : 0 ≤ s ∧ s < 2 ^ k) (hn : -1000000000000000 ≤ n ∧ n ≤ 1000000000000000) (ht : 0 ≤ t ∧ t ≤ 140000000000000) : am_Met YX2_offer [.ref 118, am_i z, am_l t] N μ (fun r N2 μ2 => r = none ∧ N = N2 ∧ μ2 118 = am_O 2 [.ref 119, am_l (ofr n s k t).1, am_i (ofr n s k t).2] ∧ ∀ b, b ≠ 118 → μ2 b = μ b) := by
  have hp2 := p2_r (k := k) (by omega)
  refine am_met (by first | decide | rfl) (Nat.le_of_ble_eq_true rfl) (fun h => by first | rfl | cases h) ?_
  show am_W YX2_offer _ 0 0 0 [(0, .ref 118), (1, am_i z), (2, am_l t)] [] _ _
  refine ap_aload_n dX2_offer_0 rfl rfl ?_
  refine ap_get ff_X2_19 dX2_offer_1 (by omega) h1 rfl ?_
  refine ap_if_eq (tgt := 16) dX2_offer_4 (by decide) (by omega) (fun c4 => ?_) (fun c4 => ?_)
  · refine ap_aload_n dX2_offer_16 rfl rfl ?_
    refine ap_lload_n dX2_offer_17 rfl rfl ?_
    refine ap_put (fs2 := [.ref 119, am_l t, am_i s]) ff_X2_15 fc_X2_1 dX2_offer_18 (by omega) h1 (fun _ => ⟨rfl, rfl⟩) (Nat.le_of_ble_eq_true rfl) rfl (fun μ1 xe2 xf3 => ?_)
    refine ap_aload_n dX2_offer_21 rfl rfl ?_
    refine ap_iconst dX2_offer_22 ?_
    refine ap_iload_n dX2_offer_23 rfl rfl ?_
    refine ap_ishl (r := 2 ^ k) dX2_offer_24 (sh1 hz hk) ?_
    refine ap_put (fs2 := [.ref 119, am_l t, am_i (2 ^ k)]) ff_X2_19 fc_X2_2 dX2_offer_25 (by omega) xe2 (fun _ => ⟨rfl, rfl⟩) (Nat.le_of_ble_eq_true rfl) rfl (fun μ4 xe5 xf6 => ?_)
    refine ap_goto (tgt := 52) dX2_offer_28 (by decide) ?_
    exact ap_vret dX2_offer_52 rfl (Nat.le_of_ble_eq_true rfl) (Nat.le_of_ble_eq_true rfl) (⟨rfl, rfl, by rw [xe5, ofr, if_pos (by omega)], fun b hb => (xf6 b (by omega)).trans ((xf3 b (by omega)))⟩)
  · refine ap_lload_n dX2_offer_7 rfl rfl ?_
    refine ap_aload_n dX2_offer_8 rfl rfl ?_
    refine ap_get ff_X2_15 dX2_offer_9 (by omega) h1 rfl ?_
    refine ap_lcmp_ge (tgt := 31) dX2_offer_12 dX2_offer_13 (by decide) (by omega) (fun c12 => ?_) (fun c12 => ?_)
    · refine ap_lload_n dX2_offer_31 rfl rfl ?_
      refine ap_aload_n dX2_offer_32 rfl rfl ?_
      refine ap_get ff_X2_15 dX2_offer_33 (by omega) h1 rfl ?_
      refine ap_lcmp_ne (tgt := 52) dX2_offer_36 dX2_offer_37 (by decide) (by omega) (fun c36 => ?_) (fun c36 => ?_)
      · exact ap_vret dX2_offer_52 rfl (Nat.le_of_ble_eq_true rfl) (Nat.le_of_ble_eq_true rfl) (⟨rfl, rfl, by rw [h1, ofr, if_neg (by omega), if_neg (by omega)], fun b hb => rfl⟩)
      · refine ap_aload_n dX2_offer_40 rfl rfl ?_
        refine ap_dup dX2_offer_41 rfl ?_
        refine ap_get ff_X2_19 dX2_offer_42 (by omega) h1 rfl ?_
        refine ap_iconst dX2_offer_45 ?_
        refine ap_iload_n dX2_offer_46 rfl rfl ?_
        refine ap_ishl (r := 2 ^ k) dX2_offer_47 (sh1 hz hk) ?_
        refine ap_ior (r := s + 2 ^ k) dX2_offer_48 (or1 hk hs) ?_
        refine ap_put (fs2 := [.ref 119, am_l n, am_i (s + 2 ^ k)]) ff_X2_19 fc_X2_2 dX2_offer_49 (by omega) h1 (fun _ => ⟨rfl, rfl⟩) (Nat.le_of_ble_eq_true rfl) rfl (fun μ7 xe8 xf9 => ?_)
        exact ap_vret dX2_offer_52 rfl (Nat.le_of_ble_eq_true rfl) (Nat.le_of_ble_eq_true rfl) (⟨rfl, rfl, by rw [xe8, ofr, if_neg (by omega), if_pos (by omega)], fun b hb => (xf9 b (by omega))⟩)
    · refine ap_aload_n dX2_offer_16 rfl rfl ?_
      refine ap_lload_n dX2_offer_17 rfl rfl ?_
      refine ap_put (fs2 := [.ref 119, am_l t, am_i s]) ff_X2_15 fc_X2_1 dX2_offer_18 (by omega) h1 (fun _ => ⟨rfl, rfl⟩) (Nat.le_of_ble_eq_true rfl) rfl (fun μ10 xe11 xf12 => ?_)
      refine ap_aload_n dX2_offer_21 rfl rfl ?_
      refine ap_iconst dX2_offer_22 ?_
      refine ap_iload_n dX2_offer_23 rfl rfl ?_
      refine ap_ishl (r := 2 ^ k) dX2_offer_24 (sh1 hz hk) ?_
      refine ap_put (fs2 := [.ref 119, am_l t, am_i (2 ^ k)]) ff_X2_19 fc_X2_2 dX2_offer_25 (by omega) xe11 (fun _ => ⟨rfl, rfl⟩) (Nat.le_of_ble_eq_true rfl) rfl (fun μ13 xe14 xf15 => ?_)
      refine ap_goto (tgt := 52) dX2_offer_28 (by decide) ?_
      exact ap_vret dX2_offer_52 rfl (Nat.le_of_ble_eq_true rfl) (Nat.le_of_ble_eq_true rfl) (⟨rfl, rfl, by rw [xe14, ofr, if_pos (by omega)], fun b hb => (xf15 b (by omega)).trans ((xf12 b (by omega)))⟩)

theorem ovk_n {X : Nat → PS} {ah : Nat → Nat} {n0 : Int} (hn : -1000000000000000 ≤ n0 ∧ n0 ≤ 1000000000000000) (hb : ∀ k, k < 4 → ah k < p_cnt (X k) → 0 ≤ p_B (X k) (ah k) ∧ p_B (X k) (ah k) ≤ 140000000000000) {k : Nat} (hk : k ≤ 4) : -1000000000000000 ≤ (ovk X ah n0 k).1 ∧ (ovk X ah n0 k).1 ≤ 1000000000000000 := by
  induction k with
  | zero => exact hn
  | succ k ih =>
    have h1 := ih (by omega)
    simp only [ovk]
    split
    · rename_i hc
      have h2 := hb k (by omega) hc
      unfold ofr
      split
      · dsimp only; omega
      · split <;> dsimp only <;> omega
    · exact h1
set_option maxHeartbeats 4000000 in
set_option maxRecDepth 100000 in
theorem lp_adv2 {N : Nat} {μ0 : am_M} {x : Nat → List Int} {X : Nat → PS} (hXe : ∀ k, k < 4 → X k = psc (x k)) {S : OS} (hN : 120 ≤ N) (hah : ∀ k, k < 4 → S.1 k ≤ p_cnt (X k)) (h00 : 0 ≤ 0) : ∀ (nn : Nat) (k : Nat) (z : Int) (μ : am_M) (f : Nat → Int), z = (k : Int) → k ≤ 4 → μ 118 = am_O 2 [.ref 119, am_l (ovk X S.1 S.2.1 4).1, am_i (ovk X S.1 S.2.1 4).2] → μ 119 = am_I 0 4 f → (∀ j, j < 4 → f j = (if j < k then (S.1 j : Int) + (ovk X S.1 S.2.1 4).2 / 2 ^ j % 2 else (S.1 j : Int))) → am_fr 118 120 μ0 μ → 4 - k < nn → am_W YX2_advance (fun r N2 μ2 => r = some (am_i (if (onx X S).2.2 = 0 then 0 else 1)) ∧ N = N2 ∧ Ov μ2 (onx X S) ∧ am_fr 118 120 μ0 μ2) 0 0 61 [(0, .ref 118), (1, .ref 6), (2, am_i z)] [] N μ := by
  intro nn
  induction nn with
  | zero =>
    intro k z μ f hz hk4 h1 h2 h3 hf hms
    exfalso; omega
  | succ nn ih =>
    intro k z μ f hz hk4 h1 h2 h3 hf hms
    have hsr : 0 ≤ (ovk X S.1 S.2.1 4).2 ∧ (ovk X S.1 S.2.1 4).2 < 16 := ovk_r X S.1 S.2.1 4
    refine ap_iload_n dX2_advance_61 rfl rfl ?_
    refine ap_iconst dX2_advance_62 ?_
    refine ap_icmp_ge (tgt := 89) dX2_advance_63 (by decide) (by omega) (fun c63 => ?_) (fun c63 => ?_)
    · refine ap_aload_n dX2_advance_89 rfl rfl ?_
      refine ap_get ff_X2_19 dX2_advance_90 (by omega) h1 rfl ?_
      refine ap_if_eq (tgt := 100) dX2_advance_93 (by decide) (by omega) (fun c93 => ?_) (fun c93 => ?_)
      · refine ap_iconst dX2_advance_100 ?_
        exact ap_iret dX2_advance_101 rfl (am_nz (by first | omega | decide)) (Nat.le_of_ble_eq_true rfl) (Nat.le_of_ble_eq_true rfl) (⟨by rw [if_pos (show (onx X S).2.2 = 0 from c93)], rfl, ⟨h1, f, h2, fun j hj => by
    rw [h3 j hj, if_pos (by omega)]
    show _ = ((S.1 j + ((ovk X S.1 S.2.1 4).2 / 2 ^ j % 2).toNat : Nat) : Int)
    have := Int.emod_nonneg ((ovk X S.1 S.2.1 4).2 / 2 ^ j) (show (2 : Int) ≠ 0 by omega)
    omega⟩, hf⟩)
      · refine ap_iconst dX2_advance_96 ?_
        refine ap_goto (tgt := 101) dX2_advance_97 (by decide) ?_
        exact ap_iret dX2_advance_101 rfl (am_nz (by first | omega | decide)) (Nat.le_of_ble_eq_true rfl) (Nat.le_of_ble_eq_true rfl) (⟨by rw [if_neg (show ¬ (onx X S).2.2 = 0 from c93)], rfl, ⟨h1, f, h2, fun j hj => by
    rw [h3 j hj, if_pos (by omega)]
    show _ = ((S.1 j + ((ovk X S.1 S.2.1 4).2 / 2 ^ j % 2).toNat : Nat) : Int)
    have := Int.emod_nonneg ((ovk X S.1 S.2.1 4).2 / 2 ^ j) (show (2 : Int) ≠ 0 by omega)
    omega⟩, hf⟩)
    · have hk : k < 4 := by omega
      refine ap_aload_n dX2_advance_66 rfl rfl ?_
      refine ap_get ff_X2_9 dX2_advance_67 (by omega) h1 rfl ?_
      refine ap_iload_n dX2_advance_70 rfl rfl ?_
      refine ap_dup2 dX2_advance_71 rfl rfl ?_
      refine ap_iald (j := k) dX2_advance_72 (by omega) h2 (by omega) (by omega) ?_
      refine ap_aload_n dX2_advance_73 rfl rfl ?_
      refine ap_get ff_X2_19 dX2_advance_74 (by omega) h1 rfl ?_
      refine ap_iload_n dX2_advance_77 rfl rfl ?_
      refine ap_ishr (r := (ovk X S.1 S.2.1 4).2 / 2 ^ k) dX2_advance_78 (sr1 hz hk hsr) ?_
      refine ap_iconst dX2_advance_79 ?_
      refine ap_iand (r := (ovk X S.1 S.2.1 4).2 / 2 ^ k % 2) dX2_advance_80 (an1 hk hsr) ?_
      refine ap_iadd dX2_advance_81 ?_
      refine ap_iast (j := k) dX2_advance_82 (by omega) h2 (by omega) (by omega) (fun μ1 xe2 xf3 => ?_)
      refine ap_Iinc (lv2 := [(0, .ref 118), (1, .ref 6), (2, am_i (z + 1))]) dX2_advance_83 rfl (by decide) rfl ?_
      refine ap_goto (tgt := 61) dX2_advance_86 (by decide) ?_
      have xm4 : μ1 118 = am_O 2 [.ref 119, am_l ((ovk X S.1 S.2.1 4).1), am_i ((ovk X S.1 S.2.1 4).2)] := (xf3 _ (by omega)).trans h1
      exact ih (k + 1) _ _ _ (by omega) (by omega) xm4 xe2 (fun j hj => by
        by_cases hjk : j = k
        · subst hjk; rw [va_upe, h3 j hj, if_neg (by omega), if_pos (by omega)]
        · rw [va_upn hjk, h3 j hj]
          by_cases hlt : j < k
          · rw [if_pos hlt, if_pos (by omega)]
          · rw [if_neg hlt, if_neg (by omega)]) (fun b hb => ((xf3 b (by omega))).trans (hf b hb)) (by omega)

set_option maxHeartbeats 4000000 in
set_option maxRecDepth 100000 in
theorem lp_adv1 {N : Nat} {μ0 : am_M} {x : Nat → List Int} {X : Nat → PS} (hXe : ∀ k, k < 4 → X k = psc (x k)) {S : OS} (hN : 120 ≤ N) (hP0 : Pts μ0 x) (hah : ∀ k, k < 4 → S.1 k ≤ p_cnt (X k)) (hnr : -1000000000000000 ≤ S.2.1 ∧ S.2.1 ≤ 1000000000000000) (hbb : ∀ k, k < 4 → S.1 k < p_cnt (X k) → 0 ≤ p_B (X k) (S.1 k) ∧ p_B (X k) (S.1 k) ≤ 140000000000000) : ∀ (nn : Nat) (k : Nat) (z : Int) (μ : am_M), z = (k : Int) → k ≤ 4 → μ 118 = am_O 2 [.ref 119, am_l (ovk X S.1 S.2.1 k).1, am_i (ovk X S.1 S.2.1 k).2] → (∃ f : Nat → Int, μ 119 = am_I 0 4 f ∧ ∀ j, j < 4 → f j = (S.1 j : Int)) → am_fr 118 120 μ0 μ → 4 - k < nn → am_W YX2_advance (fun r N2 μ2 => r = some (am_i (if (onx X S).2.2 = 0 then 0 else 1)) ∧ N = N2 ∧ Ov μ2 (onx X S) ∧ am_fr 118 120 μ0 μ2) 0 0 7 [(0, .ref 118), (1, .ref 6), (2, am_i z)] [] N μ := by
  intro nn
  induction nn with
  | zero =>
    intro k z μ hz hk4 h1 hff hf hms
    exfalso; omega
  | succ nn ih =>
    intro k z μ hz hk4 h1 hff hf hms
    have hP := hP0.kept (μ2 := μ) (fun b q1 q2 => hf b (by omega))
    obtain ⟨⟨fp, h6, h7⟩, -⟩ := id hP
    obtain ⟨f, h2, h3⟩ := hff
    refine ap_iload_n dX2_advance_7 rfl rfl ?_
    refine ap_iconst dX2_advance_8 ?_
    refine ap_icmp_ge (tgt := 59) dX2_advance_9 (by decide) (by omega) (fun c9 => ?_) (fun c9 => ?_)
    · refine ap_iconst dX2_advance_59 ?_
      refine ap_Istore_n (lv2 := [(0, .ref 118), (1, .ref 6), (2, am_i 0)]) dX2_advance_60 rfl (by decide) rfl ?_
      obtain rfl : k = 4 := by omega
      exact lp_adv2 hXe hN hah (by omega) 5 0 0 _ _ rfl (by omega) h1 h2 (fun j hj => by rw [h3 j hj, if_neg (by omega)]) hf (by omega)
    · refine ap_iload_n dX2_advance_12 rfl rfl ?_
      refine ap_aload_n dX2_advance_13 rfl rfl ?_
      refine ap_alen (L := 4) dX2_advance_14 (by omega) h6 (by decide) ?_
      refine ap_icmp_ge (tgt := 59) dX2_advance_15 (by decide) (by omega) (fun c15 => (by exfalso; omega)) (fun c15 => ?_)
      have hk : k < 4 := by omega
      have hS : Sco μ (7 + 15 * k + 5) (psc (x k)) := (hP.2 k hk).2.2.2.1
      have hpk := psc_ok (hP.2 k hk).2.2.2.2
      rw [← hXe k hk] at hS hpk
      have hfk := h3 k hk
      have hak := hah k hk
      have hcn := hpk.1
      have hsr := ovk_r X S.1 S.2.1 k
      refine ap_aload_n dX2_advance_18 rfl rfl ?_
      refine ap_iload_n dX2_advance_19 rfl rfl ?_
      refine ap_aald4 (j := k) (r := 7 + 15 * k) dX2_advance_20 (by omega) h6 (by omega) (by omega) (h7 k hk) ?_
      refine ap_getN ff_X2_23 dX2_advance_21 (by omega) (hP.2 k hk).1 rfl ?_
      refine ap_Astore_n (lv2 := [(0, .ref 118), (1, .ref 6), (2, am_i z), (3, .ref (7 + 15 * k + 5))]) dX2_advance_24 rfl (by decide) rfl ?_
      refine ap_aload_n dX2_advance_25 rfl rfl ?_
      refine ap_aload_n dX2_advance_26 rfl rfl ?_
      refine ap_get ff_X2_9 dX2_advance_27 (by omega) h1 rfl ?_
      refine ap_iload_n dX2_advance_30 rfl rfl ?_
      refine ap_iald (j := k) dX2_advance_31 (by omega) h2 (by omega) (by omega) ?_
      refine ap_cV (As := [am_i (f k)]) (rest := []) (ct_hasEvent hS (by omega) hpk (by omega)) dX2_advance_32 lk_X2_29 hy_X4_hasEvent rfl (by omega) hS.1 ⟨_, _, rfl⟩ (Nat.le_of_ble_eq_true rfl) ⟨Nat.le_of_ble_eq_true rfl, Nat.le_of_ble_eq_true rfl⟩ ⟨rfl, rfl⟩ ⟨Nat.le_of_ble_eq_true rfl, Nat.le_of_ble_eq_true rfl⟩ (fun xr1 xN2 μ3 xq4 => ?_)
      obtain ⟨rfl, rfl, rfl⟩ := xq4
      refine ap_if_eq (tgt := 53) dX2_advance_35 (by decide) (by split <;> omega) (fun c35 => ?_) (fun c35 => ?_)
      · refine ap_Iinc (lv2 := [(0, .ref 118), (1, .ref 6), (2, am_i (z + 1)), (3, .ref (7 + 15 * k + 5))]) dX2_advance_53 rfl (by decide) rfl ?_
        refine ap_goto (tgt := 7) dX2_advance_56 (by decide) ?_
        refine ap_pick (lv2 := [(0, .ref 118), (1, .ref 6), (2, am_i (z + 1))]) [0, 1, 2] rfl ?_
        exact ih (k + 1) _ _ (by omega) (by omega) (by rw [ovk, if_neg (fun q => by rw [if_pos (by omega)] at c35; omega)]; exact h1) ⟨f, h2, h3⟩ hf (by omega)
      · have hev : S.1 k < p_cnt (X k) := by
          by_cases q : 0 ≤ f k ∧ f k < p_cnt (X k)
          · omega
          · rw [if_neg q] at c35; omega
        have ge := hpk.2.2.2.2.2.2.2.1 (S.1 k) hev
        refine ap_aload_n dX2_advance_38 rfl rfl ?_
        refine ap_iload_n dX2_advance_39 rfl rfl ?_
        refine ap_aload_n dX2_advance_40 rfl rfl ?_
        refine ap_aload_n dX2_advance_41 rfl rfl ?_
        refine ap_get ff_X2_9 dX2_advance_42 (by omega) h1 rfl ?_
        refine ap_iload_n dX2_advance_45 rfl rfl ?_
        refine ap_iald (j := k) dX2_advance_46 (by omega) h2 (by omega) (by omega) ?_
        refine ap_cV (As := [am_i (f k)]) (rest := [am_i z, .ref 118]) (ct_begin hS (by omega) hpk (by omega)) dX2_advance_47 lk_X2_35 hy_X4_begin rfl (by omega) hS.1 ⟨_, _, rfl⟩ (Nat.le_of_ble_eq_true rfl) ⟨Nat.le_of_ble_eq_true rfl, Nat.le_of_ble_eq_true rfl⟩ ⟨rfl, rfl⟩ ⟨Nat.le_of_ble_eq_true rfl, Nat.le_of_ble_eq_true rfl⟩ (fun xr5 xN6 μ7 xq8 => ?_)
        obtain ⟨rfl, rfl, rfl⟩ := xq8
        refine ap_topl (b := p_B (X k) (S.1 k)) (show (if 0 ≤ f k ∧ f k < p_cnt (X k) then p_B (X k) (f k).toNat else 0) = (p_B (X k) (S.1 k)) from by rw [if_pos (by omega), hfk]; rfl) ?_
        refine ap_cV (As := [am_i z, am_l (p_B (X k) (S.1 k))]) (rest := []) (ct_offer (k := k) hN h1 hz hk hsr (ovk_n hnr hbb (by omega)) (by have := hpk.2.2.1; omega)) dX2_advance_50 lk_X2_39 hy_X2_offer rfl (by omega) h1 ⟨_, _, rfl⟩ (Nat.le_of_ble_eq_true rfl) ⟨Nat.le_of_ble_eq_true rfl, Nat.le_of_ble_eq_true rfl⟩ ⟨rfl, rfl⟩ ⟨Nat.le_of_ble_eq_true rfl, Nat.le_of_ble_eq_true rfl⟩ (fun xr9 xN10 μz xq11 => ?_)
        obtain ⟨rfl, rfl, hz1, hz2⟩ := xq11
        refine ap_Iinc (lv2 := [(0, .ref 118), (1, .ref 6), (2, am_i (z + 1)), (3, .ref (7 + 15 * k + 5))]) dX2_advance_53 rfl (by decide) rfl ?_
        refine ap_goto (tgt := 7) dX2_advance_56 (by decide) ?_
        refine ap_pick (lv2 := [(0, .ref 118), (1, .ref 6), (2, am_i (z + 1))]) [0, 1, 2] rfl ?_
        exact ih (k + 1) _ μz (by omega) (by omega) (by rw [ovk, if_pos hev]; exact hz1) ⟨f, (hz2 _ (by omega)).trans h2, h3⟩ (fun b hb => (hz2 b (by omega)).trans (hf b hb)) (by omega)

set_option maxHeartbeats 4000000 in
set_option maxRecDepth 100000 in
theorem ct_advance {N : Nat} {μ : am_M} {x : Nat → List Int} {X : Nat → PS} (hXe : ∀ k, k < 4 → X k = psc (x k)) {S : OS} (hN : 120 ≤ N) (hP0 : Pts μ x) (hah : ∀ k, k < 4 → S.1 k ≤ p_cnt (X k)) (hnr : -1000000000000000 ≤ S.2.1 ∧ S.2.1 ≤ 1000000000000000) (hO : Ov μ S) : am_Met YX2_advance [.ref 118, .ref 6] N μ (fun r N2 μ2 => r = some (am_i (if (onx X S).2.2 = 0 then 0 else 1)) ∧ N = N2 ∧ Ov μ2 (onx X S) ∧ am_fr 118 120 μ μ2) := by
  obtain ⟨h1, f, h2, h3⟩ := id hO
  refine am_met (by first | decide | rfl) (Nat.le_of_ble_eq_true rfl) (fun h => by first | rfl | cases h) ?_
  show am_W YX2_advance _ 0 0 0 [(0, .ref 118), (1, .ref 6)] [] _ _
  refine ap_aload_n dX2_advance_0 rfl rfl ?_
  refine ap_iconst dX2_advance_1 ?_
  refine ap_put (fs2 := [.ref 119, am_l S.2.1, am_i 0]) ff_X2_19 fc_X2_2 dX2_advance_2 (by omega) h1 (fun _ => ⟨rfl, rfl⟩) (Nat.le_of_ble_eq_true rfl) rfl (fun μ1 xe2 xf3 => ?_)
  refine ap_iconst dX2_advance_5 ?_
  refine ap_Istore_n (lv2 := [(0, .ref 118), (1, .ref 6), (2, am_i 0)]) dX2_advance_6 rfl (by decide) rfl ?_
  have xm4 : μ1 119 = am_I 0 4 f := (xf3 _ (by omega)).trans h2
  refine am_mono (lp_adv1 hXe hN (hP0.kept (fun b q1 q2 => (xf3 b (by omega)))) hah hnr (fun k hk hc => by
    have hpk := psc_ok (hP0.2 k hk).2.2.2.2
    rw [← hXe k hk] at hpk
    have := hpk.2.2.2.2.2.2.2.1 _ hc
    have := hpk.2.2.1
    omega) 5 0 _ _ rfl (by omega) xe2 ⟨f, xm4, h3⟩ am_fr.rf (by omega)) (fun r N2 μ2 hq => ⟨hq.1, hq.2.1, hq.2.2.1, fun b hb => (hq.2.2.2 b hb).trans ((xf3 b (by omega)))⟩)

def xs_ (C : Snap) : Nat → PS := fun k => psc (s_t C k)
def tml (X : Nat → PS) (m : Nat) : Nat := if m < 1200 then (if (ose X (m + 1)).2.2 = 0 then m else tml X (m + 1)) else 1200
termination_by 1200 - m
def tmo (X : Nat → PS) (i : Nat) (w : Int) (m : Nat) : Int := if m ≤ i then (if (ose X (m + 1)).2.2 = 0 then -1 else tmo X i w (m + 1)) else if w = 2 then (ose X m).2.2 else sd ((ose X m).2.1).toNat 812851200 w
termination_by i + 1 - m
theorem ose_n {X : Nat → PS} (hX : ∀ k, k < 4 → pok (X k)) (m : Nat) : (-1000000000000000 ≤ (ose X m).2.1 ∧ (ose X m).2.1 ≤ 1000000000000000) := by
  induction m with
  | zero => exact ⟨by show (-1000000000000000 : Int) ≤ 0; omega, by show (0 : Int) ≤ 1000000000000000; omega⟩
  | succ m ih =>
    refine ovk_n ih (fun k hk hc => ?_) (Nat.le_refl 4)
    have h1 := (hX k hk).2.2.2.2.2.2.2.1 _ hc
    have h2 := (hX k hk).2.2.1
    omega
/-- now is never below 0 -/
theorem ose_p {X : Nat → PS} (hX : ∀ k, k < 4 → pok (X k)) (m : Nat) : 0 ≤ (ose X m).2.1 ∧ (ose X m).2.1 ≤ 140000000000000 := by
  have key : ∀ (ah : Nat → Nat) (n0 : Int), (0 ≤ n0 ∧ n0 ≤ 140000000000000) → ∀ k, k ≤ 4 → 0 ≤ (ovk X ah n0 k).1 ∧ (ovk X ah n0 k).1 ≤ 140000000000000 := by
    intro ah n0 hn k hk
    induction k with
    | zero => exact hn
    | succ k ih =>
      have h1 := ih (by omega)
      simp only [ovk]
      split
      · rename_i hc
        have h2 := (hX k (by omega)).2.2.2.2.2.2.2.1 _ hc
        have h3 := (hX k (by omega)).2.2.1
        unfold ofr
        split
        · dsimp only; omega
        · split <;> dsimp only <;> omega
      · exact h1
  induction m with
  | zero => exact ⟨by show (0 : Int) ≤ 0; omega, by show (0 : Int) ≤ 140000000000000; omega⟩
  | succ m ih => exact key _ _ ih 4 (Nat.le_refl 4)
theorem ose_s (X : Nat → PS) (m : Nat) : 0 ≤ (ose X m).2.2 ∧ (ose X m).2.2 < 16 := by
  cases m with
  | zero => exact ⟨by show (0 : Int) ≤ 0; omega, by show (0 : Int) < 16; omega⟩
  | succ m => exact ovk_r X _ _ 4
theorem Ov.rst {μ μ2 : am_M} {S : OS} (h : Rst μ) (hO : Ov μ2 S) (hf : am_fr 118 120 μ μ2) : Rst μ2 := by
  obtain ⟨⟨xs, h1⟩, ⟨a, b, w, u, q, y, h2⟩, -⟩ := h
  obtain ⟨h3, f, h4, -⟩ := hO
  exact ⟨⟨xs, h1.kept (hf _ (by omega)) (hf _ (by omega))⟩, ⟨a, b, w, u, q, y, (hf _ (by omega)).trans h2⟩, _, _, f, h3, h4⟩
set_option maxHeartbeats 4000000 in
set_option maxRecDepth 100000 in
theorem lp_times {N : Nat} {μ : am_M} {b : List Int} {C : Snap} {rem : Nat} {hs : Nat → Snap} (hX : Bx μ b C rem hs) (hN : 120 ≤ N) {R : Nat} : ∀ (nn : Nat) (m : Nat) (z : Int) (μ2 : am_M), z = (m : Int) → m ≤ 1200 → tml (xs_ C) m = R → Ov μ2 (ose (xs_ C) m) → am_fr 118 120 μ μ2 → 1200 - m < nn → am_W YX9_times (fun r N2 μ3 => r = some (am_i (R : Int)) ∧ N = N2 ∧ Bx μ3 b C rem hs ∧ ∀ x, 120 ≤ x → μ3 x = μ x) 0 0 9 [(0, .ref 0), (1, am_i z)] [] N μ2 := by
  intro nn
  induction nn with
  | zero =>
    intro m z μ2 hz hm2 hRt hO hf hms
    exfalso; omega
  | succ nn ih =>
    intro m z μ2 hz hm2 hRt hO hf hms
    have hX2 : Bx μ2 b C rem hs := hX.rst (Ov.rst hX.2.2.1 hO hf) (fun x q1 q2 q3 q4 q5 => hf x (by omega))
    obtain ⟨h0, hT, hR, hP, hH, hrem, hm, hsn⟩ := id hX2
    have hpo : ∀ k, k < 4 → pok (xs_ C k) := fun k hk => psc_ok (hP.2 k hk).2.2.2.2
    have hos := ose_s (xs_ C) m
    have hop := ose_p hpo m
    refine ap_iload_n dX9_times_9 rfl rfl ?_
    rw [tml] at hRt
    refine ap_sipush dX9_times_10 (by decide) ?_
    refine ap_icmp_ge (tgt := 36) dX9_times_13 (by decide) (by omega) (fun c13 => ?_) (fun c13 => ?_)
    · rw [if_neg (by omega)] at hRt
      refine ap_iload_n dX9_times_36 rfl rfl ?_
      exact ap_iret dX9_times_37 rfl rfl (Nat.le_of_ble_eq_true rfl) (Nat.le_of_ble_eq_true rfl) (⟨by rw [hz, ← hRt, show m = 1200 by omega], rfl, hX2, fun x hx => hf x (by omega)⟩)
    · rw [if_pos (by omega)] at hRt
      refine ap_aload_n dX9_times_16 rfl rfl ?_
      refine ap_get ff_X9_45 dX9_times_17 (by omega) h0 rfl ?_
      refine ap_aload_n dX9_times_20 rfl rfl ?_
      refine ap_get ff_X9_30 dX9_times_21 (by omega) h0 rfl ?_
      refine ap_cV (As := [.ref 6]) (rest := []) (ct_advance (x := s_t C) (X := xs_ C) (fun k hk => rfl) hN hP (ose_ok (xs_ C) m) (ose_n hpo m) hO) dX9_times_24 lk_X9_195 hy_X2_advance rfl (by omega) hO.1 ⟨_, _, rfl⟩ (Nat.le_of_ble_eq_true rfl) ⟨Nat.le_of_ble_eq_true rfl, Nat.le_of_ble_eq_true rfl⟩ ⟨rfl, rfl⟩ ⟨Nat.le_of_ble_eq_true rfl, Nat.le_of_ble_eq_true rfl⟩ (fun xr1 xN2 μz xq3 => ?_)
      obtain ⟨rfl, rfl, hz1, hz2⟩ := xq3
      refine ap_if_eq (tgt := 36) dX9_times_27 (by decide) (by split <;> omega) (fun c27 => ?_) (fun c27 => ?_)
      · have hs0 : (ose (xs_ C) (m + 1)).2.2 = 0 := by
          by_cases q : (onx (xs_ C) (ose (xs_ C) m)).2.2 = 0
          · exact q
          · rw [if_neg q] at c27; omega
        rw [if_pos hs0] at hRt
        refine ap_iload_n dX9_times_36 rfl rfl ?_
        exact ap_iret dX9_times_37 rfl rfl (Nat.le_of_ble_eq_true rfl) (Nat.le_of_ble_eq_true rfl) (⟨by rw [hz, ← hRt], rfl, hX2.rst (Ov.rst hX2.2.2.1 hz1 hz2) (fun x q1 q2 q3 q4 q5 => hz2 x (by omega)), fun x hx => (hz2 x (by omega)).trans (hf x (by omega))⟩)
      · have hs0 : ¬ (ose (xs_ C) (m + 1)).2.2 = 0 := by
          intro q
          rw [if_pos (show (onx (xs_ C) (ose (xs_ C) m)).2.2 = 0 from q)] at c27; omega
        rw [if_neg hs0] at hRt
        refine ap_Iinc (lv2 := [(0, .ref 0), (1, am_i (z + 1))]) dX9_times_30 rfl (by decide) rfl ?_
        refine ap_goto (tgt := 9) dX9_times_33 (by decide) ?_
        exact ih (m + 1) _ μz (by omega) (by omega) hRt hz1 (hf.trans hz2) (by omega)

set_option maxHeartbeats 4000000 in
set_option maxRecDepth 100000 in
theorem cq_times {N : Nat} {μ : am_M} {b : List Int} {C : Snap} {rem : Nat} {hs : Nat → Snap} (hX : Bx μ b C rem hs) (hN : 120 ≤ N) : am_Met YX9_times [.ref 0] N μ (bpost N μ (am_i (tml (xs_ C) 0 : Int)) b C rem hs) := by
  obtain ⟨h0, hT, hR, hP, hH, hrem, hm, hsn⟩ := id hX
  obtain ⟨-, -, zn, zs, fo, o1, o2⟩ := id hR
  refine am_met (by first | decide | rfl) (Nat.le_of_ble_eq_true rfl) (fun h => by first | rfl | cases h) ?_
  show am_W YX9_times _ 0 0 0 [(0, .ref 0)] [] _ _
  refine ap_aload_n dX9_times_0 rfl rfl ?_
  refine ap_get ff_X9_45 dX9_times_1 (by omega) h0 rfl ?_
  refine ap_cV (As := []) (rest := []) (ct_ostart hN o1 o2) dX9_times_4 lk_X9_192 hy_X2_start rfl (by omega) o1 ⟨_, _, rfl⟩ (Nat.le_of_ble_eq_true rfl) ⟨Nat.le_of_ble_eq_true rfl, Nat.le_of_ble_eq_true rfl⟩ ⟨rfl, rfl⟩ ⟨Nat.le_of_ble_eq_true rfl, Nat.le_of_ble_eq_true rfl⟩ (fun xr1 xN2 μs xq3 => ?_)
  obtain ⟨rfl, rfl, hs1, hs2⟩ := xq3
  refine ap_iconst dX9_times_7 ?_
  refine ap_Istore_n (lv2 := [(0, .ref 0), (1, am_i 0)]) dX9_times_8 rfl (by decide) rfl ?_
  exact lp_times hX hN 1201 0 _ μs rfl (by omega) rfl hs1 hs2 (by omega)

set_option maxHeartbeats 4000000 in
set_option maxRecDepth 100000 in
theorem cq_timeN {N : Nat} {μ : am_M} {b : List Int} {C : Snap} {rem : Nat} {hs : Nat → Snap} (hX : Bx μ b C rem hs) (hN : 120 ≤ N) {i w : Int} (hi : -2147483648 ≤ i ∧ i ≤ 2147483647) (hw : -2147483648 ≤ w ∧ w ≤ 2147483647) (hn : ¬ ((0 ≤ i ∧ i < 1200) ∧ 0 ≤ w ∧ w ≤ 2)) : am_Met YX9_time [.ref 0, am_i i, am_i w] N μ (bpost N μ (am_l (-1)) b C rem hs) := by
  obtain ⟨h0, hT, hR, hP, hH, hrem, hm, hsn⟩ := id hX
  obtain ⟨-, -, zn, zs, fo, o1, o2⟩ := id hR
  refine am_met (by first | decide | rfl) (Nat.le_of_ble_eq_true rfl) (fun h => by first | rfl | cases h) ?_
  show am_W YX9_time _ 0 0 0 [(0, .ref 0), (1, am_i i), (2, am_i w)] [] _ _
  refine ap_iload_n dX9_time_0 rfl rfl ?_
  refine ap_if_lt (tgt := 20) dX9_time_1 (by decide) (by omega) (fun c1 => ?_) (fun c1 => ?_)
  · refine ap_ldc2 dX9_time_20 kl_X9_131 ?_
    exact ap_lret dX9_time_23 rfl (Nat.le_of_ble_eq_true rfl) (Nat.le_of_ble_eq_true rfl) (⟨rfl, rfl, hX, fun x hx => rfl⟩)
  · refine ap_iload_n dX9_time_4 rfl rfl ?_
    refine ap_sipush dX9_time_5 (by decide) ?_
    refine ap_icmp_ge (tgt := 20) dX9_time_8 (by decide) (by omega) (fun c8 => ?_) (fun c8 => ?_)
    · refine ap_ldc2 dX9_time_20 kl_X9_131 ?_
      exact ap_lret dX9_time_23 rfl (Nat.le_of_ble_eq_true rfl) (Nat.le_of_ble_eq_true rfl) (⟨rfl, rfl, hX, fun x hx => rfl⟩)
    · refine ap_iload_n dX9_time_11 rfl rfl ?_
      refine ap_if_lt (tgt := 20) dX9_time_12 (by decide) (by omega) (fun c12 => ?_) (fun c12 => ?_)
      · refine ap_ldc2 dX9_time_20 kl_X9_131 ?_
        exact ap_lret dX9_time_23 rfl (Nat.le_of_ble_eq_true rfl) (Nat.le_of_ble_eq_true rfl) (⟨rfl, rfl, hX, fun x hx => rfl⟩)
      · refine ap_iload_n dX9_time_15 rfl rfl ?_
        refine ap_iconst dX9_time_16 ?_
        refine ap_icmp_le (tgt := 24) dX9_time_17 (by decide) (by omega) (fun c17 => (by exfalso; omega)) (fun c17 => ?_)
        refine ap_ldc2 dX9_time_20 kl_X9_131 ?_
        exact ap_lret dX9_time_23 rfl (Nat.le_of_ble_eq_true rfl) (Nat.le_of_ble_eq_true rfl) (⟨rfl, rfl, hX, fun x hx => rfl⟩)

set_option maxHeartbeats 4000000 in
set_option maxRecDepth 100000 in
theorem lp_time {N : Nat} {μ : am_M} {b : List Int} {C : Snap} {rem : Nat} {hs : Nat → Snap} (hX : Bx μ b C rem hs) (hN : 120 ≤ N) {i : Nat} {w R : Int} (hi : i < 1200) (hw : 0 ≤ w ∧ w ≤ 2) : ∀ (nn : Nat) (m : Nat) (z : Int) (μ2 : am_M), z = (m : Int) → m ≤ i + 1 → tmo (xs_ C) i w m = R → Ov μ2 (ose (xs_ C) m) → am_fr 118 120 μ μ2 → i + 1 - m < nn → am_W YX9_time (fun r N2 μ3 => r = some (am_l R) ∧ N = N2 ∧ Bx μ3 b C rem hs ∧ ∀ x, 120 ≤ x → μ3 x = μ x) 0 0 33 [(0, .ref 0), (1, am_i (i : Int)), (2, am_i w), (3, am_i z)] [] N μ2 := by
  intro nn
  induction nn with
  | zero =>
    intro m z μ2 hz hm2 hRt hO hf hms
    exfalso; omega
  | succ nn ih =>
    intro m z μ2 hz hm2 hRt hO hf hms
    have hX2 : Bx μ2 b C rem hs := hX.rst (Ov.rst hX.2.2.1 hO hf) (fun x q1 q2 q3 q4 q5 => hf x (by omega))
    obtain ⟨h0, hT, hR, hP, hH, hrem, hm, hsn⟩ := id hX2
    have hpo : ∀ k, k < 4 → pok (xs_ C k) := fun k hk => psc_ok (hP.2 k hk).2.2.2.2
    have hos := ose_s (xs_ C) m
    have hop := ose_p hpo m
    refine ap_iload_n dX9_time_33 rfl rfl ?_
    refine ap_iload_n dX9_time_34 rfl rfl ?_
    rw [tmo] at hRt
    refine ap_icmp_gt (tgt := 62) dX9_time_35 (by decide) (by omega) (fun c35 => ?_) (fun c35 => ?_)
    · rw [if_neg (by omega)] at hRt
      refine ap_iload_n dX9_time_62 rfl rfl ?_
      refine ap_iconst dX9_time_63 ?_
      refine ap_icmp_ne (tgt := 78) dX9_time_64 (by decide) (by omega) (fun c64 => ?_) (fun c64 => ?_)
      · refine ap_aload_n dX9_time_78 rfl rfl ?_
        refine ap_get ff_X9_45 dX9_time_79 (by omega) h0 rfl ?_
        refine ap_cV (As := []) (rest := []) (ct_onow hN hO) dX9_time_82 lk_X9_202 hy_X2_now rfl (by omega) hO.1 ⟨_, _, rfl⟩ (Nat.le_of_ble_eq_true rfl) ⟨Nat.le_of_ble_eq_true rfl, Nat.le_of_ble_eq_true rfl⟩ ⟨rfl, rfl⟩ ⟨Nat.le_of_ble_eq_true rfl, Nat.le_of_ble_eq_true rfl⟩ (fun xr1 xN2 μ3 xq4 => ?_)
        obtain ⟨rfl, rfl, rfl⟩ := xq4
        refine ap_topl (b := (((ose (xs_ C) m).2.1).toNat : Int)) (show ((ose (xs_ C) m).2.1) = (((ose (xs_ C) m).2.1).toNat : Int) from by omega) ?_
        refine ap_ldc2 dX9_time_85 kl_X9_137 ?_
        refine ap_iload_n dX9_time_88 rfl rfl ?_
        refine ap_cS (As := [am_l (((ose (xs_ C) m).2.1).toNat : Int), am_l 812851200, am_i w]) (rest := []) (ct_side (x := ((ose (xs_ C) m).2.1).toNat) (d := 812851200) (by omega) (by omega) (by omega)) dX9_time_89 lk_X9_139 hy_X9_side rfl (Nat.le_of_ble_eq_true rfl) ⟨Nat.le_of_ble_eq_true rfl, Nat.le_of_ble_eq_true rfl⟩ ⟨rfl, rfl⟩ ⟨Nat.le_of_ble_eq_true rfl, Nat.le_of_ble_eq_true rfl⟩ (fun xr5 xN6 μ7 xq8 => ?_)
        obtain ⟨rfl, rfl, rfl⟩ := xq8
        exact ap_lret dX9_time_92 rfl (Nat.le_of_ble_eq_true rfl) (Nat.le_of_ble_eq_true rfl) (⟨by rw [if_neg c64] at hRt; rw [← hRt], rfl, hX2, fun x hx => hf x (by omega)⟩)
      · refine ap_aload_n dX9_time_67 rfl rfl ?_
        refine ap_get ff_X9_45 dX9_time_68 (by omega) h0 rfl ?_
        refine ap_cV (As := []) (rest := []) (ct_oset hN hO) dX9_time_71 lk_X9_199 hy_X2_set rfl (by omega) hO.1 ⟨_, _, rfl⟩ (Nat.le_of_ble_eq_true rfl) ⟨Nat.le_of_ble_eq_true rfl, Nat.le_of_ble_eq_true rfl⟩ ⟨rfl, rfl⟩ ⟨Nat.le_of_ble_eq_true rfl, Nat.le_of_ble_eq_true rfl⟩ (fun xr9 xN10 μ11 xq12 => ?_)
        obtain ⟨rfl, rfl, rfl⟩ := xq12
        refine ap_i2l dX9_time_74 (by omega) ?_
        refine ap_goto (tgt := 92) dX9_time_75 (by decide) ?_
        exact ap_lret dX9_time_92 rfl (Nat.le_of_ble_eq_true rfl) (Nat.le_of_ble_eq_true rfl) (⟨by rw [if_pos c64] at hRt; rw [← hRt], rfl, hX2, fun x hx => hf x (by omega)⟩)
    · rw [if_pos (by omega)] at hRt
      refine ap_aload_n dX9_time_38 rfl rfl ?_
      refine ap_get ff_X9_45 dX9_time_39 (by omega) h0 rfl ?_
      refine ap_aload_n dX9_time_42 rfl rfl ?_
      refine ap_get ff_X9_30 dX9_time_43 (by omega) h0 rfl ?_
      refine ap_cV (As := [.ref 6]) (rest := []) (ct_advance (x := s_t C) (X := xs_ C) (fun k hk => rfl) hN hP (ose_ok (xs_ C) m) (ose_n hpo m) hO) dX9_time_46 lk_X9_195 hy_X2_advance rfl (by omega) hO.1 ⟨_, _, rfl⟩ (Nat.le_of_ble_eq_true rfl) ⟨Nat.le_of_ble_eq_true rfl, Nat.le_of_ble_eq_true rfl⟩ ⟨rfl, rfl⟩ ⟨Nat.le_of_ble_eq_true rfl, Nat.le_of_ble_eq_true rfl⟩ (fun xr13 xN14 μz xq15 => ?_)
      obtain ⟨rfl, rfl, hz1, hz2⟩ := xq15
      refine ap_if_ne (tgt := 56) dX9_time_49 (by decide) (by split <;> omega) (fun c49 => ?_) (fun c49 => ?_)
      · have hs0 : ¬ (ose (xs_ C) (m + 1)).2.2 = 0 := by
          intro q
          rw [if_pos (show (onx (xs_ C) (ose (xs_ C) m)).2.2 = 0 from q)] at c49; omega
        rw [if_neg hs0] at hRt
        refine ap_Iinc (lv2 := [(0, .ref 0), (1, am_i (i : Int)), (2, am_i w), (3, am_i (z + 1))]) dX9_time_56 rfl (by decide) rfl ?_
        refine ap_goto (tgt := 33) dX9_time_59 (by decide) ?_
        exact ih (m + 1) _ μz (by omega) (by omega) hRt hz1 (hf.trans hz2) (by omega)
      · have hs0 : (ose (xs_ C) (m + 1)).2.2 = 0 := by
          by_cases q : (onx (xs_ C) (ose (xs_ C) m)).2.2 = 0
          · exact q
          · rw [if_neg q] at c49; omega
        rw [if_pos hs0] at hRt
        refine ap_ldc2 dX9_time_52 kl_X9_131 ?_
        exact ap_lret dX9_time_55 rfl (Nat.le_of_ble_eq_true rfl) (Nat.le_of_ble_eq_true rfl) (⟨by rw [← hRt], rfl, hX2.rst (Ov.rst hX2.2.2.1 hz1 hz2) (fun x q1 q2 q3 q4 q5 => hz2 x (by omega)), fun x hx => (hz2 x (by omega)).trans (hf x (by omega))⟩)

set_option maxHeartbeats 4000000 in
set_option maxRecDepth 100000 in
theorem cq_time {N : Nat} {μ : am_M} {b : List Int} {C : Snap} {rem : Nat} {hs : Nat → Snap} (hX : Bx μ b C rem hs) (hN : 120 ≤ N) {i : Nat} {w : Int} (hi : i < 1200) (hw : 0 ≤ w ∧ w ≤ 2) : am_Met YX9_time [.ref 0, am_i (i : Int), am_i w] N μ (bpost N μ (am_l (tmo (xs_ C) i w 0)) b C rem hs) := by
  obtain ⟨h0, hT, hR, hP, hH, hrem, hm, hsn⟩ := id hX
  obtain ⟨-, -, zn, zs, fo, o1, o2⟩ := id hR
  refine am_met (by first | decide | rfl) (Nat.le_of_ble_eq_true rfl) (fun h => by first | rfl | cases h) ?_
  show am_W YX9_time _ 0 0 0 [(0, .ref 0), (1, am_i (i : Int)), (2, am_i w)] [] _ _
  refine ap_iload_n dX9_time_0 rfl rfl ?_
  refine ap_if_lt (tgt := 20) dX9_time_1 (by decide) (by omega) (fun c1 => (by exfalso; omega)) (fun c1 => ?_)
  refine ap_iload_n dX9_time_4 rfl rfl ?_
  refine ap_sipush dX9_time_5 (by decide) ?_
  refine ap_icmp_ge (tgt := 20) dX9_time_8 (by decide) (by omega) (fun c8 => (by exfalso; omega)) (fun c8 => ?_)
  refine ap_iload_n dX9_time_11 rfl rfl ?_
  refine ap_if_lt (tgt := 20) dX9_time_12 (by decide) (by omega) (fun c12 => (by exfalso; omega)) (fun c12 => ?_)
  refine ap_iload_n dX9_time_15 rfl rfl ?_
  refine ap_iconst dX9_time_16 ?_
  refine ap_icmp_le (tgt := 24) dX9_time_17 (by decide) (by omega) (fun c17 => ?_) (fun c17 => (by exfalso; omega))
  refine ap_aload_n dX9_time_24 rfl rfl ?_
  refine ap_get ff_X9_45 dX9_time_25 (by omega) h0 rfl ?_
  refine ap_cV (As := []) (rest := []) (ct_ostart hN o1 o2) dX9_time_28 lk_X9_192 hy_X2_start rfl (by omega) o1 ⟨_, _, rfl⟩ (Nat.le_of_ble_eq_true rfl) ⟨Nat.le_of_ble_eq_true rfl, Nat.le_of_ble_eq_true rfl⟩ ⟨rfl, rfl⟩ ⟨Nat.le_of_ble_eq_true rfl, Nat.le_of_ble_eq_true rfl⟩ (fun xr1 xN2 μs xq3 => ?_)
  obtain ⟨rfl, rfl, hs1, hs2⟩ := xq3
  refine ap_iconst dX9_time_31 ?_
  refine ap_Istore_n (lv2 := [(0, .ref 0), (1, am_i (i : Int)), (2, am_i w), (3, am_i 0)]) dX9_time_32 rfl (by decide) rfl ?_
  exact lp_time hX hN hi hw (i + 2) 0 _ μs rfl (by omega) rfl hs1 hs2 (by omega)

