theorem wb_tb (n : Nat) : (lN n).toBitVec = BitVec.ofNat 64 n := rfl
theorem wb_inj {a b : Int64} (h : a.toBitVec = b.toBitVec) : a = b := Int64.toBitVec_inj.mp h
theorem wb_c : ∀ k, k < 64 → ((nI k).toInt64 &&& 63) = lN k := by decide +kernel
theorem wb_sm : ∀ k, k < 64 → (BitVec.ofNat 64 k).smod 64 = BitVec.ofNat 64 k := by decide +kernel
theorem wb_shl (n : Nat) {k : Nat} (hk : k < 64) : lN n <<< ((nI k).toInt64 &&& 63) = lN (n * 2 ^ k) := by
  rw [wb_c k hk]
  apply wb_inj
  rw [Int64.toBitVec_shiftLeft, wb_tb, wb_tb, wb_tb, wb_sm k hk]
  apply BitVec.eq_of_toNat_eq
  rw [BitVec.shiftLeft_eq', BitVec.toNat_shiftLeft, BitVec.toNat_ofNat, BitVec.toNat_ofNat, BitVec.toNat_ofNat, Nat.mod_eq_of_lt (show k < 2 ^ 64 by omega), Nat.shiftLeft_eq, Nat.mul_mod, Nat.mod_mod, ← Nat.mul_mod]
theorem am_shl {a z : Int} {k : Nat} (ha : 0 ≤ a) (hz : z = (k : Int)) (hk : k < 64) : Int64.ofInt a <<< ((Int32.ofInt z).toInt64 &&& 63) = Int64.ofInt (a * 2 ^ k) := by
  obtain ⟨n, rfl⟩ := Int.eq_ofNat_of_zero_le ha
  subst hz
  rw [show Int64.ofInt (n : Int) = lN n from Int64.ofInt_eq_ofNat, show Int32.ofInt (k : Int) = nI k from Int32.ofInt_eq_ofNat, wb_shl n hk, show ((n : Int) * 2 ^ k) = ((n * 2 ^ k : Nat) : Int) by simp]
  exact Int64.ofInt_eq_ofNat.symm
/-! numbers -/
def sd (x d : Nat) (w : Int) : Int := (((if w = 0 then x else d) / Nat.gcd x d : Nat) : Int)
def cyc (a b : Nat) : Int := if a < 1 ∨ b < 1 then -2 else if 812851200000 / b < a / Nat.gcd a b then -3 else ((a / Nat.gcd a b * b : Nat) : Int)
def lev (t m : Int) (k : Nat) : Int := if k ≤ 6 then (if t * 2 ^ k % m = 0 then (k : Int) else lev t m (k + 1)) else 7
termination_by 7 - k
def lbt (b e m : Int) (k : Nat) : Int := if k ≤ 6 then (if (b * 2 ^ k / m + 1) * m < e * 2 ^ k then (k : Int) else lbt b e m (k + 1)) else 7
termination_by 7 - k
def syn (b e m : Int) : Int := if 0 < lev b m 0 - lbt b e m 0 then lev b m 0 - lbt b e m 0 else 0
def swg (t a b : Int) : Int := if t % 203212800 < 101606400 then (t - t % 203212800) * (a + b) + t % 203212800 * 2 * a else (t - t % 203212800) * (a + b) + 203212800 * a + (t % 203212800 - 101606400) * 2 * b
theorem lev_r (t m : Int) (k : Nat) (h : k ≤ 7) : 0 ≤ lev t m k ∧ lev t m k ≤ 7 := by
  induction hn : 7 - k generalizing k with
  | zero => rw [lev, if_neg (by omega)]; omega
  | succ n ih =>
    rw [lev, if_pos (by omega)]
    split
    · omega
    · exact ih (k + 1) (by omega) (by omega)
theorem lbt_r (b e m : Int) (k : Nat) (h : k ≤ 7) : 0 ≤ lbt b e m k ∧ lbt b e m k ≤ 7 := by
  induction hn : 7 - k generalizing k with
  | zero => rw [lbt, if_neg (by omega)]; omega
  | succ n ih =>
    rw [lbt, if_pos (by omega)]
    split
    · omega
    · exact ih (k + 1) (by omega) (by omega)
set_option maxHeartbeats 4000000 in
set_option maxRecDepth 100000 in
theorem ct_isMeterValue {N : Nat} {μ : am_M} {v : Int} (hv : -2147483648 ≤ v ∧ v ≤ 2147483647) : am_Met YX9_isMeterValue [am_i v] N μ (am_pv (am_i (if v = 1 ∨ v = 2 ∨ v = 4 ∨ v = 8 ∨ v = 16 then 1 else 0)) N μ) := by
  refine am_met (by first | decide | rfl) (Nat.le_of_ble_eq_true rfl) (fun h => by first | rfl | cases h) ?_
  show am_W YX9_isMeterValue _ 0 0 0 [(0, am_i v)] [] _ _
  refine ap_iload_n dX9_isMeterValue_0 rfl rfl ?_
  refine ap_iconst dX9_isMeterValue_1 ?_
  refine ap_icmp_eq (tgt := 27) dX9_isMeterValue_2 (by decide) (by omega) (fun c2 => ?_) (fun c2 => ?_)
  · refine ap_iconst dX9_isMeterValue_27 ?_
    refine ap_goto (tgt := 32) dX9_isMeterValue_28 (by decide) ?_
    exact ap_iret dX9_isMeterValue_32 rfl (am_nz (by first | omega | decide)) (Nat.le_of_ble_eq_true rfl) (Nat.le_of_ble_eq_true rfl) (⟨by rw [if_pos (by omega)], rfl, rfl⟩)
  · refine ap_iload_n dX9_isMeterValue_5 rfl rfl ?_
    refine ap_iconst dX9_isMeterValue_6 ?_
    refine ap_icmp_eq (tgt := 27) dX9_isMeterValue_7 (by decide) (by omega) (fun c7 => ?_) (fun c7 => ?_)
    · refine ap_iconst dX9_isMeterValue_27 ?_
      refine ap_goto (tgt := 32) dX9_isMeterValue_28 (by decide) ?_
      exact ap_iret dX9_isMeterValue_32 rfl (am_nz (by first | omega | decide)) (Nat.le_of_ble_eq_true rfl) (Nat.le_of_ble_eq_true rfl) (⟨by rw [if_pos (by omega)], rfl, rfl⟩)
    · refine ap_iload_n dX9_isMeterValue_10 rfl rfl ?_
      refine ap_iconst dX9_isMeterValue_11 ?_
      refine ap_icmp_eq (tgt := 27) dX9_isMeterValue_12 (by decide) (by omega) (fun c12 => ?_) (fun c12 => ?_)
      · refine ap_iconst dX9_isMeterValue_27 ?_
        refine ap_goto (tgt := 32) dX9_isMeterValue_28 (by decide) ?_
        exact ap_iret dX9_isMeterValue_32 rfl (am_nz (by first | omega | decide)) (Nat.le_of_ble_eq_true rfl) (Nat.le_of_ble_eq_true rfl) (⟨by rw [if_pos (by omega)], rfl, rfl⟩)
      · refine ap_iload_n dX9_isMeterValue_15 rfl rfl ?_
        refine ap_bipush dX9_isMeterValue_16 (by decide) ?_
        refine ap_icmp_eq (tgt := 27) dX9_isMeterValue_18 (by decide) (by omega) (fun c18 => ?_) (fun c18 => ?_)
        · refine ap_iconst dX9_isMeterValue_27 ?_
          refine ap_goto (tgt := 32) dX9_isMeterValue_28 (by decide) ?_
          exact ap_iret dX9_isMeterValue_32 rfl (am_nz (by first | omega | decide)) (Nat.le_of_ble_eq_true rfl) (Nat.le_of_ble_eq_true rfl) (⟨by rw [if_pos (by omega)], rfl, rfl⟩)
        · refine ap_iload_n dX9_isMeterValue_21 rfl rfl ?_
          refine ap_bipush dX9_isMeterValue_22 (by decide) ?_
          refine ap_icmp_ne (tgt := 31) dX9_isMeterValue_24 (by decide) (by omega) (fun c24 => ?_) (fun c24 => ?_)
          · refine ap_iconst dX9_isMeterValue_31 ?_
            exact ap_iret dX9_isMeterValue_32 rfl (am_nz (by first | omega | decide)) (Nat.le_of_ble_eq_true rfl) (Nat.le_of_ble_eq_true rfl) (⟨by rw [if_neg (by omega)], rfl, rfl⟩)
          · refine ap_iconst dX9_isMeterValue_27 ?_
            refine ap_goto (tgt := 32) dX9_isMeterValue_28 (by decide) ?_
            exact ap_iret dX9_isMeterValue_32 rfl (am_nz (by first | omega | decide)) (Nat.le_of_ble_eq_true rfl) (Nat.le_of_ble_eq_true rfl) (⟨by rw [if_pos (by omega)], rfl, rfl⟩)

set_option maxHeartbeats 4000000 in
set_option maxRecDepth 100000 in
theorem ct_isSide {N : Nat} {μ : am_M} {v : Int} (hv : -2147483648 ≤ v ∧ v ≤ 2147483647) : am_Met YX9_isSide [am_i v] N μ (am_pv (am_i (if v = 0 ∨ v = 1 then 1 else 0)) N μ) := by
  refine am_met (by first | decide | rfl) (Nat.le_of_ble_eq_true rfl) (fun h => by first | rfl | cases h) ?_
  show am_W YX9_isSide _ 0 0 0 [(0, am_i v)] [] _ _
  refine ap_iload_n dX9_isSide_0 rfl rfl ?_
  refine ap_if_eq (tgt := 9) dX9_isSide_1 (by decide) (by omega) (fun c1 => ?_) (fun c1 => ?_)
  · refine ap_iconst dX9_isSide_9 ?_
    refine ap_goto (tgt := 14) dX9_isSide_10 (by decide) ?_
    exact ap_iret dX9_isSide_14 rfl (am_nz (by first | omega | decide)) (Nat.le_of_ble_eq_true rfl) (Nat.le_of_ble_eq_true rfl) (⟨by rw [if_pos (by omega)], rfl, rfl⟩)
  · refine ap_iload_n dX9_isSide_4 rfl rfl ?_
    refine ap_iconst dX9_isSide_5 ?_
    refine ap_icmp_ne (tgt := 13) dX9_isSide_6 (by decide) (by omega) (fun c6 => ?_) (fun c6 => ?_)
    · refine ap_iconst dX9_isSide_13 ?_
      exact ap_iret dX9_isSide_14 rfl (am_nz (by first | omega | decide)) (Nat.le_of_ble_eq_true rfl) (Nat.le_of_ble_eq_true rfl) (⟨by rw [if_neg (by omega)], rfl, rfl⟩)
    · refine ap_iconst dX9_isSide_9 ?_
      refine ap_goto (tgt := 14) dX9_isSide_10 (by decide) ?_
      exact ap_iret dX9_isSide_14 rfl (am_nz (by first | omega | decide)) (Nat.le_of_ble_eq_true rfl) (Nat.le_of_ble_eq_true rfl) (⟨by rw [if_pos (by omega)], rfl, rfl⟩)

theorem gcd_half {g r : Nat} (hr : 0 < r) {x : Nat} (hx : x = g % r) (hx0 : 0 < x) {k : Nat} (h : r < 2 ^ (k + 1)) : r % x < 2 ^ k := by
  have h1 : x < r := by rw [hx]; exact Nat.mod_lt _ hr
  have h2 : r % x < x := Nat.mod_lt _ hx0
  have h4 := Nat.div_add_mod r x
  have h5 : 1 ≤ r / x := (Nat.one_le_div_iff hx0).mpr (by omega)
  have h6 : x * 1 ≤ x * (r / x) := Nat.mul_le_mul_left x h5
  have h7 : 2 ^ (k + 1) = 2 * 2 ^ k := by rw [Nat.pow_succ]; omega
  omega
theorem gcd_stp (g r : Nat) : Nat.gcd r (g % r) = Nat.gcd g r := by rw [Nat.gcd_comm g r, Nat.gcd_rec r g, Nat.gcd_comm]
set_option maxHeartbeats 4000000 in
set_option maxRecDepth 100000 in
theorem lp_commonDivisor {N : Nat} {μ : am_M} {x0 x2 : Int} {G : Nat} : ∀ (kk : Nat) (g r : Nat) (z : Int), g < 4611686018427387904 → r < 2 ^ kk → 0 ≤ z → z + 2 * kk ≤ 98 → Nat.gcd g r = G → r < 4611686018427387904 → am_W YX9_commonDivisor (am_pv (am_l (G : Int)) N μ) 0 0 9 [(0, am_l x0), (2, am_l x2), (4, am_l ((g : Nat) : Int)), (6, am_l ((r : Nat) : Int)), (8, am_i z)] [] N μ := by
  intro kk
  induction kk with
  | zero =>
    intro g r z hg hrk hz hzk hG hr
    have hr1 : r = 0 := by simpa using hrk
    subst hr1
    refine ap_iload dX9_commonDivisor_9 rfl ?_
    refine ap_bipush dX9_commonDivisor_11 (by decide) ?_
    refine ap_icmp_ge (tgt := 44) dX9_commonDivisor_13 (by decide) (by omega) (fun c13 => (by exfalso; omega)) (fun c13 => ?_)
    refine ap_lload dX9_commonDivisor_16 rfl ?_
    refine ap_lconst (v := 0) dX9_commonDivisor_18 rfl ?_
    refine ap_lcmp_eq (tgt := 44) dX9_commonDivisor_19 dX9_commonDivisor_20 (by decide) (⟨by omega, by omega⟩) (fun c19 => ?_) (fun c19 => (by exfalso; omega))
    refine ap_lload dX9_commonDivisor_44 rfl ?_
    exact ap_lret dX9_commonDivisor_46 rfl (Nat.le_of_ble_eq_true rfl) (Nat.le_of_ble_eq_true rfl) (⟨by rw [← hG, Nat.gcd_zero_right], rfl, rfl⟩)
  | succ kk ih =>
    intro g r z hg hrk hz hzk hG hr
    have K2 : 0 < r → ∀ z2 : Int, z2 = z + 1 → am_W YX9_commonDivisor (am_pv (am_l (G : Int)) N μ) 0 0 9 [(0, am_l x0), (2, am_l x2), (4, am_l ((r : Nat) : Int)), (6, am_l ((g % r : Nat) : Int)), (8, am_i z2)] [] N μ := by
      intro hr0 z2 hz2
      have hlt := Nat.mod_lt g hr0
      refine ap_iload dX9_commonDivisor_9 rfl ?_
      refine ap_bipush dX9_commonDivisor_11 (by decide) ?_
      refine ap_icmp_ge (tgt := 44) dX9_commonDivisor_13 (by decide) (by omega) (fun c13 => (by exfalso; omega)) (fun c13 => ?_)
      refine ap_lload dX9_commonDivisor_16 rfl ?_
      refine ap_lconst (v := 0) dX9_commonDivisor_18 rfl ?_
      refine ap_lcmp_eq (tgt := 44) dX9_commonDivisor_19 dX9_commonDivisor_20 (by decide) (⟨by omega, by omega⟩) (fun c19 => ?_) (fun c19 => ?_)
      · refine ap_lload dX9_commonDivisor_44 rfl ?_
        exact ap_lret dX9_commonDivisor_46 rfl (Nat.le_of_ble_eq_true rfl) (Nat.le_of_ble_eq_true rfl) (⟨by rw [← hG, ← gcd_stp g r, show g % r = 0 by omega, Nat.gcd_zero_right], rfl, rfl⟩)
      · refine ap_lload dX9_commonDivisor_23 rfl ?_
        refine ap_lload dX9_commonDivisor_25 rfl ?_
        refine ap_lrem dX9_commonDivisor_27 (⟨by omega, by omega⟩) ?_
        refine ap_topl (b := ((r % (g % r) : Nat) : Int)) (show (((r : Nat) : Int) % ((g % r : Nat) : Int)) = ((r % (g % r) : Nat) : Int) from (Int.natCast_emod _ _).symm) ?_
        refine ap_Lstore (lv2 := [(0, am_l x0), (2, am_l x2), (4, am_l ((r : Nat) : Int)), (6, am_l ((g % r : Nat) : Int)), (8, am_i z2), (9, am_l ((r % (g % r) : Nat) : Int))]) dX9_commonDivisor_28 (by decide) rfl ?_
        refine ap_lload dX9_commonDivisor_30 rfl ?_
        refine ap_Lstore (lv2 := [(0, am_l x0), (2, am_l x2), (4, am_l ((g % r : Nat) : Int)), (6, am_l ((g % r : Nat) : Int)), (8, am_i z2), (9, am_l ((r % (g % r) : Nat) : Int))]) dX9_commonDivisor_32 (by decide) rfl ?_
        refine ap_lload dX9_commonDivisor_34 rfl ?_
        refine ap_Lstore (lv2 := [(0, am_l x0), (2, am_l x2), (4, am_l ((g % r : Nat) : Int)), (6, am_l ((r % (g % r) : Nat) : Int)), (8, am_i z2), (9, am_l ((r % (g % r) : Nat) : Int))]) dX9_commonDivisor_36 (by decide) rfl ?_
        refine ap_Iinc (lv2 := [(0, am_l x0), (2, am_l x2), (4, am_l ((g % r : Nat) : Int)), (6, am_l ((r % (g % r) : Nat) : Int)), (8, am_i (z2 + 1)), (9, am_l ((r % (g % r) : Nat) : Int))]) dX9_commonDivisor_38 rfl (by decide) rfl ?_
        refine ap_goto (tgt := 9) dX9_commonDivisor_41 (by decide) ?_
        refine ap_pick (lv2 := [(0, am_l x0), (2, am_l x2), (4, am_l ((g % r : Nat) : Int)), (6, am_l ((r % (g % r) : Nat) : Int)), (8, am_i (z2 + 1))]) [0, 1, 2, 3, 4] rfl ?_
        exact ih _ _ _ (by omega) (gcd_half hr0 rfl (by omega) hrk) (by omega) (by omega) (by rw [gcd_stp, gcd_stp]; exact hG) (by have := Nat.mod_lt r (show 0 < g % r by omega); omega)
    refine ap_iload dX9_commonDivisor_9 rfl ?_
    refine ap_bipush dX9_commonDivisor_11 (by decide) ?_
    refine ap_icmp_ge (tgt := 44) dX9_commonDivisor_13 (by decide) (by omega) (fun c13 => (by exfalso; omega)) (fun c13 => ?_)
    refine ap_lload dX9_commonDivisor_16 rfl ?_
    refine ap_lconst (v := 0) dX9_commonDivisor_18 rfl ?_
    refine ap_lcmp_eq (tgt := 44) dX9_commonDivisor_19 dX9_commonDivisor_20 (by decide) (⟨by omega, by omega⟩) (fun c19 => ?_) (fun c19 => ?_)
    · refine ap_lload dX9_commonDivisor_44 rfl ?_
      exact ap_lret dX9_commonDivisor_46 rfl (Nat.le_of_ble_eq_true rfl) (Nat.le_of_ble_eq_true rfl) (⟨by rw [← hG, show r = 0 by omega, Nat.gcd_zero_right], rfl, rfl⟩)
    · have hr0 : 0 < r := by omega
      have hK2 := K2 hr0
      refine ap_lload dX9_commonDivisor_23 rfl ?_
      refine ap_lload dX9_commonDivisor_25 rfl ?_
      refine ap_lrem dX9_commonDivisor_27 (⟨by omega, by omega⟩) ?_
      refine ap_topl (b := ((g % r : Nat) : Int)) (show (((g : Nat) : Int) % ((r : Nat) : Int)) = ((g % r : Nat) : Int) from (Int.natCast_emod g r).symm) ?_
      refine ap_Lstore (lv2 := [(0, am_l x0), (2, am_l x2), (4, am_l ((g : Nat) : Int)), (6, am_l ((r : Nat) : Int)), (8, am_i z), (9, am_l ((g % r : Nat) : Int))]) dX9_commonDivisor_28 (by decide) rfl ?_
      refine ap_lload dX9_commonDivisor_30 rfl ?_
      refine ap_Lstore (lv2 := [(0, am_l x0), (2, am_l x2), (4, am_l ((r : Nat) : Int)), (6, am_l ((r : Nat) : Int)), (8, am_i z), (9, am_l ((g % r : Nat) : Int))]) dX9_commonDivisor_32 (by decide) rfl ?_
      refine ap_lload dX9_commonDivisor_34 rfl ?_
      refine ap_Lstore (lv2 := [(0, am_l x0), (2, am_l x2), (4, am_l ((r : Nat) : Int)), (6, am_l ((g % r : Nat) : Int)), (8, am_i z), (9, am_l ((g % r : Nat) : Int))]) dX9_commonDivisor_36 (by decide) rfl ?_
      refine ap_Iinc (lv2 := [(0, am_l x0), (2, am_l x2), (4, am_l ((r : Nat) : Int)), (6, am_l ((g % r : Nat) : Int)), (8, am_i (z + 1)), (9, am_l ((g % r : Nat) : Int))]) dX9_commonDivisor_38 rfl (by decide) rfl ?_
      refine ap_goto (tgt := 9) dX9_commonDivisor_41 (by decide) ?_
      refine ap_pick (lv2 := [(0, am_l x0), (2, am_l x2), (4, am_l ((r : Nat) : Int)), (6, am_l ((g % r : Nat) : Int)), (8, am_i (z + 1))]) [0, 1, 2, 3, 4] rfl ?_
      exact hK2 _ (by omega)
set_option maxHeartbeats 4000000 in
set_option maxRecDepth 100000 in
theorem ct_commonDivisor {N : Nat} {μ : am_M} {a b : Nat} (ha : a < 4611686018427387904) (hb : b < 562949953421312) : am_Met YX9_commonDivisor [am_l ((a : Nat) : Int), am_l ((b : Nat) : Int)] N μ (am_pv (am_l (Nat.gcd a b : Int)) N μ) := by
  refine am_met (by first | decide | rfl) (Nat.le_of_ble_eq_true rfl) (fun h => by first | rfl | cases h) ?_
  show am_W YX9_commonDivisor _ 0 0 0 [(0, am_l ((a : Nat) : Int)), (2, am_l ((b : Nat) : Int))] [] _ _
  refine ap_lload_n dX9_commonDivisor_0 rfl rfl ?_
  refine ap_Lstore (lv2 := [(0, am_l ((a : Nat) : Int)), (2, am_l ((b : Nat) : Int)), (4, am_l ((a : Nat) : Int))]) dX9_commonDivisor_1 (by decide) rfl ?_
  refine ap_lload_n dX9_commonDivisor_3 rfl rfl ?_
  refine ap_Lstore (lv2 := [(0, am_l ((a : Nat) : Int)), (2, am_l ((b : Nat) : Int)), (4, am_l ((a : Nat) : Int)), (6, am_l ((b : Nat) : Int))]) dX9_commonDivisor_4 (by decide) rfl ?_
  refine ap_iconst dX9_commonDivisor_6 ?_
  refine ap_Istore (lv2 := [(0, am_l ((a : Nat) : Int)), (2, am_l ((b : Nat) : Int)), (4, am_l ((a : Nat) : Int)), (6, am_l ((b : Nat) : Int)), (8, am_i 0)]) dX9_commonDivisor_7 (by decide) rfl ?_
  exact lp_commonDivisor 49 a b 0 ha (by simpa using hb) (by omega) (by omega) rfl (by omega)

set_option maxHeartbeats 4000000 in
set_option maxRecDepth 100000 in
theorem ct_side {N : Nat} {μ : am_M} {x d : Nat} {w : Int} (hx : x < 4611686018427387904) (hd : 0 < d ∧ d < 562949953421312) (hw : -2147483648 ≤ w ∧ w ≤ 2147483647) : am_Met YX9_side [am_l ((x : Nat) : Int), am_l ((d : Nat) : Int), am_i w] N μ (am_pv (am_l (sd x d w)) N μ) := by
  have hg0 : 0 < Nat.gcd x d := Nat.gcd_pos_of_pos_right x hd.1
  have hg1 : Nat.gcd x d ≤ d := Nat.gcd_le_right x hd.1
  refine am_met (by first | decide | rfl) (Nat.le_of_ble_eq_true rfl) (fun h => by first | rfl | cases h) ?_
  show am_W YX9_side _ 0 0 0 [(0, am_l ((x : Nat) : Int)), (2, am_l ((d : Nat) : Int)), (4, am_i w)] [] _ _
  refine ap_lload_n dX9_side_0 rfl rfl ?_
  refine ap_lload_n dX9_side_1 rfl rfl ?_
  refine ap_cS (As := [am_l ((x : Nat) : Int), am_l ((d : Nat) : Int)]) (rest := []) (ct_commonDivisor (a := x) (b := d) (by omega) (by omega)) dX9_side_2 lk_X9_186 hy_X9_commonDivisor rfl (Nat.le_of_ble_eq_true rfl) ⟨Nat.le_of_ble_eq_true rfl, Nat.le_of_ble_eq_true rfl⟩ ⟨rfl, rfl⟩ ⟨Nat.le_of_ble_eq_true rfl, Nat.le_of_ble_eq_true rfl⟩ (fun xr1 xN2 μ3 xq4 => ?_)
  obtain ⟨rfl, rfl, rfl⟩ := xq4
  refine ap_Lstore (lv2 := [(0, am_l ((x : Nat) : Int)), (2, am_l ((d : Nat) : Int)), (4, am_i w), (5, am_l ((Nat.gcd x d : Nat) : Int))]) dX9_side_5 (by decide) rfl ?_
  refine ap_lload dX9_side_7 rfl ?_
  refine ap_lconst (v := 1) dX9_side_9 rfl ?_
  refine ap_lcmp_ge (tgt := 16) dX9_side_10 dX9_side_11 (by decide) (⟨by omega, by omega⟩) (fun c10 => ?_) (fun c10 => (by exfalso; omega))
  refine ap_iload dX9_side_16 rfl ?_
  refine ap_if_ne (tgt := 25) dX9_side_18 (by decide) (by omega) (fun c18 => ?_) (fun c18 => ?_)
  · refine ap_lload_n dX9_side_25 rfl rfl ?_
    refine ap_lload dX9_side_26 rfl ?_
    refine ap_ldiv dX9_side_28 (⟨by omega, by omega⟩) ?_
    exact ap_lret dX9_side_29 rfl (Nat.le_of_ble_eq_true rfl) (Nat.le_of_ble_eq_true rfl) (⟨by rw [sd, if_neg c18, Int.natCast_ediv], rfl, rfl⟩)
  · refine ap_lload_n dX9_side_21 rfl rfl ?_
    refine ap_goto (tgt := 26) dX9_side_22 (by decide) ?_
    refine ap_lload dX9_side_26 rfl ?_
    refine ap_ldiv dX9_side_28 (⟨by omega, by omega⟩) ?_
    exact ap_lret dX9_side_29 rfl (Nat.le_of_ble_eq_true rfl) (Nat.le_of_ble_eq_true rfl) (⟨by rw [sd, if_pos c18, Int.natCast_ediv], rfl, rfl⟩)

set_option maxHeartbeats 4000000 in
set_option maxRecDepth 100000 in
theorem ct_commonCycle {N : Nat} {μ : am_M} {a b : Nat} (ha : a < 562949953421312) (hb : b < 562949953421312) : am_Met YX9_commonCycle [am_l ((a : Nat) : Int), am_l ((b : Nat) : Int)] N μ (am_pv (am_l (cyc a b)) N μ) := by
  refine am_met (by first | decide | rfl) (Nat.le_of_ble_eq_true rfl) (fun h => by first | rfl | cases h) ?_
  show am_W YX9_commonCycle _ 0 0 0 [(0, am_l ((a : Nat) : Int)), (2, am_l ((b : Nat) : Int))] [] _ _
  refine ap_lload_n dX9_commonCycle_0 rfl rfl ?_
  refine ap_lconst (v := 1) dX9_commonCycle_1 rfl ?_
  refine ap_lcmp_lt (tgt := 12) dX9_commonCycle_2 dX9_commonCycle_3 (by decide) (⟨by omega, by omega⟩) (fun c2 => ?_) (fun c2 => ?_)
  · refine ap_ldc2 dX9_commonCycle_12 kl_X9_249 ?_
    exact ap_lret dX9_commonCycle_15 rfl (Nat.le_of_ble_eq_true rfl) (Nat.le_of_ble_eq_true rfl) (⟨by rw [cyc, if_pos (by omega)], rfl, rfl⟩)
  · refine ap_lload_n dX9_commonCycle_6 rfl rfl ?_
    refine ap_lconst (v := 1) dX9_commonCycle_7 rfl ?_
    refine ap_lcmp_ge (tgt := 16) dX9_commonCycle_8 dX9_commonCycle_9 (by decide) (⟨by omega, by omega⟩) (fun c8 => ?_) (fun c8 => ?_)
    · have hg0 : 0 < Nat.gcd a b := Nat.gcd_pos_of_pos_right a (by omega)
      have hg1 : Nat.gcd a b ≤ b := Nat.gcd_le_right a (by omega)
      have hq1 : a / Nat.gcd a b ≤ a := Nat.div_le_self _ _
      have hq2 : 812851200000 / b ≤ 812851200000 := Nat.div_le_self _ _
      refine ap_lload_n dX9_commonCycle_16 rfl rfl ?_
      refine ap_lload_n dX9_commonCycle_17 rfl rfl ?_
      refine ap_cS (As := [am_l ((a : Nat) : Int), am_l ((b : Nat) : Int)]) (rest := []) (ct_commonDivisor (a := a) (b := b) (by omega) (by omega)) dX9_commonCycle_18 lk_X9_186 hy_X9_commonDivisor rfl (Nat.le_of_ble_eq_true rfl) ⟨Nat.le_of_ble_eq_true rfl, Nat.le_of_ble_eq_true rfl⟩ ⟨rfl, rfl⟩ ⟨Nat.le_of_ble_eq_true rfl, Nat.le_of_ble_eq_true rfl⟩ (fun xr1 xN2 μ3 xq4 => ?_)
      obtain ⟨rfl, rfl, rfl⟩ := xq4
      refine ap_Lstore (lv2 := [(0, am_l ((a : Nat) : Int)), (2, am_l ((b : Nat) : Int)), (4, am_l ((Nat.gcd a b : Nat) : Int))]) dX9_commonCycle_21 (by decide) rfl ?_
      refine ap_lload dX9_commonCycle_23 rfl ?_
      refine ap_lconst (v := 1) dX9_commonCycle_25 rfl ?_
      refine ap_lcmp_ge (tgt := 34) dX9_commonCycle_26 dX9_commonCycle_27 (by decide) (⟨by omega, by omega⟩) (fun c26 => ?_) (fun c26 => (by exfalso; omega))
      refine ap_lload_n dX9_commonCycle_34 rfl rfl ?_
      refine ap_lload dX9_commonCycle_35 rfl ?_
      refine ap_ldiv dX9_commonCycle_37 (⟨by omega, by omega⟩) ?_
      refine ap_topl (b := ((a / Nat.gcd a b : Nat) : Int)) (show (((a : Nat) : Int) / ((Nat.gcd a b : Nat) : Int)) = ((a / Nat.gcd a b : Nat) : Int) from (Int.natCast_ediv _ _).symm) ?_
      generalize hqa : a / Nat.gcd a b = qa at hq1 ⊢
      refine ap_Lstore (lv2 := [(0, am_l ((a : Nat) : Int)), (2, am_l ((b : Nat) : Int)), (4, am_l ((Nat.gcd a b : Nat) : Int)), (6, am_l ((qa : Nat) : Int))]) dX9_commonCycle_38 (by decide) rfl ?_
      refine ap_lload dX9_commonCycle_40 rfl ?_
      refine ap_ldc2 dX9_commonCycle_42 kl_X9_251 ?_
      refine ap_lload_n dX9_commonCycle_45 rfl rfl ?_
      refine ap_ldiv dX9_commonCycle_46 (⟨by omega, by omega⟩) ?_
      refine ap_topl (b := ((812851200000 / b : Nat) : Int)) (show (812851200000 / ((b : Nat) : Int)) = ((812851200000 / b : Nat) : Int) from (Int.natCast_ediv _ _).symm) ?_
      generalize hqb : 812851200000 / b = qb at hq2 ⊢
      refine ap_lcmp_le (tgt := 57) dX9_commonCycle_47 dX9_commonCycle_48 (by decide) (⟨by omega, by omega⟩) (fun c47 => ?_) (fun c47 => ?_)
      · refine ap_lload dX9_commonCycle_57 rfl ?_
        refine ap_lload_n dX9_commonCycle_59 rfl rfl ?_
        refine ap_lmul dX9_commonCycle_60 ?_
        exact ap_lret dX9_commonCycle_61 rfl (Nat.le_of_ble_eq_true rfl) (Nat.le_of_ble_eq_true rfl) (⟨by rw [cyc, if_neg (by omega), hqa, hqb, if_neg (by omega), Int.natCast_mul], rfl, rfl⟩)
      · refine ap_ldc2 dX9_commonCycle_51 kl_X9_253 ?_
        refine ap_goto (tgt := 61) dX9_commonCycle_54 (by decide) ?_
        exact ap_lret dX9_commonCycle_61 rfl (Nat.le_of_ble_eq_true rfl) (Nat.le_of_ble_eq_true rfl) (⟨by rw [cyc, if_neg (by omega), hqa, hqb, if_pos (by omega)], rfl, rfl⟩)
    · refine ap_ldc2 dX9_commonCycle_12 kl_X9_249 ?_
      exact ap_lret dX9_commonCycle_15 rfl (Nat.le_of_ble_eq_true rfl) (Nat.le_of_ble_eq_true rfl) (⟨by rw [cyc, if_pos (by omega)], rfl, rfl⟩)

def mlen (b v : Int) : Int := b * 812851200 / v
abbrev bcl (zr zb zv za zw : Int) : am_E := am_O 9 [.ref 1, .ref 3, .ref 5, .ref 6, .ref 67, .ref 118, am_i zr, am_i zb, am_i zv, am_i za, am_i zw]
def mrok (zb zv za zw : Int) : Prop := (1 ≤ zb ∧ zb ≤ 16) ∧ (zv = 1 ∨ zv = 2 ∨ zv = 4 ∨ zv = 8 ∨ zv = 16) ∧ (1 ≤ za ∧ za ≤ 9) ∧ 1 ≤ zw ∧ zw ≤ 9
theorem mlen_r {b v : Int} (hb : 1 ≤ b ∧ b ≤ 16) (hv : v = 1 ∨ v = 2 ∨ v = 4 ∨ v = 8 ∨ v = 16) : 1 ≤ mlen b v ∧ mlen b v ≤ 13005619200 := by
  unfold mlen
  rcases hv with rfl | rfl | rfl | rfl | rfl <;> omega
set_option maxHeartbeats 4000000 in
set_option maxRecDepth 100000 in
theorem ct_meterLength {N : Nat} {μ : am_M} {zr zb zv za zw : Int} (hB : μ 0 = bcl zr zb zv za zw) (hN : 120 ≤ N) (hr : mrok zb zv za zw) : am_Met YX9_meterLength [.ref 0] N μ (am_pv (am_l (mlen zb zv)) N μ) := by
  obtain ⟨m1, m2, m3, m4, m5⟩ := id hr
  have hml := mlen_r m1 m2
  refine am_met (by first | decide | rfl) (Nat.le_of_ble_eq_true rfl) (fun h => by first | rfl | cases h) ?_
  show am_W YX9_meterLength _ 0 0 0 [(0, .ref 0)] [] _ _
  refine ap_aload_n dX9_meterLength_0 rfl rfl ?_
  refine ap_get ff_X9_53 dX9_meterLength_1 (by omega) hB rfl ?_
  refine ap_iconst dX9_meterLength_4 ?_
  refine ap_icmp_ge (tgt := 14) dX9_meterLength_5 (by decide) (by omega) (fun c5 => ?_) (fun c5 => (by exfalso; omega))
  refine ap_aload_n dX9_meterLength_14 rfl rfl ?_
  refine ap_get ff_X9_49 dX9_meterLength_15 (by omega) hB rfl ?_
  refine ap_i2l dX9_meterLength_18 (by omega) ?_
  refine ap_ldc2 dX9_meterLength_19 kl_X9_137 ?_
  refine ap_lmul dX9_meterLength_22 ?_
  refine ap_aload_n dX9_meterLength_23 rfl rfl ?_
  refine ap_get ff_X9_53 dX9_meterLength_24 (by omega) hB rfl ?_
  refine ap_i2l dX9_meterLength_27 (by omega) ?_
  refine ap_ldiv dX9_meterLength_28 (⟨by omega, by omega⟩) ?_
  exact ap_lret dX9_meterLength_29 rfl (Nat.le_of_ble_eq_true rfl) (Nat.le_of_ble_eq_true rfl) (⟨rfl, rfl, rfl⟩)

set_option maxHeartbeats 4000000 in
set_option maxRecDepth 100000 in
theorem lp_level {N : Nat} {μ : am_M} {zr zb zv za zw : Int} (hB : μ 0 = bcl zr zb zv za zw) (hN : 120 ≤ N) (hr : mrok zb zv za zw) {t M : Int} (ht : 0 ≤ t ∧ t ≤ 140000000000000) (hM : 1 ≤ M ∧ M ≤ 13005619200) {R : Int} : ∀ (nn : Nat) (k : Nat) (z : Int), z = (k : Int) → k ≤ 7 → lev t M k = R → 7 - k < nn → am_W YX9_level (am_pv (am_i R) N μ) 0 0 17 [(0, .ref 0), (1, am_l t), (3, am_l M), (5, am_i z)] [] N μ := by
  intro nn
  induction nn with
  | zero =>
    intro k z hz hk hR hm
    exfalso; omega
  | succ nn ih =>
    intro k z hz hk hR hm
    obtain ⟨m1, m2, m3, m4, m5⟩ := id hr
    have hml := mlen_r m1 m2
    refine ap_iload dX9_level_17 rfl ?_
    refine ap_bipush dX9_level_19 (by decide) ?_
    rw [lev] at hR
    refine ap_icmp_gt (tgt := 44) dX9_level_21 (by decide) (by omega) (fun c21 => ?_) (fun c21 => ?_)
    · refine ap_bipush dX9_level_44 (by decide) ?_
      exact ap_iret dX9_level_46 rfl rfl (Nat.le_of_ble_eq_true rfl) (Nat.le_of_ble_eq_true rfl) (⟨by rw [if_neg (by omega)] at hR; rw [← hR], rfl, rfl⟩)
    · rw [if_pos (by omega)] at hR
      have p2 : (1 : Int) ≤ 2 ^ k ∧ (2 : Int) ^ k ≤ 64 := by
        rcases (show k = 0 ∨ k = 1 ∨ k = 2 ∨ k = 3 ∨ k = 4 ∨ k = 5 ∨ k = 6 by omega) with rfl | rfl | rfl | rfl | rfl | rfl | rfl <;> decide
      have p3 : 0 ≤ t * 2 ^ k := Int.mul_nonneg ht.1 (by omega)
      have p4 : t * 2 ^ k ≤ 140000000000000 * 64 := Int.mul_le_mul ht.2 p2.2 (by omega) (by omega)
      refine ap_lload_n dX9_level_24 rfl rfl ?_
      refine ap_iload dX9_level_25 rfl ?_
      refine ap_lshl (r := t * 2 ^ k) dX9_level_27 (am_shl ht.1 hz (by omega)) ?_
      refine ap_lload_n dX9_level_28 rfl rfl ?_
      refine ap_lrem dX9_level_29 (⟨by omega, by omega⟩) ?_
      refine ap_lconst (v := 0) dX9_level_30 rfl ?_
      refine ap_lcmp_ne (tgt := 38) dX9_level_31 dX9_level_32 (by decide) (⟨by have := Int.emod_nonneg (t * 2 ^ k) (show M ≠ 0 by omega); have := Int.emod_lt_of_pos (t * 2 ^ k) (show 0 < M by omega); omega, by omega⟩) (fun c31 => ?_) (fun c31 => ?_)
      · rw [if_neg c31] at hR
        refine ap_Iinc (lv2 := [(0, .ref 0), (1, am_l t), (3, am_l M), (5, am_i (z + 1))]) dX9_level_38 rfl (by decide) rfl ?_
        refine ap_goto (tgt := 17) dX9_level_41 (by decide) ?_
        exact ih (k + 1) _ (by omega) (by omega) hR (by omega)
      · refine ap_iload dX9_level_35 rfl ?_
        exact ap_iret dX9_level_37 rfl rfl (Nat.le_of_ble_eq_true rfl) (Nat.le_of_ble_eq_true rfl) (⟨by rw [if_pos c31] at hR; rw [hz, hR], rfl, rfl⟩)

set_option maxHeartbeats 4000000 in
set_option maxRecDepth 100000 in
theorem ct_level {N : Nat} {μ : am_M} {zr zb zv za zw : Int} (hB : μ 0 = bcl zr zb zv za zw) (hN : 120 ≤ N) (hr : mrok zb zv za zw) {t : Int} (ht : 0 ≤ t ∧ t ≤ 140000000000000) : am_Met YX9_level [.ref 0, am_l t] N μ (am_pv (am_i (lev t (mlen zb zv) 0)) N μ) := by
  obtain ⟨m1, m2, m3, m4, m5⟩ := id hr
  have hml := mlen_r m1 m2
  refine am_met (by first | decide | rfl) (Nat.le_of_ble_eq_true rfl) (fun h => by first | rfl | cases h) ?_
  show am_W YX9_level _ 0 0 0 [(0, .ref 0), (1, am_l t)] [] _ _
  refine ap_aload_n dX9_level_0 rfl rfl ?_
  refine ap_cV (As := []) (rest := []) (ct_meterLength hB hN hr) dX9_level_1 lk_X9_183 hy_X9_meterLength rfl (by omega) hB ⟨_, _, rfl⟩ (Nat.le_of_ble_eq_true rfl) ⟨Nat.le_of_ble_eq_true rfl, Nat.le_of_ble_eq_true rfl⟩ ⟨rfl, rfl⟩ ⟨Nat.le_of_ble_eq_true rfl, Nat.le_of_ble_eq_true rfl⟩ (fun xr1 xN2 μ3 xq4 => ?_)
  obtain ⟨rfl, rfl, rfl⟩ := xq4
  refine ap_Lstore_n (lv2 := [(0, .ref 0), (1, am_l t), (3, am_l (mlen zb zv))]) dX9_level_4 rfl (by decide) rfl ?_
  refine ap_lload_n dX9_level_5 rfl rfl ?_
  refine ap_lconst (v := 1) dX9_level_6 rfl ?_
  refine ap_lcmp_ge (tgt := 14) dX9_level_7 dX9_level_8 (by decide) (⟨by omega, by omega⟩) (fun c7 => ?_) (fun c7 => (by exfalso; omega))
  refine ap_iconst dX9_level_14 ?_
  refine ap_Istore (lv2 := [(0, .ref 0), (1, am_l t), (3, am_l (mlen zb zv)), (5, am_i 0)]) dX9_level_15 (by decide) rfl ?_
  exact lp_level hB hN hr ht hml 8 0 _ rfl (by omega) rfl (by omega)

set_option maxHeartbeats 4000000 in
set_option maxRecDepth 100000 in
theorem lp_lbt {N : Nat} {μ : am_M} {zr zb zv za zw : Int} (hB : μ 0 = bcl zr zb zv za zw) (hN : 120 ≤ N) (hr : mrok zb zv za zw) {t e M : Int} (ht : 0 ≤ t ∧ t ≤ 140000000000000) (he : 0 ≤ e ∧ e ≤ 140000000000000) (hM : 1 ≤ M ∧ M ≤ 13005619200) {R : Int} : ∀ (nn : Nat) (k : Nat) (z : Int), z = (k : Int) → k ≤ 7 → lbt t e M k = R → 7 - k < nn → am_W YX9_leastLevelBetween (am_pv (am_i R) N μ) 0 0 19 [(0, .ref 0), (1, am_l t), (3, am_l e), (5, am_l M), (7, am_i z)] [] N μ := by
  intro nn
  induction nn with
  | zero =>
    intro k z hz hk hR hm
    exfalso; omega
  | succ nn ih =>
    intro k z hz hk hR hm
    obtain ⟨m1, m2, m3, m4, m5⟩ := id hr
    have hml := mlen_r m1 m2
    refine ap_iload dX9_leastLevelBetween_19 rfl ?_
    refine ap_bipush dX9_leastLevelBetween_21 (by decide) ?_
    rw [lbt] at hR
    refine ap_icmp_gt (tgt := 59) dX9_leastLevelBetween_23 (by decide) (by omega) (fun c23 => ?_) (fun c23 => ?_)
    · refine ap_bipush dX9_leastLevelBetween_59 (by decide) ?_
      exact ap_iret dX9_leastLevelBetween_61 rfl rfl (Nat.le_of_ble_eq_true rfl) (Nat.le_of_ble_eq_true rfl) (⟨by rw [if_neg (by omega)] at hR; rw [← hR], rfl, rfl⟩)
    · rw [if_pos (by omega)] at hR
      have p2 : (1 : Int) ≤ 2 ^ k ∧ (2 : Int) ^ k ≤ 64 := by
        rcases (show k = 0 ∨ k = 1 ∨ k = 2 ∨ k = 3 ∨ k = 4 ∨ k = 5 ∨ k = 6 by omega) with rfl | rfl | rfl | rfl | rfl | rfl | rfl <;> decide
      have p3 : 0 ≤ t * 2 ^ k := Int.mul_nonneg ht.1 (by omega)
      have p4 : t * 2 ^ k ≤ 140000000000000 * 64 := Int.mul_le_mul ht.2 p2.2 (by omega) (by omega)
      have p5 : 0 ≤ e * 2 ^ k := Int.mul_nonneg he.1 (by omega)
      have p6 : e * 2 ^ k ≤ 140000000000000 * 64 := Int.mul_le_mul he.2 p2.2 (by omega) (by omega)
      have p7 := Int.mul_ediv_add_emod (t * 2 ^ k) M
      have p8 := Int.emod_nonneg (t * 2 ^ k) (show M ≠ 0 by omega)
      have p9 : (t * 2 ^ k / M + 1) * M = M * (t * 2 ^ k / M) + M := by rw [Int.add_mul, Int.one_mul, Int.mul_comm]
      have p10 := Int.ediv_nonneg p3 (show 0 ≤ M by omega)
      have p11 : 0 ≤ M * (t * 2 ^ k / M) := Int.mul_nonneg (by omega) p10
      refine ap_lload_n dX9_leastLevelBetween_26 rfl rfl ?_
      refine ap_iload dX9_leastLevelBetween_27 rfl ?_
      refine ap_lshl (r := t * 2 ^ k) dX9_leastLevelBetween_29 (am_shl ht.1 hz (by omega)) ?_
      refine ap_lload dX9_leastLevelBetween_30 rfl ?_
      refine ap_ldiv dX9_leastLevelBetween_32 (⟨by omega, by omega⟩) ?_
      refine ap_lconst (v := 1) dX9_leastLevelBetween_33 rfl ?_
      refine ap_ladd dX9_leastLevelBetween_34 ?_
      refine ap_lload dX9_leastLevelBetween_35 rfl ?_
      refine ap_lmul dX9_leastLevelBetween_37 ?_
      refine ap_Lstore (lv2 := [(0, .ref 0), (1, am_l t), (3, am_l e), (5, am_l M), (7, am_i z), (8, am_l ((((t * 2 ^ k) / M) + 1) * M))]) dX9_leastLevelBetween_38 (by decide) rfl ?_
      refine ap_lload dX9_leastLevelBetween_40 rfl ?_
      refine ap_lload_n dX9_leastLevelBetween_42 rfl rfl ?_
      refine ap_iload dX9_leastLevelBetween_43 rfl ?_
      refine ap_lshl (r := e * 2 ^ k) dX9_leastLevelBetween_45 (am_shl he.1 hz (by omega)) ?_
      refine ap_lcmp_ge (tgt := 53) dX9_leastLevelBetween_46 dX9_leastLevelBetween_47 (by decide) (⟨by omega, by omega⟩) (fun c46 => ?_) (fun c46 => ?_)
      · rw [if_neg (by omega)] at hR
        refine ap_Iinc (lv2 := [(0, .ref 0), (1, am_l t), (3, am_l e), (5, am_l M), (7, am_i (z + 1)), (8, am_l ((((t * 2 ^ k) / M) + 1) * M))]) dX9_leastLevelBetween_53 rfl (by decide) rfl ?_
        refine ap_goto (tgt := 19) dX9_leastLevelBetween_56 (by decide) ?_
        refine ap_pick (lv2 := [(0, .ref 0), (1, am_l t), (3, am_l e), (5, am_l M), (7, am_i (z + 1))]) [0, 1, 2, 3, 4] rfl ?_
        exact ih (k + 1) _ (by omega) (by omega) hR (by omega)
      · refine ap_iload dX9_leastLevelBetween_50 rfl ?_
        exact ap_iret dX9_leastLevelBetween_52 rfl rfl (Nat.le_of_ble_eq_true rfl) (Nat.le_of_ble_eq_true rfl) (⟨by rw [if_pos (by omega)] at hR; rw [hz, hR], rfl, rfl⟩)

set_option maxHeartbeats 4000000 in
set_option maxRecDepth 100000 in
theorem ct_lbt {N : Nat} {μ : am_M} {zr zb zv za zw : Int} (hB : μ 0 = bcl zr zb zv za zw) (hN : 120 ≤ N) (hr : mrok zb zv za zw) {t e : Int} (ht : 0 ≤ t ∧ t ≤ 140000000000000) (he : 0 ≤ e ∧ e ≤ 140000000000000) : am_Met YX9_leastLevelBetween [.ref 0, am_l t, am_l e] N μ (am_pv (am_i (lbt t e (mlen zb zv) 0)) N μ) := by
  obtain ⟨m1, m2, m3, m4, m5⟩ := id hr
  have hml := mlen_r m1 m2
  refine am_met (by first | decide | rfl) (Nat.le_of_ble_eq_true rfl) (fun h => by first | rfl | cases h) ?_
  show am_W YX9_leastLevelBetween _ 0 0 0 [(0, .ref 0), (1, am_l t), (3, am_l e)] [] _ _
  refine ap_aload_n dX9_leastLevelBetween_0 rfl rfl ?_
  refine ap_cV (As := []) (rest := []) (ct_meterLength hB hN hr) dX9_leastLevelBetween_1 lk_X9_183 hy_X9_meterLength rfl (by omega) hB ⟨_, _, rfl⟩ (Nat.le_of_ble_eq_true rfl) ⟨Nat.le_of_ble_eq_true rfl, Nat.le_of_ble_eq_true rfl⟩ ⟨rfl, rfl⟩ ⟨Nat.le_of_ble_eq_true rfl, Nat.le_of_ble_eq_true rfl⟩ (fun xr1 xN2 μ3 xq4 => ?_)
  obtain ⟨rfl, rfl, rfl⟩ := xq4
  refine ap_Lstore (lv2 := [(0, .ref 0), (1, am_l t), (3, am_l e), (5, am_l (mlen zb zv))]) dX9_leastLevelBetween_4 (by decide) rfl ?_
  refine ap_lload dX9_leastLevelBetween_6 rfl ?_
  refine ap_lconst (v := 1) dX9_leastLevelBetween_8 rfl ?_
  refine ap_lcmp_ge (tgt := 16) dX9_leastLevelBetween_9 dX9_leastLevelBetween_10 (by decide) (⟨by omega, by omega⟩) (fun c9 => ?_) (fun c9 => (by exfalso; omega))
  refine ap_iconst dX9_leastLevelBetween_16 ?_
  refine ap_Istore (lv2 := [(0, .ref 0), (1, am_l t), (3, am_l e), (5, am_l (mlen zb zv)), (7, am_i 0)]) dX9_leastLevelBetween_17 (by decide) rfl ?_
  exact lp_lbt hB hN hr ht he hml 8 0 _ rfl (by omega) rfl (by omega)

set_option maxHeartbeats 4000000 in
set_option maxRecDepth 100000 in
theorem ct_syncopationOf {N : Nat} {μ : am_M} {zr zb zv za zw : Int} (hB : μ 0 = bcl zr zb zv za zw) (hN : 120 ≤ N) (hr : mrok zb zv za zw) {s : Nat} {P : PS} (hS : Sco μ s P) (hsN : s + 9 < N) (hp : pok P) {i : Nat} {z : Int} (hz : z = (i : Int)) (hi : i < p_cnt P) : am_Met YX9_syncopationOf [.ref 0, .ref s, am_i z] N μ (am_pv (am_i (syn (p_B P i) (p_E P i) (mlen zb zv))) N μ) := by
  obtain ⟨m1, m2, m3, m4, m5⟩ := id hr
  have hml := mlen_r m1 m2
  obtain ⟨h1, -⟩ := id hS
  obtain ⟨g1, g2, g3, g4, g5, g6, g7, g8, g9⟩ := id hp
  have ge := g8 i hi
  have r1 := lev_r (p_B P i) (mlen zb zv) 0 (by omega)
  have r2 := lbt_r (p_B P i) (p_E P i) (mlen zb zv) 0 (by omega)
  refine am_met (by first | decide | rfl) (Nat.le_of_ble_eq_true rfl) (fun h => by first | rfl | cases h) ?_
  show am_W YX9_syncopationOf _ 0 0 0 [(0, .ref 0), (1, .ref s), (2, am_i z)] [] _ _
  refine ap_aload_n dX9_syncopationOf_0 rfl rfl ?_
  refine ap_iload_n dX9_syncopationOf_1 rfl rfl ?_
  refine ap_cV (As := [am_i z]) (rest := []) (ct_begin hS hsN hp (k := z) (by omega)) dX9_syncopationOf_2 lk_X9_146 hy_X4_begin rfl (by omega) h1 ⟨_, _, rfl⟩ (Nat.le_of_ble_eq_true rfl) ⟨Nat.le_of_ble_eq_true rfl, Nat.le_of_ble_eq_true rfl⟩ ⟨rfl, rfl⟩ ⟨Nat.le_of_ble_eq_true rfl, Nat.le_of_ble_eq_true rfl⟩ (fun xr1 xN2 μ3 xq4 => ?_)
  obtain ⟨rfl, rfl, rfl⟩ := xq4
  refine ap_topl (b := p_B P i) (show (if 0 ≤ z ∧ z < p_cnt P then p_B P z.toNat else 0) = (p_B P i) from by rw [if_pos (by omega), hz]; rfl) ?_
  refine ap_Lstore_n (lv2 := [(0, .ref 0), (1, .ref s), (2, am_i z), (3, am_l (p_B P i))]) dX9_syncopationOf_5 rfl (by decide) rfl ?_
  refine ap_iconst dX9_syncopationOf_6 ?_
  refine ap_aload_n dX9_syncopationOf_7 rfl rfl ?_
  refine ap_lload_n dX9_syncopationOf_8 rfl rfl ?_
  refine ap_cV (As := [am_l (p_B P i)]) (rest := [am_i 0]) (ct_level hB hN hr (by omega)) dX9_syncopationOf_9 lk_X9_166 hy_X9_level rfl (by omega) hB ⟨_, _, rfl⟩ (Nat.le_of_ble_eq_true rfl) ⟨Nat.le_of_ble_eq_true rfl, Nat.le_of_ble_eq_true rfl⟩ ⟨rfl, rfl⟩ ⟨Nat.le_of_ble_eq_true rfl, Nat.le_of_ble_eq_true rfl⟩ (fun xr5 xN6 μ7 xq8 => ?_)
  obtain ⟨rfl, rfl, rfl⟩ := xq8
  refine ap_aload_n dX9_syncopationOf_12 rfl rfl ?_
  refine ap_lload_n dX9_syncopationOf_13 rfl rfl ?_
  refine ap_aload_n dX9_syncopationOf_14 rfl rfl ?_
  refine ap_iload_n dX9_syncopationOf_15 rfl rfl ?_
  refine ap_cV (As := [am_i z]) (rest := [am_l (p_B P i), .ref 0, am_i (lev (p_B P i) (mlen zb zv) 0), am_i 0]) (ct_end hS hsN hp (k := z) (by omega)) dX9_syncopationOf_16 lk_X9_150 hy_X4_end rfl (by omega) h1 ⟨_, _, rfl⟩ (Nat.le_of_ble_eq_true rfl) ⟨Nat.le_of_ble_eq_true rfl, Nat.le_of_ble_eq_true rfl⟩ ⟨rfl, rfl⟩ ⟨Nat.le_of_ble_eq_true rfl, Nat.le_of_ble_eq_true rfl⟩ (fun xr9 xN10 μ11 xq12 => ?_)
  obtain ⟨rfl, rfl, rfl⟩ := xq12
  refine ap_topl (b := p_E P i) (show (if 0 ≤ z ∧ z < p_cnt P then p_E P z.toNat else 0) = (p_E P i) from by rw [if_pos (by omega), hz]; rfl) ?_
  refine ap_cV (As := [am_l (p_B P i), am_l (p_E P i)]) (rest := [am_i (lev (p_B P i) (mlen zb zv) 0), am_i 0]) (ct_lbt hB hN hr (by omega) (by omega)) dX9_syncopationOf_19 lk_X9_233 hy_X9_leastLevelBetween rfl (by omega) hB ⟨_, _, rfl⟩ (Nat.le_of_ble_eq_true rfl) ⟨Nat.le_of_ble_eq_true rfl, Nat.le_of_ble_eq_true rfl⟩ ⟨rfl, rfl⟩ ⟨Nat.le_of_ble_eq_true rfl, Nat.le_of_ble_eq_true rfl⟩ (fun xr13 xN14 μ15 xq16 => ?_)
  obtain ⟨rfl, rfl, rfl⟩ := xq16
  refine ap_isub dX9_syncopationOf_22 ?_
  refine ap_max dX9_syncopationOf_23 lk_X9_237 ⟨Nat.le_of_ble_eq_true rfl, Nat.le_of_ble_eq_true rfl⟩ ⟨Nat.le_of_ble_eq_true rfl, Nat.le_of_ble_eq_true rfl⟩ (by omega) ?_
  exact ap_iret dX9_syncopationOf_26 rfl rfl (Nat.le_of_ble_eq_true rfl) (Nat.le_of_ble_eq_true rfl) (⟨rfl, rfl, rfl⟩)

set_option maxHeartbeats 4000000 in
set_option maxRecDepth 100000 in
theorem ct_swing {N : Nat} {μ : am_M} {zr zb zv za zw : Int} (hB : μ 0 = bcl zr zb zv za zw) (hN : 120 ≤ N) (hr : mrok zb zv za zw) {t : Int} (ht : 0 ≤ t ∧ t ≤ 140000000000000) : am_Met YX9_swing [.ref 0, am_l t] N μ (am_pv (am_l (swg t za zw)) N μ) := by
  obtain ⟨m1, m2, m3, m4, m5⟩ := id hr
  have hml := mlen_r m1 m2
  refine am_met (by first | decide | rfl) (Nat.le_of_ble_eq_true rfl) (fun h => by first | rfl | cases h) ?_
  show am_W YX9_swing _ 0 0 0 [(0, .ref 0), (1, am_l t)] [] _ _
  refine ap_ldc2 dX9_swing_0 kl_X9_243 ?_
  refine ap_Lstore_n (lv2 := [(0, .ref 0), (1, am_l t), (3, am_l 203212800)]) dX9_swing_3 rfl (by decide) rfl ?_
  refine ap_ldc2 dX9_swing_4 kl_X9_245 ?_
  refine ap_Lstore (lv2 := [(0, .ref 0), (1, am_l t), (3, am_l 203212800), (5, am_l 101606400)]) dX9_swing_7 (by decide) rfl ?_
  refine ap_lload_n dX9_swing_9 rfl rfl ?_
  refine ap_lload_n dX9_swing_10 rfl rfl ?_
  refine ap_lrem dX9_swing_11 (⟨by omega, by omega⟩) ?_
  refine ap_Lstore (lv2 := [(0, .ref 0), (1, am_l t), (3, am_l 203212800), (5, am_l 101606400), (7, am_l (t % 203212800))]) dX9_swing_12 (by decide) rfl ?_
  refine ap_lload_n dX9_swing_14 rfl rfl ?_
  refine ap_lload dX9_swing_15 rfl ?_
  refine ap_lsub dX9_swing_17 ?_
  refine ap_aload_n dX9_swing_18 rfl rfl ?_
  refine ap_get ff_X9_56 dX9_swing_19 (by omega) hB rfl ?_
  refine ap_aload_n dX9_swing_22 rfl rfl ?_
  refine ap_get ff_X9_59 dX9_swing_23 (by omega) hB rfl ?_
  refine ap_iadd dX9_swing_26 ?_
  refine ap_i2l dX9_swing_27 (by omega) ?_
  refine ap_lmul dX9_swing_28 ?_
  refine ap_Lstore (lv2 := [(0, .ref 0), (1, am_l t), (3, am_l 203212800), (5, am_l 101606400), (7, am_l (t % 203212800)), (9, am_l ((t - (t % 203212800)) * (za + zw)))]) dX9_swing_29 (by decide) rfl ?_
  refine ap_lload dX9_swing_31 rfl ?_
  refine ap_lload dX9_swing_33 rfl ?_
  refine ap_lcmp_ge (tgt := 55) dX9_swing_35 dX9_swing_36 (by decide) (⟨by omega, by omega⟩) (fun c35 => ?_) (fun c35 => ?_)
  · refine ap_lload dX9_swing_55 rfl ?_
    refine ap_lload_n dX9_swing_57 rfl rfl ?_
    refine ap_aload_n dX9_swing_58 rfl rfl ?_
    refine ap_get ff_X9_56 dX9_swing_59 (by omega) hB rfl ?_
    refine ap_i2l dX9_swing_62 (by omega) ?_
    refine ap_lmul dX9_swing_63 ?_
    refine ap_ladd dX9_swing_64 ?_
    refine ap_lload dX9_swing_65 rfl ?_
    refine ap_lload dX9_swing_67 rfl ?_
    refine ap_lsub dX9_swing_69 ?_
    refine ap_ldc2 dX9_swing_70 kl_X9_247 ?_
    refine ap_lmul dX9_swing_73 ?_
    refine ap_aload_n dX9_swing_74 rfl rfl ?_
    refine ap_get ff_X9_59 dX9_swing_75 (by omega) hB rfl ?_
    refine ap_i2l dX9_swing_78 (by omega) ?_
    refine ap_lmul dX9_swing_79 ?_
    refine ap_ladd dX9_swing_80 ?_
    exact ap_lret dX9_swing_81 rfl (Nat.le_of_ble_eq_true rfl) (Nat.le_of_ble_eq_true rfl) (⟨by rw [swg, if_neg (by omega)], rfl, rfl⟩)
  · refine ap_lload dX9_swing_39 rfl ?_
    refine ap_lload dX9_swing_41 rfl ?_
    refine ap_ldc2 dX9_swing_43 kl_X9_247 ?_
    refine ap_lmul dX9_swing_46 ?_
    refine ap_aload_n dX9_swing_47 rfl rfl ?_
    refine ap_get ff_X9_56 dX9_swing_48 (by omega) hB rfl ?_
    refine ap_i2l dX9_swing_51 (by omega) ?_
    refine ap_lmul dX9_swing_52 ?_
    refine ap_ladd dX9_swing_53 ?_
    exact ap_lret dX9_swing_54 rfl (Nat.le_of_ble_eq_true rfl) (Nat.le_of_ble_eq_true rfl) (⟨by rw [swg, if_pos (by omega)], rfl, rfl⟩)

