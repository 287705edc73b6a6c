/-! unfolding, by places -/
theorem sk_le (xs : List Int) (c d : Int) (k : Nat) : sk xs c d k ≤ xs.length := by
  induction hn : xs.length - k generalizing k with
  | zero => rw [sk, if_neg (by omega)]; exact Nat.le_refl _
  | succ n ih =>
    rw [sk, if_pos (by omega)]
    split
    · omega
    · exact ih (k + 1) (by omega)
theorem sk_ge (xs : List Int) (c d : Int) (k : Nat) (h : k ≤ xs.length) : k ≤ sk xs c d k := by
  induction hn : xs.length - k generalizing k with
  | zero => rw [sk, if_neg (by omega)]; omega
  | succ n ih =>
    rw [sk, if_pos (by omega)]
    split
    · exact Nat.le_refl _
    · exact Nat.le_trans (Nat.le_succ k) (ih (k + 1) (by omega) (by omega))
def isEr (xs : List Int) (ps : Int) (co k : Nat) : Int := if k < co then (if dg (xs.getD k 0) = ps then 1 else isEr xs ps co (k + 1)) else 0
termination_by co - k
theorem isEr_r (xs : List Int) (ps : Int) (co k : Nat) : isEr xs ps co k = 0 ∨ isEr xs ps co k = 1 := by
  induction hn : co - k generalizing k with
  | zero => rw [isEr, if_neg (by omega)]; exact Or.inl rfl
  | succ n ih =>
    rw [isEr, if_pos (by omega)]
    split
    · exact Or.inr rfl
    · exact ih (k + 1) (by omega)
def endg (xs : List Int) (ps : Int) (cl k : Nat) : List Int := if k < cl then (if xs.getD k 0 = 47 ∧ isEr xs ps (sk xs 58 58 k) (k + 1) = 1 then piece xs (sk xs 58 58 k + 1) (sk xs 47 93 (sk xs 58 58 k)) else endg xs ps cl (k + 1)) else []
termination_by cl - k
def psn (xs : List Int) (op be cl j : Nat) : List Int := match j with
  | 0 => []
  | j + 1 => psn xs op be cl j ++ (piece xs (op + 1) be ++ endg xs ((j : Int) + 1) cl be)
def uf (xs : List Int) (k : Nat) : List Int := if h : k < xs.length then (if xs.getD k 0 = 91 then psn xs k (sk xs 47 93 k) (sk xs 93 93 k) (dg (tat xs ((sk xs 93 93 k : Int) + 1))).toNat ++ uf xs (max k (sk xs 93 93 k + 1) + 1) else xs.getD k 0 :: uf xs (k + 1)) else []
termination_by xs.length - k
decreasing_by all_goals omega
def lets (xs : List Int) : Nat := (xs.filter (fun c => decide (0 ≤ hv c))).length
theorem psn_pre {xs : List Int} {op be cl : Nat} {i j : Nat} (h : i ≤ j) : (psn xs op be cl i).length ≤ (psn xs op be cl j).length := by
  induction j with
  | zero => rw [show i = 0 by omega]; exact Nat.le_refl _
  | succ j ih =>
    by_cases hi : i = j + 1
    · rw [hi]; exact Nat.le_refl _
    · have := ih (by omega)
      simp only [psn, List.length_append]
      omega
set_option maxHeartbeats 4000000 in
set_option maxRecDepth 100000 in
theorem lp_isEndingOf {N t cap : Nat} {μ : am_M} {xs : List Int} (hT : Tx μ t cap xs) (hN : t + 1 < N) {ps : Int} {co : Nat} {a1 : Int} (hp : 0 ≤ ps ∧ ps ≤ 9) (hco : co ≤ xs.length) {R : Int} : ∀ (nn : Nat) (i : Nat) (z : Int), z = (i : Int) → i ≤ xs.length + 1 → isEr xs ps co i = R → xs.length + 1 - i < nn → am_W YX8_isEndingOf (am_pv (am_i R) N μ) 0 0 15 [(0, .ref t), (1, am_i a1), (2, am_i ps), (3, am_i (co : Int)), (4, am_i z)] [] N μ := by
  intro nn
  induction nn with
  | zero =>
    intro i z hz hi hR hm
    exfalso; omega
  | succ nn ih =>
    intro i z hz hi hR hm
    obtain ⟨t1, ⟨tg, t2, t3⟩, t4, t5, t6⟩ := id hT
    refine ap_iload dX8_isEndingOf_15 rfl ?_
    refine ap_iload_n dX8_isEndingOf_17 rfl rfl ?_
    rw [isEr] at hR
    refine ap_icmp_ge (tgt := 42) dX8_isEndingOf_18 (by decide) (by omega) (fun c18 => ?_) (fun c18 => ?_)
    · refine ap_iconst dX8_isEndingOf_42 ?_
      exact ap_iret dX8_isEndingOf_43 rfl (am_nz (by first | omega | decide)) (Nat.le_of_ble_eq_true rfl) (Nat.le_of_ble_eq_true rfl) (⟨by rw [if_neg (by omega)] at hR; rw [← hR], rfl, rfl⟩)
    · rw [if_pos (by omega)] at hR
      have hat : tat xs z = xs.getD i 0 := by rw [tat, if_pos (by omega), hz]; rfl
      refine ap_aload_n dX8_isEndingOf_21 rfl rfl ?_
      refine ap_iload dX8_isEndingOf_22 rfl ?_
      refine ap_cV (As := [am_i z]) (rest := []) (ct_at hT hN (by omega)) dX8_isEndingOf_24 lk_X8_16 hy_X6_at rfl (by omega) t1 ⟨_, _, rfl⟩ (Nat.le_of_ble_eq_true rfl) ⟨Nat.le_of_ble_eq_true rfl, Nat.le_of_ble_eq_true rfl⟩ ⟨rfl, rfl⟩ ⟨Nat.le_of_ble_eq_true rfl, Nat.le_of_ble_eq_true rfl⟩ (fun xr1 xN2 μ3 xq4 => ?_)
      obtain ⟨rfl, rfl, rfl⟩ := xq4
      refine ap_topi (b := xs.getD i 0) (show (tat xs z) = (xs.getD i 0) from hat) ?_
      refine ap_cS (As := [am_i (xs.getD i 0)]) (rest := []) (ct_digit (by have := t6 _ (am_gd (show i < xs.length by omega)); omega)) dX8_isEndingOf_27 lk_X8_40 hy_X1_digit rfl (Nat.le_of_ble_eq_true rfl) ⟨Nat.le_of_ble_eq_true rfl, Nat.le_of_ble_eq_true rfl⟩ ⟨rfl, rfl⟩ ⟨Nat.le_of_ble_eq_true rfl, Nat.le_of_ble_eq_true rfl⟩ (fun xr5 xN6 μ7 xq8 => ?_)
      obtain ⟨rfl, rfl, rfl⟩ := xq8
      refine ap_iload_n dX8_isEndingOf_30 rfl rfl ?_
      refine ap_icmp_ne (tgt := 36) dX8_isEndingOf_31 (by decide) (by have := dg_r (xs.getD i 0); omega) (fun c31 => ?_) (fun c31 => ?_)
      · rw [if_neg c31] at hR
        refine ap_Iinc (lv2 := [(0, .ref t), (1, am_i a1), (2, am_i ps), (3, am_i (co : Int)), (4, am_i (z + 1))]) dX8_isEndingOf_36 rfl (by decide) rfl ?_
        refine ap_goto (tgt := 15) dX8_isEndingOf_39 (by decide) ?_
        exact ih (i + 1) _ (by omega) (by omega) hR (by omega)
      · refine ap_iconst dX8_isEndingOf_34 ?_
        exact ap_iret dX8_isEndingOf_35 rfl (am_nz (by first | omega | decide)) (Nat.le_of_ble_eq_true rfl) (Nat.le_of_ble_eq_true rfl) (⟨by rw [if_pos c31] at hR; rw [← hR], rfl, rfl⟩)

set_option maxHeartbeats 4000000 in
set_option maxRecDepth 100000 in
theorem ct_isEndingOf {N t cap : Nat} {μ : am_M} {xs : List Int} (hT : Tx μ t cap xs) (hN : t + 1 < N) {ps : Int} {i : Nat} {zi : Int} (hz : zi = (i : Int)) (hp : 0 ≤ ps ∧ ps ≤ 9) (hi : i < xs.length) : am_Met YX8_isEndingOf [.ref t, am_i zi, am_i ps] N μ (am_pv (am_i (isEr xs ps (sk xs 58 58 i) (i + 1))) N μ) := by
  obtain ⟨t1, ⟨tg, t2, t3⟩, t4, t5, t6⟩ := id hT
  refine am_met (by first | decide | rfl) (Nat.le_of_ble_eq_true rfl) (fun h => by first | rfl | cases h) ?_
  show am_W YX8_isEndingOf _ 0 0 0 [(0, .ref t), (1, am_i zi), (2, am_i ps)] [] _ _
  refine ap_aload_n dX8_isEndingOf_0 rfl rfl ?_
  refine ap_iload_n dX8_isEndingOf_1 rfl rfl ?_
  refine ap_bipush dX8_isEndingOf_2 (by decide) ?_
  refine ap_bipush dX8_isEndingOf_4 (by decide) ?_
  refine ap_cV (As := [am_i zi, am_i 58, am_i 58]) (rest := []) (ct_seek hT hN (by omega) (i := i) (hz) (by omega)) dX8_isEndingOf_6 lk_X8_20 hy_X6_seek rfl (by omega) t1 ⟨_, _, rfl⟩ (Nat.le_of_ble_eq_true rfl) ⟨Nat.le_of_ble_eq_true rfl, Nat.le_of_ble_eq_true rfl⟩ ⟨rfl, rfl⟩ ⟨Nat.le_of_ble_eq_true rfl, Nat.le_of_ble_eq_true rfl⟩ (fun xr1 xN2 μ3 xq4 => ?_)
  obtain ⟨rfl, rfl, rfl⟩ := xq4
  refine ap_Istore_n (lv2 := [(0, .ref t), (1, am_i zi), (2, am_i ps), (3, am_i ((sk xs 58 58 i : Nat) : Int))]) dX8_isEndingOf_9 rfl (by decide) rfl ?_
  refine ap_iload_n dX8_isEndingOf_10 rfl rfl ?_
  refine ap_iconst dX8_isEndingOf_11 ?_
  refine ap_iadd dX8_isEndingOf_12 ?_
  refine ap_Istore (lv2 := [(0, .ref t), (1, am_i zi), (2, am_i ps), (3, am_i ((sk xs 58 58 i : Nat) : Int)), (4, am_i (zi + 1))]) dX8_isEndingOf_13 (by decide) rfl ?_
  exact lp_isEndingOf hT hN hp (sk_le _ _ _ _) (xs.length + 2) (i + 1) _ (by omega) (by omega) rfl (by omega)

set_option maxHeartbeats 4000000 in
set_option maxRecDepth 100000 in
theorem lp_appendEnding {N t u cap cap2 : Nat} {μ0 : am_M} {xs rs : List Int} (hT0 : Tx μ0 t cap xs) (hN : t + 1 < N) (hN2 : u + 1 < N) (hd : t + 2 ≤ u ∨ u + 2 ≤ t) (hcap : cap ≤ 900) {ps : Int} {cl : Nat} {a1 : Int} {μ : am_M} (hp : 0 ≤ ps ∧ ps ≤ 9) (hcl : cl ≤ xs.length) {E : List Int} (hU : Tx μ u cap2 rs) (hf : am_fr u (u + 2) μ0 μ) (hfit : rs.length + E.length ≤ cap2) : ∀ (nn : Nat) (i : Nat) (z : Int), z = (i : Int) → i ≤ xs.length + 1 → endg xs ps cl i = E → xs.length + 1 - i < nn → am_W YX8_appendEnding (fun r N2 μ2 => r = none ∧ N = N2 ∧ Tx μ2 u cap2 (rs ++ E) ∧ am_fr u (u + 2) μ0 μ2) 0 0 3 [(0, .ref t), (1, am_i a1), (2, am_i (cl : Int)), (3, am_i ps), (4, .ref u), (5, am_i z)] [] N μ := by
  intro nn
  induction nn with
  | zero =>
    intro i z hz hi hE hm
    exfalso; omega
  | succ nn ih =>
    intro i z hz hi hE hm
    have hT := hT0.fr hf (by omega)
    obtain ⟨t1, ⟨tg, t2, t3⟩, t4, t5, t6⟩ := id hT
    obtain ⟨u1, ⟨ug, u2, u3⟩, u4, u5, u6⟩ := id hU
    refine ap_iload dX8_appendEnding_3 rfl ?_
    refine ap_iload_n dX8_appendEnding_5 rfl rfl ?_
    rw [endg] at hE
    refine ap_icmp_ge (tgt := 69) dX8_appendEnding_6 (by decide) (by omega) (fun c6 => ?_) (fun c6 => ?_)
    · exact ap_vret dX8_appendEnding_69 rfl (Nat.le_of_ble_eq_true rfl) (Nat.le_of_ble_eq_true rfl) (⟨rfl, rfl, by rw [if_neg (by omega)] at hE; rw [← hE, List.append_nil]; exact hU, hf⟩)
    · rw [if_pos (by omega)] at hE
      have hat : tat xs z = xs.getD i 0 := by rw [tat, if_pos (by omega), hz]; rfl
      have hch := t6 _ (am_gd (show i < xs.length by omega))
      refine ap_aload_n dX8_appendEnding_9 rfl rfl ?_
      refine ap_iload dX8_appendEnding_10 rfl ?_
      refine ap_cV (As := [am_i z]) (rest := []) (ct_at hT hN (by omega)) dX8_appendEnding_12 lk_X8_16 hy_X6_at rfl (by omega) t1 ⟨_, _, rfl⟩ (Nat.le_of_ble_eq_true rfl) ⟨Nat.le_of_ble_eq_true rfl, Nat.le_of_ble_eq_true rfl⟩ ⟨rfl, rfl⟩ ⟨Nat.le_of_ble_eq_true rfl, Nat.le_of_ble_eq_true rfl⟩ (fun xr1 xN2 μ3 xq4 => ?_)
      obtain ⟨rfl, rfl, rfl⟩ := xq4
      refine ap_topi (b := xs.getD i 0) (show (tat xs z) = (xs.getD i 0) from hat) ?_
      refine ap_bipush dX8_appendEnding_15 (by decide) ?_
      refine ap_icmp_ne (tgt := 63) dX8_appendEnding_17 (by decide) (by omega) (fun c17 => ?_) (fun c17 => ?_)
      · rw [if_neg (fun q => c17 q.1)] at hE
        refine ap_Iinc (lv2 := [(0, .ref t), (1, am_i a1), (2, am_i (cl : Int)), (3, am_i ps), (4, .ref u), (5, am_i (z + 1))]) dX8_appendEnding_63 rfl (by decide) rfl ?_
        refine ap_goto (tgt := 3) dX8_appendEnding_66 (by decide) ?_
        exact ih (i + 1) _ (by omega) (by omega) hE (by omega)
      · refine ap_aload_n dX8_appendEnding_20 rfl rfl ?_
        refine ap_iload dX8_appendEnding_21 rfl ?_
        refine ap_iload_n dX8_appendEnding_23 rfl rfl ?_
        refine ap_cS (As := [.ref t, am_i z, am_i ps]) (rest := []) (ct_isEndingOf hT hN (i := i) hz hp (by omega)) dX8_appendEnding_24 lk_X8_53 hy_X8_isEndingOf rfl (Nat.le_of_ble_eq_true rfl) ⟨Nat.le_of_ble_eq_true rfl, Nat.le_of_ble_eq_true rfl⟩ ⟨rfl, rfl⟩ ⟨Nat.le_of_ble_eq_true rfl, Nat.le_of_ble_eq_true rfl⟩ (fun xr5 xN6 μ7 xq8 => ?_)
        obtain ⟨rfl, rfl, rfl⟩ := xq8
        refine ap_if_eq (tgt := 63) dX8_appendEnding_27 (by decide) (by have := isEr_r xs ps (sk xs 58 58 i) (i + 1); omega) (fun c27 => ?_) (fun c27 => ?_)
        · rw [if_neg (fun q => by have := q.2; omega)] at hE
          refine ap_Iinc (lv2 := [(0, .ref t), (1, am_i a1), (2, am_i (cl : Int)), (3, am_i ps), (4, .ref u), (5, am_i (z + 1))]) dX8_appendEnding_63 rfl (by decide) rfl ?_
          refine ap_goto (tgt := 3) dX8_appendEnding_66 (by decide) ?_
          exact ih (i + 1) _ (by omega) (by omega) hE (by omega)
        · have hy := isEr_r xs ps (sk xs 58 58 i) (i + 1)
          rw [if_pos ⟨c17, by omega⟩] at hE
          have hs1 := sk_le xs 58 58 i
          have hs2 := sk_le xs 47 93 (sk xs 58 58 i)
          refine ap_aload_n dX8_appendEnding_30 rfl rfl ?_
          refine ap_iload dX8_appendEnding_31 rfl ?_
          refine ap_bipush dX8_appendEnding_33 (by decide) ?_
          refine ap_bipush dX8_appendEnding_35 (by decide) ?_
          refine ap_cV (As := [am_i z, am_i 58, am_i 58]) (rest := []) (ct_seek hT hN (by omega) (i := i) (hz) (by omega)) dX8_appendEnding_37 lk_X8_20 hy_X6_seek rfl (by omega) t1 ⟨_, _, rfl⟩ (Nat.le_of_ble_eq_true rfl) ⟨Nat.le_of_ble_eq_true rfl, Nat.le_of_ble_eq_true rfl⟩ ⟨rfl, rfl⟩ ⟨Nat.le_of_ble_eq_true rfl, Nat.le_of_ble_eq_true rfl⟩ (fun xr9 xN10 μ11 xq12 => ?_)
          obtain ⟨rfl, rfl, rfl⟩ := xq12
          refine ap_Istore (lv2 := [(0, .ref t), (1, am_i a1), (2, am_i (cl : Int)), (3, am_i ps), (4, .ref u), (5, am_i z), (6, am_i ((sk xs 58 58 i : Nat) : Int))]) dX8_appendEnding_40 (by decide) rfl ?_
          refine ap_aload dX8_appendEnding_42 rfl ?_
          refine ap_aload_n dX8_appendEnding_44 rfl rfl ?_
          refine ap_iload dX8_appendEnding_45 rfl ?_
          refine ap_iconst dX8_appendEnding_47 ?_
          refine ap_iadd dX8_appendEnding_48 ?_
          refine ap_aload_n dX8_appendEnding_49 rfl rfl ?_
          refine ap_iload dX8_appendEnding_50 rfl ?_
          refine ap_bipush dX8_appendEnding_52 (by decide) ?_
          refine ap_bipush dX8_appendEnding_54 (by decide) ?_
          refine ap_cV (As := [am_i ((sk xs 58 58 i : Nat) : Int), am_i 47, am_i 93]) (rest := [am_i (((sk xs 58 58 i : Nat) : Int) + 1), .ref t, .ref u]) (ct_seek hT hN (by omega) (i := sk xs 58 58 i) (rfl) (hs1)) dX8_appendEnding_56 lk_X8_20 hy_X6_seek rfl (by omega) t1 ⟨_, _, rfl⟩ (Nat.le_of_ble_eq_true rfl) ⟨Nat.le_of_ble_eq_true rfl, Nat.le_of_ble_eq_true rfl⟩ ⟨rfl, rfl⟩ ⟨Nat.le_of_ble_eq_true rfl, Nat.le_of_ble_eq_true rfl⟩ (fun xr13 xN14 μ15 xq16 => ?_)
          obtain ⟨rfl, rfl, rfl⟩ := xq16
          refine ap_cV (As := [.ref t, am_i (((sk xs 58 58 i : Nat) : Int) + 1), am_i ((sk xs 47 93 (sk xs 58 58 i) : Nat) : Int)]) (rest := []) (ct_appendPiece (a := sk xs 58 58 i + 1) (b := sk xs 47 93 (sk xs 58 58 i)) hU hT hN2 hN (by omega) hs2 (by rw [← hE, piece_len] at hfit; omega) (by omega) rfl) dX8_appendEnding_59 lk_X8_45 hy_X6_appendPiece rfl (by omega) u1 ⟨_, _, rfl⟩ (Nat.le_of_ble_eq_true rfl) ⟨Nat.le_of_ble_eq_true rfl, Nat.le_of_ble_eq_true rfl⟩ ⟨rfl, rfl⟩ ⟨Nat.le_of_ble_eq_true rfl, Nat.le_of_ble_eq_true rfl⟩ (fun xr17 xN18 μz xq19 => ?_)
          obtain ⟨rfl, rfl, hz1, hz2⟩ := xq19
          exact ap_vret dX8_appendEnding_62 rfl (Nat.le_of_ble_eq_true rfl) (Nat.le_of_ble_eq_true rfl) (⟨rfl, rfl, by rw [← hE]; exact hz1, hf.trans hz2⟩)

set_option maxHeartbeats 4000000 in
set_option maxRecDepth 100000 in
theorem ct_appendEnding {N t u cap cap2 : Nat} {μ : am_M} {xs rs : List Int} (hT : Tx μ t cap xs) (hU : Tx μ u cap2 rs) (hN : t + 1 < N) (hN2 : u + 1 < N) (hd : t + 2 ≤ u ∨ u + 2 ≤ t) {ps : Int} {cl i : Nat} {zi zc : Int} (hz : zi = (i : Int)) (hzc : zc = (cl : Int)) (hp : 0 ≤ ps ∧ ps ≤ 9) (hcl : cl ≤ xs.length) (hi : i ≤ xs.length) (hfit : rs.length + (endg xs ps cl i).length ≤ cap2) : am_Met YX8_appendEnding [.ref t, am_i zi, am_i zc, am_i ps, .ref u] N μ (fun r N2 μ2 => r = none ∧ N = N2 ∧ Tx μ2 u cap2 (rs ++ endg xs ps cl i) ∧ am_fr u (u + 2) μ μ2) := by
  obtain ⟨t1, ⟨tg, t2, t3⟩, t4, t5, t6⟩ := id hT
  obtain ⟨u1, ⟨ug, u2, u3⟩, u4, u5, u6⟩ := id hU
  refine am_met (by first | decide | rfl) (Nat.le_of_ble_eq_true rfl) (fun h => by first | rfl | cases h) ?_
  show am_W YX8_appendEnding _ 0 0 0 [(0, .ref t), (1, am_i zi), (2, am_i zc), (3, am_i ps), (4, .ref u)] [] _ _
  refine ap_iload_n dX8_appendEnding_0 rfl rfl ?_
  refine ap_Istore (lv2 := [(0, .ref t), (1, am_i zi), (2, am_i zc), (3, am_i ps), (4, .ref u), (5, am_i zi)]) dX8_appendEnding_1 (by decide) rfl ?_
  subst hzc
  exact lp_appendEnding hT hN hN2 hd hT.2.2.2.1 hp hcl hU am_fr.rf hfit (xs.length + 2) i _ hz (by omega) rfl (by omega)

set_option maxHeartbeats 4000000 in
set_option maxRecDepth 100000 in
theorem lp_appendPasses {N t u cap cap2 : Nat} {μ0 : am_M} {xs rs : List Int} (hT0 : Tx μ0 t cap xs) (hN : t + 1 < N) (hN2 : u + 1 < N) (hd : t + 2 ≤ u ∨ u + 2 ≤ t) (hcap : cap ≤ 900) {op be cl m : Nat} (hop : op < xs.length) (hbe : be ≤ xs.length) (hcl : cl ≤ xs.length) (hm9 : m ≤ 9) (hfit : rs.length + (psn xs op be cl m).length ≤ cap2) : ∀ (nn : Nat) (j : Nat) (z : Int) (μ : am_M), z = (j : Int) + 1 → j ≤ m → Tx μ u cap2 (rs ++ psn xs op be cl j) → am_fr u (u + 2) μ0 μ → m - j < nn → am_W YX8_appendPasses (fun r N2 μ2 => r = none ∧ N = N2 ∧ Tx μ2 u cap2 (rs ++ psn xs op be cl m) ∧ am_fr u (u + 2) μ0 μ2) 0 0 26 [(0, .ref t), (1, am_i (op : Int)), (2, am_i (cl : Int)), (3, .ref u), (4, am_i (m : Int)), (5, am_i (be : Int)), (6, am_i z)] [] N μ := by
  intro nn
  induction nn with
  | zero =>
    intro j z μ hz hj0 hU hf hm
    exfalso; omega
  | succ nn ih =>
    intro j z μ hz hj0 hU hf hm
    have hT := hT0.fr hf (by omega)
    obtain ⟨t1, ⟨tg, t2, t3⟩, t4, t5, t6⟩ := id hT
    obtain ⟨u1, ⟨ug, u2, u3⟩, u4, u5, u6⟩ := id hU
    refine ap_iload dX8_appendPasses_26 rfl ?_
    refine ap_iload dX8_appendPasses_28 rfl ?_
    refine ap_icmp_gt (tgt := 59) dX8_appendPasses_30 (by decide) (by omega) (fun c30 => ?_) (fun c30 => ?_)
    · exact ap_vret dX8_appendPasses_59 rfl (Nat.le_of_ble_eq_true rfl) (Nat.le_of_ble_eq_true rfl) (⟨rfl, rfl, by rw [show m = j by omega]; exact hU, hf⟩)
    · have hj : j < m := by omega
      have hpre := psn_pre (xs := xs) (op := op) (be := be) (cl := cl) (show j + 1 ≤ m from hj)
      refine ap_aload_n dX8_appendPasses_33 rfl rfl ?_
      refine ap_aload_n dX8_appendPasses_34 rfl rfl ?_
      refine ap_iload_n dX8_appendPasses_35 rfl rfl ?_
      refine ap_iconst dX8_appendPasses_36 ?_
      refine ap_iadd dX8_appendPasses_37 ?_
      refine ap_iload dX8_appendPasses_38 rfl ?_
      refine ap_cV (As := [.ref t, am_i ((op : Int) + 1), am_i (be : Int)]) (rest := []) (ct_appendPiece (a := op + 1) (b := be) hU hT hN2 hN (by omega) hbe (by simp only [psn, List.length_append] at hpre; rw [piece_len] at hpre; simp only [List.length_append]; omega) (by omega) rfl) dX8_appendPasses_40 lk_X8_45 hy_X6_appendPiece rfl (by omega) u1 ⟨_, _, rfl⟩ (Nat.le_of_ble_eq_true rfl) ⟨Nat.le_of_ble_eq_true rfl, Nat.le_of_ble_eq_true rfl⟩ ⟨rfl, rfl⟩ ⟨Nat.le_of_ble_eq_true rfl, Nat.le_of_ble_eq_true rfl⟩ (fun xr1 xN2 μy xq3 => ?_)
      obtain ⟨rfl, rfl, hy1, hy2⟩ := xq3
      refine ap_aload_n dX8_appendPasses_43 rfl rfl ?_
      refine ap_iload dX8_appendPasses_44 rfl ?_
      refine ap_iload_n dX8_appendPasses_46 rfl rfl ?_
      refine ap_iload dX8_appendPasses_47 rfl ?_
      refine ap_aload_n dX8_appendPasses_49 rfl rfl ?_
      have hT9 := hT.fr hy2 (by omega)
      refine ap_cS (As := [.ref t, am_i (be : Int), am_i (cl : Int), am_i z, .ref u]) (rest := []) (ct_appendEnding (i := be) (cl := cl) hT9 hy1 hN hN2 hd rfl rfl (by omega) hcl hbe (by rw [hz] at *; simp only [psn, List.length_append] at hpre ⊢; omega)) dX8_appendPasses_50 lk_X8_49 hy_X8_appendEnding rfl (Nat.le_of_ble_eq_true rfl) ⟨Nat.le_of_ble_eq_true rfl, Nat.le_of_ble_eq_true rfl⟩ ⟨rfl, rfl⟩ ⟨Nat.le_of_ble_eq_true rfl, Nat.le_of_ble_eq_true rfl⟩ (fun xr4 xN5 μz xq6 => ?_)
      obtain ⟨rfl, rfl, hz1, hz2⟩ := xq6
      refine ap_Iinc (lv2 := [(0, .ref t), (1, am_i (op : Int)), (2, am_i (cl : Int)), (3, .ref u), (4, am_i (m : Int)), (5, am_i (be : Int)), (6, am_i (z + 1))]) dX8_appendPasses_53 rfl (by decide) rfl ?_
      refine ap_goto (tgt := 26) dX8_appendPasses_56 (by decide) ?_
      exact ih (j + 1) _ μz (by omega) (by omega) (by rw [psn, ← List.append_assoc, ← List.append_assoc]; rw [hz] at hz1; exact hz1) ((hf.trans hy2).trans hz2) (by omega)

set_option maxHeartbeats 4000000 in
set_option maxRecDepth 100000 in
theorem ct_appendPasses {N t u cap cap2 : Nat} {μ : am_M} {xs rs : List Int} (hT : Tx μ t cap xs) (hU : Tx μ u cap2 rs) (hN : t + 1 < N) (hN2 : u + 1 < N) (hd : t + 2 ≤ u ∨ u + 2 ≤ t) {op cl : Nat} (hop : op < xs.length) (hcl : cl ≤ xs.length) (hdg : 0 ≤ dg (tat xs ((cl : Int) + 1))) (hfit : rs.length + (psn xs op (sk xs 47 93 op) cl (dg (tat xs ((cl : Int) + 1))).toNat).length ≤ cap2) : am_Met YX8_appendPasses [.ref t, am_i (op : Int), am_i (cl : Int), .ref u] N μ (fun r N2 μ2 => r = none ∧ N = N2 ∧ Tx μ2 u cap2 (rs ++ psn xs op (sk xs 47 93 op) cl (dg (tat xs ((cl : Int) + 1))).toNat) ∧ am_fr u (u + 2) μ μ2) := by
  obtain ⟨t1, ⟨tg, t2, t3⟩, t4, t5, t6⟩ := id hT
  obtain ⟨u1, ⟨ug, u2, u3⟩, u4, u5, u6⟩ := id hU
  refine am_met (by first | decide | rfl) (Nat.le_of_ble_eq_true rfl) (fun h => by first | rfl | cases h) ?_
  show am_W YX8_appendPasses _ 0 0 0 [(0, .ref t), (1, am_i (op : Int)), (2, am_i (cl : Int)), (3, .ref u)] [] _ _
  refine ap_aload_n dX8_appendPasses_0 rfl rfl ?_
  refine ap_iload_n dX8_appendPasses_1 rfl rfl ?_
  refine ap_iconst dX8_appendPasses_2 ?_
  refine ap_iadd dX8_appendPasses_3 ?_
  refine ap_cV (As := [am_i ((cl : Int) + 1)]) (rest := []) (ct_at hT hN (by omega)) dX8_appendPasses_4 lk_X8_16 hy_X6_at rfl (by omega) t1 ⟨_, _, rfl⟩ (Nat.le_of_ble_eq_true rfl) ⟨Nat.le_of_ble_eq_true rfl, Nat.le_of_ble_eq_true rfl⟩ ⟨rfl, rfl⟩ ⟨Nat.le_of_ble_eq_true rfl, Nat.le_of_ble_eq_true rfl⟩ (fun xr1 xN2 μ3 xq4 => ?_)
  obtain ⟨rfl, rfl, rfl⟩ := xq4
  refine ap_cS (As := [am_i (tat xs ((cl : Int) + 1))]) (rest := []) (ct_digit (by have := tat_r t6 ((cl : Int) + 1); omega)) dX8_appendPasses_7 lk_X8_40 hy_X1_digit rfl (Nat.le_of_ble_eq_true rfl) ⟨Nat.le_of_ble_eq_true rfl, Nat.le_of_ble_eq_true rfl⟩ ⟨rfl, rfl⟩ ⟨Nat.le_of_ble_eq_true rfl, Nat.le_of_ble_eq_true rfl⟩ (fun xr5 xN6 μ7 xq8 => ?_)
  obtain ⟨rfl, rfl, rfl⟩ := xq8
  refine ap_topi (b := ((dg (tat xs ((cl : Int) + 1))).toNat : Int)) (show (dg (tat xs ((cl : Int) + 1))) = ((dg (tat xs ((cl : Int) + 1))).toNat : Int) from by omega) ?_
  refine ap_Istore (lv2 := [(0, .ref t), (1, am_i (op : Int)), (2, am_i (cl : Int)), (3, .ref u), (4, am_i ((dg (tat xs ((cl : Int) + 1))).toNat : Int))]) dX8_appendPasses_10 (by decide) rfl ?_
  refine ap_aload_n dX8_appendPasses_12 rfl rfl ?_
  refine ap_iload_n dX8_appendPasses_13 rfl rfl ?_
  refine ap_bipush dX8_appendPasses_14 (by decide) ?_
  refine ap_bipush dX8_appendPasses_16 (by decide) ?_
  refine ap_cV (As := [am_i (op : Int), am_i 47, am_i 93]) (rest := []) (ct_seek hT hN (by omega) (i := op) (rfl) (by omega)) dX8_appendPasses_18 lk_X8_20 hy_X6_seek rfl (by omega) t1 ⟨_, _, rfl⟩ (Nat.le_of_ble_eq_true rfl) ⟨Nat.le_of_ble_eq_true rfl, Nat.le_of_ble_eq_true rfl⟩ ⟨rfl, rfl⟩ ⟨Nat.le_of_ble_eq_true rfl, Nat.le_of_ble_eq_true rfl⟩ (fun xr9 xN10 μ11 xq12 => ?_)
  obtain ⟨rfl, rfl, rfl⟩ := xq12
  refine ap_Istore (lv2 := [(0, .ref t), (1, am_i (op : Int)), (2, am_i (cl : Int)), (3, .ref u), (4, am_i ((dg (tat xs ((cl : Int) + 1))).toNat : Int)), (5, am_i ((sk xs 47 93 op : Nat) : Int))]) dX8_appendPasses_21 (by decide) rfl ?_
  refine ap_iconst dX8_appendPasses_23 ?_
  refine ap_Istore (lv2 := [(0, .ref t), (1, am_i (op : Int)), (2, am_i (cl : Int)), (3, .ref u), (4, am_i ((dg (tat xs ((cl : Int) + 1))).toNat : Int)), (5, am_i ((sk xs 47 93 op : Nat) : Int)), (6, am_i 1)]) dX8_appendPasses_24 (by decide) rfl ?_
  exact lp_appendPasses hT hN hN2 hd hT.2.2.2.1 hop (sk_le _ _ _ _) hcl (by have := dg_r (tat xs ((cl : Int) + 1)); omega) hfit 10 0 _ μ rfl (Nat.zero_le _) (by rw [psn, List.append_nil]; exact hU) am_fr.rf (by have := dg_r (tat xs ((cl : Int) + 1)); omega)

def wfr (xs : List Int) : Prop := ∀ k, k < xs.length → xs.getD k 0 = 91 → 0 ≤ dg (tat xs ((sk xs 93 93 k : Int) + 1))
set_option maxHeartbeats 4000000 in
set_option maxRecDepth 100000 in
theorem lp_unfold {N t u cap cap2 : Nat} {μ0 : am_M} {xs U : List Int} (hT0 : Tx μ0 t cap xs) (hN : t + 1 < N) (hN2 : u + 1 < N) (hd : t + 2 ≤ u ∨ u + 2 ≤ t) (hw : wfr xs) (hfit : U.length ≤ cap2) : ∀ (nn : Nat) (i : Nat) (z : Int) (μ : am_M) (rs : List Int), z = (i : Int) → i ≤ xs.length + 2 → Tx μ u cap2 rs → rs ++ uf xs i = U → am_fr u (u + 2) μ0 μ → xs.length + 2 - i < nn → am_W YX8_unfold (fun r N2 μ2 => r = none ∧ N = N2 ∧ Tx μ2 u cap2 U ∧ am_fr u (u + 2) μ0 μ2) 0 0 11 [(0, .ref t), (1, .ref u), (2, am_i (xs.length : Int)), (3, am_i z)] [] N μ := by
  intro nn
  induction nn with
  | zero =>
    intro i z μ rs hz hi hU hR hf hm
    exfalso; omega
  | succ nn ih =>
    intro i z μ rs hz hi hU hR hf hm
    have hT := hT0.fr hf (by omega)
    obtain ⟨t1, ⟨tg, t2, t3⟩, t4, t5, t6⟩ := id hT
    obtain ⟨u1, ⟨ug, u2, u3⟩, u4, u5, u6⟩ := id hU
    refine ap_iload_n dX8_unfold_11 rfl rfl ?_
    refine ap_iload_n dX8_unfold_12 rfl rfl ?_
    refine ap_icmp_ge (tgt := 72) dX8_unfold_13 (by decide) (by omega) (fun c13 => ?_) (fun c13 => ?_)
    · exact ap_vret dX8_unfold_72 rfl (Nat.le_of_ble_eq_true rfl) (Nat.le_of_ble_eq_true rfl) (⟨rfl, rfl, by rw [uf, dif_neg (by omega), List.append_nil] at hR; rw [← hR]; exact hU, hf⟩)
    · have hlt : i < xs.length := by omega
      have hat : tat xs z = xs.getD i 0 := by rw [tat, if_pos (by omega), hz]; rfl
      have hch := t6 _ (am_gd hlt)
      have hR0 := hR
      rw [uf, dif_pos hlt] at hR
      refine ap_aload_n dX8_unfold_16 rfl rfl ?_
      refine ap_iload_n dX8_unfold_17 rfl rfl ?_
      refine ap_cV (As := [am_i z]) (rest := []) (ct_at hT hN (by omega)) dX8_unfold_18 lk_X8_16 hy_X6_at rfl (by omega) t1 ⟨_, _, rfl⟩ (Nat.le_of_ble_eq_true rfl) ⟨Nat.le_of_ble_eq_true rfl, Nat.le_of_ble_eq_true rfl⟩ ⟨rfl, rfl⟩ ⟨Nat.le_of_ble_eq_true rfl, Nat.le_of_ble_eq_true rfl⟩ (fun xr1 xN2 μ3 xq4 => ?_)
      obtain ⟨rfl, rfl, rfl⟩ := xq4
      refine ap_topi (b := xs.getD i 0) (show (tat xs z) = (xs.getD i 0) from hat) ?_
      refine ap_bipush dX8_unfold_21 (by decide) ?_
      refine ap_icmp_ne (tgt := 57) dX8_unfold_23 (by decide) (by omega) (fun c23 => ?_) (fun c23 => ?_)
      · rw [if_neg c23] at hR
        have hlen := congrArg List.length hR
        simp only [List.length_append, List.length_cons] at hlen
        refine ap_aload_n dX8_unfold_57 rfl rfl ?_
        refine ap_aload_n dX8_unfold_58 rfl rfl ?_
        refine ap_iload_n dX8_unfold_59 rfl rfl ?_
        refine ap_cV (As := [am_i z]) (rest := [.ref u]) (ct_at hT hN (by omega)) dX8_unfold_60 lk_X8_16 hy_X6_at rfl (by omega) t1 ⟨_, _, rfl⟩ (Nat.le_of_ble_eq_true rfl) ⟨Nat.le_of_ble_eq_true rfl, Nat.le_of_ble_eq_true rfl⟩ ⟨rfl, rfl⟩ ⟨Nat.le_of_ble_eq_true rfl, Nat.le_of_ble_eq_true rfl⟩ (fun xr5 xN6 μ7 xq8 => ?_)
        obtain ⟨rfl, rfl, rfl⟩ := xq8
        refine ap_topi (b := xs.getD i 0) (show (tat xs z) = (xs.getD i 0) from hat) ?_
        refine ap_cV (As := [am_i (xs.getD i 0)]) (rest := []) (ct_append (c := xs.getD i 0) hU hN2 (by omega) (by omega)) dX8_unfold_63 lk_X8_36 hy_X6_append rfl (by omega) u1 ⟨_, _, rfl⟩ (Nat.le_of_ble_eq_true rfl) ⟨Nat.le_of_ble_eq_true rfl, Nat.le_of_ble_eq_true rfl⟩ ⟨rfl, rfl⟩ ⟨Nat.le_of_ble_eq_true rfl, Nat.le_of_ble_eq_true rfl⟩ (fun xr9 xN10 μz xq11 => ?_)
        obtain ⟨rfl, rfl, hz1, hz2⟩ := xq11
        refine ap_Iinc (lv2 := [(0, .ref t), (1, .ref u), (2, am_i (xs.length : Int)), (3, am_i (z + 1))]) dX8_unfold_66 rfl (by decide) rfl ?_
        refine ap_goto (tgt := 11) dX8_unfold_69 (by decide) ?_
        refine ap_pick (lv2 := [(0, .ref t), (1, .ref u), (2, am_i (xs.length : Int)), (3, am_i (z + 1))]) [0, 1, 2, 3] rfl ?_
        exact ih (i + 1) _ μz _ (by omega) (by omega) hz1 (by rw [List.append_assoc]; exact hR) (hf.trans hz2) (by omega)
      · rw [if_pos c23] at hR
        have hs1 := sk_le xs 93 93 i
        have hlen := congrArg List.length hR
        simp only [List.length_append] at hlen
        subst hz
        refine ap_aload_n dX8_unfold_26 rfl rfl ?_
        refine ap_iload_n dX8_unfold_27 rfl rfl ?_
        refine ap_bipush dX8_unfold_28 (by decide) ?_
        refine ap_bipush dX8_unfold_30 (by decide) ?_
        refine ap_cV (As := [am_i (i : Int), am_i 93, am_i 93]) (rest := []) (ct_seek hT hN (by omega) (i := i) (rfl) (by omega)) dX8_unfold_32 lk_X8_20 hy_X6_seek rfl (by omega) t1 ⟨_, _, rfl⟩ (Nat.le_of_ble_eq_true rfl) ⟨Nat.le_of_ble_eq_true rfl, Nat.le_of_ble_eq_true rfl⟩ ⟨rfl, rfl⟩ ⟨Nat.le_of_ble_eq_true rfl, Nat.le_of_ble_eq_true rfl⟩ (fun xr12 xN13 μ14 xq15 => ?_)
        obtain ⟨rfl, rfl, rfl⟩ := xq15
        refine ap_Istore (lv2 := [(0, .ref t), (1, .ref u), (2, am_i (xs.length : Int)), (3, am_i (i : Int)), (4, am_i ((sk xs 93 93 i : Nat) : Int))]) dX8_unfold_35 (by decide) rfl ?_
        refine ap_aload_n dX8_unfold_37 rfl rfl ?_
        refine ap_iload_n dX8_unfold_38 rfl rfl ?_
        refine ap_iload dX8_unfold_39 rfl ?_
        refine ap_aload_n dX8_unfold_41 rfl rfl ?_
        refine ap_cS (As := [.ref t, am_i (i : Int), am_i ((sk xs 93 93 i : Nat) : Int), .ref u]) (rest := []) (ct_appendPasses (op := i) (cl := sk xs 93 93 i) hT hU hN hN2 hd hlt hs1 (hw i hlt c23) (by omega)) dX8_unfold_42 lk_X8_24 hy_X8_appendPasses rfl (Nat.le_of_ble_eq_true rfl) ⟨Nat.le_of_ble_eq_true rfl, Nat.le_of_ble_eq_true rfl⟩ ⟨rfl, rfl⟩ ⟨Nat.le_of_ble_eq_true rfl, Nat.le_of_ble_eq_true rfl⟩ (fun xr16 xN17 μz xq18 => ?_)
        obtain ⟨rfl, rfl, hz1, hz2⟩ := xq18
        refine ap_iload_n dX8_unfold_45 rfl rfl ?_
        refine ap_iload dX8_unfold_46 rfl ?_
        refine ap_iconst dX8_unfold_48 ?_
        refine ap_iadd dX8_unfold_49 ?_
        refine ap_max dX8_unfold_50 lk_X8_30 ⟨Nat.le_of_ble_eq_true rfl, Nat.le_of_ble_eq_true rfl⟩ ⟨Nat.le_of_ble_eq_true rfl, Nat.le_of_ble_eq_true rfl⟩ (by omega) ?_
        refine ap_topi (b := ((max i (sk xs 93 93 i + 1) : Nat) : Int)) (show (if (i : Int) < ((sk xs 93 93 i : Nat) : Int) + 1 then ((sk xs 93 93 i : Nat) : Int) + 1 else (i : Int)) = ((max i (sk xs 93 93 i + 1) : Nat) : Int) from by split <;> omega) ?_
        refine ap_Istore_n (lv2 := [(0, .ref t), (1, .ref u), (2, am_i (xs.length : Int)), (3, am_i ((max i (sk xs 93 93 i + 1) : Nat) : Int)), (4, am_i ((sk xs 93 93 i : Nat) : Int))]) dX8_unfold_53 rfl (by decide) rfl ?_
        refine ap_goto (tgt := 66) dX8_unfold_54 (by decide) ?_
        refine ap_Iinc (lv2 := [(0, .ref t), (1, .ref u), (2, am_i (xs.length : Int)), (3, am_i (((max i (sk xs 93 93 i + 1) : Nat) : Int) + 1)), (4, am_i ((sk xs 93 93 i : Nat) : Int))]) dX8_unfold_66 rfl (by decide) rfl ?_
        refine ap_goto (tgt := 11) dX8_unfold_69 (by decide) ?_
        refine ap_pick (lv2 := [(0, .ref t), (1, .ref u), (2, am_i (xs.length : Int)), (3, am_i (((max i (sk xs 93 93 i + 1) : Nat) : Int) + 1))]) [0, 1, 2, 3] rfl ?_
        exact ih (max i (sk xs 93 93 i + 1) + 1) _ μz _ (by omega) (by omega) hz1 (by rw [List.append_assoc]; exact hR) (hf.trans hz2) (by omega)

set_option maxHeartbeats 4000000 in
set_option maxRecDepth 100000 in
theorem ct_unfold {N t u cap cap2 : Nat} {μ : am_M} {xs rs : List Int} (hT : Tx μ t cap xs) (hU : Tx μ u cap2 rs) (hN : t + 1 < N) (hN2 : u + 1 < N) (hd : t + 2 ≤ u ∨ u + 2 ≤ t) (hw : wfr xs) (hfit : (uf xs 0).length ≤ cap2) : am_Met YX8_unfold [.ref t, .ref u] N μ (fun r N2 μ2 => r = none ∧ N = N2 ∧ Tx μ2 u cap2 (uf xs 0) ∧ am_fr u (u + 2) μ μ2) := by
  obtain ⟨t1, ⟨tg, t2, t3⟩, t4, t5, t6⟩ := id hT
  obtain ⟨u1, ⟨ug, u2, u3⟩, u4, u5, u6⟩ := id hU
  refine am_met (by first | decide | rfl) (Nat.le_of_ble_eq_true rfl) (fun h => by first | rfl | cases h) ?_
  show am_W YX8_unfold _ 0 0 0 [(0, .ref t), (1, .ref u)] [] _ _
  refine ap_aload_n dX8_unfold_0 rfl rfl ?_
  refine ap_cV (As := []) (rest := []) (ct_makeEmpty hU hN2) dX8_unfold_1 lk_X8_7 hy_X6_makeEmpty rfl (by omega) u1 ⟨_, _, rfl⟩ (Nat.le_of_ble_eq_true rfl) ⟨Nat.le_of_ble_eq_true rfl, Nat.le_of_ble_eq_true rfl⟩ ⟨rfl, rfl⟩ ⟨Nat.le_of_ble_eq_true rfl, Nat.le_of_ble_eq_true rfl⟩ (fun xr1 xN2 μz xq3 => ?_)
  obtain ⟨rfl, rfl, hz1, hz2⟩ := xq3
  have hT1 := hT.fr hz2 (by omega)
  refine ap_aload_n dX8_unfold_4 rfl rfl ?_
  have xm8 : μz t = am_O 6 [.ref (t + 1), am_i (xs.length : Int)] := (hz2 _ (by omega)).trans t1
  refine ap_cV (As := []) (rest := []) (ct_size hT1 hN) dX8_unfold_5 lk_X8_12 hy_X6_size rfl (by omega) xm8 ⟨_, _, rfl⟩ (Nat.le_of_ble_eq_true rfl) ⟨Nat.le_of_ble_eq_true rfl, Nat.le_of_ble_eq_true rfl⟩ ⟨rfl, rfl⟩ ⟨Nat.le_of_ble_eq_true rfl, Nat.le_of_ble_eq_true rfl⟩ (fun xr4 xN5 μ6 xq7 => ?_)
  obtain ⟨rfl, rfl, rfl⟩ := xq7
  refine ap_Istore_n (lv2 := [(0, .ref t), (1, .ref u), (2, am_i (xs.length : Int))]) dX8_unfold_8 rfl (by decide) rfl ?_
  refine ap_iconst dX8_unfold_9 ?_
  refine ap_Istore_n (lv2 := [(0, .ref t), (1, .ref u), (2, am_i (xs.length : Int)), (3, am_i 0)]) dX8_unfold_10 rfl (by decide) rfl ?_
  exact am_mono (lp_unfold hT1 hN hN2 hd hw hfit (xs.length + 3) 0 0 μz [] rfl (by omega) hz1 rfl am_fr.rf (by omega)) (fun r N2 μ2 hq => ⟨hq.1, hq.2.1, hq.2.2.1, hz2.trans hq.2.2.2⟩)

theorem lets_drop {xs : List Int} {i : Nat} (h : i < xs.length) : lets (xs.drop i) = (if 0 ≤ hv (xs.getD i 0) then 1 else 0) + lets (xs.drop (i + 1)) := by
  rw [List.drop_eq_getElem_cons h, show xs[i] = xs.getD i 0 by simp [List.getD_eq_getElem?_getD, List.getElem?_eq_getElem h]]
  unfold lets
  rw [List.filter_cons]
  by_cases hh : 0 ≤ hv (xs.getD i 0)
  · rw [if_pos hh, if_pos (by simpa using hh), List.length_cons]; omega
  · rw [if_neg hh, if_neg (by simpa using hh)]; omega
theorem lets_le (xs : List Int) : lets xs ≤ xs.length := List.length_filter_le _ _
set_option maxHeartbeats 4000000 in
set_option maxRecDepth 100000 in
theorem lp_sounds {N t cap : Nat} {μ : am_M} {xs : List Int} (hT : Tx μ t cap xs) (hN : t + 1 < N) : ∀ (nn : Nat) (i : Nat) (z : Int) (y : Int), z = (i : Int) → i ≤ xs.length → y + lets (xs.drop i) = lets xs → 0 ≤ y → xs.length - i < nn → am_W YX8_sounds (am_pv (am_i (lets xs : Int)) N μ) 0 0 4 [(0, .ref t), (1, am_i y), (2, am_i z)] [] N μ := by
  intro nn
  induction nn with
  | zero =>
    intro i z y hz hi hy hy0 hm
    exfalso; omega
  | succ nn ih =>
    intro i z y hz hi hy hy0 hm
    obtain ⟨t1, ⟨tg, t2, t3⟩, t4, t5, t6⟩ := id hT
    refine ap_iload_n dX8_sounds_4 rfl rfl ?_
    refine ap_aload_n dX8_sounds_5 rfl rfl ?_
    refine ap_cV (As := []) (rest := [am_i z]) (ct_size hT hN) dX8_sounds_6 lk_X8_12 hy_X6_size rfl (by omega) t1 ⟨_, _, rfl⟩ (Nat.le_of_ble_eq_true rfl) ⟨Nat.le_of_ble_eq_true rfl, Nat.le_of_ble_eq_true rfl⟩ ⟨rfl, rfl⟩ ⟨Nat.le_of_ble_eq_true rfl, Nat.le_of_ble_eq_true rfl⟩ (fun xr1 xN2 μ3 xq4 => ?_)
    obtain ⟨rfl, rfl, rfl⟩ := xq4
    refine ap_icmp_ge (tgt := 32) dX8_sounds_9 (by decide) (by omega) (fun c9 => ?_) (fun c9 => ?_)
    · refine ap_iload_n dX8_sounds_32 rfl rfl ?_
      exact ap_iret dX8_sounds_33 rfl rfl (Nat.le_of_ble_eq_true rfl) (Nat.le_of_ble_eq_true rfl) (⟨by rw [show i = xs.length by omega, List.drop_length] at hy; simp [lets] at hy ⊢; rw [hy], rfl, rfl⟩)
    · have hlt : i < xs.length := by omega
      have hat : tat xs z = xs.getD i 0 := by rw [tat, if_pos (by omega), hz]; rfl
      have hch := t6 _ (am_gd hlt)
      have hld := lets_drop hlt
      have hll := lets_le xs
      refine ap_aload_n dX8_sounds_12 rfl rfl ?_
      refine ap_iload_n dX8_sounds_13 rfl rfl ?_
      refine ap_cV (As := [am_i z]) (rest := []) (ct_at hT hN (by omega)) dX8_sounds_14 lk_X8_16 hy_X6_at rfl (by omega) t1 ⟨_, _, rfl⟩ (Nat.le_of_ble_eq_true rfl) ⟨Nat.le_of_ble_eq_true rfl, Nat.le_of_ble_eq_true rfl⟩ ⟨rfl, rfl⟩ ⟨Nat.le_of_ble_eq_true rfl, Nat.le_of_ble_eq_true rfl⟩ (fun xr5 xN6 μ7 xq8 => ?_)
      obtain ⟨rfl, rfl, rfl⟩ := xq8
      refine ap_topi (b := xs.getD i 0) (show (tat xs z) = (xs.getD i 0) from hat) ?_
      refine ap_cS (As := [am_i (xs.getD i 0)]) (rest := []) (ct_halvings (ch := xs.getD i 0) (by omega)) dX8_sounds_17 lk_X8_57 hy_X1_halvings rfl (Nat.le_of_ble_eq_true rfl) ⟨Nat.le_of_ble_eq_true rfl, Nat.le_of_ble_eq_true rfl⟩ ⟨rfl, rfl⟩ ⟨Nat.le_of_ble_eq_true rfl, Nat.le_of_ble_eq_true rfl⟩ (fun xr9 xN10 μ11 xq12 => ?_)
      obtain ⟨rfl, rfl, rfl⟩ := xq12
      refine ap_if_lt (tgt := 26) dX8_sounds_20 (by decide) (by have := hv_r (xs.getD i 0); omega) (fun c20 => ?_) (fun c20 => ?_)
      · rw [if_neg (by omega)] at hld
        refine ap_Iinc (lv2 := [(0, .ref t), (1, am_i y), (2, am_i (z + 1))]) dX8_sounds_26 rfl (by decide) rfl ?_
        refine ap_goto (tgt := 4) dX8_sounds_29 (by decide) ?_
        exact ih (i + 1) _ _ (by omega) (by omega) (by omega) (by omega) (by omega)
      · refine ap_Iinc (lv2 := [(0, .ref t), (1, am_i (y + 1)), (2, am_i z)]) dX8_sounds_23 rfl (by decide) rfl ?_
        rw [if_pos (by omega)] at hld
        refine ap_Iinc (lv2 := [(0, .ref t), (1, am_i (y + 1)), (2, am_i (z + 1))]) dX8_sounds_26 rfl (by decide) rfl ?_
        refine ap_goto (tgt := 4) dX8_sounds_29 (by decide) ?_
        exact ih (i + 1) _ _ (by omega) (by omega) (by omega) (by omega) (by omega)

set_option maxHeartbeats 4000000 in
set_option maxRecDepth 100000 in
theorem ct_sounds {N t cap : Nat} {μ : am_M} {xs : List Int} (hT : Tx μ t cap xs) (hN : t + 1 < N) : am_Met YX8_sounds [.ref t] N μ (am_pv (am_i (lets xs : Int)) N μ) := by
  obtain ⟨t1, ⟨tg, t2, t3⟩, t4, t5, t6⟩ := id hT
  refine am_met (by first | decide | rfl) (Nat.le_of_ble_eq_true rfl) (fun h => by first | rfl | cases h) ?_
  show am_W YX8_sounds _ 0 0 0 [(0, .ref t)] [] _ _
  refine ap_iconst dX8_sounds_0 ?_
  refine ap_Istore_n (lv2 := [(0, .ref t), (1, am_i 0)]) dX8_sounds_1 rfl (by decide) rfl ?_
  refine ap_iconst dX8_sounds_2 ?_
  refine ap_Istore_n (lv2 := [(0, .ref t), (1, am_i 0), (2, am_i 0)]) dX8_sounds_3 rfl (by decide) rfl ?_
  exact lp_sounds hT hN (xs.length + 1) 0 _ _ rfl (Nat.zero_le _) (by simp) (by omega) (by omega)

/-! Part: object at p -/
def okx (xs : List Int) : Prop := xs.length ≤ 100 ∧ wfr xs ∧ (uf xs 0).length ≤ 900 ∧ bok (uf xs 0)
def Prt (μ : am_M) (p : Nat) (xs : List Int) : Prop := μ p = am_O 3 [.ref (p + 1), .ref (p + 3), .ref (p + 5)] ∧ Tx μ (p + 1) 100 xs ∧ Tx μ (p + 3) 900 (uf xs 0) ∧ Sco μ (p + 5) (sp (uf xs 0) (uf xs 0).length) ∧ okx xs
theorem Prt.fr {μ μ2 : am_M} {p lo hi : Nat} {xs : List Int} (h : Prt μ p xs) (hf : am_fr lo hi μ μ2) (hd : p + 15 ≤ lo ∨ hi ≤ p) : Prt μ2 p xs :=
  ⟨(hf _ (by omega)).trans h.1, h.2.1.fr hf (by omega), h.2.2.1.fr hf (by omega), h.2.2.2.1.fr hf (by omega), h.2.2.2.2⟩
set_option maxHeartbeats 4000000 in
set_option maxRecDepth 100000 in
theorem ct_take {N p u cap : Nat} {μ : am_M} {xs ys : List Int} (hP : Prt μ p xs) (hU : Tx μ u cap ys) (hN : p + 14 < N) (hN2 : u + 1 < N) (hd : u + 2 ≤ p + 1 ∨ p + 3 ≤ u) (hk : okx ys) : am_Met YX3_take [.ref p, .ref u] N μ (fun r N2 μ2 => r = none ∧ N = N2 ∧ Prt μ2 p ys ∧ am_fr p (p + 15) μ μ2) := by
  obtain ⟨h1, h2, h3, h4, h5⟩ := id hP
  refine am_met (by first | decide | rfl) (Nat.le_of_ble_eq_true rfl) (fun h => by first | rfl | cases h) ?_
  show am_W YX3_take _ 0 0 0 [(0, .ref p), (1, .ref u)] [] _ _
  refine ap_aload_n dX3_take_0 rfl rfl ?_
  refine ap_get ff_X3_14 dX3_take_1 (by omega) h1 rfl ?_
  refine ap_aload_n dX3_take_4 rfl rfl ?_
  refine ap_cV (As := [.ref u]) (rest := []) (ct_become (t := p + 1) h2 hU (by omega) hN2 (by omega) hk.1) dX3_take_5 lk_X3_30 hy_X6_become rfl (by omega) h2.1 ⟨_, _, rfl⟩ (Nat.le_of_ble_eq_true rfl) ⟨Nat.le_of_ble_eq_true rfl, Nat.le_of_ble_eq_true rfl⟩ ⟨rfl, rfl⟩ ⟨Nat.le_of_ble_eq_true rfl, Nat.le_of_ble_eq_true rfl⟩ (fun xr1 xN2 μa xq3 => ?_)
  obtain ⟨rfl, rfl, ha1, ha2⟩ := xq3
  refine ap_aload_n dX3_take_8 rfl rfl ?_
  have xm4 : μa p = am_O 3 [.ref (p + 1), .ref (p + 3), .ref (p + 5)] := (ha2 _ (by omega)).trans h1
  refine ap_get ff_X3_14 dX3_take_9 (by omega) xm4 rfl ?_
  refine ap_aload_n dX3_take_12 rfl rfl ?_
  refine ap_get ff_X3_20 dX3_take_13 (by omega) xm4 rfl ?_
  refine ap_cS (As := [.ref (p + 1), .ref (p + 3)]) (rest := []) (ct_unfold (t := p + 1) (u := p + 3) ha1 (h3.fr ha2 (by omega)) (by omega) (by omega) (by omega) hk.2.1 hk.2.2.1) dX3_take_16 lk_X3_34 hy_X8_unfold rfl (Nat.le_of_ble_eq_true rfl) ⟨Nat.le_of_ble_eq_true rfl, Nat.le_of_ble_eq_true rfl⟩ ⟨rfl, rfl⟩ ⟨Nat.le_of_ble_eq_true rfl, Nat.le_of_ble_eq_true rfl⟩ (fun xr5 xN6 μb xq7 => ?_)
  obtain ⟨rfl, rfl, hb1, hb2⟩ := xq7
  obtain ⟨s1, s2, s3, s4, s5, s6, hraw⟩ := Sco.raw ((h4.fr ha2 (by omega)).fr hb2 (by omega))
  refine ap_aload_n dX3_take_19 rfl rfl ?_
  have xm8 : μb p = am_O 3 [.ref (p + 1), .ref (p + 3), .ref (p + 5)] := (hb2 _ (by omega)).trans xm4
  refine ap_get ff_X3_26 dX3_take_20 (by omega) xm8 rfl ?_
  refine ap_aload_n dX3_take_23 rfl rfl ?_
  refine ap_get ff_X3_20 dX3_take_24 (by omega) xm8 rfl ?_
  refine ap_cV (As := [.ref (p + 3)]) (rest := []) (ct_build (s := p + 5) (t := p + 3) hraw hb1 (by omega) (by omega) (by omega) hk.2.2.2) dX3_take_27 lk_X3_40 hy_X4_build rfl (by omega) hraw.1 ⟨_, _, rfl⟩ (Nat.le_of_ble_eq_true rfl) ⟨Nat.le_of_ble_eq_true rfl, Nat.le_of_ble_eq_true rfl⟩ ⟨rfl, rfl⟩ ⟨Nat.le_of_ble_eq_true rfl, Nat.le_of_ble_eq_true rfl⟩ (fun xr9 xN10 μc xq11 => ?_)
  obtain ⟨rfl, rfl, hc1, hc2⟩ := xq11
  have xm12 : μc p = am_O 3 [.ref (p + 1), .ref (p + 3), .ref (p + 5)] := (hc2 _ (by omega)).trans xm8
  exact ap_vret dX3_take_30 rfl (Nat.le_of_ble_eq_true rfl) (Nat.le_of_ble_eq_true rfl) (⟨rfl, rfl, ⟨xm12, (ha1.fr hb2 (by omega)).fr hc2 (by omega), hb1.fr hc2 (by omega), hc1, hk⟩, fun b hb => (hc2 b (by omega)).trans ((hb2 b (by omega)).trans ((ha2 b (by omega))))⟩)

set_option maxHeartbeats 4000000 in
set_option maxRecDepth 100000 in
theorem ct_takeS {N p : Nat} {μ : am_M} {ys : List Int} (hP : Prt μ p ys) (hN : p + 14 < N) (hk : okx ys) : am_Met YX3_take [.ref p, .ref (p + 1)] N μ (fun r N2 μ2 => r = none ∧ N = N2 ∧ Prt μ2 p ys ∧ am_fr p (p + 15) μ μ2) := by
  obtain ⟨h1, h2, h3, h4, h5⟩ := id hP
  refine am_met (by first | decide | rfl) (Nat.le_of_ble_eq_true rfl) (fun h => by first | rfl | cases h) ?_
  show am_W YX3_take _ 0 0 0 [(0, .ref p), (1, .ref (p + 1))] [] _ _
  refine ap_aload_n dX3_take_0 rfl rfl ?_
  refine ap_get ff_X3_14 dX3_take_1 (by omega) h1 rfl ?_
  refine ap_aload_n dX3_take_4 rfl rfl ?_
  refine ap_cV (As := [.ref (p + 1)]) (rest := []) (ct_becomeS (t := p + 1) h2 (by omega)) dX3_take_5 lk_X3_30 hy_X6_become rfl (by omega) h2.1 ⟨_, _, rfl⟩ (Nat.le_of_ble_eq_true rfl) ⟨Nat.le_of_ble_eq_true rfl, Nat.le_of_ble_eq_true rfl⟩ ⟨rfl, rfl⟩ ⟨Nat.le_of_ble_eq_true rfl, Nat.le_of_ble_eq_true rfl⟩ (fun xr1 xN2 μa xq3 => ?_)
  obtain ⟨rfl, rfl, ha1, ha2⟩ := xq3
  refine ap_aload_n dX3_take_8 rfl rfl ?_
  have xm4 : μa p = am_O 3 [.ref (p + 1), .ref (p + 3), .ref (p + 5)] := (ha2 _ (by omega)).trans h1
  refine ap_get ff_X3_14 dX3_take_9 (by omega) xm4 rfl ?_
  refine ap_aload_n dX3_take_12 rfl rfl ?_
  refine ap_get ff_X3_20 dX3_take_13 (by omega) xm4 rfl ?_
  refine ap_cS (As := [.ref (p + 1), .ref (p + 3)]) (rest := []) (ct_unfold (t := p + 1) (u := p + 3) ha1 (h3.fr ha2 (by omega)) (by omega) (by omega) (by omega) hk.2.1 hk.2.2.1) dX3_take_16 lk_X3_34 hy_X8_unfold rfl (Nat.le_of_ble_eq_true rfl) ⟨Nat.le_of_ble_eq_true rfl, Nat.le_of_ble_eq_true rfl⟩ ⟨rfl, rfl⟩ ⟨Nat.le_of_ble_eq_true rfl, Nat.le_of_ble_eq_true rfl⟩ (fun xr5 xN6 μb xq7 => ?_)
  obtain ⟨rfl, rfl, hb1, hb2⟩ := xq7
  obtain ⟨s1, s2, s3, s4, s5, s6, hraw⟩ := Sco.raw ((h4.fr ha2 (by omega)).fr hb2 (by omega))
  refine ap_aload_n dX3_take_19 rfl rfl ?_
  have xm8 : μb p = am_O 3 [.ref (p + 1), .ref (p + 3), .ref (p + 5)] := (hb2 _ (by omega)).trans xm4
  refine ap_get ff_X3_26 dX3_take_20 (by omega) xm8 rfl ?_
  refine ap_aload_n dX3_take_23 rfl rfl ?_
  refine ap_get ff_X3_20 dX3_take_24 (by omega) xm8 rfl ?_
  refine ap_cV (As := [.ref (p + 3)]) (rest := []) (ct_build (s := p + 5) (t := p + 3) hraw hb1 (by omega) (by omega) (by omega) hk.2.2.2) dX3_take_27 lk_X3_40 hy_X4_build rfl (by omega) hraw.1 ⟨_, _, rfl⟩ (Nat.le_of_ble_eq_true rfl) ⟨Nat.le_of_ble_eq_true rfl, Nat.le_of_ble_eq_true rfl⟩ ⟨rfl, rfl⟩ ⟨Nat.le_of_ble_eq_true rfl, Nat.le_of_ble_eq_true rfl⟩ (fun xr9 xN10 μc xq11 => ?_)
  obtain ⟨rfl, rfl, hc1, hc2⟩ := xq11
  have xm12 : μc p = am_O 3 [.ref (p + 1), .ref (p + 3), .ref (p + 5)] := (hc2 _ (by omega)).trans xm8
  exact ap_vret dX3_take_30 rfl (Nat.le_of_ble_eq_true rfl) (Nat.le_of_ble_eq_true rfl) (⟨rfl, rfl, ⟨xm12, (ha1.fr hb2 (by omega)).fr hc2 (by omega), hb1.fr hc2 (by omega), hc1, hk⟩, fun b hb => (hc2 b (by omega)).trans ((hb2 b (by omega)).trans ((ha2 b (by omega))))⟩)

