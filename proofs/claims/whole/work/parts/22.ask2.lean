def wbar (P : PS) (m : Int) (k : Nat) : Int := if k < p_nb P then (if p_BL P k ≠ m ∧ ¬ (k = p_nb P - 1 ∧ p_BL P k = 0) then (k : Int) else wbar P m (k + 1)) else -9
termination_by p_nb P - k
def ssum (P : PS) (m : Int) (i : Nat) : Int := match i with
  | 0 => 0
  | i + 1 => ssum P m i + syn (p_B P i) (p_E P i) m
def offg (P : PS) (g : Int) (i : Nat) : Int := match i with
  | 0 => 0
  | i + 1 => offg P g i + (if p_B P i * g % 812851200 = 0 then 0 else 1)
def lgr (P : PS) (i : Nat) : Nat := match i with
  | 0 => 812851200
  | i + 1 => Nat.gcd (lgr P i) (p_B P i).toNat
def q_least (P : PS) : Int := if 812851200 / lgr P (p_cnt P) ≤ 10000 then ((812851200 / lgr P (p_cnt P) : Nat) : Int) else -9
def mrow (P Q : PS) (d : Int) (i j : Nat) : Int := match j with
  | 0 => 0
  | j + 1 => mrow P Q d i j + (if (p_B P i - p_B Q j).tmod d = 0 then 1 else 0)
def msum (P Q : PS) (d : Int) (i : Nat) : Int := match i with
  | 0 => 0
  | i + 1 => msum P Q d i + mrow P Q d i (p_cnt Q)
theorem syn_r (b e m : Int) : 0 ≤ syn b e m ∧ syn b e m ≤ 7 := by
  have r1 := lev_r b m 0 (by omega)
  have r2 := lbt_r b e m 0 (by omega)
  unfold syn
  split <;> omega
theorem ssum_r (P : PS) (m : Int) (i : Nat) : 0 ≤ ssum P m i ∧ ssum P m i ≤ 7 * i := by
  induction i with
  | zero => simp [ssum]
  | succ i ih => have := syn_r (p_B P i) (p_E P i) m; simp only [ssum]; omega
theorem offg_r (P : PS) (g : Int) (i : Nat) : 0 ≤ offg P g i ∧ offg P g i ≤ i := by
  induction i with
  | zero => simp [offg]
  | succ i ih => simp only [offg]; split <;> omega
theorem lgr_r (P : PS) (i : Nat) : 0 < lgr P i ∧ lgr P i ≤ 812851200 := by
  induction i with
  | zero => simp [lgr]
  | succ i ih =>
    simp only [lgr]
    have h1 := Nat.gcd_pos_of_pos_left (p_B P i).toNat ih.1
    have h2 := Nat.gcd_le_left (p_B P i).toNat ih.1
    omega
theorem mrow_r (P Q : PS) (d : Int) (i j : Nat) : 0 ≤ mrow P Q d i j ∧ mrow P Q d i j ≤ j := by
  induction j with
  | zero => simp [mrow]
  | succ j ih => simp only [mrow]; split <;> omega
theorem msum_r (P Q : PS) (d : Int) (i : Nat) : 0 ≤ msum P Q d i ∧ msum P Q d i ≤ i * p_cnt Q := by
  induction i with
  | zero => simp [msum]
  | succ i ih => have := mrow_r P Q d i (p_cnt Q); simp only [msum]; rw [Int.natCast_add, Int.add_mul]; omega
set_option maxHeartbeats 4000000 in
set_option maxRecDepth 100000 in
theorem lp_wrongBar {N : Nat} {μ : am_M} {b : List Int} {C : Snap} {rem : Nat} {hs : Nat → Snap} (hX : Bx μ b C rem hs) (hN : 120 ≤ N) {p : Nat} (hp : p < 4) {P : PS} (hPe : psc (s_t C p) = P) {m : Int} (hmm : 1 ≤ m ∧ m ≤ 13005619200) {R : Int} : ∀ (nn : Nat) (i : Nat) (z : Int), z = (i : Int) → i ≤ p_nb P → wbar P m i = R → p_nb P - i < nn → am_W YX9_wrongBar (am_pv (am_i R) N μ) 0 0 29 [(0, .ref 0), (1, am_i (p : Int)), (2, .ref (7 + 15 * p)), (3, am_l m), (5, am_i (p_nb P : Int)), (6, am_i z)] [] N μ := by
  intro nn
  induction nn with
  | zero =>
    intro i z hz hi hWb hms
    exfalso; omega
  | succ nn ih =>
    intro i z hz hi hWb hms
    obtain ⟨h0, hT, hR, hP, hH, hrem, hm, hsn⟩ := id hX
    obtain ⟨p1, p2, p3, hS, p5⟩ := id (hP.2 p hp)
    have hpk := psc_ok p5
    have hS : Sco μ (7 + 15 * p + 5) (psc (s_t C p)) := hS
    rw [hPe] at hS hpk
    obtain ⟨s1, -⟩ := id hS
    obtain ⟨g1, g2, g3, g4, g5, g6, g7, g8, g9⟩ := id hpk
    refine ap_iload dX9_wrongBar_29 rfl ?_
    refine ap_iload dX9_wrongBar_31 rfl ?_
    rw [wbar] at hWb
    refine ap_icmp_ge (tgt := 91) dX9_wrongBar_33 (by decide) (by omega) (fun c33 => ?_) (fun c33 => ?_)
    · refine ap_bipush dX9_wrongBar_91 (by decide) ?_
      exact ap_iret dX9_wrongBar_93 rfl rfl (Nat.le_of_ble_eq_true rfl) (Nat.le_of_ble_eq_true rfl) (⟨by rw [if_neg (by omega)] at hWb; rw [← hWb], rfl, rfl⟩)
    · rw [if_pos (by omega)] at hWb
      have ge := g9 i (by omega)
      refine ap_aload_n dX9_wrongBar_36 rfl rfl ?_
      refine ap_getN ff_X9_100 dX9_wrongBar_37 (by omega) p1 rfl ?_
      refine ap_iload dX9_wrongBar_40 rfl ?_
      refine ap_cV (As := [am_i z]) (rest := []) (ct_barLength hS (by omega) hpk (k := z) (by omega)) dX9_wrongBar_42 lk_X9_180 hy_X4_barLength rfl (by omega) s1 ⟨_, _, rfl⟩ (Nat.le_of_ble_eq_true rfl) ⟨Nat.le_of_ble_eq_true rfl, Nat.le_of_ble_eq_true rfl⟩ ⟨rfl, rfl⟩ ⟨Nat.le_of_ble_eq_true rfl, Nat.le_of_ble_eq_true rfl⟩ (fun xr1 xN2 μ3 xq4 => ?_)
      obtain ⟨rfl, rfl, rfl⟩ := xq4
      refine ap_topl (b := p_BL P i) (show (if 0 ≤ z ∧ z < p_nb P then p_BL P z.toNat else 0) = (p_BL P i) from by rw [if_pos (by omega), hz]; rfl) ?_
      refine ap_Lstore (lv2 := [(0, .ref 0), (1, am_i (p : Int)), (2, .ref (7 + 15 * p)), (3, am_l m), (5, am_i (p_nb P : Int)), (6, am_i z), (7, am_l (p_BL P i))]) dX9_wrongBar_45 (by decide) rfl ?_
      refine ap_iload dX9_wrongBar_47 rfl ?_
      refine ap_iload dX9_wrongBar_49 rfl ?_
      refine ap_iconst dX9_wrongBar_51 ?_
      refine ap_isub dX9_wrongBar_52 ?_
      refine ap_icmp_ne (tgt := 67) dX9_wrongBar_53 (by decide) (by omega) (fun c53 => ?_) (fun c53 => ?_)
      · refine ap_iconst dX9_wrongBar_67 ?_
        refine ap_Istore (lv2 := [(0, .ref 0), (1, am_i (p : Int)), (2, .ref (7 + 15 * p)), (3, am_l m), (5, am_i (p_nb P : Int)), (6, am_i z), (7, am_l (p_BL P i)), (9, am_i 0)]) dX9_wrongBar_68 (by decide) rfl ?_
        refine ap_lload dX9_wrongBar_70 rfl ?_
        refine ap_lload_n dX9_wrongBar_72 rfl rfl ?_
        refine ap_lcmp_eq (tgt := 85) dX9_wrongBar_73 dX9_wrongBar_74 (by decide) (by omega) (fun c73 => ?_) (fun c73 => ?_)
        · rw [if_neg (by omega)] at hWb
          refine ap_Iinc (lv2 := [(0, .ref 0), (1, am_i (p : Int)), (2, .ref (7 + 15 * p)), (3, am_l m), (5, am_i (p_nb P : Int)), (6, am_i (z + 1)), (7, am_l (p_BL P i)), (9, am_i 0)]) dX9_wrongBar_85 rfl (by decide) rfl ?_
          refine ap_goto (tgt := 29) dX9_wrongBar_88 (by decide) ?_
          refine ap_pick (lv2 := [(0, .ref 0), (1, am_i (p : Int)), (2, .ref (7 + 15 * p)), (3, am_l m), (5, am_i (p_nb P : Int)), (6, am_i (z + 1))]) [0, 1, 2, 3, 4, 5] rfl ?_
          exact ih (i + 1) _ (by omega) (by omega) hWb (by omega)
        · refine ap_iload dX9_wrongBar_77 rfl ?_
          refine ap_if_ne (tgt := 85) dX9_wrongBar_79 (by decide) (by omega) (fun c79 => (by exfalso; omega)) (fun c79 => ?_)
          refine ap_iload dX9_wrongBar_82 rfl ?_
          exact ap_iret dX9_wrongBar_84 rfl rfl (Nat.le_of_ble_eq_true rfl) (Nat.le_of_ble_eq_true rfl) (⟨by rw [if_pos (by omega)] at hWb; rw [hz, hWb], rfl, rfl⟩)
      · refine ap_lload dX9_wrongBar_56 rfl ?_
        refine ap_lconst (v := 0) dX9_wrongBar_58 rfl ?_
        refine ap_lcmp_ne (tgt := 67) dX9_wrongBar_59 dX9_wrongBar_60 (by decide) (by omega) (fun c59 => ?_) (fun c59 => ?_)
        · refine ap_iconst dX9_wrongBar_67 ?_
          refine ap_Istore (lv2 := [(0, .ref 0), (1, am_i (p : Int)), (2, .ref (7 + 15 * p)), (3, am_l m), (5, am_i (p_nb P : Int)), (6, am_i z), (7, am_l (p_BL P i)), (9, am_i 0)]) dX9_wrongBar_68 (by decide) rfl ?_
          refine ap_lload dX9_wrongBar_70 rfl ?_
          refine ap_lload_n dX9_wrongBar_72 rfl rfl ?_
          refine ap_lcmp_eq (tgt := 85) dX9_wrongBar_73 dX9_wrongBar_74 (by decide) (by omega) (fun c73 => ?_) (fun c73 => ?_)
          · rw [if_neg (by omega)] at hWb
            refine ap_Iinc (lv2 := [(0, .ref 0), (1, am_i (p : Int)), (2, .ref (7 + 15 * p)), (3, am_l m), (5, am_i (p_nb P : Int)), (6, am_i (z + 1)), (7, am_l (p_BL P i)), (9, am_i 0)]) dX9_wrongBar_85 rfl (by decide) rfl ?_
            refine ap_goto (tgt := 29) dX9_wrongBar_88 (by decide) ?_
            refine ap_pick (lv2 := [(0, .ref 0), (1, am_i (p : Int)), (2, .ref (7 + 15 * p)), (3, am_l m), (5, am_i (p_nb P : Int)), (6, am_i (z + 1))]) [0, 1, 2, 3, 4, 5] rfl ?_
            exact ih (i + 1) _ (by omega) (by omega) hWb (by omega)
          · refine ap_iload dX9_wrongBar_77 rfl ?_
            refine ap_if_ne (tgt := 85) dX9_wrongBar_79 (by decide) (by omega) (fun c79 => (by exfalso; omega)) (fun c79 => ?_)
            refine ap_iload dX9_wrongBar_82 rfl ?_
            exact ap_iret dX9_wrongBar_84 rfl rfl (Nat.le_of_ble_eq_true rfl) (Nat.le_of_ble_eq_true rfl) (⟨by rw [if_pos (by omega)] at hWb; rw [hz, hWb], rfl, rfl⟩)
        · refine ap_iconst dX9_wrongBar_63 ?_
          refine ap_goto (tgt := 68) dX9_wrongBar_64 (by decide) ?_
          refine ap_Istore (lv2 := [(0, .ref 0), (1, am_i (p : Int)), (2, .ref (7 + 15 * p)), (3, am_l m), (5, am_i (p_nb P : Int)), (6, am_i z), (7, am_l (p_BL P i)), (9, am_i 1)]) dX9_wrongBar_68 (by decide) rfl ?_
          refine ap_lload dX9_wrongBar_70 rfl ?_
          refine ap_lload_n dX9_wrongBar_72 rfl rfl ?_
          refine ap_lcmp_eq (tgt := 85) dX9_wrongBar_73 dX9_wrongBar_74 (by decide) (by omega) (fun c73 => ?_) (fun c73 => ?_)
          · rw [if_neg (by omega)] at hWb
            refine ap_Iinc (lv2 := [(0, .ref 0), (1, am_i (p : Int)), (2, .ref (7 + 15 * p)), (3, am_l m), (5, am_i (p_nb P : Int)), (6, am_i (z + 1)), (7, am_l (p_BL P i)), (9, am_i 1)]) dX9_wrongBar_85 rfl (by decide) rfl ?_
            refine ap_goto (tgt := 29) dX9_wrongBar_88 (by decide) ?_
            refine ap_pick (lv2 := [(0, .ref 0), (1, am_i (p : Int)), (2, .ref (7 + 15 * p)), (3, am_l m), (5, am_i (p_nb P : Int)), (6, am_i (z + 1))]) [0, 1, 2, 3, 4, 5] rfl ?_
            exact ih (i + 1) _ (by omega) (by omega) hWb (by omega)
          · refine ap_iload dX9_wrongBar_77 rfl ?_
            refine ap_if_ne (tgt := 85) dX9_wrongBar_79 (by decide) (by omega) (fun c79 => ?_) (fun c79 => (by exfalso; omega))
            rw [if_neg (by omega)] at hWb
            refine ap_Iinc (lv2 := [(0, .ref 0), (1, am_i (p : Int)), (2, .ref (7 + 15 * p)), (3, am_l m), (5, am_i (p_nb P : Int)), (6, am_i (z + 1)), (7, am_l (p_BL P i)), (9, am_i 1)]) dX9_wrongBar_85 rfl (by decide) rfl ?_
            refine ap_goto (tgt := 29) dX9_wrongBar_88 (by decide) ?_
            refine ap_pick (lv2 := [(0, .ref 0), (1, am_i (p : Int)), (2, .ref (7 + 15 * p)), (3, am_l m), (5, am_i (p_nb P : Int)), (6, am_i (z + 1))]) [0, 1, 2, 3, 4, 5] rfl ?_
            exact ih (i + 1) _ (by omega) (by omega) hWb (by omega)

set_option maxHeartbeats 4000000 in
set_option maxRecDepth 100000 in
theorem cq_wrongBar {N : Nat} {μ : am_M} {b : List Int} {C : Snap} {rem : Nat} {hs : Nat → Snap} (hX : Bx μ b C rem hs) (hN : 120 ≤ N) {p : Nat} (hp : p < 4) {P : PS} (hPe : psc (s_t C p) = P) : am_Met YX9_wrongBar [.ref 0, am_i (p : Int)] N μ (am_pv (am_i (wbar P (mlen (s_b C) (s_v C)) 0)) N μ) := by
  obtain ⟨h0, hT, hR, hP, hH, hrem, hm, hsn⟩ := id hX
  obtain ⟨p1, p2, p3, hS, p5⟩ := id (hP.2 p hp)
  have hpk := psc_ok p5
  have hS : Sco μ (7 + 15 * p + 5) (psc (s_t C p)) := hS
  rw [hPe] at hS hpk
  obtain ⟨s1, -⟩ := id hS
  obtain ⟨g1, g2, g3, g4, g5, g6, g7, g8, g9⟩ := id hpk
  refine am_met (by first | decide | rfl) (Nat.le_of_ble_eq_true rfl) (fun h => by first | rfl | cases h) ?_
  show am_W YX9_wrongBar _ 0 0 0 [(0, .ref 0), (1, am_i (p : Int))] [] _ _
  refine ap_aload_n dX9_wrongBar_0 rfl rfl ?_
  refine ap_iload_n dX9_wrongBar_1 rfl rfl ?_
  refine ap_cV (As := [am_i (p : Int)]) (rest := []) (ct_partAtP h0 hP hN hp) dX9_wrongBar_2 lk_X9_76 hy_X9_partAt rfl (by omega) h0 ⟨_, _, rfl⟩ (Nat.le_of_ble_eq_true rfl) ⟨Nat.le_of_ble_eq_true rfl, Nat.le_of_ble_eq_true rfl⟩ ⟨rfl, rfl⟩ ⟨Nat.le_of_ble_eq_true rfl, Nat.le_of_ble_eq_true rfl⟩ (fun xr1 xN2 μ3 xq4 => ?_)
  obtain ⟨rfl, rfl, rfl⟩ := xq4
  refine ap_Astore_n (lv2 := [(0, .ref 0), (1, am_i (p : Int)), (2, .ref (7 + 15 * p))]) dX9_wrongBar_5 rfl (by decide) rfl ?_
  refine ap_aload_n dX9_wrongBar_6 rfl rfl ?_
  refine ap_ifnonnull (tgt := 12) dX9_wrongBar_7 (by decide) ?_
  refine ap_aload_n dX9_wrongBar_12 rfl rfl ?_
  refine ap_cV (As := []) (rest := []) (ct_meterLength h0 hN hm) dX9_wrongBar_13 lk_X9_183 hy_X9_meterLength rfl (by omega) h0 ⟨_, _, rfl⟩ (Nat.le_of_ble_eq_true rfl) ⟨Nat.le_of_ble_eq_true rfl, Nat.le_of_ble_eq_true rfl⟩ ⟨rfl, rfl⟩ ⟨Nat.le_of_ble_eq_true rfl, Nat.le_of_ble_eq_true rfl⟩ (fun xr5 xN6 μ7 xq8 => ?_)
  obtain ⟨rfl, rfl, rfl⟩ := xq8
  refine ap_Lstore_n (lv2 := [(0, .ref 0), (1, am_i (p : Int)), (2, .ref (7 + 15 * p)), (3, am_l (mlen (s_b C) (s_v C)))]) dX9_wrongBar_16 rfl (by decide) rfl ?_
  refine ap_aload_n dX9_wrongBar_17 rfl rfl ?_
  refine ap_getN ff_X9_100 dX9_wrongBar_18 (by omega) p1 rfl ?_
  refine ap_cV (As := []) (rest := []) (ct_barCount hS (by omega) hpk) dX9_wrongBar_21 lk_X9_174 hy_X4_barCount rfl (by omega) s1 ⟨_, _, rfl⟩ (Nat.le_of_ble_eq_true rfl) ⟨Nat.le_of_ble_eq_true rfl, Nat.le_of_ble_eq_true rfl⟩ ⟨rfl, rfl⟩ ⟨Nat.le_of_ble_eq_true rfl, Nat.le_of_ble_eq_true rfl⟩ (fun xr9 xN10 μ11 xq12 => ?_)
  obtain ⟨rfl, rfl, rfl⟩ := xq12
  refine ap_Istore (lv2 := [(0, .ref 0), (1, am_i (p : Int)), (2, .ref (7 + 15 * p)), (3, am_l (mlen (s_b C) (s_v C))), (5, am_i (p_nb P : Int))]) dX9_wrongBar_24 (by decide) rfl ?_
  refine ap_iconst dX9_wrongBar_26 ?_
  refine ap_Istore (lv2 := [(0, .ref 0), (1, am_i (p : Int)), (2, .ref (7 + 15 * p)), (3, am_l (mlen (s_b C) (s_v C))), (5, am_i (p_nb P : Int)), (6, am_i 0)]) dX9_wrongBar_27 (by decide) rfl ?_
  exact lp_wrongBar hX hN hp hPe (mlen_r hm.1 hm.2.1) (p_nb P + 1) 0 _ rfl (by omega) rfl (by omega)

set_option maxHeartbeats 4000000 in
set_option maxRecDepth 100000 in
theorem lp_syncopation {N : Nat} {μ : am_M} {b : List Int} {C : Snap} {rem : Nat} {hs : Nat → Snap} (hX : Bx μ b C rem hs) (hN : 120 ≤ N) {p : Nat} (hp : p < 4) {P : PS} (hPe : psc (s_t C p) = P) : ∀ (nn : Nat) (i : Nat) (z : Int) (y : Int), z = (i : Int) → i ≤ p_cnt P → y = ssum P (mlen (s_b C) (s_v C)) i → p_cnt P - i < nn → am_W YX9_syncopation (am_pv (am_i (ssum P (mlen (s_b C) (s_v C)) (p_cnt P))) N μ) 0 0 26 [(0, .ref 0), (1, am_i (p : Int)), (2, .ref (7 + 15 * p)), (3, am_i y), (4, am_i (p_cnt P : Int)), (5, am_i z)] [] N μ := by
  intro nn
  induction nn with
  | zero =>
    intro i z y hz hi hy hms
    exfalso; omega
  | succ nn ih =>
    intro i z y hz hi hy hms
    obtain ⟨h0, hT, hR, hP, hH, hrem, hm, hsn⟩ := id hX
    obtain ⟨p1, p2, p3, hS, p5⟩ := id (hP.2 p hp)
    have hpk := psc_ok p5
    have hS : Sco μ (7 + 15 * p + 5) (psc (s_t C p)) := hS
    rw [hPe] at hS hpk
    obtain ⟨s1, -⟩ := id hS
    obtain ⟨g1, g2, g3, g4, g5, g6, g7, g8, g9⟩ := id hpk
    refine ap_iload dX9_syncopation_26 rfl ?_
    refine ap_iload dX9_syncopation_28 rfl ?_
    refine ap_icmp_ge (tgt := 52) dX9_syncopation_30 (by decide) (by omega) (fun c30 => ?_) (fun c30 => ?_)
    · refine ap_iload_n dX9_syncopation_52 rfl rfl ?_
      exact ap_iret dX9_syncopation_53 rfl rfl (Nat.le_of_ble_eq_true rfl) (Nat.le_of_ble_eq_true rfl) (⟨by rw [hy, show i = p_cnt P by omega], rfl, rfl⟩)
    · refine ap_iload_n dX9_syncopation_33 rfl rfl ?_
      refine ap_aload_n dX9_syncopation_34 rfl rfl ?_
      refine ap_aload_n dX9_syncopation_35 rfl rfl ?_
      refine ap_getN ff_X9_100 dX9_syncopation_36 (by omega) p1 rfl ?_
      refine ap_iload dX9_syncopation_39 rfl ?_
      refine ap_cV (As := [.ref (7 + 15 * p + 5), am_i z]) (rest := [am_i y]) (ct_syncopationOf h0 hN hm hS (by omega) hpk (i := i) hz (by omega)) dX9_syncopation_41 lk_X9_170 hy_X9_syncopationOf rfl (by omega) h0 ⟨_, _, rfl⟩ (Nat.le_of_ble_eq_true rfl) ⟨Nat.le_of_ble_eq_true rfl, Nat.le_of_ble_eq_true rfl⟩ ⟨rfl, rfl⟩ ⟨Nat.le_of_ble_eq_true rfl, Nat.le_of_ble_eq_true rfl⟩ (fun xr1 xN2 μ3 xq4 => ?_)
      obtain ⟨rfl, rfl, rfl⟩ := xq4
      refine ap_iadd dX9_syncopation_44 ?_
      refine ap_Istore_n (lv2 := [(0, .ref 0), (1, am_i (p : Int)), (2, .ref (7 + 15 * p)), (3, am_i (y + (syn (p_B P i) (p_E P i) (mlen (s_b C) (s_v C))))), (4, am_i (p_cnt P : Int)), (5, am_i z)]) dX9_syncopation_45 rfl (by decide) rfl ?_
      refine ap_Iinc (lv2 := [(0, .ref 0), (1, am_i (p : Int)), (2, .ref (7 + 15 * p)), (3, am_i (y + (syn (p_B P i) (p_E P i) (mlen (s_b C) (s_v C))))), (4, am_i (p_cnt P : Int)), (5, am_i (z + 1))]) dX9_syncopation_46 rfl (by decide) rfl ?_
      refine ap_goto (tgt := 26) dX9_syncopation_49 (by decide) ?_
      exact ih (i + 1) _ _ (by omega) (by omega) (by rw [hy]; rfl) (by omega)

set_option maxHeartbeats 4000000 in
set_option maxRecDepth 100000 in
theorem cq_syncopation {N : Nat} {μ : am_M} {b : List Int} {C : Snap} {rem : Nat} {hs : Nat → Snap} (hX : Bx μ b C rem hs) (hN : 120 ≤ N) {p : Nat} (hp : p < 4) {P : PS} (hPe : psc (s_t C p) = P) : am_Met YX9_syncopation [.ref 0, am_i (p : Int)] N μ (am_pv (am_i (ssum P (mlen (s_b C) (s_v C)) (p_cnt P))) N μ) := by
  obtain ⟨h0, hT, hR, hP, hH, hrem, hm, hsn⟩ := id hX
  obtain ⟨p1, p2, p3, hS, p5⟩ := id (hP.2 p hp)
  have hpk := psc_ok p5
  have hS : Sco μ (7 + 15 * p + 5) (psc (s_t C p)) := hS
  rw [hPe] at hS hpk
  obtain ⟨s1, -⟩ := id hS
  obtain ⟨g1, g2, g3, g4, g5, g6, g7, g8, g9⟩ := id hpk
  refine am_met (by first | decide | rfl) (Nat.le_of_ble_eq_true rfl) (fun h => by first | rfl | cases h) ?_
  show am_W YX9_syncopation _ 0 0 0 [(0, .ref 0), (1, am_i (p : Int))] [] _ _
  refine ap_aload_n dX9_syncopation_0 rfl rfl ?_
  refine ap_iload_n dX9_syncopation_1 rfl rfl ?_
  refine ap_cV (As := [am_i (p : Int)]) (rest := []) (ct_partAtP h0 hP hN hp) dX9_syncopation_2 lk_X9_76 hy_X9_partAt rfl (by omega) h0 ⟨_, _, rfl⟩ (Nat.le_of_ble_eq_true rfl) ⟨Nat.le_of_ble_eq_true rfl, Nat.le_of_ble_eq_true rfl⟩ ⟨rfl, rfl⟩ ⟨Nat.le_of_ble_eq_true rfl, Nat.le_of_ble_eq_true rfl⟩ (fun xr1 xN2 μ3 xq4 => ?_)
  obtain ⟨rfl, rfl, rfl⟩ := xq4
  refine ap_Astore_n (lv2 := [(0, .ref 0), (1, am_i (p : Int)), (2, .ref (7 + 15 * p))]) dX9_syncopation_5 rfl (by decide) rfl ?_
  refine ap_aload_n dX9_syncopation_6 rfl rfl ?_
  refine ap_ifnonnull (tgt := 12) dX9_syncopation_7 (by decide) ?_
  refine ap_iconst dX9_syncopation_12 ?_
  refine ap_Istore_n (lv2 := [(0, .ref 0), (1, am_i (p : Int)), (2, .ref (7 + 15 * p)), (3, am_i 0)]) dX9_syncopation_13 rfl (by decide) rfl ?_
  refine ap_aload_n dX9_syncopation_14 rfl rfl ?_
  refine ap_getN ff_X9_100 dX9_syncopation_15 (by omega) p1 rfl ?_
  refine ap_cV (As := []) (rest := []) (ct_count hS (by omega) hpk) dX9_syncopation_18 lk_X9_104 hy_X4_count rfl (by omega) s1 ⟨_, _, rfl⟩ (Nat.le_of_ble_eq_true rfl) ⟨Nat.le_of_ble_eq_true rfl, Nat.le_of_ble_eq_true rfl⟩ ⟨rfl, rfl⟩ ⟨Nat.le_of_ble_eq_true rfl, Nat.le_of_ble_eq_true rfl⟩ (fun xr5 xN6 μ7 xq8 => ?_)
  obtain ⟨rfl, rfl, rfl⟩ := xq8
  refine ap_Istore (lv2 := [(0, .ref 0), (1, am_i (p : Int)), (2, .ref (7 + 15 * p)), (3, am_i 0), (4, am_i (p_cnt P : Int))]) dX9_syncopation_21 (by decide) rfl ?_
  refine ap_iconst dX9_syncopation_23 ?_
  refine ap_Istore (lv2 := [(0, .ref 0), (1, am_i (p : Int)), (2, .ref (7 + 15 * p)), (3, am_i 0), (4, am_i (p_cnt P : Int)), (5, am_i 0)]) dX9_syncopation_24 (by decide) rfl ?_
  exact lp_syncopation hX hN hp hPe (p_cnt P + 1) 0 _ _ rfl (by omega) rfl (by omega)

set_option maxHeartbeats 4000000 in
set_option maxRecDepth 100000 in
theorem cq_offGridB {N : Nat} {μ : am_M} {b : List Int} {C : Snap} {rem : Nat} {hs : Nat → Snap} (hX : Bx μ b C rem hs) (hN : 120 ≤ N) {p : Nat} (hp : p < 4) {P : PS} (hPe : psc (s_t C p) = P) {g : Int} (hg : -2147483648 ≤ g ∧ g ≤ 2147483647) (hn : ¬ (1 ≤ g ∧ g ≤ 1000)) : am_Met YX9_offGrid [.ref 0, am_i (p : Int), am_i g] N μ (am_pv (am_i (-1)) N μ) := by
  obtain ⟨h0, hT, hR, hP, hH, hrem, hm, hsn⟩ := id hX
  obtain ⟨p1, p2, p3, hS, p5⟩ := id (hP.2 p hp)
  have hpk := psc_ok p5
  have hS : Sco μ (7 + 15 * p + 5) (psc (s_t C p)) := hS
  rw [hPe] at hS hpk
  obtain ⟨s1, -⟩ := id hS
  obtain ⟨g1, g2, g3, g4, g5, g6, g7, g8, g9⟩ := id hpk
  refine am_met (by first | decide | rfl) (Nat.le_of_ble_eq_true rfl) (fun h => by first | rfl | cases h) ?_
  show am_W YX9_offGrid _ 0 0 0 [(0, .ref 0), (1, am_i (p : Int)), (2, am_i g)] [] _ _
  refine ap_aload_n dX9_offGrid_0 rfl rfl ?_
  refine ap_iload_n dX9_offGrid_1 rfl rfl ?_
  refine ap_cV (As := [am_i (p : Int)]) (rest := []) (ct_partAtP h0 hP hN hp) dX9_offGrid_2 lk_X9_76 hy_X9_partAt rfl (by omega) h0 ⟨_, _, rfl⟩ (Nat.le_of_ble_eq_true rfl) ⟨Nat.le_of_ble_eq_true rfl, Nat.le_of_ble_eq_true rfl⟩ ⟨rfl, rfl⟩ ⟨Nat.le_of_ble_eq_true rfl, Nat.le_of_ble_eq_true rfl⟩ (fun xr1 xN2 μ3 xq4 => ?_)
  obtain ⟨rfl, rfl, rfl⟩ := xq4
  refine ap_Astore_n (lv2 := [(0, .ref 0), (1, am_i (p : Int)), (2, am_i g), (3, .ref (7 + 15 * p))]) dX9_offGrid_5 rfl (by decide) rfl ?_
  refine ap_aload_n dX9_offGrid_6 rfl rfl ?_
  refine ap_ifnull dX9_offGrid_7 ?_
  refine ap_iload_n dX9_offGrid_10 rfl rfl ?_
  refine ap_iconst dX9_offGrid_11 ?_
  refine ap_icmp_lt (tgt := 22) dX9_offGrid_12 (by decide) (by omega) (fun c12 => ?_) (fun c12 => ?_)
  · refine ap_iconst dX9_offGrid_22 ?_
    exact ap_iret dX9_offGrid_23 rfl rfl (Nat.le_of_ble_eq_true rfl) (Nat.le_of_ble_eq_true rfl) (⟨rfl, rfl, rfl⟩)
  · refine ap_iload_n dX9_offGrid_15 rfl rfl ?_
    refine ap_sipush dX9_offGrid_16 (by decide) ?_
    refine ap_icmp_le (tgt := 24) dX9_offGrid_19 (by decide) (by omega) (fun c19 => (by exfalso; omega)) (fun c19 => ?_)
    refine ap_iconst dX9_offGrid_22 ?_
    exact ap_iret dX9_offGrid_23 rfl rfl (Nat.le_of_ble_eq_true rfl) (Nat.le_of_ble_eq_true rfl) (⟨rfl, rfl, rfl⟩)

set_option maxHeartbeats 4000000 in
set_option maxRecDepth 100000 in
theorem lp_offGrid {N : Nat} {μ : am_M} {b : List Int} {C : Snap} {rem : Nat} {hs : Nat → Snap} (hX : Bx μ b C rem hs) (hN : 120 ≤ N) {p : Nat} (hp : p < 4) {P : PS} (hPe : psc (s_t C p) = P) {g : Int} (hg : 1 ≤ g ∧ g ≤ 1000) : ∀ (nn : Nat) (i : Nat) (z : Int) (y : Int), z = (i : Int) → i ≤ p_cnt P → y = offg P g i → p_cnt P - i < nn → am_W YX9_offGrid (am_pv (am_i (offg P g (p_cnt P))) N μ) 0 0 39 [(0, .ref 0), (1, am_i (p : Int)), (2, am_i g), (3, .ref (7 + 15 * p)), (4, am_i y), (5, am_i (p_cnt P : Int)), (6, am_i z)] [] N μ := by
  intro nn
  induction nn with
  | zero =>
    intro i z y hz hi hy hms
    exfalso; omega
  | succ nn ih =>
    intro i z y hz hi hy hms
    obtain ⟨h0, hT, hR, hP, hH, hrem, hm, hsn⟩ := id hX
    obtain ⟨p1, p2, p3, hS, p5⟩ := id (hP.2 p hp)
    have hpk := psc_ok p5
    have hS : Sco μ (7 + 15 * p + 5) (psc (s_t C p)) := hS
    rw [hPe] at hS hpk
    obtain ⟨s1, -⟩ := id hS
    obtain ⟨g1, g2, g3, g4, g5, g6, g7, g8, g9⟩ := id hpk
    refine ap_iload dX9_offGrid_39 rfl ?_
    refine ap_iload dX9_offGrid_41 rfl ?_
    refine ap_icmp_ge (tgt := 76) dX9_offGrid_43 (by decide) (by omega) (fun c43 => ?_) (fun c43 => ?_)
    · refine ap_iload dX9_offGrid_76 rfl ?_
      exact ap_iret dX9_offGrid_78 rfl rfl (Nat.le_of_ble_eq_true rfl) (Nat.le_of_ble_eq_true rfl) (⟨by rw [hy, show i = p_cnt P by omega], rfl, rfl⟩)
    · have ge := g8 i (by omega)
      have e1 : 0 ≤ p_B P i * g := Int.mul_nonneg (by omega) (by omega)
      have e2 : p_B P i * g ≤ 140000000000000 * 1000 := Int.mul_le_mul (by omega) (by omega) (by omega) (by omega)
      refine ap_aload_n dX9_offGrid_46 rfl rfl ?_
      refine ap_getN ff_X9_100 dX9_offGrid_47 (by omega) p1 rfl ?_
      refine ap_iload dX9_offGrid_50 rfl ?_
      refine ap_cV (As := [am_i z]) (rest := []) (ct_begin hS (by omega) hpk (k := z) (by omega)) dX9_offGrid_52 lk_X9_146 hy_X4_begin rfl (by omega) s1 ⟨_, _, rfl⟩ (Nat.le_of_ble_eq_true rfl) ⟨Nat.le_of_ble_eq_true rfl, Nat.le_of_ble_eq_true rfl⟩ ⟨rfl, rfl⟩ ⟨Nat.le_of_ble_eq_true rfl, Nat.le_of_ble_eq_true rfl⟩ (fun xr1 xN2 μ3 xq4 => ?_)
      obtain ⟨rfl, rfl, rfl⟩ := xq4
      refine ap_topl (b := p_B P i) (show (if 0 ≤ z ∧ z < p_cnt P then p_B P z.toNat else 0) = (p_B P i) from by rw [if_pos (by omega), hz]; rfl) ?_
      refine ap_iload_n dX9_offGrid_55 rfl rfl ?_
      refine ap_i2l dX9_offGrid_56 (by omega) ?_
      refine ap_lmul dX9_offGrid_57 ?_
      refine ap_ldc2 dX9_offGrid_58 kl_X9_137 ?_
      refine ap_lrem dX9_offGrid_61 (⟨by omega, by omega⟩) ?_
      refine ap_lconst (v := 0) dX9_offGrid_62 rfl ?_
      refine ap_lcmp_eq (tgt := 70) dX9_offGrid_63 dX9_offGrid_64 (by decide) (⟨by omega, by omega⟩) (fun c63 => ?_) (fun c63 => ?_)
      · refine ap_Iinc (lv2 := [(0, .ref 0), (1, am_i (p : Int)), (2, am_i g), (3, .ref (7 + 15 * p)), (4, am_i y), (5, am_i (p_cnt P : Int)), (6, am_i (z + 1))]) dX9_offGrid_70 rfl (by decide) rfl ?_
        refine ap_goto (tgt := 39) dX9_offGrid_73 (by decide) ?_
        exact ih (i + 1) _ _ (by omega) (by omega) (by rw [offg, if_pos c63, hy, Int.add_zero]) (by omega)
      · refine ap_Iinc (lv2 := [(0, .ref 0), (1, am_i (p : Int)), (2, am_i g), (3, .ref (7 + 15 * p)), (4, am_i (y + 1)), (5, am_i (p_cnt P : Int)), (6, am_i z)]) dX9_offGrid_67 rfl (by decide) rfl ?_
        refine ap_Iinc (lv2 := [(0, .ref 0), (1, am_i (p : Int)), (2, am_i g), (3, .ref (7 + 15 * p)), (4, am_i (y + 1)), (5, am_i (p_cnt P : Int)), (6, am_i (z + 1))]) dX9_offGrid_70 rfl (by decide) rfl ?_
        refine ap_goto (tgt := 39) dX9_offGrid_73 (by decide) ?_
        exact ih (i + 1) _ _ (by omega) (by omega) (by rw [offg, if_neg c63, hy]) (by omega)

set_option maxHeartbeats 4000000 in
set_option maxRecDepth 100000 in
theorem cq_offGrid {N : Nat} {μ : am_M} {b : List Int} {C : Snap} {rem : Nat} {hs : Nat → Snap} (hX : Bx μ b C rem hs) (hN : 120 ≤ N) {p : Nat} (hp : p < 4) {P : PS} (hPe : psc (s_t C p) = P) {g : Int} (hg : 1 ≤ g ∧ g ≤ 1000) : am_Met YX9_offGrid [.ref 0, am_i (p : Int), am_i g] N μ (am_pv (am_i (offg P g (p_cnt P))) N μ) := by
  obtain ⟨h0, hT, hR, hP, hH, hrem, hm, hsn⟩ := id hX
  obtain ⟨p1, p2, p3, hS, p5⟩ := id (hP.2 p hp)
  have hpk := psc_ok p5
  have hS : Sco μ (7 + 15 * p + 5) (psc (s_t C p)) := hS
  rw [hPe] at hS hpk
  obtain ⟨s1, -⟩ := id hS
  obtain ⟨g1, g2, g3, g4, g5, g6, g7, g8, g9⟩ := id hpk
  refine am_met (by first | decide | rfl) (Nat.le_of_ble_eq_true rfl) (fun h => by first | rfl | cases h) ?_
  show am_W YX9_offGrid _ 0 0 0 [(0, .ref 0), (1, am_i (p : Int)), (2, am_i g)] [] _ _
  refine ap_aload_n dX9_offGrid_0 rfl rfl ?_
  refine ap_iload_n dX9_offGrid_1 rfl rfl ?_
  refine ap_cV (As := [am_i (p : Int)]) (rest := []) (ct_partAtP h0 hP hN hp) dX9_offGrid_2 lk_X9_76 hy_X9_partAt rfl (by omega) h0 ⟨_, _, rfl⟩ (Nat.le_of_ble_eq_true rfl) ⟨Nat.le_of_ble_eq_true rfl, Nat.le_of_ble_eq_true rfl⟩ ⟨rfl, rfl⟩ ⟨Nat.le_of_ble_eq_true rfl, Nat.le_of_ble_eq_true rfl⟩ (fun xr1 xN2 μ3 xq4 => ?_)
  obtain ⟨rfl, rfl, rfl⟩ := xq4
  refine ap_Astore_n (lv2 := [(0, .ref 0), (1, am_i (p : Int)), (2, am_i g), (3, .ref (7 + 15 * p))]) dX9_offGrid_5 rfl (by decide) rfl ?_
  refine ap_aload_n dX9_offGrid_6 rfl rfl ?_
  refine ap_ifnull dX9_offGrid_7 ?_
  refine ap_iload_n dX9_offGrid_10 rfl rfl ?_
  refine ap_iconst dX9_offGrid_11 ?_
  refine ap_icmp_lt (tgt := 22) dX9_offGrid_12 (by decide) (by omega) (fun c12 => (by exfalso; omega)) (fun c12 => ?_)
  refine ap_iload_n dX9_offGrid_15 rfl rfl ?_
  refine ap_sipush dX9_offGrid_16 (by decide) ?_
  refine ap_icmp_le (tgt := 24) dX9_offGrid_19 (by decide) (by omega) (fun c19 => ?_) (fun c19 => (by exfalso; omega))
  refine ap_iconst dX9_offGrid_24 ?_
  refine ap_Istore (lv2 := [(0, .ref 0), (1, am_i (p : Int)), (2, am_i g), (3, .ref (7 + 15 * p)), (4, am_i 0)]) dX9_offGrid_25 (by decide) rfl ?_
  refine ap_aload_n dX9_offGrid_27 rfl rfl ?_
  refine ap_getN ff_X9_100 dX9_offGrid_28 (by omega) p1 rfl ?_
  refine ap_cV (As := []) (rest := []) (ct_count hS (by omega) hpk) dX9_offGrid_31 lk_X9_104 hy_X4_count rfl (by omega) s1 ⟨_, _, rfl⟩ (Nat.le_of_ble_eq_true rfl) ⟨Nat.le_of_ble_eq_true rfl, Nat.le_of_ble_eq_true rfl⟩ ⟨rfl, rfl⟩ ⟨Nat.le_of_ble_eq_true rfl, Nat.le_of_ble_eq_true rfl⟩ (fun xr5 xN6 μ7 xq8 => ?_)
  obtain ⟨rfl, rfl, rfl⟩ := xq8
  refine ap_Istore (lv2 := [(0, .ref 0), (1, am_i (p : Int)), (2, am_i g), (3, .ref (7 + 15 * p)), (4, am_i 0), (5, am_i (p_cnt P : Int))]) dX9_offGrid_34 (by decide) rfl ?_
  refine ap_iconst dX9_offGrid_36 ?_
  refine ap_Istore (lv2 := [(0, .ref 0), (1, am_i (p : Int)), (2, am_i g), (3, .ref (7 + 15 * p)), (4, am_i 0), (5, am_i (p_cnt P : Int)), (6, am_i 0)]) dX9_offGrid_37 (by decide) rfl ?_
  exact lp_offGrid hX hN hp hPe hg (p_cnt P + 1) 0 _ _ rfl (by omega) rfl (by omega)


set_option maxHeartbeats 4000000 in
set_option maxRecDepth 100000 in
theorem lp_leastGrid {N : Nat} {μ : am_M} {b : List Int} {C : Snap} {rem : Nat} {hs : Nat → Snap} (hX : Bx μ b C rem hs) (hN : 120 ≤ N) {p : Nat} (hp : p < 4) {P : PS} (hPe : psc (s_t C p) = P) : ∀ (nn : Nat) (i : Nat) (z : Int) (y : Int), z = (i : Int) → i ≤ p_cnt P → y = ((lgr P i : Nat) : Int) → p_cnt P - i < nn → am_W YX9_leastGrid (am_pv (am_i (q_least P)) N μ) 0 0 28 [(0, .ref 0), (1, am_i (p : Int)), (2, .ref (7 + 15 * p)), (3, am_l y), (5, am_i (p_cnt P : Int)), (6, am_i z)] [] N μ := by
  intro nn
  induction nn with
  | zero =>
    intro i z y hz hi hy hms
    exfalso; omega
  | succ nn ih =>
    intro i z y hz hi hy hms
    obtain ⟨h0, hT, hR, hP, hH, hrem, hm, hsn⟩ := id hX
    obtain ⟨p1, p2, p3, hS, p5⟩ := id (hP.2 p hp)
    have hpk := psc_ok p5
    have hS : Sco μ (7 + 15 * p + 5) (psc (s_t C p)) := hS
    rw [hPe] at hS hpk
    obtain ⟨s1, -⟩ := id hS
    obtain ⟨g1, g2, g3, g4, g5, g6, g7, g8, g9⟩ := id hpk
    refine ap_iload dX9_leastGrid_28 rfl ?_
    refine ap_iload dX9_leastGrid_30 rfl ?_
    refine ap_icmp_ge (tgt := 55) dX9_leastGrid_32 (by decide) (by omega) (fun c32 => ?_) (fun c32 => ?_)
    · have hl := lgr_r P (p_cnt P)
      have hic : i = p_cnt P := by omega
      rw [hic] at hy
      have hdv : 812851200 / lgr P (p_cnt P) ≤ 812851200 := Nat.div_le_self _ _
      refine ap_lload_n dX9_leastGrid_55 rfl rfl ?_
      refine ap_lconst (v := 0) dX9_leastGrid_56 rfl ?_
      refine ap_lcmp_gt (tgt := 64) dX9_leastGrid_57 dX9_leastGrid_58 (by decide) (⟨by omega, by omega⟩) (fun c57 => ?_) (fun c57 => (by exfalso; omega))
      refine ap_ldc2 dX9_leastGrid_64 kl_X9_137 ?_
      refine ap_lload_n dX9_leastGrid_67 rfl rfl ?_
      refine ap_ldiv dX9_leastGrid_68 (⟨by omega, by omega⟩) ?_
      refine ap_topl (b := ((812851200 / lgr P (p_cnt P) : Nat) : Int)) (show (812851200 / y) = ((812851200 / lgr P (p_cnt P) : Nat) : Int) from by rw [hy]; exact (Int.natCast_ediv _ _).symm) ?_
      generalize hqd : 812851200 / lgr P (p_cnt P) = qd at hdv ⊢
      refine ap_Lstore (lv2 := [(0, .ref 0), (1, am_i (p : Int)), (2, .ref (7 + 15 * p)), (3, am_l y), (5, am_i (p_cnt P : Int)), (6, am_l ((qd : Nat) : Int))]) dX9_leastGrid_69 (by decide) rfl ?_
      refine ap_lload dX9_leastGrid_71 rfl ?_
      refine ap_ldc2 dX9_leastGrid_73 kl_X9_190 ?_
      refine ap_lcmp_gt (tgt := 86) dX9_leastGrid_76 dX9_leastGrid_77 (by decide) (⟨by omega, by omega⟩) (fun c76 => ?_) (fun c76 => ?_)
      · refine ap_bipush dX9_leastGrid_86 (by decide) ?_
        exact ap_iret dX9_leastGrid_88 rfl rfl (Nat.le_of_ble_eq_true rfl) (Nat.le_of_ble_eq_true rfl) (⟨by rw [q_least, hqd, if_neg (by omega)], rfl, rfl⟩)
      · refine ap_lload dX9_leastGrid_80 rfl ?_
        refine ap_l2i dX9_leastGrid_82 ?_
        refine ap_goto (tgt := 88) dX9_leastGrid_83 (by decide) ?_
        exact ap_iret dX9_leastGrid_88 rfl rfl (Nat.le_of_ble_eq_true rfl) (Nat.le_of_ble_eq_true rfl) (⟨by rw [q_least, hqd, if_pos (by omega)], rfl, rfl⟩)
    · have ge := g8 i (by omega)
      have hl := lgr_r P i
      refine ap_lload_n dX9_leastGrid_35 rfl rfl ?_
      refine ap_aload_n dX9_leastGrid_36 rfl rfl ?_
      refine ap_getN ff_X9_100 dX9_leastGrid_37 (by omega) p1 rfl ?_
      refine ap_iload dX9_leastGrid_40 rfl ?_
      refine ap_cV (As := [am_i z]) (rest := [am_l y]) (ct_begin hS (by omega) hpk (k := z) (by omega)) dX9_leastGrid_42 lk_X9_146 hy_X4_begin rfl (by omega) s1 ⟨_, _, rfl⟩ (Nat.le_of_ble_eq_true rfl) ⟨Nat.le_of_ble_eq_true rfl, Nat.le_of_ble_eq_true rfl⟩ ⟨rfl, rfl⟩ ⟨Nat.le_of_ble_eq_true rfl, Nat.le_of_ble_eq_true rfl⟩ (fun xr1 xN2 μ3 xq4 => ?_)
      obtain ⟨rfl, rfl, rfl⟩ := xq4
      refine ap_topl (b := ((p_B P i).toNat : Int)) (show (if 0 ≤ z ∧ z < p_cnt P then p_B P z.toNat else 0) = ((p_B P i).toNat : Int) from by rw [if_pos (by omega), hz]; show p_B P i = _; omega) ?_
      subst hy
      refine ap_cS (As := [am_l ((lgr P i : Nat) : Int), am_l ((p_B P i).toNat : Int)]) (rest := []) (ct_commonDivisor (a := lgr P i) (b := (p_B P i).toNat) (by omega) (by omega)) dX9_leastGrid_45 lk_X9_186 hy_X9_commonDivisor rfl (Nat.le_of_ble_eq_true rfl) ⟨Nat.le_of_ble_eq_true rfl, Nat.le_of_ble_eq_true rfl⟩ ⟨rfl, rfl⟩ ⟨Nat.le_of_ble_eq_true rfl, Nat.le_of_ble_eq_true rfl⟩ (fun xr5 xN6 μ7 xq8 => ?_)
      obtain ⟨rfl, rfl, rfl⟩ := xq8
      refine ap_Lstore_n (lv2 := [(0, .ref 0), (1, am_i (p : Int)), (2, .ref (7 + 15 * p)), (3, am_l ((Nat.gcd (lgr P i) (p_B P i).toNat : Nat) : Int)), (5, am_i (p_cnt P : Int)), (6, am_i z)]) dX9_leastGrid_48 rfl (by decide) rfl ?_
      refine ap_Iinc (lv2 := [(0, .ref 0), (1, am_i (p : Int)), (2, .ref (7 + 15 * p)), (3, am_l ((Nat.gcd (lgr P i) (p_B P i).toNat : Nat) : Int)), (5, am_i (p_cnt P : Int)), (6, am_i (z + 1))]) dX9_leastGrid_49 rfl (by decide) rfl ?_
      refine ap_goto (tgt := 28) dX9_leastGrid_52 (by decide) ?_
      exact ih (i + 1) _ _ (by omega) (by omega) rfl (by omega)

set_option maxHeartbeats 4000000 in
set_option maxRecDepth 100000 in
theorem cq_leastGrid {N : Nat} {μ : am_M} {b : List Int} {C : Snap} {rem : Nat} {hs : Nat → Snap} (hX : Bx μ b C rem hs) (hN : 120 ≤ N) {p : Nat} (hp : p < 4) {P : PS} (hPe : psc (s_t C p) = P) : am_Met YX9_leastGrid [.ref 0, am_i (p : Int)] N μ (am_pv (am_i (q_least P)) N μ) := by
  obtain ⟨h0, hT, hR, hP, hH, hrem, hm, hsn⟩ := id hX
  obtain ⟨p1, p2, p3, hS, p5⟩ := id (hP.2 p hp)
  have hpk := psc_ok p5
  have hS : Sco μ (7 + 15 * p + 5) (psc (s_t C p)) := hS
  rw [hPe] at hS hpk
  obtain ⟨s1, -⟩ := id hS
  obtain ⟨g1, g2, g3, g4, g5, g6, g7, g8, g9⟩ := id hpk
  refine am_met (by first | decide | rfl) (Nat.le_of_ble_eq_true rfl) (fun h => by first | rfl | cases h) ?_
  show am_W YX9_leastGrid _ 0 0 0 [(0, .ref 0), (1, am_i (p : Int))] [] _ _
  refine ap_aload_n dX9_leastGrid_0 rfl rfl ?_
  refine ap_iload_n dX9_leastGrid_1 rfl rfl ?_
  refine ap_cV (As := [am_i (p : Int)]) (rest := []) (ct_partAtP h0 hP hN hp) dX9_leastGrid_2 lk_X9_76 hy_X9_partAt rfl (by omega) h0 ⟨_, _, rfl⟩ (Nat.le_of_ble_eq_true rfl) ⟨Nat.le_of_ble_eq_true rfl, Nat.le_of_ble_eq_true rfl⟩ ⟨rfl, rfl⟩ ⟨Nat.le_of_ble_eq_true rfl, Nat.le_of_ble_eq_true rfl⟩ (fun xr1 xN2 μ3 xq4 => ?_)
  obtain ⟨rfl, rfl, rfl⟩ := xq4
  refine ap_Astore_n (lv2 := [(0, .ref 0), (1, am_i (p : Int)), (2, .ref (7 + 15 * p))]) dX9_leastGrid_5 rfl (by decide) rfl ?_
  refine ap_aload_n dX9_leastGrid_6 rfl rfl ?_
  refine ap_ifnonnull (tgt := 12) dX9_leastGrid_7 (by decide) ?_
  refine ap_ldc2 dX9_leastGrid_12 kl_X9_137 ?_
  refine ap_Lstore_n (lv2 := [(0, .ref 0), (1, am_i (p : Int)), (2, .ref (7 + 15 * p)), (3, am_l 812851200)]) dX9_leastGrid_15 rfl (by decide) rfl ?_
  refine ap_aload_n dX9_leastGrid_16 rfl rfl ?_
  refine ap_getN ff_X9_100 dX9_leastGrid_17 (by omega) p1 rfl ?_
  refine ap_cV (As := []) (rest := []) (ct_count hS (by omega) hpk) dX9_leastGrid_20 lk_X9_104 hy_X4_count rfl (by omega) s1 ⟨_, _, rfl⟩ (Nat.le_of_ble_eq_true rfl) ⟨Nat.le_of_ble_eq_true rfl, Nat.le_of_ble_eq_true rfl⟩ ⟨rfl, rfl⟩ ⟨Nat.le_of_ble_eq_true rfl, Nat.le_of_ble_eq_true rfl⟩ (fun xr5 xN6 μ7 xq8 => ?_)
  obtain ⟨rfl, rfl, rfl⟩ := xq8
  refine ap_Istore (lv2 := [(0, .ref 0), (1, am_i (p : Int)), (2, .ref (7 + 15 * p)), (3, am_l 812851200), (5, am_i (p_cnt P : Int))]) dX9_leastGrid_23 (by decide) rfl ?_
  refine ap_iconst dX9_leastGrid_25 ?_
  refine ap_Istore (lv2 := [(0, .ref 0), (1, am_i (p : Int)), (2, .ref (7 + 15 * p)), (3, am_l 812851200), (5, am_i (p_cnt P : Int)), (6, am_i 0)]) dX9_leastGrid_26 (by decide) rfl ?_
  exact lp_leastGrid hX hN hp hPe (p_cnt P + 1) 0 _ _ rfl (by omega) rfl (by omega)

