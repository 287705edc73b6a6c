/-! lengths, one division after another -/
def lx (h : Int) (d : Nat) : Int := if d = 0 then 812851200 / 2 ^ h.toNat else if d = 1 then 812851200 / 2 ^ h.toNat * 3 / 2 else 812851200 / 2 ^ h.toNat * 7 / 4
def tkj (X : Int) (ts : List (Int × Int)) (j : Nat) : Int := match j with
  | 0 => X
  | j + 1 => tkj X ts j * (ts.getD j (1, 1)).2 / (ts.getD j (1, 1)).1
theorem lx_f {h : Int} {d : Nat} (hh : 0 ≤ h ∧ h ≤ 5) : lx h d = 2520 * (2520 * (lx h d / 6350400)) ∧ 812851200 * dqn d = 4 * 2 ^ h.toNat * lx h d ∧ 0 ≤ lx h d ∧ lx h d ≤ 1422489600 ∧ (1 : Int) ≤ 2 ^ h.toNat := by
  obtain ⟨d2, hd2, e1, e2⟩ : ∃ d2, (d2 = 0 ∨ d2 = 1 ∨ d2 = 2) ∧ lx h d = lx h d2 ∧ dqn d = dqn d2 := by
    by_cases c0 : d = 0
    · exact ⟨0, Or.inl rfl, by rw [c0], by rw [c0]⟩
    · by_cases c1 : d = 1
      · exact ⟨1, Or.inr (Or.inl rfl), by rw [c1], by rw [c1]⟩
      · refine ⟨2, Or.inr (Or.inr rfl), ?_, ?_⟩
        · unfold lx; rw [if_neg c0, if_neg c1, if_neg (by decide), if_neg (by decide)]
        · unfold dqn; rw [if_neg c0, if_neg c1, if_neg (by decide), if_neg (by decide)]
  rw [e1, e2]
  rcases (show h = 0 ∨ h = 1 ∨ h = 2 ∨ h = 3 ∨ h = 4 ∨ h = 5 by omega) with rfl | rfl | rfl | rfl | rfl | rfl <;> rcases hd2 with rfl | rfl | rfl <;> decide
theorem d2520 {m : Int} (h : 2 ≤ m ∧ m ≤ 9) : ∃ e, (2520 : Int) = m * e := by
  rcases (show m = 2 ∨ m = 3 ∨ m = 4 ∨ m = 5 ∨ m = 6 ∨ m = 7 ∨ m = 8 ∨ m = 9 by omega) with rfl | rfl | rfl | rfl | rfl | rfl | rfl | rfl
  · exact ⟨1260, rfl⟩
  · exact ⟨840, rfl⟩
  · exact ⟨630, rfl⟩
  · exact ⟨504, rfl⟩
  · exact ⟨420, rfl⟩
  · exact ⟨360, rfl⟩
  · exact ⟨315, rfl⟩
  · exact ⟨280, rfl⟩
theorem tk_lx {h : Int} {d : Nat} {ts : List (Int × Int)} (hh : 0 ≤ h ∧ h ≤ 5) : tk h d ts = lx h d * pn ts / pm ts := by
  obtain ⟨h1, h2, h3, h4, h5⟩ := lx_f (d := d) hh
  unfold tk
  rw [h2, Int.mul_assoc (4 * 2 ^ h.toNat)]
  exact Int.mul_ediv_mul_of_pos _ _ (by omega)
theorem tk_j {h : Int} {d : Nat} {ts : List (Int × Int)} (hh : 0 ≤ h ∧ h ≤ 5) (hl : ts.length ≤ 2) (ht : ∀ x ∈ ts, (2 ≤ x.1 ∧ x.1 ≤ 9) ∧ 2 ≤ x.2 ∧ x.2 ≤ 9) : tkj (lx h d) ts ts.length = tk h d ts := by
  rw [tk_lx hh]
  obtain ⟨h1, h2, h3, h4, h5⟩ := lx_f (d := d) hh
  generalize lx h d / 6350400 = C at h1
  generalize lx h d = X at h1 h2 h3 h4 ⊢
  match ts, hl, ht with
  | [], _, _ => show X = X * 1 / 1; rw [Int.mul_one, Int.ediv_one]
  | [(m, n)], _, ht =>
    show X * n / m = X * (n * 1) / (m * 1)
    rw [Int.mul_one, Int.mul_one]
  | [(m, n), (m2, n2)], _, ht =>
    have r1 := ht (m, n) (by simp)
    have r2 := ht (m2, n2) (by simp)
    dsimp only at r1 r2
    obtain ⟨e, he⟩ := d2520 r1.1
    obtain ⟨e2, he2⟩ := d2520 r2.1
    have hX : X = m * (m2 * (e * (e2 * C))) := by
      have q1 : 2520 * C = m2 * e2 * C := by rw [← he2]
      have q2 : 2520 * (m2 * e2 * C) = m * e * (m2 * e2 * C) := by rw [← he]
      rw [h1, q1, q2]
      ac_rfl
    show X * n / m * n2 / m2 = X * (n * (n2 * 1)) / (m * (m2 * 1))
    rw [Int.mul_one, Int.mul_one]
    have s1 : X * n / m = m2 * (e * (e2 * C)) * n := Int.ediv_eq_of_eq_mul_right (by omega) (by rw [hX]; ac_rfl)
    have s2 : m2 * (e * (e2 * C)) * n * n2 / m2 = (e * (e2 * C)) * n * n2 := Int.ediv_eq_of_eq_mul_right (by omega) (by ac_rfl)
    have hm0 : m * m2 ≠ 0 := by
      have : 0 < m * m2 := Int.mul_pos (by omega) (by omega)
      omega
    have s3 : X * (n * n2) / (m * m2) = (e * (e2 * C)) * n * n2 := Int.ediv_eq_of_eq_mul_right hm0 (by rw [hX]; ac_rfl)
    rw [s1, s2, s3]
  | _ :: _ :: _ :: _, hl, _ => simp at hl
def wsr (ts : List (Int × Int)) (fu fl : Nat → Int) : Prop := ∀ j, j < ts.length → fu j = (ts.getD j (1, 1)).2 ∧ fl j = (ts.getD j (1, 1)).1
theorem gd_mem {α : Type} {ts : List α} {x : α} {j : Nat} (h : j < ts.length) : ts.getD j x ∈ ts := by
  rw [List.getD_eq_getElem?_getD, List.getElem?_eq_getElem h]
  exact List.getElem_mem h
theorem mul_r {x u B : Int} (hx : 0 ≤ x ∧ x ≤ B) (hu : 2 ≤ u ∧ u ≤ 9) : 0 ≤ x * u ∧ x * u ≤ B * 9 :=
  ⟨Int.mul_nonneg hx.1 (by omega), Int.mul_le_mul hx.2 hu.2 (by omega) (by omega)⟩
theorem tkj_r {X : Int} {ts : List (Int × Int)} (hX : 0 ≤ X ∧ X ≤ 1422489600) (ht : ∀ x ∈ ts, (2 ≤ x.1 ∧ x.1 ≤ 9) ∧ 2 ≤ x.2 ∧ x.2 ≤ 9) : ∀ j, j ≤ ts.length → 0 ≤ tkj X ts j ∧ tkj X ts j ≤ 1422489600 * 9 ^ j := by
  intro j
  induction j with
  | zero => intro _; exact ⟨hX.1, by rw [Int.pow_zero, Int.mul_one]; exact hX.2⟩
  | succ j ih =>
    intro hj
    have h1 := ih (by omega)
    have h2 := ht _ (gd_mem (x := ((1 : Int), (1 : Int))) (show j < ts.length by omega))
    have h3 := mul_r h1 h2.2
    show 0 ≤ tkj X ts j * _ / _ ∧ tkj X ts j * _ / _ ≤ _
    refine ⟨Int.ediv_nonneg h3.1 (by omega), Int.le_trans (Int.ediv_le_self _ h3.1) ?_⟩
    rw [Int.pow_succ, ← Int.mul_assoc]
    exact h3.2
theorem sh_r {h : Int} (hh : 0 ≤ h ∧ h ≤ 5) : Int64.ofInt 812851200 >>> ((Int32.ofInt h).toInt64 &&& 63) = Int64.ofInt (812851200 / 2 ^ h.toNat) ∧ (812851200 : Int) / 2 ^ h.toNat ≤ 812851200 ∧ 0 ≤ (812851200 : Int) / 2 ^ h.toNat := by
  rcases (show h = 0 ∨ h = 1 ∨ h = 2 ∨ h = 3 ∨ h = 4 ∨ h = 5 by omega) with rfl | rfl | rfl | rfl | rfl | rfl <;> decide
set_option maxHeartbeats 4000000 in
set_option maxRecDepth 100000 in
theorem lm_lenAt {N : Nat} {μ : am_M} {zp zt zm zd ze zi zu zc zg : Int} {ts : List (Int × Int)} {fu fw : Nat → Int} (hM : μ 120 = mcl zp zt zm zd ze zi zu zc zg) (hU : μ 136 = am_I 0 3 fu) (hW : μ 137 = am_I 0 3 fw) (hN : 141 ≤ N) (hs : wsr ts fu fw) (hl : ts.length ≤ 2) (ht : ∀ x ∈ ts, (2 ≤ x.1 ∧ x.1 ≤ 9) ∧ 2 ≤ x.2 ∧ x.2 ≤ 9) {X ch zd2 : Int} (hX : 0 ≤ X ∧ X ≤ 1422489600) : ∀ (nn : Nat) (j : Nat) (z : Int) (zx : Int), z = (j : Int) → j ≤ ts.length → zx = tkj X ts j → ts.length - j < nn → am_W YX10_lengthAt (am_pv (am_l (tkj X ts ts.length)) N μ) 0 0 52 [(0, .ref 120), (1, am_i ch), (2, am_i zd2), (3, am_i (ts.length : Int)), (4, am_l zx), (6, am_i z)] [] N μ := by
  intro nn
  induction nn with
  | zero =>
    intro j z zx hz hj hx hm
    exfalso; omega
  | succ nn ih =>
    intro j z zx hz hj hx hm
    refine ap_iload dX10_lengthAt_52 rfl ?_
    refine ap_iload_n dX10_lengthAt_54 rfl rfl ?_
    refine ap_icmp_ge (tgt := 86) dX10_lengthAt_55 (by decide) (by omega) (fun c55 => ?_) (fun c55 => ?_)
    · refine ap_lload dX10_lengthAt_86 rfl ?_
      exact ap_lret dX10_lengthAt_88 rfl (Nat.le_of_ble_eq_true rfl) (Nat.le_of_ble_eq_true rfl) (⟨by rw [hx, show j = ts.length by omega], rfl, rfl⟩)
    · have hjl : j < ts.length := by omega
      have hq := hs j hjl
      have hr1 := ht _ (gd_mem (x := ((1 : Int), (1 : Int))) hjl)
      have hr2 := tkj_r hX ht j (by omega)
      rw [← hx] at hr2
      have hr3 : (1422489600 : Int) * 9 ^ j ≤ 1422489600 * 81 := by
        rcases (show j = 0 ∨ j = 1 by omega) with rfl | rfl <;> decide
      have hr4 := mul_r (B := 1422489600 * 81) ⟨hr2.1, by omega⟩ hr1.2
      refine ap_lload dX10_lengthAt_58 rfl ?_
      refine ap_aload_n dX10_lengthAt_60 rfl rfl ?_
      refine ap_get ff_X10_57 dX10_lengthAt_61 (by omega) hM rfl ?_
      refine ap_iload dX10_lengthAt_64 rfl ?_
      refine ap_iald (j := j) dX10_lengthAt_66 (by omega) hU (by omega) (by omega) ?_
      refine ap_topi (b := (ts.getD j (1, 1)).2) (show (fu j) = ((ts.getD j (1, 1)).2) from hq.1) ?_
      refine ap_i2l dX10_lengthAt_67 (by omega) ?_
      refine ap_lmul dX10_lengthAt_68 ?_
      refine ap_aload_n dX10_lengthAt_69 rfl rfl ?_
      refine ap_get ff_X10_60 dX10_lengthAt_70 (by omega) hM rfl ?_
      refine ap_iload dX10_lengthAt_73 rfl ?_
      refine ap_iald (j := j) dX10_lengthAt_75 (by omega) hW (by omega) (by omega) ?_
      refine ap_topi (b := (ts.getD j (1, 1)).1) (show (fw j) = ((ts.getD j (1, 1)).1) from hq.2) ?_
      refine ap_i2l dX10_lengthAt_76 (by omega) ?_
      refine ap_ldiv dX10_lengthAt_77 (by omega) ?_
      refine ap_Lstore (lv2 := [(0, .ref 120), (1, am_i ch), (2, am_i zd2), (3, am_i (ts.length : Int)), (4, am_l ((zx * ((ts.getD j (1, 1)).2)) / ((ts.getD j (1, 1)).1))), (6, am_i z)]) dX10_lengthAt_78 (by decide) rfl ?_
      refine ap_Iinc (lv2 := [(0, .ref 120), (1, am_i ch), (2, am_i zd2), (3, am_i (ts.length : Int)), (4, am_l ((zx * ((ts.getD j (1, 1)).2)) / ((ts.getD j (1, 1)).1))), (6, am_i (z + 1))]) dX10_lengthAt_80 rfl (by decide) rfl ?_
      refine ap_goto (tgt := 52) dX10_lengthAt_83 (by decide) ?_
      exact ih (j + 1) _ _ (by omega) (by omega) (by rw [hx]; rfl) (by omega)

set_option maxHeartbeats 4000000 in
set_option maxRecDepth 100000 in
theorem cm_lengthAt {N : Nat} {μ : am_M} {zp zt zm zd ze zi zu zc zg : Int} {ts : List (Int × Int)} {fu fw : Nat → Int} (hM : μ 120 = mcl zp zt zm zd ze zi zu zc zg) (hU : μ 136 = am_I 0 3 fu) (hW : μ 137 = am_I 0 3 fw) (hN : 141 ≤ N) (hs : wsr ts fu fw) (hl : ts.length ≤ 2) (ht : ∀ x ∈ ts, (2 ≤ x.1 ∧ x.1 ≤ 9) ∧ 2 ≤ x.2 ∧ x.2 ≤ 9) {ch zd2 : Int} {d : Nat} (hc : -2147483648 ≤ ch ∧ ch ≤ 2147483647) (hh : 0 ≤ hv ch ∧ hv ch ≤ 5) (hzd : zd2 = (d : Int)) (hd : d ≤ 2) {zo : Int} (hzo : zo = (ts.length : Int)) : am_Met YX10_lengthAt [.ref 120, am_i ch, am_i zd2, am_i zo] N μ (am_pv (am_l (tk (hv ch) d ts)) N μ) := by
  have hlx := lx_f (d := d) hh
  have hsr := sh_r hh
  refine am_met (by first | decide | rfl) (Nat.le_of_ble_eq_true rfl) (fun h => by first | rfl | cases h) ?_
  show am_W YX10_lengthAt _ 0 0 0 [(0, .ref 120), (1, am_i ch), (2, am_i zd2), (3, am_i zo)] [] _ _
  refine ap_ldc2 dX10_lengthAt_0 kl_X10_138 ?_
  refine ap_iload_n dX10_lengthAt_3 rfl rfl ?_
  refine ap_cS (As := [am_i ch]) (rest := [am_l 812851200]) (cm_halvings hc) dX10_lengthAt_4 lk_X10_83 hy_X10_halvings rfl (Nat.le_of_ble_eq_true rfl) ⟨Nat.le_of_ble_eq_true rfl, Nat.le_of_ble_eq_true rfl⟩ ⟨rfl, rfl⟩ ⟨Nat.le_of_ble_eq_true rfl, Nat.le_of_ble_eq_true rfl⟩ (fun xr1 xN2 μ3 xq4 => ?_)
  obtain ⟨rfl, rfl, rfl⟩ := xq4
  refine ap_lshr (r := 812851200 / 2 ^ (hv ch).toNat) dX10_lengthAt_7 (hsr.1) ?_
  refine ap_Lstore (lv2 := [(0, .ref 120), (1, am_i ch), (2, am_i zd2), (3, am_i zo), (4, am_l (812851200 / 2 ^ (hv ch).toNat))]) dX10_lengthAt_8 (by decide) rfl ?_
  refine ap_iload_n dX10_lengthAt_10 rfl rfl ?_
  refine ap_if_ne (tgt := 19) dX10_lengthAt_11 (by decide) (by omega) (fun c11 => ?_) (fun c11 => ?_)
  · refine ap_iload_n dX10_lengthAt_19 rfl rfl ?_
    refine ap_iconst dX10_lengthAt_20 ?_
    refine ap_icmp_ne (tgt := 37) dX10_lengthAt_21 (by decide) (by omega) (fun c21 => ?_) (fun c21 => ?_)
    · refine ap_lload dX10_lengthAt_37 rfl ?_
      refine ap_ldc2 dX10_lengthAt_39 kl_X10_144 ?_
      refine ap_lmul dX10_lengthAt_42 ?_
      refine ap_ldc2 dX10_lengthAt_43 kl_X10_146 ?_
      refine ap_ldiv dX10_lengthAt_46 (by omega) ?_
      refine ap_Lstore (lv2 := [(0, .ref 120), (1, am_i ch), (2, am_i zd2), (3, am_i zo), (4, am_l (((812851200 / 2 ^ (hv ch).toNat) * 7) / 4))]) dX10_lengthAt_47 (by decide) rfl ?_
      refine ap_iconst dX10_lengthAt_49 ?_
      refine ap_Istore (lv2 := [(0, .ref 120), (1, am_i ch), (2, am_i zd2), (3, am_i zo), (4, am_l (((812851200 / 2 ^ (hv ch).toNat) * 7) / 4)), (6, am_i 0)]) dX10_lengthAt_50 (by decide) rfl ?_
      subst hzo
      exact am_mono (lm_lenAt hM hU hW hN hs hl ht (X := lx (hv ch) d) ⟨hlx.2.2.1, hlx.2.2.2.1⟩ (ts.length + 1) 0 0 _ rfl (Nat.zero_le _) (by show _ = lx _ _; unfold lx; rw [if_neg (by omega), if_neg (by omega)]) (by omega)) (fun r N2 μ2 hq => ⟨by rw [hq.1, tk_j hh hl ht], hq.2.1, hq.2.2⟩)
    · refine ap_lload dX10_lengthAt_24 rfl ?_
      refine ap_ldc2 dX10_lengthAt_26 kl_X10_140 ?_
      refine ap_lmul dX10_lengthAt_29 ?_
      refine ap_ldc2 dX10_lengthAt_30 kl_X10_142 ?_
      refine ap_ldiv dX10_lengthAt_33 (by omega) ?_
      refine ap_goto (tgt := 47) dX10_lengthAt_34 (by decide) ?_
      refine ap_Lstore (lv2 := [(0, .ref 120), (1, am_i ch), (2, am_i zd2), (3, am_i zo), (4, am_l (((812851200 / 2 ^ (hv ch).toNat) * 3) / 2))]) dX10_lengthAt_47 (by decide) rfl ?_
      refine ap_iconst dX10_lengthAt_49 ?_
      refine ap_Istore (lv2 := [(0, .ref 120), (1, am_i ch), (2, am_i zd2), (3, am_i zo), (4, am_l (((812851200 / 2 ^ (hv ch).toNat) * 3) / 2)), (6, am_i 0)]) dX10_lengthAt_50 (by decide) rfl ?_
      subst hzo
      exact am_mono (lm_lenAt hM hU hW hN hs hl ht (X := lx (hv ch) d) ⟨hlx.2.2.1, hlx.2.2.2.1⟩ (ts.length + 1) 0 0 _ rfl (Nat.zero_le _) (by show _ = lx _ _; unfold lx; rw [if_neg (by omega), if_pos (by omega)]) (by omega)) (fun r N2 μ2 hq => ⟨by rw [hq.1, tk_j hh hl ht], hq.2.1, hq.2.2⟩)
  · refine ap_lload dX10_lengthAt_14 rfl ?_
    refine ap_goto (tgt := 47) dX10_lengthAt_16 (by decide) ?_
    refine ap_Lstore (lv2 := [(0, .ref 120), (1, am_i ch), (2, am_i zd2), (3, am_i zo), (4, am_l (812851200 / 2 ^ (hv ch).toNat))]) dX10_lengthAt_47 (by decide) rfl ?_
    refine ap_iconst dX10_lengthAt_49 ?_
    refine ap_Istore (lv2 := [(0, .ref 120), (1, am_i ch), (2, am_i zd2), (3, am_i zo), (4, am_l (812851200 / 2 ^ (hv ch).toNat)), (6, am_i 0)]) dX10_lengthAt_50 (by decide) rfl ?_
    subst hzo
    exact am_mono (lm_lenAt hM hU hW hN hs hl ht (X := lx (hv ch) d) ⟨hlx.2.2.1, hlx.2.2.2.1⟩ (ts.length + 1) 0 0 _ rfl (Nat.zero_le _) (by show _ = lx _ _; unfold lx; rw [if_pos (by omega)]) (by omega)) (fun r N2 μ2 hq => ⟨by rw [hq.1, tk_j hh hl ht], hq.2.1, hq.2.2⟩)

/-- the arrays of events hold the picture of part p -/
def wrl (p : Nat) (P : PS) (fo fs fa fb fn : Nat → Int) : Prop := ∀ i, i < p_cnt P → fo (300 * p + i) = p_B P i ∧ fs (300 * p + i) = p_E P i - p_B P i ∧ fa (300 * p + i) = p_AC P i ∧ fb (300 * p + i) = p_BN P i ∧ fn (300 * p + i) = p_NC P i
def wof (p : Nat) (fo fs fa fb fn go gs ga gb gn : Nat → Int) : Prop := ∀ j, ¬ (300 * p ≤ j ∧ j < 300 * p + 300) → go j = fo j ∧ gs j = fs j ∧ ga j = fa j ∧ gb j = fb j ∧ gn j = fn j
def wbr (P : PS) (bl be : Nat → Int) : Prop := ∀ j, j < p_nb P → bl j = p_BL P j ∧ be j = (if p_BL P j = 0 then 1 else 0)
theorem wof.rf {p : Nat} {fo fs fa fb fn : Nat → Int} : wof p fo fs fa fb fn fo fs fa fb fn := fun _ _ => ⟨rfl, rfl, rfl, rfl, rfl⟩
theorem wof.trans {p : Nat} {fo fs fa fb fn go gs ga gb gn ho hs ha hb hn : Nat → Int} (h : wof p fo fs fa fb fn go gs ga gb gn) (h2 : wof p go gs ga gb gn ho hs ha hb hn) : wof p fo fs fa fb fn ho hs ha hb hn := by
  intro j hj
  obtain ⟨a1, a2, a3, a4, a5⟩ := h j hj
  obtain ⟨b1, b2, b3, b4, b5⟩ := h2 j hj
  exact ⟨b1.trans a1, b2.trans a2, b3.trans a3, b4.trans a4, b5.trans a5⟩
theorem wof_join {p c : Nat} {fo fs fa fb fn : Nat → Int} {x y : Int} (h0 : 0 < c) (h : c ≤ 300) : wof p fo fs fa fb fn fo (va_up fs (300 * p + c - 1) x) fa fb (va_up fn (300 * p + c - 1) y) :=
  fun j hj => ⟨rfl, va_upn (by omega), rfl, rfl, va_upn (by omega)⟩
theorem wof_ev {p c : Nat} {fo fs fa fb fn : Nat → Int} {x1 x2 x3 x4 x5 : Int} (h : c < 300) : wof p fo fs fa fb fn (va_up fo (300 * p + c) x1) (va_up fs (300 * p + c) x2) (va_up fa (300 * p + c) x3) (va_up fb (300 * p + c) x4) (va_up fn (300 * p + c) x5) :=
  fun j hj => ⟨va_upn (by omega), va_upn (by omega), va_upn (by omega), va_upn (by omega), va_upn (by omega)⟩
theorem wrl_join {p c : Nat} {P : PS} {fo fs fa fb fn : Nat → Int} {x : Int} (h : wrl p P fo fs fa fb fn) (h0 : 0 < p_cnt P) (hc : c = p_cnt P) : wrl p (pJoin P x) fo (va_up fs (300 * p + c - 1) (fs (300 * p + c - 1) + x)) fa fb (va_up fn (300 * p + c - 1) (fn (300 * p + c - 1) + 1)) := by
  subst hc
  intro i hi
  have hi2 : i < p_cnt P := hi
  obtain ⟨a1, a2, a3, a4, a5⟩ := h i hi2
  show _ ∧ va_up fs (300 * p + p_cnt P - 1) (fs (300 * p + p_cnt P - 1) + x) (300 * p + i) = va_up (p_E P) (p_cnt P - 1) (p_E P (p_cnt P - 1) + x) i - p_B P i ∧ _ ∧ _ ∧ va_up fn (300 * p + p_cnt P - 1) (fn (300 * p + p_cnt P - 1) + 1) (300 * p + i) = va_up (p_NC P) (p_cnt P - 1) (p_NC P (p_cnt P - 1) + 1) i
  by_cases hq : i = p_cnt P - 1
  · rw [← hq, show 300 * p + p_cnt P - 1 = 300 * p + i by omega, va_upe, va_upe, va_upe, va_upe]
    exact ⟨a1, by omega, a3, a4, by omega⟩
  · rw [va_upn hq, va_upn hq, va_upn (by omega), va_upn (by omega)]
    exact ⟨a1, a2, a3, a4, a5⟩
theorem wrl_ev {p c : Nat} {P : PS} {fo fs fa fb fn : Nat → Int} {x ac t b : Int} (h : wrl p P fo fs fa fb fn) (hc : c = p_cnt P) (ht : t = p_tot P) (hb : b = (p_nb P : Int) - 1) : wrl p (pEv P x ac) (va_up fo (300 * p + c) t) (va_up fs (300 * p + c) x) (va_up fa (300 * p + c) ac) (va_up fb (300 * p + c) b) (va_up fn (300 * p + c) 1) := by
  subst hc ht hb
  intro i hi
  have hi2 : i < p_cnt P + 1 := hi
  show va_up fo (300 * p + p_cnt P) (p_tot P) (300 * p + i) = va_up (p_B P) (p_cnt P) (p_tot P) i ∧ va_up fs (300 * p + p_cnt P) x (300 * p + i) = va_up (p_E P) (p_cnt P) (p_tot P + x) i - va_up (p_B P) (p_cnt P) (p_tot P) i ∧ va_up fa (300 * p + p_cnt P) ac (300 * p + i) = va_up (p_AC P) (p_cnt P) ac i ∧ va_up fb (300 * p + p_cnt P) ((p_nb P : Int) - 1) (300 * p + i) = va_up (p_BN P) (p_cnt P) ((p_nb P : Int) - 1) i ∧ va_up fn (300 * p + p_cnt P) 1 (300 * p + i) = va_up (p_NC P) (p_cnt P) 1 i
  by_cases hq : i = p_cnt P
  · subst hq
    simp only [va_upe]
    exact ⟨trivial, by omega, trivial, trivial, trivial⟩
  · have hn : 300 * p + i ≠ 300 * p + p_cnt P := by omega
    simp only [va_upn hq, va_upn hn]
    exact h i (by omega)
set_option maxHeartbeats 4000000 in
set_option maxRecDepth 100000 in
theorem cm_addJ {N : Nat} {μ : am_M} {zp zt zm zd ze zi zu zc zg : Int} {p : Nat} {P : PS} {fo fs fa fb fn fm : Nat → Int} (hM : μ 120 = mcl zp zt zm zd ze zi zu zc zg) (b1 : μ 126 = am_L 1200 fo) (b2 : μ 127 = am_L 1200 fs) (b3 : μ 128 = am_I 0 1200 fa) (b4 : μ 129 = am_I 0 1200 fb) (b5 : μ 130 = am_I 0 1200 fn) (b6 : μ 131 = am_I 0 4 fm) (hN : 141 ≤ N) (hp : p < 4) (hW : wrl p P fo fs fa fb fn) (hm : fm p = (p_cnt P : Int)) (hc : p_cnt P < 300) {ztm x zac zba : Int} (ht : ztm = p_tot P) (hb : zba = (p_nb P : Int) - 1) (hac : zac = 0 ∨ zac = 1) (h0 : 0 < p_cnt P) : am_Met YX10_addsEvent [.ref 120, am_i (p : Int), am_l ztm, am_l x, am_i zac, am_i zba, am_i 1] N μ (fun r N2 μ2 => r = none ∧ N = N2 ∧ (∀ b, ¬ (126 ≤ b ∧ b ≤ 131) → μ2 b = μ b) ∧ ∃ fo2 fs2 fa2 fb2 fn2 fm2, μ2 126 = am_L 1200 fo2 ∧ μ2 127 = am_L 1200 fs2 ∧ μ2 128 = am_I 0 1200 fa2 ∧ μ2 129 = am_I 0 1200 fb2 ∧ μ2 130 = am_I 0 1200 fn2 ∧ μ2 131 = am_I 0 4 fm2 ∧ wrl p (pJoin P x) fo2 fs2 fa2 fb2 fn2 ∧ wof p fo fs fa fb fn fo2 fs2 fa2 fb2 fn2 ∧ fm2 p = (p_cnt (pJoin P x) : Int) ∧ ∀ q, q ≠ p → fm2 q = fm q) := by
  refine am_met (by first | decide | rfl) (Nat.le_of_ble_eq_true rfl) (fun h => by first | rfl | cases h) ?_
  show am_W YX10_addsEvent _ 0 0 0 [(0, .ref 120), (1, am_i (p : Int)), (2, am_l ztm), (4, am_l x), (6, am_i zac), (7, am_i zba), (8, am_i 1)] [] _ _
  refine ap_sipush dX10_addsEvent_0 (by decide) ?_
  refine ap_iload_n dX10_addsEvent_3 rfl rfl ?_
  refine ap_imul dX10_addsEvent_4 ?_
  refine ap_aload_n dX10_addsEvent_5 rfl rfl ?_
  refine ap_get ff_X10_41 dX10_addsEvent_6 (by omega) hM rfl ?_
  refine ap_iload_n dX10_addsEvent_9 rfl rfl ?_
  refine ap_iald (j := p) dX10_addsEvent_10 (by omega) b6 (by omega) (by omega) ?_
  refine ap_topi (b := (p_cnt P : Int)) (show (fm p) = (p_cnt P : Int) from hm) ?_
  refine ap_iadd dX10_addsEvent_11 ?_
  refine ap_Istore (lv2 := [(0, .ref 120), (1, am_i (p : Int)), (2, am_l ztm), (4, am_l x), (6, am_i zac), (7, am_i zba), (8, am_i 1), (9, am_i ((300 * (p : Int)) + (p_cnt P : Int)))]) dX10_addsEvent_12 (by decide) rfl ?_
  refine ap_iload dX10_addsEvent_14 rfl ?_
  refine ap_if_eq (tgt := 47) dX10_addsEvent_16 (by decide) (by omega) (fun c16 => (by exfalso; omega)) (fun c16 => ?_)
  refine ap_aload_n dX10_addsEvent_19 rfl rfl ?_
  refine ap_get ff_X10_29 dX10_addsEvent_20 (by omega) hM rfl ?_
  refine ap_iload dX10_addsEvent_23 rfl ?_
  refine ap_iconst dX10_addsEvent_25 ?_
  refine ap_isub dX10_addsEvent_26 ?_
  refine ap_dup2 dX10_addsEvent_27 rfl rfl ?_
  refine ap_lald (j := 300 * p + p_cnt P - 1) dX10_addsEvent_28 (by omega) b2 (by omega) (by omega) ?_
  refine ap_lload dX10_addsEvent_29 rfl ?_
  refine ap_ladd dX10_addsEvent_31 ?_
  refine ap_last (j := 300 * p + p_cnt P - 1) dX10_addsEvent_32 (by omega) b2 (by omega) (by omega) (fun μ1 xe2 xf3 => ?_)
  refine ap_aload_n dX10_addsEvent_33 rfl rfl ?_
  have xm4 : μ1 120 = am_O 10 [.ref 121, .ref 122, am_i zp, .ref 123, am_i zt, am_i zm, am_i zd, am_i ze, am_i zi, .ref 124, .ref 125, am_i zu, .ref 126, .ref 127, .ref 128, .ref 129, .ref 130, .ref 131, .ref 132, .ref 133, .ref 134, .ref 135, am_i zc, .ref 136, .ref 137, .ref 138, .ref 139, .ref 140, am_i zg] := (xf3 _ (by omega)).trans hM
  refine ap_get ff_X10_38 dX10_addsEvent_34 (by omega) xm4 rfl ?_
  refine ap_iload dX10_addsEvent_37 rfl ?_
  refine ap_iconst dX10_addsEvent_39 ?_
  refine ap_isub dX10_addsEvent_40 ?_
  refine ap_dup2 dX10_addsEvent_41 rfl rfl ?_
  have xm5 : μ1 130 = am_I 0 1200 fn := (xf3 _ (by omega)).trans b5
  refine ap_iald (j := 300 * p + p_cnt P - 1) dX10_addsEvent_42 (by omega) xm5 (by omega) (by omega) ?_
  refine ap_iconst dX10_addsEvent_43 ?_
  refine ap_iadd dX10_addsEvent_44 ?_
  refine ap_iast (j := 300 * p + p_cnt P - 1) dX10_addsEvent_45 (by omega) xm5 (by omega) (by omega) (fun μ6 xe7 xf8 => ?_)
  have xm9 : μ6 126 = am_L 1200 fo := (xf8 _ (by omega)).trans ((xf3 _ (by omega)).trans b1)
  have xm10 : μ6 127 = am_L 1200 (va_up fs (300 * p + p_cnt P - 1) ((fs (300 * p + p_cnt P - 1)) + x)) := (xf8 _ (by omega)).trans xe2
  have xm11 : μ6 128 = am_I 0 1200 fa := (xf8 _ (by omega)).trans ((xf3 _ (by omega)).trans b3)
  have xm12 : μ6 129 = am_I 0 1200 fb := (xf8 _ (by omega)).trans ((xf3 _ (by omega)).trans b4)
  have xm13 : μ6 131 = am_I 0 4 fm := (xf8 _ (by omega)).trans ((xf3 _ (by omega)).trans b6)
  exact ap_vret dX10_addsEvent_46 rfl (Nat.le_of_ble_eq_true rfl) (Nat.le_of_ble_eq_true rfl) (⟨rfl, rfl, fun y hy => (xf8 y (by omega)).trans ((xf3 y (by omega))), _, _, _, _, _, _, xm9, xm10, xm11, xm12, xe7, xm13, wrl_join hW h0 rfl, wof_join h0 (by omega), hm, fun q hq => rfl⟩)

set_option maxHeartbeats 4000000 in
set_option maxRecDepth 100000 in
theorem cm_addN {N : Nat} {μ : am_M} {zp zt zm zd ze zi zu zc zg : Int} {p : Nat} {P : PS} {fo fs fa fb fn fm : Nat → Int} (hM : μ 120 = mcl zp zt zm zd ze zi zu zc zg) (b1 : μ 126 = am_L 1200 fo) (b2 : μ 127 = am_L 1200 fs) (b3 : μ 128 = am_I 0 1200 fa) (b4 : μ 129 = am_I 0 1200 fb) (b5 : μ 130 = am_I 0 1200 fn) (b6 : μ 131 = am_I 0 4 fm) (hN : 141 ≤ N) (hp : p < 4) (hW : wrl p P fo fs fa fb fn) (hm : fm p = (p_cnt P : Int)) (hc : p_cnt P < 300) {ztm x zac zba : Int} (ht : ztm = p_tot P) (hb : zba = (p_nb P : Int) - 1) (hac : zac = 0 ∨ zac = 1) : am_Met YX10_addsEvent [.ref 120, am_i (p : Int), am_l ztm, am_l x, am_i zac, am_i zba, am_i 0] N μ (fun r N2 μ2 => r = none ∧ N = N2 ∧ (∀ b, ¬ (126 ≤ b ∧ b ≤ 131) → μ2 b = μ b) ∧ ∃ fo2 fs2 fa2 fb2 fn2 fm2, μ2 126 = am_L 1200 fo2 ∧ μ2 127 = am_L 1200 fs2 ∧ μ2 128 = am_I 0 1200 fa2 ∧ μ2 129 = am_I 0 1200 fb2 ∧ μ2 130 = am_I 0 1200 fn2 ∧ μ2 131 = am_I 0 4 fm2 ∧ wrl p (pEv P x zac) fo2 fs2 fa2 fb2 fn2 ∧ wof p fo fs fa fb fn fo2 fs2 fa2 fb2 fn2 ∧ fm2 p = (p_cnt (pEv P x zac) : Int) ∧ ∀ q, q ≠ p → fm2 q = fm q) := by
  refine am_met (by first | decide | rfl) (Nat.le_of_ble_eq_true rfl) (fun h => by first | rfl | cases h) ?_
  show am_W YX10_addsEvent _ 0 0 0 [(0, .ref 120), (1, am_i (p : Int)), (2, am_l ztm), (4, am_l x), (6, am_i zac), (7, am_i zba), (8, am_i 0)] [] _ _
  refine ap_sipush dX10_addsEvent_0 (by decide) ?_
  refine ap_iload_n dX10_addsEvent_3 rfl rfl ?_
  refine ap_imul dX10_addsEvent_4 ?_
  refine ap_aload_n dX10_addsEvent_5 rfl rfl ?_
  refine ap_get ff_X10_41 dX10_addsEvent_6 (by omega) hM rfl ?_
  refine ap_iload_n dX10_addsEvent_9 rfl rfl ?_
  refine ap_iald (j := p) dX10_addsEvent_10 (by omega) b6 (by omega) (by omega) ?_
  refine ap_topi (b := (p_cnt P : Int)) (show (fm p) = (p_cnt P : Int) from hm) ?_
  refine ap_iadd dX10_addsEvent_11 ?_
  refine ap_Istore (lv2 := [(0, .ref 120), (1, am_i (p : Int)), (2, am_l ztm), (4, am_l x), (6, am_i zac), (7, am_i zba), (8, am_i 0), (9, am_i ((300 * (p : Int)) + (p_cnt P : Int)))]) dX10_addsEvent_12 (by decide) rfl ?_
  refine ap_iload dX10_addsEvent_14 rfl ?_
  refine ap_if_eq (tgt := 47) dX10_addsEvent_16 (by decide) (by omega) (fun c16 => ?_) (fun c16 => (by exfalso; omega))
  refine ap_aload_n dX10_addsEvent_47 rfl rfl ?_
  refine ap_get ff_X10_25 dX10_addsEvent_48 (by omega) hM rfl ?_
  refine ap_iload dX10_addsEvent_51 rfl ?_
  refine ap_lload_n dX10_addsEvent_53 rfl rfl ?_
  refine ap_last (j := 300 * p + p_cnt P) dX10_addsEvent_54 (by omega) b1 (by omega) (by omega) (fun μ1 xe2 xf3 => ?_)
  refine ap_aload_n dX10_addsEvent_55 rfl rfl ?_
  have xm4 : μ1 120 = am_O 10 [.ref 121, .ref 122, am_i zp, .ref 123, am_i zt, am_i zm, am_i zd, am_i ze, am_i zi, .ref 124, .ref 125, am_i zu, .ref 126, .ref 127, .ref 128, .ref 129, .ref 130, .ref 131, .ref 132, .ref 133, .ref 134, .ref 135, am_i zc, .ref 136, .ref 137, .ref 138, .ref 139, .ref 140, am_i zg] := (xf3 _ (by omega)).trans hM
  refine ap_get ff_X10_29 dX10_addsEvent_56 (by omega) xm4 rfl ?_
  refine ap_iload dX10_addsEvent_59 rfl ?_
  refine ap_lload dX10_addsEvent_61 rfl ?_
  have xm5 : μ1 127 = am_L 1200 fs := (xf3 _ (by omega)).trans b2
  refine ap_last (j := 300 * p + p_cnt P) dX10_addsEvent_63 (by omega) xm5 (by omega) (by omega) (fun μ6 xe7 xf8 => ?_)
  refine ap_aload_n dX10_addsEvent_64 rfl rfl ?_
  have xm9 : μ6 120 = am_O 10 [.ref 121, .ref 122, am_i zp, .ref 123, am_i zt, am_i zm, am_i zd, am_i ze, am_i zi, .ref 124, .ref 125, am_i zu, .ref 126, .ref 127, .ref 128, .ref 129, .ref 130, .ref 131, .ref 132, .ref 133, .ref 134, .ref 135, am_i zc, .ref 136, .ref 137, .ref 138, .ref 139, .ref 140, am_i zg] := (xf8 _ (by omega)).trans xm4
  refine ap_get ff_X10_32 dX10_addsEvent_65 (by omega) xm9 rfl ?_
  refine ap_iload dX10_addsEvent_68 rfl ?_
  refine ap_iload dX10_addsEvent_70 rfl ?_
  refine ap_if_eq (tgt := 79) dX10_addsEvent_72 (by decide) (by omega) (fun c72 => ?_) (fun c72 => ?_)
  · refine ap_iconst dX10_addsEvent_79 ?_
    refine ap_topi (b := zac) (show 0 = zac from by omega) ?_
    have xm10 : μ6 128 = am_I 0 1200 fa := (xf8 _ (by omega)).trans ((xf3 _ (by omega)).trans b3)
    refine ap_iast (j := 300 * p + p_cnt P) dX10_addsEvent_80 (by omega) xm10 (by omega) (by omega) (fun μ11 xe12 xf13 => ?_)
    refine ap_aload_n dX10_addsEvent_81 rfl rfl ?_
    have xm14 : μ11 120 = am_O 10 [.ref 121, .ref 122, am_i zp, .ref 123, am_i zt, am_i zm, am_i zd, am_i ze, am_i zi, .ref 124, .ref 125, am_i zu, .ref 126, .ref 127, .ref 128, .ref 129, .ref 130, .ref 131, .ref 132, .ref 133, .ref 134, .ref 135, am_i zc, .ref 136, .ref 137, .ref 138, .ref 139, .ref 140, am_i zg] := (xf13 _ (by omega)).trans xm9
    refine ap_get ff_X10_35 dX10_addsEvent_82 (by omega) xm14 rfl ?_
    refine ap_iload dX10_addsEvent_85 rfl ?_
    refine ap_iload dX10_addsEvent_87 rfl ?_
    have xm15 : μ11 129 = am_I 0 1200 fb := (xf13 _ (by omega)).trans ((xf8 _ (by omega)).trans ((xf3 _ (by omega)).trans b4))
    refine ap_iast (j := 300 * p + p_cnt P) dX10_addsEvent_89 (by omega) xm15 (by omega) (by omega) (fun μ16 xe17 xf18 => ?_)
    refine ap_aload_n dX10_addsEvent_90 rfl rfl ?_
    have xm19 : μ16 120 = am_O 10 [.ref 121, .ref 122, am_i zp, .ref 123, am_i zt, am_i zm, am_i zd, am_i ze, am_i zi, .ref 124, .ref 125, am_i zu, .ref 126, .ref 127, .ref 128, .ref 129, .ref 130, .ref 131, .ref 132, .ref 133, .ref 134, .ref 135, am_i zc, .ref 136, .ref 137, .ref 138, .ref 139, .ref 140, am_i zg] := (xf18 _ (by omega)).trans xm14
    refine ap_get ff_X10_38 dX10_addsEvent_91 (by omega) xm19 rfl ?_
    refine ap_iload dX10_addsEvent_94 rfl ?_
    refine ap_iconst dX10_addsEvent_96 ?_
    have xm20 : μ16 130 = am_I 0 1200 fn := (xf18 _ (by omega)).trans ((xf13 _ (by omega)).trans ((xf8 _ (by omega)).trans ((xf3 _ (by omega)).trans b5)))
    refine ap_iast (j := 300 * p + p_cnt P) dX10_addsEvent_97 (by omega) xm20 (by omega) (by omega) (fun μ21 xe22 xf23 => ?_)
    refine ap_aload_n dX10_addsEvent_98 rfl rfl ?_
    have xm24 : μ21 120 = am_O 10 [.ref 121, .ref 122, am_i zp, .ref 123, am_i zt, am_i zm, am_i zd, am_i ze, am_i zi, .ref 124, .ref 125, am_i zu, .ref 126, .ref 127, .ref 128, .ref 129, .ref 130, .ref 131, .ref 132, .ref 133, .ref 134, .ref 135, am_i zc, .ref 136, .ref 137, .ref 138, .ref 139, .ref 140, am_i zg] := (xf23 _ (by omega)).trans xm19
    refine ap_get ff_X10_41 dX10_addsEvent_99 (by omega) xm24 rfl ?_
    refine ap_iload_n dX10_addsEvent_102 rfl rfl ?_
    refine ap_dup2 dX10_addsEvent_103 rfl rfl ?_
    have xm25 : μ21 131 = am_I 0 4 fm := (xf23 _ (by omega)).trans ((xf18 _ (by omega)).trans ((xf13 _ (by omega)).trans ((xf8 _ (by omega)).trans ((xf3 _ (by omega)).trans b6))))
    refine ap_iald (j := p) dX10_addsEvent_104 (by omega) xm25 (by omega) (by omega) ?_
    refine ap_topi (b := (p_cnt P : Int)) (show (fm p) = (p_cnt P : Int) from hm) ?_
    refine ap_iconst dX10_addsEvent_105 ?_
    refine ap_iadd dX10_addsEvent_106 ?_
    refine ap_iast (j := p) dX10_addsEvent_107 (by omega) xm25 (by omega) (by omega) (fun μ26 xe27 xf28 => ?_)
    have xm29 : μ26 126 = am_L 1200 (va_up fo (300 * p + p_cnt P) ztm) := (xf28 _ (by omega)).trans ((xf23 _ (by omega)).trans ((xf18 _ (by omega)).trans ((xf13 _ (by omega)).trans ((xf8 _ (by omega)).trans xe2))))
    have xm30 : μ26 127 = am_L 1200 (va_up fs (300 * p + p_cnt P) x) := (xf28 _ (by omega)).trans ((xf23 _ (by omega)).trans ((xf18 _ (by omega)).trans ((xf13 _ (by omega)).trans xe7)))
    have xm31 : μ26 128 = am_I 0 1200 (va_up fa (300 * p + p_cnt P) zac) := (xf28 _ (by omega)).trans ((xf23 _ (by omega)).trans ((xf18 _ (by omega)).trans xe12))
    have xm32 : μ26 129 = am_I 0 1200 (va_up fb (300 * p + p_cnt P) zba) := (xf28 _ (by omega)).trans ((xf23 _ (by omega)).trans xe17)
    have xm33 : μ26 130 = am_I 0 1200 (va_up fn (300 * p + p_cnt P) 1) := (xf28 _ (by omega)).trans xe22
    exact ap_vret dX10_addsEvent_108 rfl (Nat.le_of_ble_eq_true rfl) (Nat.le_of_ble_eq_true rfl) (⟨rfl, rfl, fun y hy => (xf28 y (by omega)).trans ((xf23 y (by omega)).trans ((xf18 y (by omega)).trans ((xf13 y (by omega)).trans ((xf8 y (by omega)).trans ((xf3 y (by omega))))))), _, _, _, _, _, _, xm29, xm30, xm31, xm32, xm33, xe27, wrl_ev hW rfl ht hb, wof_ev hc, by rw [va_upe]; show (p_cnt P : Int) + 1 = ((p_cnt P + 1 : Nat) : Int); omega, fun q hq => va_upn hq⟩)
  · refine ap_iconst dX10_addsEvent_75 ?_
    refine ap_goto (tgt := 80) dX10_addsEvent_76 (by decide) ?_
    refine ap_topi (b := zac) (show 1 = zac from by omega) ?_
    have xm34 : μ6 128 = am_I 0 1200 fa := (xf8 _ (by omega)).trans ((xf3 _ (by omega)).trans b3)
    refine ap_iast (j := 300 * p + p_cnt P) dX10_addsEvent_80 (by omega) xm34 (by omega) (by omega) (fun μ35 xe36 xf37 => ?_)
    refine ap_aload_n dX10_addsEvent_81 rfl rfl ?_
    have xm38 : μ35 120 = am_O 10 [.ref 121, .ref 122, am_i zp, .ref 123, am_i zt, am_i zm, am_i zd, am_i ze, am_i zi, .ref 124, .ref 125, am_i zu, .ref 126, .ref 127, .ref 128, .ref 129, .ref 130, .ref 131, .ref 132, .ref 133, .ref 134, .ref 135, am_i zc, .ref 136, .ref 137, .ref 138, .ref 139, .ref 140, am_i zg] := (xf37 _ (by omega)).trans xm9
    refine ap_get ff_X10_35 dX10_addsEvent_82 (by omega) xm38 rfl ?_
    refine ap_iload dX10_addsEvent_85 rfl ?_
    refine ap_iload dX10_addsEvent_87 rfl ?_
    have xm39 : μ35 129 = am_I 0 1200 fb := (xf37 _ (by omega)).trans ((xf8 _ (by omega)).trans ((xf3 _ (by omega)).trans b4))
    refine ap_iast (j := 300 * p + p_cnt P) dX10_addsEvent_89 (by omega) xm39 (by omega) (by omega) (fun μ40 xe41 xf42 => ?_)
    refine ap_aload_n dX10_addsEvent_90 rfl rfl ?_
    have xm43 : μ40 120 = am_O 10 [.ref 121, .ref 122, am_i zp, .ref 123, am_i zt, am_i zm, am_i zd, am_i ze, am_i zi, .ref 124, .ref 125, am_i zu, .ref 126, .ref 127, .ref 128, .ref 129, .ref 130, .ref 131, .ref 132, .ref 133, .ref 134, .ref 135, am_i zc, .ref 136, .ref 137, .ref 138, .ref 139, .ref 140, am_i zg] := (xf42 _ (by omega)).trans xm38
    refine ap_get ff_X10_38 dX10_addsEvent_91 (by omega) xm43 rfl ?_
    refine ap_iload dX10_addsEvent_94 rfl ?_
    refine ap_iconst dX10_addsEvent_96 ?_
    have xm44 : μ40 130 = am_I 0 1200 fn := (xf42 _ (by omega)).trans ((xf37 _ (by omega)).trans ((xf8 _ (by omega)).trans ((xf3 _ (by omega)).trans b5)))
    refine ap_iast (j := 300 * p + p_cnt P) dX10_addsEvent_97 (by omega) xm44 (by omega) (by omega) (fun μ45 xe46 xf47 => ?_)
    refine ap_aload_n dX10_addsEvent_98 rfl rfl ?_
    have xm48 : μ45 120 = am_O 10 [.ref 121, .ref 122, am_i zp, .ref 123, am_i zt, am_i zm, am_i zd, am_i ze, am_i zi, .ref 124, .ref 125, am_i zu, .ref 126, .ref 127, .ref 128, .ref 129, .ref 130, .ref 131, .ref 132, .ref 133, .ref 134, .ref 135, am_i zc, .ref 136, .ref 137, .ref 138, .ref 139, .ref 140, am_i zg] := (xf47 _ (by omega)).trans xm43
    refine ap_get ff_X10_41 dX10_addsEvent_99 (by omega) xm48 rfl ?_
    refine ap_iload_n dX10_addsEvent_102 rfl rfl ?_
    refine ap_dup2 dX10_addsEvent_103 rfl rfl ?_
    have xm49 : μ45 131 = am_I 0 4 fm := (xf47 _ (by omega)).trans ((xf42 _ (by omega)).trans ((xf37 _ (by omega)).trans ((xf8 _ (by omega)).trans ((xf3 _ (by omega)).trans b6))))
    refine ap_iald (j := p) dX10_addsEvent_104 (by omega) xm49 (by omega) (by omega) ?_
    refine ap_topi (b := (p_cnt P : Int)) (show (fm p) = (p_cnt P : Int) from hm) ?_
    refine ap_iconst dX10_addsEvent_105 ?_
    refine ap_iadd dX10_addsEvent_106 ?_
    refine ap_iast (j := p) dX10_addsEvent_107 (by omega) xm49 (by omega) (by omega) (fun μ50 xe51 xf52 => ?_)
    have xm53 : μ50 126 = am_L 1200 (va_up fo (300 * p + p_cnt P) ztm) := (xf52 _ (by omega)).trans ((xf47 _ (by omega)).trans ((xf42 _ (by omega)).trans ((xf37 _ (by omega)).trans ((xf8 _ (by omega)).trans xe2))))
    have xm54 : μ50 127 = am_L 1200 (va_up fs (300 * p + p_cnt P) x) := (xf52 _ (by omega)).trans ((xf47 _ (by omega)).trans ((xf42 _ (by omega)).trans ((xf37 _ (by omega)).trans xe7)))
    have xm55 : μ50 128 = am_I 0 1200 (va_up fa (300 * p + p_cnt P) zac) := (xf52 _ (by omega)).trans ((xf47 _ (by omega)).trans ((xf42 _ (by omega)).trans xe36))
    have xm56 : μ50 129 = am_I 0 1200 (va_up fb (300 * p + p_cnt P) zba) := (xf52 _ (by omega)).trans ((xf47 _ (by omega)).trans xe41)
    have xm57 : μ50 130 = am_I 0 1200 (va_up fn (300 * p + p_cnt P) 1) := (xf52 _ (by omega)).trans xe46
    exact ap_vret dX10_addsEvent_108 rfl (Nat.le_of_ble_eq_true rfl) (Nat.le_of_ble_eq_true rfl) (⟨rfl, rfl, fun y hy => (xf52 y (by omega)).trans ((xf47 y (by omega)).trans ((xf42 y (by omega)).trans ((xf37 y (by omega)).trans ((xf8 y (by omega)).trans ((xf3 y (by omega))))))), _, _, _, _, _, _, xm53, xm54, xm55, xm56, xm57, xe51, wrl_ev hW rfl ht hb, wof_ev hc, by rw [va_upe]; show (p_cnt P : Int) + 1 = ((p_cnt P + 1 : Nat) : Int); omega, fun q hq => va_upn hq⟩)

theorem cm_addsEvent {N : Nat} {μ : am_M} {zp zt zm zd ze zi zu zc zg : Int} {p : Nat} {P : PS} {fo fs fa fb fn fm : Nat → Int} (hM : μ 120 = mcl zp zt zm zd ze zi zu zc zg) (b1 : μ 126 = am_L 1200 fo) (b2 : μ 127 = am_L 1200 fs) (b3 : μ 128 = am_I 0 1200 fa) (b4 : μ 129 = am_I 0 1200 fb) (b5 : μ 130 = am_I 0 1200 fn) (b6 : μ 131 = am_I 0 4 fm) (hN : 141 ≤ N) (hp : p < 4) (hW : wrl p P fo fs fa fb fn) (hm : fm p = (p_cnt P : Int)) (hc : p_cnt P < 300) {ztm x zac zba : Int} (ht : ztm = p_tot P) (hb : zba = (p_nb P : Int) - 1) (hac : zac = 0 ∨ zac = 1) {ztd : Int} (htd : ztd = p_td P) (ht2 : p_td P = 0 ∨ p_td P = 1) (ht3 : p_td P = 1 → 0 < p_cnt P) : am_Met YX10_addsEvent [.ref 120, am_i (p : Int), am_l ztm, am_l x, am_i zac, am_i zba, am_i ztd] N μ (fun r N2 μ2 => r = none ∧ N = N2 ∧ (∀ b, ¬ (126 ≤ b ∧ b ≤ 131) → μ2 b = μ b) ∧ ∃ fo2 fs2 fa2 fb2 fn2 fm2, μ2 126 = am_L 1200 fo2 ∧ μ2 127 = am_L 1200 fs2 ∧ μ2 128 = am_I 0 1200 fa2 ∧ μ2 129 = am_I 0 1200 fb2 ∧ μ2 130 = am_I 0 1200 fn2 ∧ μ2 131 = am_I 0 4 fm2 ∧ wrl p (pNote P x zac) fo2 fs2 fa2 fb2 fn2 ∧ wof p fo fs fa fb fn fo2 fs2 fa2 fb2 fn2 ∧ fm2 p = (p_cnt (pNote P x zac) : Int) ∧ ∀ q, q ≠ p → fm2 q = fm q) := by
  unfold pNote
  subst htd
  rcases ht2 with q | q
  · rw [if_neg (by omega), q]
    exact cm_addN hM b1 b2 b3 b4 b5 b6 hN hp hW hm hc ht hb hac
  · rw [if_pos q, q]
    exact cm_addJ hM b1 b2 b3 b4 b5 b6 hN hp hW hm hc ht hb hac (ht3 q)
