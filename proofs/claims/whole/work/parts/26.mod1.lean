/-! the model's object (cell 120) and its arrays (121 to 140) -/
abbrev mcl (zp zt zm zd ze zi zu zc zg : Int) : am_E := am_O 10 [.ref 121, .ref 122, am_i zp, .ref 123, am_i zt, am_i zm, am_i zd, am_i ze, am_i zi, .ref 124, .ref 125, am_i zu, .ref 126, .ref 127, .ref 128, .ref 129, .ref 130, .ref 131, .ref 132, .ref 133, .ref 134, .ref 135, am_i zc, .ref 136, .ref 137, .ref 138, .ref 139, .ref 140, am_i zg]
/-- what must and dots hold when the automaton stands in (a, .., q, y) -/
def mst (a q y zm zd : Int) : Prop := (a = 0 ∧ zm = 0 ∧ q = 0 ∧ y = 0) ∨ (a = 0 ∧ zm = 3 ∧ zd = 2 - q ∧ y = 1) ∨ (a = 0 ∧ zm = 4 ∧ zd = 2 - q ∧ y = 0) ∨
   (q = 0 ∧ y = 0 ∧ ((a = 1 ∧ zm = 1) ∨ (a = 2 ∧ zm = 2) ∨ (a = 3 ∧ zm = 5) ∨ (a = 4 ∧ zm = 6) ∨ (a = 5 ∧ zm = 7) ∨ (a = 6 ∧ zm = 9) ∨ (a = 7 ∧ zm = 10) ∨ (a = 8 ∧ zm = 8)))
/-- what items hold at depth b -/
def mit (b w : Int) (f : Nat → Int) (K : Int) : Prop := (∀ i : Nat, 1 ≤ i → (i : Int) ≤ b → 0 ≤ f i ∧ f i ≤ K) ∧ (1 ≤ b → (w = 1 ↔ 0 < f b.toNat))
def mrel (a b w u q y zm zd ze zi : Int) (f : Nat → Int) (K : Int) : Prop :=
  ze = b ∧ zi = u ∧ (0 ≤ b ∧ b ≤ 2) ∧ (u = 0 ∨ u = 1) ∧ (w = 0 ∨ w = 1) ∧ (0 ≤ q ∧ q ≤ 2) ∧ mst a q y zm zd ∧ mit b w f K
theorem ms_0 (zd : Int) : mst 0 0 0 0 zd := Or.inl ⟨rfl, rfl, rfl, rfl⟩
theorem ms_1 (zd : Int) : mst 1 0 0 1 zd := by simp [mst]
theorem ms_2 (zd : Int) : mst 2 0 0 2 zd := by simp [mst]
theorem ms_3 (zd : Int) : mst 3 0 0 5 zd := by simp [mst]
theorem ms_4 (zd : Int) : mst 4 0 0 6 zd := by simp [mst]
theorem ms_5 (zd : Int) : mst 5 0 0 7 zd := by simp [mst]
theorem ms_6 (zd : Int) : mst 6 0 0 9 zd := by simp [mst]
theorem ms_7 (zd : Int) : mst 7 0 0 10 zd := by simp [mst]
theorem ms_8 (zd : Int) : mst 8 0 0 8 zd := by simp [mst]
theorem ms_n : mst 0 2 1 3 0 := by simp [mst]
theorem ms_r : mst 0 2 0 4 0 := by simp [mst]
def mpost (N : Nat) (μ : am_M) (zp zt zu zc zg K : Int) (x : Option GS) : Option Value → Nat → am_M → Prop := fun r N2 μ2 => N = N2 ∧ (∀ b, b ≠ 120 → b ≠ 124 → μ2 b = μ b) ∧
  ((∃ a b w u q y zm zd ze zi f, x = some (a, b, w, u, q, y) ∧ r = some (am_i 1) ∧ μ2 120 = mcl zp zt zm zd ze zi zu zc zg ∧ μ2 124 = am_I 0 4 f ∧ mrel a b w u q y zm zd ze zi f K) ∨
   (x = none ∧ r = some (am_i 0) ∧ ∃ zm zd ze zi f, μ2 120 = mcl zp zt zm zd ze zi zu zc zg ∧ μ2 124 = am_I 0 4 f))
set_option maxHeartbeats 4000000 in
set_option maxRecDepth 100000 in
theorem cm_in {N : Nat} {μ : am_M} {ch lo hi : Int} (hc : -2147483648 ≤ ch ∧ ch ≤ 2147483647) (hb1 : -2147483648 ≤ lo ∧ lo ≤ 2147483647) (hb3 : -2147483648 ≤ hi ∧ hi ≤ 2147483647) : am_Met YX10_in [am_i ch, am_i lo, am_i hi] N μ (am_pv (am_i (if lo ≤ ch ∧ ch ≤ hi then 1 else 0)) N μ) := by
  refine am_met (by first | decide | rfl) (Nat.le_of_ble_eq_true rfl) (fun h => by first | rfl | cases h) ?_
  show am_W YX10_in _ 0 0 0 [(0, am_i ch), (1, am_i lo), (2, am_i hi)] [] _ _
  refine ap_iload_n dX10_in_0 rfl rfl ?_
  refine ap_iload_n dX10_in_1 rfl rfl ?_
  refine ap_icmp_lt (tgt := 14) dX10_in_2 (by decide) (by omega) (fun c2 => ?_) (fun c2 => ?_)
  · refine ap_iconst dX10_in_14 ?_
    exact ap_iret dX10_in_15 rfl (am_nz (by first | omega | decide)) (Nat.le_of_ble_eq_true rfl) (Nat.le_of_ble_eq_true rfl) (⟨by rw [if_neg (by omega)], rfl, rfl⟩)
  · refine ap_iload_n dX10_in_5 rfl rfl ?_
    refine ap_iload_n dX10_in_6 rfl rfl ?_
    refine ap_icmp_gt (tgt := 14) dX10_in_7 (by decide) (by omega) (fun c7 => ?_) (fun c7 => ?_)
    · refine ap_iconst dX10_in_14 ?_
      exact ap_iret dX10_in_15 rfl (am_nz (by first | omega | decide)) (Nat.le_of_ble_eq_true rfl) (Nat.le_of_ble_eq_true rfl) (⟨by rw [if_neg (by omega)], rfl, rfl⟩)
    · refine ap_iconst dX10_in_10 ?_
      refine ap_goto (tgt := 15) dX10_in_11 (by decide) ?_
      exact ap_iret dX10_in_15 rfl (am_nz (by first | omega | decide)) (Nat.le_of_ble_eq_true rfl) (Nat.le_of_ble_eq_true rfl) (⟨by rw [if_pos (by omega)], rfl, rfl⟩)

set_option maxHeartbeats 4000000 in
set_option maxRecDepth 100000 in
theorem cm_isPart {N : Nat} {μ : am_M} {ch : Int} (hc : -2147483648 ≤ ch ∧ ch ≤ 2147483647) : am_Met YX10_isPart [am_i ch] N μ (am_pv (am_i (if 0 ≤ ch ∧ ch ≤ 3 then 1 else 0)) N μ) := by
  refine am_met (by first | decide | rfl) (Nat.le_of_ble_eq_true rfl) (fun h => by first | rfl | cases h) ?_
  show am_W YX10_isPart _ 0 0 0 [(0, am_i ch)] [] _ _
  refine ap_iload_n dX10_isPart_0 rfl rfl ?_
  refine ap_iconst dX10_isPart_1 ?_
  refine ap_iconst dX10_isPart_2 ?_
  refine ap_cS (As := [am_i ch, am_i 0, am_i 3]) (rest := []) (cm_in hc (by omega) (by omega)) dX10_isPart_3 lk_X10_76 hy_X10_in rfl (Nat.le_of_ble_eq_true rfl) ⟨Nat.le_of_ble_eq_true rfl, Nat.le_of_ble_eq_true rfl⟩ ⟨rfl, rfl⟩ ⟨Nat.le_of_ble_eq_true rfl, Nat.le_of_ble_eq_true rfl⟩ (fun xr1 xN2 μ3 xq4 => ?_)
  obtain ⟨rfl, rfl, rfl⟩ := xq4
  exact ap_iret dX10_isPart_6 rfl (am_nz (by split <;> omega)) (Nat.le_of_ble_eq_true rfl) (Nat.le_of_ble_eq_true rfl) (⟨rfl, rfl, rfl⟩)

set_option maxHeartbeats 4000000 in
set_option maxRecDepth 100000 in
theorem cm_isDigit {N : Nat} {μ : am_M} {ch lo : Int} (hc : -2147483648 ≤ ch ∧ ch ≤ 2147483647) (hl : 0 ≤ lo ∧ lo ≤ 9) : am_Met YX10_isDigit [am_i ch, am_i lo] N μ (am_pv (am_i (if lo ≤ dg ch then 1 else 0)) N μ) := by
  refine am_met (by first | decide | rfl) (Nat.le_of_ble_eq_true rfl) (fun h => by first | rfl | cases h) ?_
  show am_W YX10_isDigit _ 0 0 0 [(0, am_i ch), (1, am_i lo)] [] _ _
  refine ap_iload_n dX10_isDigit_0 rfl rfl ?_
  refine ap_bipush dX10_isDigit_1 (by decide) ?_
  refine ap_iload_n dX10_isDigit_3 rfl rfl ?_
  refine ap_iadd dX10_isDigit_4 ?_
  refine ap_bipush dX10_isDigit_5 (by decide) ?_
  refine ap_cS (As := [am_i ch, am_i (48 + lo), am_i 57]) (rest := []) (cm_in hc (by omega) (by omega)) dX10_isDigit_7 lk_X10_76 hy_X10_in rfl (Nat.le_of_ble_eq_true rfl) ⟨Nat.le_of_ble_eq_true rfl, Nat.le_of_ble_eq_true rfl⟩ ⟨rfl, rfl⟩ ⟨Nat.le_of_ble_eq_true rfl, Nat.le_of_ble_eq_true rfl⟩ (fun xr1 xN2 μ3 xq4 => ?_)
  obtain ⟨rfl, rfl, rfl⟩ := xq4
  exact ap_iret dX10_isDigit_10 rfl (am_nz (by split <;> omega)) (Nat.le_of_ble_eq_true rfl) (Nat.le_of_ble_eq_true rfl) (⟨by simp only [show (48 + lo ≤ ch ∧ ch ≤ 57) ↔ (lo ≤ dg ch) from (by unfold dg; split <;> omega)], rfl, rfl⟩)

set_option maxHeartbeats 4000000 in
set_option maxRecDepth 100000 in
theorem cm_halvings {N : Nat} {μ : am_M} {ch : Int} (hc : -2147483648 ≤ ch ∧ ch ≤ 2147483647) : am_Met YX10_halvings [am_i ch] N μ (am_pv (am_i (hv ch)) N μ) := by
  refine am_met (by first | decide | rfl) (Nat.le_of_ble_eq_true rfl) (fun h => by first | rfl | cases h) ?_
  show am_W YX10_halvings _ 0 0 0 [(0, am_i ch)] [] _ _
  refine ap_iload_n dX10_halvings_0 rfl rfl ?_
  refine ap_bipush dX10_halvings_1 (by decide) ?_
  refine ap_icmp_ne (tgt := 10) dX10_halvings_3 (by decide) (by omega) (fun c3 => ?_) (fun c3 => ?_)
  · refine ap_iload_n dX10_halvings_10 rfl rfl ?_
    refine ap_bipush dX10_halvings_11 (by decide) ?_
    refine ap_icmp_ne (tgt := 20) dX10_halvings_13 (by decide) (by omega) (fun c13 => ?_) (fun c13 => ?_)
    · refine ap_iload_n dX10_halvings_20 rfl rfl ?_
      refine ap_bipush dX10_halvings_21 (by decide) ?_
      refine ap_icmp_ne (tgt := 30) dX10_halvings_23 (by decide) (by omega) (fun c23 => ?_) (fun c23 => ?_)
      · refine ap_iload_n dX10_halvings_30 rfl rfl ?_
        refine ap_bipush dX10_halvings_31 (by decide) ?_
        refine ap_icmp_ne (tgt := 40) dX10_halvings_33 (by decide) (by omega) (fun c33 => ?_) (fun c33 => ?_)
        · refine ap_iload_n dX10_halvings_40 rfl rfl ?_
          refine ap_bipush dX10_halvings_41 (by decide) ?_
          refine ap_icmp_ne (tgt := 50) dX10_halvings_43 (by decide) (by omega) (fun c43 => ?_) (fun c43 => ?_)
          · refine ap_iload_n dX10_halvings_50 rfl rfl ?_
            refine ap_bipush dX10_halvings_51 (by decide) ?_
            refine ap_icmp_ne (tgt := 60) dX10_halvings_53 (by decide) (by omega) (fun c53 => ?_) (fun c53 => ?_)
            · refine ap_iconst dX10_halvings_60 ?_
              exact ap_iret dX10_halvings_61 rfl rfl (Nat.le_of_ble_eq_true rfl) (Nat.le_of_ble_eq_true rfl) (⟨by simp [hv, c3, c13, c23, c33, c43, c53], rfl, rfl⟩)
            · refine ap_iconst dX10_halvings_56 ?_
              refine ap_goto (tgt := 61) dX10_halvings_57 (by decide) ?_
              exact ap_iret dX10_halvings_61 rfl rfl (Nat.le_of_ble_eq_true rfl) (Nat.le_of_ble_eq_true rfl) (⟨by simp [hv, c3, c13, c23, c33, c43, c53], rfl, rfl⟩)
          · refine ap_iconst dX10_halvings_46 ?_
            refine ap_goto (tgt := 61) dX10_halvings_47 (by decide) ?_
            exact ap_iret dX10_halvings_61 rfl rfl (Nat.le_of_ble_eq_true rfl) (Nat.le_of_ble_eq_true rfl) (⟨by simp [hv, c3, c13, c23, c33, c43], rfl, rfl⟩)
        · refine ap_iconst dX10_halvings_36 ?_
          refine ap_goto (tgt := 61) dX10_halvings_37 (by decide) ?_
          exact ap_iret dX10_halvings_61 rfl rfl (Nat.le_of_ble_eq_true rfl) (Nat.le_of_ble_eq_true rfl) (⟨by simp [hv, c3, c13, c23, c33], rfl, rfl⟩)
      · refine ap_iconst dX10_halvings_26 ?_
        refine ap_goto (tgt := 61) dX10_halvings_27 (by decide) ?_
        exact ap_iret dX10_halvings_61 rfl rfl (Nat.le_of_ble_eq_true rfl) (Nat.le_of_ble_eq_true rfl) (⟨by simp [hv, c3, c13, c23], rfl, rfl⟩)
    · refine ap_iconst dX10_halvings_16 ?_
      refine ap_goto (tgt := 61) dX10_halvings_17 (by decide) ?_
      exact ap_iret dX10_halvings_61 rfl rfl (Nat.le_of_ble_eq_true rfl) (Nat.le_of_ble_eq_true rfl) (⟨by simp [hv, c3, c13], rfl, rfl⟩)
  · refine ap_iconst dX10_halvings_6 ?_
    refine ap_goto (tgt := 61) dX10_halvings_7 (by decide) ?_
    exact ap_iret dX10_halvings_61 rfl rfl (Nat.le_of_ble_eq_true rfl) (Nat.le_of_ble_eq_true rfl) (⟨by simp [hv, c3], rfl, rfl⟩)

theorem mrel0 {b w u zd : Int} {f : Nat → Int} {K : Int} (h : mrel 0 b w u 0 0 0 zd b u f K) (zm a u2 : Int) (h2 : mst a 0 0 zm zd) (h3 : u2 = 0 ∨ u2 = 1) : mrel a b w u2 0 0 zm zd b u2 f K := by
  obtain ⟨g1, g2, g3, g4, g5, g6, g7, g8⟩ := h
  exact ⟨rfl, rfl, g3, h3, g5, g6, h2, g8⟩
set_option maxHeartbeats 4000000 in
set_option maxRecDepth 100000 in
theorem cm_outside {N : Nat} {μ : am_M} {zp zt zd u zu zc zg K w ch : Int} {f : Nat → Int} (hM : μ 120 = mcl zp zt 0 zd 0 u zu zc zg) (hI : μ 124 = am_I 0 4 f) (hN : 141 ≤ N) (hr : mrel 0 0 w u 0 0 0 zd 0 u f K) (hc : -2147483648 ≤ ch ∧ ch ≤ 2147483647) (hn : ch ≠ 94 ∧ ch ≠ 114 ∧ ch ≠ 123 ∧ ¬ 0 ≤ hv ch) : am_Met YX10_outside [.ref 120, am_i ch] N μ (mpost N μ zp zt zu zc zg K (gsI 0 w u 0 0 ch)) := by
  have hu : u = 0 ∨ u = 1 := hr.2.2.2.1
  refine am_met (by first | decide | rfl) (Nat.le_of_ble_eq_true rfl) (fun h => by first | rfl | cases h) ?_
  show am_W YX10_outside _ 0 0 0 [(0, .ref 120), (1, am_i ch)] [] _ _
  refine ap_iload_n dX10_outside_0 rfl rfl ?_
  refine ap_bipush dX10_outside_1 (by decide) ?_
  refine ap_icmp_ne (tgt := 8) dX10_outside_3 (by decide) (by omega) (fun c3 => ?_) (fun c3 => ?_)
  · refine ap_iload_n dX10_outside_8 rfl rfl ?_
    refine ap_bipush dX10_outside_9 (by decide) ?_
    refine ap_icmp_ne (tgt := 28) dX10_outside_11 (by decide) (by omega) (fun c11 => ?_) (fun c11 => ?_)
    · refine ap_iload_n dX10_outside_28 rfl rfl ?_
      refine ap_bipush dX10_outside_29 (by decide) ?_
      refine ap_icmp_ne (tgt := 49) dX10_outside_31 (by decide) (by omega) (fun c31 => ?_) (fun c31 => ?_)
      · refine ap_iload_n dX10_outside_49 rfl rfl ?_
        refine ap_bipush dX10_outside_50 (by decide) ?_
        refine ap_icmp_ne (tgt := 75) dX10_outside_52 (by decide) (by omega) (fun c52 => ?_) (fun c52 => ?_)
        · refine ap_iconst dX10_outside_75 ?_
          exact ap_iret dX10_outside_76 rfl (am_nz (by first | omega | decide)) (Nat.le_of_ble_eq_true rfl) (Nat.le_of_ble_eq_true rfl) (⟨rfl, fun x hx1 hx2 => rfl, Or.inr ⟨by obtain ⟨n3, n4, n5, n7⟩ := hn; unfold gsI; (repeat' split) <;> first | rfl | omega, rfl, _, _, _, _, _, hM, hI⟩⟩)
        · refine ap_aload_n dX10_outside_55 rfl rfl ?_
          refine ap_get ff_X10_97 dX10_outside_56 (by omega) hM rfl ?_
          refine ap_if_eq (tgt := 75) dX10_outside_59 (by decide) (by omega) (fun c59 => ?_) (fun c59 => ?_)
          · refine ap_iconst dX10_outside_75 ?_
            exact ap_iret dX10_outside_76 rfl (am_nz (by first | omega | decide)) (Nat.le_of_ble_eq_true rfl) (Nat.le_of_ble_eq_true rfl) (⟨rfl, fun x hx1 hx2 => rfl, Or.inr ⟨by obtain ⟨n3, n4, n5, n7⟩ := hn; unfold gsI; (repeat' split) <;> first | rfl | omega, rfl, _, _, _, _, _, hM, hI⟩⟩)
          · refine ap_aload_n dX10_outside_62 rfl rfl ?_
            refine ap_iconst dX10_outside_63 ?_
            refine ap_put (fs2 := [.ref 121, .ref 122, am_i zp, .ref 123, am_i zt, am_i 0, am_i zd, am_i 0, am_i 0, .ref 124, .ref 125, am_i zu, .ref 126, .ref 127, .ref 128, .ref 129, .ref 130, .ref 131, .ref 132, .ref 133, .ref 134, .ref 135, am_i zc, .ref 136, .ref 137, .ref 138, .ref 139, .ref 140, am_i zg]) ff_X10_97 fc_X10_8 dX10_outside_64 (by omega) hM (am_bool (Or.inl rfl)) (Nat.le_of_ble_eq_true rfl) rfl (fun μ1 xe2 xf3 => ?_)
            refine ap_aload_n dX10_outside_67 rfl rfl ?_
            refine ap_bipush dX10_outside_68 (by decide) ?_
            refine ap_put (fs2 := [.ref 121, .ref 122, am_i zp, .ref 123, am_i zt, am_i 8, am_i zd, am_i 0, am_i 0, .ref 124, .ref 125, am_i zu, .ref 126, .ref 127, .ref 128, .ref 129, .ref 130, .ref 131, .ref 132, .ref 133, .ref 134, .ref 135, am_i zc, .ref 136, .ref 137, .ref 138, .ref 139, .ref 140, am_i zg]) ff_X10_80 fc_X10_5 dX10_outside_70 (by omega) xe2 (fun _ => ⟨rfl, rfl⟩) (Nat.le_of_ble_eq_true rfl) rfl (fun μ4 xe5 xf6 => ?_)
            refine ap_iconst dX10_outside_73 ?_
            have xm7 : μ4 124 = am_I 0 4 f := (xf6 _ (by omega)).trans ((xf3 _ (by omega)).trans hI)
            exact ap_iret dX10_outside_74 rfl (am_nz (by first | omega | decide)) (Nat.le_of_ble_eq_true rfl) (Nat.le_of_ble_eq_true rfl) (⟨rfl, fun x hx1 hx2 => (xf6 x (by omega)).trans ((xf3 x (by omega))), Or.inl ⟨8, 0, w, 0, 0, 0, _, _, _, _, _, by subst c52; simp [gsI, show u = 1 by omega], rfl, xe5, xm7, mrel0 hr _ _ _ (ms_8 _) (Or.inl rfl)⟩⟩)
      · refine ap_aload_n dX10_outside_34 rfl rfl ?_
        refine ap_get ff_X10_97 dX10_outside_35 (by omega) hM rfl ?_
        refine ap_if_eq (tgt := 49) dX10_outside_38 (by decide) (by omega) (fun c38 => ?_) (fun c38 => ?_)
        · refine ap_iload_n dX10_outside_49 rfl rfl ?_
          refine ap_bipush dX10_outside_50 (by decide) ?_
          refine ap_icmp_ne (tgt := 75) dX10_outside_52 (by decide) (by omega) (fun c52 => ?_) (fun c52 => ?_)
          · refine ap_iconst dX10_outside_75 ?_
            exact ap_iret dX10_outside_76 rfl (am_nz (by first | omega | decide)) (Nat.le_of_ble_eq_true rfl) (Nat.le_of_ble_eq_true rfl) (⟨rfl, fun x hx1 hx2 => rfl, Or.inr ⟨by obtain ⟨n3, n4, n5, n7⟩ := hn; unfold gsI; (repeat' split) <;> first | rfl | omega, rfl, _, _, _, _, _, hM, hI⟩⟩)
          · refine ap_aload_n dX10_outside_55 rfl rfl ?_
            refine ap_get ff_X10_97 dX10_outside_56 (by omega) hM rfl ?_
            refine ap_if_eq (tgt := 75) dX10_outside_59 (by decide) (by omega) (fun c59 => ?_) (fun c59 => ?_)
            · refine ap_iconst dX10_outside_75 ?_
              exact ap_iret dX10_outside_76 rfl (am_nz (by first | omega | decide)) (Nat.le_of_ble_eq_true rfl) (Nat.le_of_ble_eq_true rfl) (⟨rfl, fun x hx1 hx2 => rfl, Or.inr ⟨by obtain ⟨n3, n4, n5, n7⟩ := hn; unfold gsI; (repeat' split) <;> first | rfl | omega, rfl, _, _, _, _, _, hM, hI⟩⟩)
            · refine ap_aload_n dX10_outside_62 rfl rfl ?_
              refine ap_iconst dX10_outside_63 ?_
              refine ap_put (fs2 := [.ref 121, .ref 122, am_i zp, .ref 123, am_i zt, am_i 0, am_i zd, am_i 0, am_i 0, .ref 124, .ref 125, am_i zu, .ref 126, .ref 127, .ref 128, .ref 129, .ref 130, .ref 131, .ref 132, .ref 133, .ref 134, .ref 135, am_i zc, .ref 136, .ref 137, .ref 138, .ref 139, .ref 140, am_i zg]) ff_X10_97 fc_X10_8 dX10_outside_64 (by omega) hM (am_bool (Or.inl rfl)) (Nat.le_of_ble_eq_true rfl) rfl (fun μ8 xe9 xf10 => ?_)
              refine ap_aload_n dX10_outside_67 rfl rfl ?_
              refine ap_bipush dX10_outside_68 (by decide) ?_
              refine ap_put (fs2 := [.ref 121, .ref 122, am_i zp, .ref 123, am_i zt, am_i 8, am_i zd, am_i 0, am_i 0, .ref 124, .ref 125, am_i zu, .ref 126, .ref 127, .ref 128, .ref 129, .ref 130, .ref 131, .ref 132, .ref 133, .ref 134, .ref 135, am_i zc, .ref 136, .ref 137, .ref 138, .ref 139, .ref 140, am_i zg]) ff_X10_80 fc_X10_5 dX10_outside_70 (by omega) xe9 (fun _ => ⟨rfl, rfl⟩) (Nat.le_of_ble_eq_true rfl) rfl (fun μ11 xe12 xf13 => ?_)
              refine ap_iconst dX10_outside_73 ?_
              have xm14 : μ11 124 = am_I 0 4 f := (xf13 _ (by omega)).trans ((xf10 _ (by omega)).trans hI)
              exact ap_iret dX10_outside_74 rfl (am_nz (by first | omega | decide)) (Nat.le_of_ble_eq_true rfl) (Nat.le_of_ble_eq_true rfl) (⟨rfl, fun x hx1 hx2 => (xf13 x (by omega)).trans ((xf10 x (by omega))), Or.inl ⟨8, 0, w, 0, 0, 0, _, _, _, _, _, by subst c52; simp [gsI, show u = 1 by omega], rfl, xe12, xm14, mrel0 hr _ _ _ (ms_8 _) (Or.inl rfl)⟩⟩)
        · refine ap_aload_n dX10_outside_41 rfl rfl ?_
          refine ap_bipush dX10_outside_42 (by decide) ?_
          refine ap_put (fs2 := [.ref 121, .ref 122, am_i zp, .ref 123, am_i zt, am_i 9, am_i zd, am_i 0, am_i u, .ref 124, .ref 125, am_i zu, .ref 126, .ref 127, .ref 128, .ref 129, .ref 130, .ref 131, .ref 132, .ref 133, .ref 134, .ref 135, am_i zc, .ref 136, .ref 137, .ref 138, .ref 139, .ref 140, am_i zg]) ff_X10_80 fc_X10_5 dX10_outside_44 (by omega) hM (fun _ => ⟨rfl, rfl⟩) (Nat.le_of_ble_eq_true rfl) rfl (fun μ15 xe16 xf17 => ?_)
          refine ap_iconst dX10_outside_47 ?_
          have xm18 : μ15 124 = am_I 0 4 f := (xf17 _ (by omega)).trans hI
          exact ap_iret dX10_outside_48 rfl (am_nz (by first | omega | decide)) (Nat.le_of_ble_eq_true rfl) (Nat.le_of_ble_eq_true rfl) (⟨rfl, fun x hx1 hx2 => (xf17 x (by omega)), Or.inl ⟨6, 0, w, u, 0, 0, _, _, _, _, _, by subst c31; simp [gsI, show u = 1 by omega], rfl, xe16, xm18, mrel0 hr _ _ _ (ms_6 _) hu⟩⟩)
    · refine ap_aload_n dX10_outside_14 rfl rfl ?_
      refine ap_get ff_X10_97 dX10_outside_15 (by omega) hM rfl ?_
      refine ap_if_ne (tgt := 28) dX10_outside_18 (by decide) (by omega) (fun c18 => ?_) (fun c18 => ?_)
      · refine ap_iload_n dX10_outside_28 rfl rfl ?_
        refine ap_bipush dX10_outside_29 (by decide) ?_
        refine ap_icmp_ne (tgt := 49) dX10_outside_31 (by decide) (by omega) (fun c31 => ?_) (fun c31 => ?_)
        · refine ap_iload_n dX10_outside_49 rfl rfl ?_
          refine ap_bipush dX10_outside_50 (by decide) ?_
          refine ap_icmp_ne (tgt := 75) dX10_outside_52 (by decide) (by omega) (fun c52 => ?_) (fun c52 => ?_)
          · refine ap_iconst dX10_outside_75 ?_
            exact ap_iret dX10_outside_76 rfl (am_nz (by first | omega | decide)) (Nat.le_of_ble_eq_true rfl) (Nat.le_of_ble_eq_true rfl) (⟨rfl, fun x hx1 hx2 => rfl, Or.inr ⟨by obtain ⟨n3, n4, n5, n7⟩ := hn; unfold gsI; (repeat' split) <;> first | rfl | omega, rfl, _, _, _, _, _, hM, hI⟩⟩)
          · refine ap_aload_n dX10_outside_55 rfl rfl ?_
            refine ap_get ff_X10_97 dX10_outside_56 (by omega) hM rfl ?_
            refine ap_if_eq (tgt := 75) dX10_outside_59 (by decide) (by omega) (fun c59 => ?_) (fun c59 => ?_)
            · refine ap_iconst dX10_outside_75 ?_
              exact ap_iret dX10_outside_76 rfl (am_nz (by first | omega | decide)) (Nat.le_of_ble_eq_true rfl) (Nat.le_of_ble_eq_true rfl) (⟨rfl, fun x hx1 hx2 => rfl, Or.inr ⟨by obtain ⟨n3, n4, n5, n7⟩ := hn; unfold gsI; (repeat' split) <;> first | rfl | omega, rfl, _, _, _, _, _, hM, hI⟩⟩)
            · refine ap_aload_n dX10_outside_62 rfl rfl ?_
              refine ap_iconst dX10_outside_63 ?_
              refine ap_put (fs2 := [.ref 121, .ref 122, am_i zp, .ref 123, am_i zt, am_i 0, am_i zd, am_i 0, am_i 0, .ref 124, .ref 125, am_i zu, .ref 126, .ref 127, .ref 128, .ref 129, .ref 130, .ref 131, .ref 132, .ref 133, .ref 134, .ref 135, am_i zc, .ref 136, .ref 137, .ref 138, .ref 139, .ref 140, am_i zg]) ff_X10_97 fc_X10_8 dX10_outside_64 (by omega) hM (am_bool (Or.inl rfl)) (Nat.le_of_ble_eq_true rfl) rfl (fun μ19 xe20 xf21 => ?_)
              refine ap_aload_n dX10_outside_67 rfl rfl ?_
              refine ap_bipush dX10_outside_68 (by decide) ?_
              refine ap_put (fs2 := [.ref 121, .ref 122, am_i zp, .ref 123, am_i zt, am_i 8, am_i zd, am_i 0, am_i 0, .ref 124, .ref 125, am_i zu, .ref 126, .ref 127, .ref 128, .ref 129, .ref 130, .ref 131, .ref 132, .ref 133, .ref 134, .ref 135, am_i zc, .ref 136, .ref 137, .ref 138, .ref 139, .ref 140, am_i zg]) ff_X10_80 fc_X10_5 dX10_outside_70 (by omega) xe20 (fun _ => ⟨rfl, rfl⟩) (Nat.le_of_ble_eq_true rfl) rfl (fun μ22 xe23 xf24 => ?_)
              refine ap_iconst dX10_outside_73 ?_
              have xm25 : μ22 124 = am_I 0 4 f := (xf24 _ (by omega)).trans ((xf21 _ (by omega)).trans hI)
              exact ap_iret dX10_outside_74 rfl (am_nz (by first | omega | decide)) (Nat.le_of_ble_eq_true rfl) (Nat.le_of_ble_eq_true rfl) (⟨rfl, fun x hx1 hx2 => (xf24 x (by omega)).trans ((xf21 x (by omega))), Or.inl ⟨8, 0, w, 0, 0, 0, _, _, _, _, _, by subst c52; simp [gsI, show u = 1 by omega], rfl, xe23, xm25, mrel0 hr _ _ _ (ms_8 _) (Or.inl rfl)⟩⟩)
        · refine ap_aload_n dX10_outside_34 rfl rfl ?_
          refine ap_get ff_X10_97 dX10_outside_35 (by omega) hM rfl ?_
          refine ap_if_eq (tgt := 49) dX10_outside_38 (by decide) (by omega) (fun c38 => ?_) (fun c38 => ?_)
          · refine ap_iload_n dX10_outside_49 rfl rfl ?_
            refine ap_bipush dX10_outside_50 (by decide) ?_
            refine ap_icmp_ne (tgt := 75) dX10_outside_52 (by decide) (by omega) (fun c52 => ?_) (fun c52 => ?_)
            · refine ap_iconst dX10_outside_75 ?_
              exact ap_iret dX10_outside_76 rfl (am_nz (by first | omega | decide)) (Nat.le_of_ble_eq_true rfl) (Nat.le_of_ble_eq_true rfl) (⟨rfl, fun x hx1 hx2 => rfl, Or.inr ⟨by obtain ⟨n3, n4, n5, n7⟩ := hn; unfold gsI; (repeat' split) <;> first | rfl | omega, rfl, _, _, _, _, _, hM, hI⟩⟩)
            · refine ap_aload_n dX10_outside_55 rfl rfl ?_
              refine ap_get ff_X10_97 dX10_outside_56 (by omega) hM rfl ?_
              refine ap_if_eq (tgt := 75) dX10_outside_59 (by decide) (by omega) (fun c59 => ?_) (fun c59 => ?_)
              · refine ap_iconst dX10_outside_75 ?_
                exact ap_iret dX10_outside_76 rfl (am_nz (by first | omega | decide)) (Nat.le_of_ble_eq_true rfl) (Nat.le_of_ble_eq_true rfl) (⟨rfl, fun x hx1 hx2 => rfl, Or.inr ⟨by obtain ⟨n3, n4, n5, n7⟩ := hn; unfold gsI; (repeat' split) <;> first | rfl | omega, rfl, _, _, _, _, _, hM, hI⟩⟩)
              · refine ap_aload_n dX10_outside_62 rfl rfl ?_
                refine ap_iconst dX10_outside_63 ?_
                refine ap_put (fs2 := [.ref 121, .ref 122, am_i zp, .ref 123, am_i zt, am_i 0, am_i zd, am_i 0, am_i 0, .ref 124, .ref 125, am_i zu, .ref 126, .ref 127, .ref 128, .ref 129, .ref 130, .ref 131, .ref 132, .ref 133, .ref 134, .ref 135, am_i zc, .ref 136, .ref 137, .ref 138, .ref 139, .ref 140, am_i zg]) ff_X10_97 fc_X10_8 dX10_outside_64 (by omega) hM (am_bool (Or.inl rfl)) (Nat.le_of_ble_eq_true rfl) rfl (fun μ26 xe27 xf28 => ?_)
                refine ap_aload_n dX10_outside_67 rfl rfl ?_
                refine ap_bipush dX10_outside_68 (by decide) ?_
                refine ap_put (fs2 := [.ref 121, .ref 122, am_i zp, .ref 123, am_i zt, am_i 8, am_i zd, am_i 0, am_i 0, .ref 124, .ref 125, am_i zu, .ref 126, .ref 127, .ref 128, .ref 129, .ref 130, .ref 131, .ref 132, .ref 133, .ref 134, .ref 135, am_i zc, .ref 136, .ref 137, .ref 138, .ref 139, .ref 140, am_i zg]) ff_X10_80 fc_X10_5 dX10_outside_70 (by omega) xe27 (fun _ => ⟨rfl, rfl⟩) (Nat.le_of_ble_eq_true rfl) rfl (fun μ29 xe30 xf31 => ?_)
                refine ap_iconst dX10_outside_73 ?_
                have xm32 : μ29 124 = am_I 0 4 f := (xf31 _ (by omega)).trans ((xf28 _ (by omega)).trans hI)
                exact ap_iret dX10_outside_74 rfl (am_nz (by first | omega | decide)) (Nat.le_of_ble_eq_true rfl) (Nat.le_of_ble_eq_true rfl) (⟨rfl, fun x hx1 hx2 => (xf31 x (by omega)).trans ((xf28 x (by omega))), Or.inl ⟨8, 0, w, 0, 0, 0, _, _, _, _, _, by subst c52; simp [gsI, show u = 1 by omega], rfl, xe30, xm32, mrel0 hr _ _ _ (ms_8 _) (Or.inl rfl)⟩⟩)
          · refine ap_aload_n dX10_outside_41 rfl rfl ?_
            refine ap_bipush dX10_outside_42 (by decide) ?_
            refine ap_put (fs2 := [.ref 121, .ref 122, am_i zp, .ref 123, am_i zt, am_i 9, am_i zd, am_i 0, am_i u, .ref 124, .ref 125, am_i zu, .ref 126, .ref 127, .ref 128, .ref 129, .ref 130, .ref 131, .ref 132, .ref 133, .ref 134, .ref 135, am_i zc, .ref 136, .ref 137, .ref 138, .ref 139, .ref 140, am_i zg]) ff_X10_80 fc_X10_5 dX10_outside_44 (by omega) hM (fun _ => ⟨rfl, rfl⟩) (Nat.le_of_ble_eq_true rfl) rfl (fun μ33 xe34 xf35 => ?_)
            refine ap_iconst dX10_outside_47 ?_
            have xm36 : μ33 124 = am_I 0 4 f := (xf35 _ (by omega)).trans hI
            exact ap_iret dX10_outside_48 rfl (am_nz (by first | omega | decide)) (Nat.le_of_ble_eq_true rfl) (Nat.le_of_ble_eq_true rfl) (⟨rfl, fun x hx1 hx2 => (xf35 x (by omega)), Or.inl ⟨6, 0, w, u, 0, 0, _, _, _, _, _, by subst c31; simp [gsI, show u = 1 by omega], rfl, xe34, xm36, mrel0 hr _ _ _ (ms_6 _) hu⟩⟩)
      · refine ap_aload_n dX10_outside_21 rfl rfl ?_
        refine ap_iconst dX10_outside_22 ?_
        refine ap_put (fs2 := [.ref 121, .ref 122, am_i zp, .ref 123, am_i zt, am_i 0, am_i zd, am_i 0, am_i 1, .ref 124, .ref 125, am_i zu, .ref 126, .ref 127, .ref 128, .ref 129, .ref 130, .ref 131, .ref 132, .ref 133, .ref 134, .ref 135, am_i zc, .ref 136, .ref 137, .ref 138, .ref 139, .ref 140, am_i zg]) ff_X10_97 fc_X10_8 dX10_outside_23 (by omega) hM (am_bool (Or.inr rfl)) (Nat.le_of_ble_eq_true rfl) rfl (fun μ37 xe38 xf39 => ?_)
        refine ap_iconst dX10_outside_26 ?_
        have xm40 : μ37 124 = am_I 0 4 f := (xf39 _ (by omega)).trans hI
        exact ap_iret dX10_outside_27 rfl (am_nz (by first | omega | decide)) (Nat.le_of_ble_eq_true rfl) (Nat.le_of_ble_eq_true rfl) (⟨rfl, fun x hx1 hx2 => (xf39 x (by omega)), Or.inl ⟨0, 0, w, 1, 0, 0, _, _, _, _, _, by subst c11; simp [gsI, show u = 0 by omega], rfl, xe38, xm40, mrel0 hr _ _ _ (ms_0 _) (Or.inr rfl)⟩⟩)
  · refine ap_iconst dX10_outside_6 ?_
    exact ap_iret dX10_outside_7 rfl (am_nz (by first | omega | decide)) (Nat.le_of_ble_eq_true rfl) (Nat.le_of_ble_eq_true rfl) (⟨rfl, fun x hx1 hx2 => rfl, Or.inl ⟨0, 0, w, u, 0, 0, _, _, _, _, _, by subst c3; simp [gsI], rfl, hM, hI, mrel0 hr _ _ _ (ms_0 _) hu⟩⟩)

theorem mit_mono {b w : Int} {f : Nat → Int} {K : Int} (h : mit b w f K) : mit b w f (K + 1) :=
  ⟨fun i h1 h2 => ⟨(h.1 i h1 h2).1, by have := (h.1 i h1 h2).2; omega⟩, h.2⟩
theorem mit_inc {b w : Int} {f : Nat → Int} {K : Int} (h : mit b w f K) : mit b 1 (va_up f b.toNat (f b.toNat + 1)) (K + 1) := by
  refine ⟨fun i h1 h2 => ?_, fun hb => ?_⟩
  · have hq := h.1 i h1 h2
    by_cases hi : i = b.toNat
    · subst hi; rw [va_upe]; omega
    · rw [va_upn hi]; omega
  · have hq := h.1 b.toNat (by omega) (by omega)
    rw [va_upe]; omega
theorem mit_open {b w : Int} {f : Nat → Int} {K : Int} (h : mit b w f K) (hb : 0 ≤ b) (hK : 0 ≤ K) : mit (b + 1) 0 (va_up f (b + 1).toNat 0) (K + 1) := by
  refine ⟨fun i h1 h2 => ?_, fun hb => ?_⟩
  · by_cases hi : i = (b + 1).toNat
    · subst hi; rw [va_upe]; omega
    · rw [va_upn hi]; have hq := h.1 i h1 (by omega); omega
  · rw [va_upe]; omega
theorem mit_close {b w : Int} {f : Nat → Int} {K : Int} (h : mit b w f K) (hb : 1 ≤ b) : mit (b - 1) 1 (va_up f (b - 1).toNat (f (b - 1).toNat + 1)) (K + 1) := by
  refine ⟨fun i h1 h2 => ?_, fun hb => ?_⟩
  · have hq := h.1 i h1 (by omega)
    by_cases hi : i = (b - 1).toNat
    · subst hi; rw [va_upe]; omega
    · rw [va_upn hi]; omega
  · have hq := h.1 (b - 1).toNat (by omega) (by omega)
    rw [va_upe]; omega
theorem mrel_mono {a b w u q y zm zd ze zi : Int} {f : Nat → Int} {K : Int} (h : mrel a b w u q y zm zd ze zi f K) : mrel a b w u q y zm zd ze zi f (K + 1) := by
  obtain ⟨g1, g2, g3, g4, g5, g6, g7, g8⟩ := h
  exact ⟨g1, g2, g3, g4, g5, g6, g7, mit_mono g8⟩
theorem gs_let {b w u ch : Int} (h : 0 ≤ hv ch) : gsI b w u 0 0 ch = some (0, b, 1, u, 2, 1) := by
  have hd : ch = 119 ∨ ch = 104 ∨ ch = 113 ∨ ch = 101 ∨ ch = 115 ∨ ch = 116 := by
    unfold hv at h
    (repeat' split at h) <;> omega
  rcases hd with rfl | rfl | rfl | rfl | rfl | rfl <;> simp [gsI, hv]
set_option maxHeartbeats 4000000 in
set_option maxRecDepth 100000 in
theorem wm_beg0 {N : Nat} {μ μ0 : am_M} {zp zt zd b u zu zc zg K w ch : Int} {f : Nat → Int} (hM : μ 120 = mcl zp zt 0 zd b u zu zc zg) (hI : μ 124 = am_I 0 4 f) (hN : 141 ≤ N) (hb : 0 ≤ b ∧ b ≤ 2) (hu : u = 0 ∨ u = 1) (hw : w = 0 ∨ w = 1) (hi : mit b w f K) (hK : 0 ≤ K ∧ K ≤ 1000) (hc : -2147483648 ≤ ch ∧ ch ≤ 2147483647) (hf : ∀ x, x ≠ 120 → x ≠ 124 → μ x = μ0 x) (hn : ch ≠ 94 ∧ ch ≠ 114 ∧ ¬ 0 ≤ hv ch ∧ (ch = 123 → b ≠ 0)) (hg : b ≠ 0 → gsI b w u 0 0 ch = none) (hx : gsI b w u 0 0 ch = none) : am_W YX10_begins (mpost N μ0 zp zt zu zc zg (K + 1) (gsI b w u 0 0 ch)) 0 0 154 [(0, .ref 120), (1, am_i ch)] [] N μ := by
  refine ap_aload_n dX10_begins_154 rfl rfl ?_
  refine ap_get ff_X10_90 dX10_begins_155 (by omega) hM rfl ?_
  refine ap_if_ne (tgt := 173) dX10_begins_158 (by decide) (by omega) (fun hbz => ?_) (fun hbz => ?_)
  · refine ap_iconst dX10_begins_173 ?_
    exact ap_iret dX10_begins_174 rfl (am_nz (by first | omega | decide)) (Nat.le_of_ble_eq_true rfl) (Nat.le_of_ble_eq_true rfl) (⟨rfl, fun x hx1 hx2 => (rfl).trans (hf x hx1 hx2), Or.inr ⟨hg (by omega), rfl, _, _, _, _, _, hM, hI⟩⟩)
  · refine ap_aload_n dX10_begins_161 rfl rfl ?_
    refine ap_iload_n dX10_begins_162 rfl rfl ?_
    obtain rfl : b = 0 := by omega
    refine ap_cV (As := [am_i ch]) (rest := []) (cm_outside (w := w) (K := K) hM hI hN ⟨rfl, rfl, by omega, hu, hw, by omega, ms_0 _, hi⟩ hc ⟨hn.1, hn.2.1, fun q => hn.2.2.2 q rfl, hn.2.2.1⟩) dX10_begins_163 lk_X10_93 hy_X10_outside rfl (by omega) hM ⟨_, _, rfl⟩ (Nat.le_of_ble_eq_true rfl) ⟨Nat.le_of_ble_eq_true rfl, Nat.le_of_ble_eq_true rfl⟩ ⟨rfl, rfl⟩ ⟨Nat.le_of_ble_eq_true rfl, Nat.le_of_ble_eq_true rfl⟩ (fun xr1 xN2 μz xq3 => ?_)
    obtain ⟨rfl, hz2, hz3⟩ := xq3
    obtain ⟨_, _, _, _, _, _, _, _, _, _, _, hx2, _⟩ | ⟨hx2, rfl, zm2, zd2, ze2, zi2, f2, hz1, hz4⟩ := hz3
    · rw [hx] at hx2; cases hx2
    have hz5 : ∀ x, ¬ (x = 120 ∨ x = 124) → μz x = μ x := fun x q => hz2 x (by omega) (by omega)
    refine ap_if_eq (tgt := 173) dX10_begins_166 (by decide) (by omega) (fun c166 => ?_) (fun c166 => (by exfalso; omega))
    refine ap_iconst dX10_begins_173 ?_
    exact ap_iret dX10_begins_174 rfl (am_nz (by first | omega | decide)) (Nat.le_of_ble_eq_true rfl) (Nat.le_of_ble_eq_true rfl) (⟨rfl, fun x hx1 hx2 => ((hz5 x (by omega))).trans (hf x hx1 hx2), Or.inr ⟨hx, rfl, _, _, _, _, _, hz1, hz4⟩⟩)

set_option maxHeartbeats 4000000 in
set_option maxRecDepth 100000 in
theorem wm_beg1 {N : Nat} {μ μ0 : am_M} {zp zt zd b u zu zc zg K w ch : Int} {f : Nat → Int} (hM : μ 120 = mcl zp zt 0 zd b u zu zc zg) (hI : μ 124 = am_I 0 4 f) (hN : 141 ≤ N) (hb : 0 ≤ b ∧ b ≤ 2) (hu : u = 0 ∨ u = 1) (hw : w = 0 ∨ w = 1) (hi : mit b w f K) (hK : 0 ≤ K ∧ K ≤ 1000) (hc : -2147483648 ≤ ch ∧ ch ≤ 2147483647) (hf : ∀ x, x ≠ 120 → x ≠ 124 → μ x = μ0 x) (hn : ch ≠ 94 ∧ ch ≠ 114 ∧ ¬ 0 ≤ hv ch ∧ (ch = 123 → b ≠ 0)) (hg : b ≠ 0 → gsI b w u 0 0 ch = none) (hx : ∃ g, gsI b w u 0 0 ch = some g) : am_W YX10_begins (mpost N μ0 zp zt zu zc zg (K + 1) (gsI b w u 0 0 ch)) 0 0 154 [(0, .ref 120), (1, am_i ch)] [] N μ := by
  refine ap_aload_n dX10_begins_154 rfl rfl ?_
  refine ap_get ff_X10_90 dX10_begins_155 (by omega) hM rfl ?_
  refine ap_if_ne (tgt := 173) dX10_begins_158 (by decide) (by omega) (fun hbz => ?_) (fun hbz => ?_)
  · refine ap_iconst dX10_begins_173 ?_
    exact ap_iret dX10_begins_174 rfl (am_nz (by first | omega | decide)) (Nat.le_of_ble_eq_true rfl) (Nat.le_of_ble_eq_true rfl) (⟨rfl, fun x hx1 hx2 => (rfl).trans (hf x hx1 hx2), Or.inr ⟨hg (by omega), rfl, _, _, _, _, _, hM, hI⟩⟩)
  · refine ap_aload_n dX10_begins_161 rfl rfl ?_
    refine ap_iload_n dX10_begins_162 rfl rfl ?_
    obtain rfl : b = 0 := by omega
    refine ap_cV (As := [am_i ch]) (rest := []) (cm_outside (w := w) (K := K) hM hI hN ⟨rfl, rfl, by omega, hu, hw, by omega, ms_0 _, hi⟩ hc ⟨hn.1, hn.2.1, fun q => hn.2.2.2 q rfl, hn.2.2.1⟩) dX10_begins_163 lk_X10_93 hy_X10_outside rfl (by omega) hM ⟨_, _, rfl⟩ (Nat.le_of_ble_eq_true rfl) ⟨Nat.le_of_ble_eq_true rfl, Nat.le_of_ble_eq_true rfl⟩ ⟨rfl, rfl⟩ ⟨Nat.le_of_ble_eq_true rfl, Nat.le_of_ble_eq_true rfl⟩ (fun xr1 xN2 μz xq3 => ?_)
    obtain ⟨rfl, hz2, hz3⟩ := xq3
    obtain ⟨a2, b2, w2, u2, q2, y2, zm2, zd2, ze2, zi2, f2, hx2, rfl, hz1, hz4, hz6⟩ | ⟨hx2, _⟩ := hz3
    rotate_left
    · obtain ⟨g, hx⟩ := hx; rw [hx] at hx2; cases hx2
    have hz5 : ∀ x, ¬ (x = 120 ∨ x = 124) → μz x = μ x := fun x q => hz2 x (by omega) (by omega)
    refine ap_if_eq (tgt := 173) dX10_begins_166 (by decide) (by omega) (fun c166 => (by exfalso; omega)) (fun c166 => ?_)
    refine ap_iconst dX10_begins_169 ?_
    refine ap_goto (tgt := 174) dX10_begins_170 (by decide) ?_
    exact ap_iret dX10_begins_174 rfl (am_nz (by first | omega | decide)) (Nat.le_of_ble_eq_true rfl) (Nat.le_of_ble_eq_true rfl) (⟨rfl, fun x hx1 hx2 => ((hz5 x (by omega))).trans (hf x hx1 hx2), Or.inl ⟨a2, b2, w2, u2, q2, y2, _, _, _, _, _, hx2, rfl, hz1, hz4, mrel_mono hz6⟩⟩)

theorem wm_beg {N : Nat} {μ μ0 : am_M} {zp zt zd b u zu zc zg K w ch : Int} {f : Nat → Int} (hM : μ 120 = mcl zp zt 0 zd b u zu zc zg) (hI : μ 124 = am_I 0 4 f) (hN : 141 ≤ N) (hb : 0 ≤ b ∧ b ≤ 2) (hu : u = 0 ∨ u = 1) (hw : w = 0 ∨ w = 1) (hi : mit b w f K) (hK : 0 ≤ K ∧ K ≤ 1000) (hc : -2147483648 ≤ ch ∧ ch ≤ 2147483647) (hf : ∀ x, x ≠ 120 → x ≠ 124 → μ x = μ0 x) (hn : ch ≠ 94 ∧ ch ≠ 114 ∧ ¬ 0 ≤ hv ch ∧ (ch = 123 → b ≠ 0)) (hg : b ≠ 0 → gsI b w u 0 0 ch = none) : am_W YX10_begins (mpost N μ0 zp zt zu zc zg (K + 1) (gsI b w u 0 0 ch)) 0 0 154 [(0, .ref 120), (1, am_i ch)] [] N μ := by
  cases hx : gsI b w u 0 0 ch with
  | none => have := wm_beg0 hM hI hN hb hu hw hi hK hc hf hn hg hx; rw [hx] at this; exact this
  | some g => have := wm_beg1 hM hI hN hb hu hw hi hK hc hf hn hg ⟨g, hx⟩; rw [hx] at this; exact this
set_option maxHeartbeats 4000000 in
set_option maxRecDepth 100000 in
theorem cm_begins {N : Nat} {μ : am_M} {zp zt zm zd b u zu zc zg K w ch : Int} {f : Nat → Int} (hM : μ 120 = mcl zp zt zm zd b u zu zc zg) (hI : μ 124 = am_I 0 4 f) (hN : 141 ≤ N) (hb : 0 ≤ b ∧ b ≤ 2) (hu : u = 0 ∨ u = 1) (hw : w = 0 ∨ w = 1) (hi : mit b w f K) (hK : 0 ≤ K ∧ K ≤ 1000) (hc : -2147483648 ≤ ch ∧ ch ≤ 2147483647) : am_Met YX10_begins [.ref 120, am_i ch] N μ (mpost N μ zp zt zu zc zg (K + 1) (gsI b w u 0 0 ch)) := by
  refine am_met (by first | decide | rfl) (Nat.le_of_ble_eq_true rfl) (fun h => by first | rfl | cases h) ?_
  show am_W YX10_begins _ 0 0 0 [(0, .ref 120), (1, am_i ch)] [] _ _
  refine ap_aload_n dX10_begins_0 rfl rfl ?_
  refine ap_iconst dX10_begins_1 ?_
  refine ap_put (fs2 := [.ref 121, .ref 122, am_i zp, .ref 123, am_i zt, am_i 0, am_i zd, am_i b, am_i u, .ref 124, .ref 125, am_i zu, .ref 126, .ref 127, .ref 128, .ref 129, .ref 130, .ref 131, .ref 132, .ref 133, .ref 134, .ref 135, am_i zc, .ref 136, .ref 137, .ref 138, .ref 139, .ref 140, am_i zg]) ff_X10_80 fc_X10_5 dX10_begins_2 (by omega) hM (fun _ => ⟨rfl, rfl⟩) (Nat.le_of_ble_eq_true rfl) rfl (fun μ1 xe2 xf3 => ?_)
  refine ap_iload_n dX10_begins_5 rfl rfl ?_
  refine ap_bipush dX10_begins_6 (by decide) ?_
  refine ap_icmp_ne (tgt := 18) dX10_begins_8 (by decide) (by omega) (fun c8 => ?_) (fun c8 => ?_)
  · refine ap_iload_n dX10_begins_18 rfl rfl ?_
    refine ap_cS (As := [am_i ch]) (rest := []) (cm_halvings hc) dX10_begins_19 lk_X10_83 hy_X10_halvings rfl (Nat.le_of_ble_eq_true rfl) ⟨Nat.le_of_ble_eq_true rfl, Nat.le_of_ble_eq_true rfl⟩ ⟨rfl, rfl⟩ ⟨Nat.le_of_ble_eq_true rfl, Nat.le_of_ble_eq_true rfl⟩ (fun xr4 xN5 μ6 xq7 => ?_)
    obtain ⟨rfl, rfl, rfl⟩ := xq7
    have hh := hv_r ch
    refine ap_if_lt (tgt := 50) dX10_begins_22 (by decide) (by omega) (fun c22 => ?_) (fun c22 => ?_)
    · refine ap_iload_n dX10_begins_50 rfl rfl ?_
      refine ap_bipush dX10_begins_51 (by decide) ?_
      refine ap_icmp_ne (tgt := 63) dX10_begins_53 (by decide) (by omega) (fun c53 => ?_) (fun c53 => ?_)
      · refine ap_iload_n dX10_begins_63 rfl rfl ?_
        refine ap_bipush dX10_begins_64 (by decide) ?_
        refine ap_icmp_ne (tgt := 104) dX10_begins_66 (by decide) (by omega) (fun c66 => ?_) (fun c66 => ?_)
        · refine ap_iload_n dX10_begins_104 rfl rfl ?_
          refine ap_bipush dX10_begins_105 (by decide) ?_
          refine ap_icmp_ne (tgt := 154) dX10_begins_107 (by decide) (by omega) (fun c107 => ?_) (fun c107 => ?_)
          · have xm8 : μ1 124 = am_I 0 4 f := (xf3 _ (by omega)).trans hI
            exact wm_beg xe2 xm8 hN hb hu hw hi hK hc (fun x hx1 hx2 => (xf3 x (by omega))) ⟨by omega, by omega, by omega, by omega⟩ (fun q => by unfold gsI; (repeat' split) <;> first | rfl | omega)
          · refine ap_aload_n dX10_begins_110 rfl rfl ?_
            refine ap_get ff_X10_90 dX10_begins_111 (by omega) xe2 rfl ?_
            refine ap_if_le (tgt := 154) dX10_begins_114 (by decide) (by omega) (fun c114 => ?_) (fun c114 => ?_)
            · have xm9 : μ1 124 = am_I 0 4 f := (xf3 _ (by omega)).trans hI
              exact wm_beg xe2 xm9 hN hb hu hw hi hK hc (fun x hx1 hx2 => (xf3 x (by omega))) ⟨by omega, by omega, by omega, by omega⟩ (fun q => by unfold gsI; (repeat' split) <;> first | rfl | omega)
            · refine ap_aload_n dX10_begins_117 rfl rfl ?_
              refine ap_get ff_X10_19 dX10_begins_118 (by omega) xe2 rfl ?_
              refine ap_aload_n dX10_begins_121 rfl rfl ?_
              refine ap_get ff_X10_90 dX10_begins_122 (by omega) xe2 rfl ?_
              have xm10 : μ1 124 = am_I 0 4 f := (xf3 _ (by omega)).trans hI
              refine ap_iald (j := b.toNat) dX10_begins_125 (by omega) xm10 (by omega) (by omega) ?_
              have hq := hi.1 b.toNat (by omega) (by omega)
              have hq2 := hi.2 (by omega)
              refine ap_if_le (tgt := 154) dX10_begins_126 (by decide) (by omega) (fun c126 => ?_) (fun c126 => ?_)
              · exact wm_beg xe2 xm10 hN hb hu hw hi hK hc (fun x hx1 hx2 => (xf3 x (by omega))) ⟨by omega, by omega, by omega, by omega⟩ (fun q => by unfold gsI; (repeat' split) <;> first | rfl | omega)
              · refine ap_aload_n dX10_begins_129 rfl rfl ?_
                refine ap_dup dX10_begins_130 rfl ?_
                refine ap_get ff_X10_90 dX10_begins_131 (by omega) xe2 rfl ?_
                refine ap_iconst dX10_begins_134 ?_
                refine ap_isub dX10_begins_135 ?_
                refine ap_put (fs2 := [.ref 121, .ref 122, am_i zp, .ref 123, am_i zt, am_i 0, am_i zd, am_i (b - 1), am_i u, .ref 124, .ref 125, am_i zu, .ref 126, .ref 127, .ref 128, .ref 129, .ref 130, .ref 131, .ref 132, .ref 133, .ref 134, .ref 135, am_i zc, .ref 136, .ref 137, .ref 138, .ref 139, .ref 140, am_i zg]) ff_X10_90 fc_X10_7 dX10_begins_136 (by omega) xe2 (fun _ => ⟨rfl, rfl⟩) (Nat.le_of_ble_eq_true rfl) rfl (fun μ11 xe12 xf13 => ?_)
                refine ap_aload_n dX10_begins_139 rfl rfl ?_
                refine ap_get ff_X10_19 dX10_begins_140 (by omega) xe12 rfl ?_
                refine ap_aload_n dX10_begins_143 rfl rfl ?_
                refine ap_get ff_X10_90 dX10_begins_144 (by omega) xe12 rfl ?_
                refine ap_dup2 dX10_begins_147 rfl rfl ?_
                have xm14 : μ11 124 = am_I 0 4 f := (xf13 _ (by omega)).trans xm10
                refine ap_iald (j := (b - 1).toNat) dX10_begins_148 (by omega) xm14 (by omega) (by omega) ?_
                refine ap_iconst dX10_begins_149 ?_
                refine ap_iadd dX10_begins_150 ?_
                refine ap_iast (j := (b - 1).toNat) dX10_begins_151 (by omega) xm14 (by omega) (by omega) (fun μ15 xe16 xf17 => ?_)
                refine ap_iconst dX10_begins_152 ?_
                have xm18 : μ15 120 = am_O 10 [.ref 121, .ref 122, am_i zp, .ref 123, am_i zt, am_i 0, am_i zd, am_i (b - 1), am_i u, .ref 124, .ref 125, am_i zu, .ref 126, .ref 127, .ref 128, .ref 129, .ref 130, .ref 131, .ref 132, .ref 133, .ref 134, .ref 135, am_i zc, .ref 136, .ref 137, .ref 138, .ref 139, .ref 140, am_i zg] := (xf17 _ (by omega)).trans xe12
                exact ap_iret dX10_begins_153 rfl (am_nz (by first | omega | decide)) (Nat.le_of_ble_eq_true rfl) (Nat.le_of_ble_eq_true rfl) (⟨rfl, fun x hx1 hx2 => (xf17 x (by omega)).trans ((xf13 x (by omega)).trans ((xf3 x (by omega)))), Or.inl ⟨0, b - 1, 1, u, 0, 0, _, _, _, _, _, by subst c107; simp [gsI, show 1 ≤ b by omega, show w = 1 by omega], rfl, xm18, xe16, ⟨rfl, rfl, by omega, hu, Or.inr rfl, by omega, ms_0 _, mit_close hi (by omega)⟩⟩⟩)
        · refine ap_aload_n dX10_begins_69 rfl rfl ?_
          refine ap_get ff_X10_90 dX10_begins_70 (by omega) xe2 rfl ?_
          refine ap_iconst dX10_begins_73 ?_
          refine ap_icmp_ge (tgt := 104) dX10_begins_74 (by decide) (by omega) (fun c74 => ?_) (fun c74 => ?_)
          · refine ap_iload_n dX10_begins_104 rfl rfl ?_
            refine ap_bipush dX10_begins_105 (by decide) ?_
            refine ap_icmp_ne (tgt := 154) dX10_begins_107 (by decide) (by omega) (fun c107 => ?_) (fun c107 => ?_)
            · have xm19 : μ1 124 = am_I 0 4 f := (xf3 _ (by omega)).trans hI
              exact wm_beg xe2 xm19 hN hb hu hw hi hK hc (fun x hx1 hx2 => (xf3 x (by omega))) ⟨by omega, by omega, by omega, by omega⟩ (fun q => by unfold gsI; (repeat' split) <;> first | rfl | omega)
            · refine ap_aload_n dX10_begins_110 rfl rfl ?_
              refine ap_get ff_X10_90 dX10_begins_111 (by omega) xe2 rfl ?_
              refine ap_if_le (tgt := 154) dX10_begins_114 (by decide) (by omega) (fun c114 => ?_) (fun c114 => ?_)
              · have xm20 : μ1 124 = am_I 0 4 f := (xf3 _ (by omega)).trans hI
                exact wm_beg xe2 xm20 hN hb hu hw hi hK hc (fun x hx1 hx2 => (xf3 x (by omega))) ⟨by omega, by omega, by omega, by omega⟩ (fun q => by unfold gsI; (repeat' split) <;> first | rfl | omega)
              · refine ap_aload_n dX10_begins_117 rfl rfl ?_
                refine ap_get ff_X10_19 dX10_begins_118 (by omega) xe2 rfl ?_
                refine ap_aload_n dX10_begins_121 rfl rfl ?_
                refine ap_get ff_X10_90 dX10_begins_122 (by omega) xe2 rfl ?_
                have xm21 : μ1 124 = am_I 0 4 f := (xf3 _ (by omega)).trans hI
                refine ap_iald (j := b.toNat) dX10_begins_125 (by omega) xm21 (by omega) (by omega) ?_
                have hq := hi.1 b.toNat (by omega) (by omega)
                have hq2 := hi.2 (by omega)
                refine ap_if_le (tgt := 154) dX10_begins_126 (by decide) (by omega) (fun c126 => ?_) (fun c126 => ?_)
                · exact wm_beg xe2 xm21 hN hb hu hw hi hK hc (fun x hx1 hx2 => (xf3 x (by omega))) ⟨by omega, by omega, by omega, by omega⟩ (fun q => by unfold gsI; (repeat' split) <;> first | rfl | omega)
                · refine ap_aload_n dX10_begins_129 rfl rfl ?_
                  refine ap_dup dX10_begins_130 rfl ?_
                  refine ap_get ff_X10_90 dX10_begins_131 (by omega) xe2 rfl ?_
                  refine ap_iconst dX10_begins_134 ?_
                  refine ap_isub dX10_begins_135 ?_
                  refine ap_put (fs2 := [.ref 121, .ref 122, am_i zp, .ref 123, am_i zt, am_i 0, am_i zd, am_i (b - 1), am_i u, .ref 124, .ref 125, am_i zu, .ref 126, .ref 127, .ref 128, .ref 129, .ref 130, .ref 131, .ref 132, .ref 133, .ref 134, .ref 135, am_i zc, .ref 136, .ref 137, .ref 138, .ref 139, .ref 140, am_i zg]) ff_X10_90 fc_X10_7 dX10_begins_136 (by omega) xe2 (fun _ => ⟨rfl, rfl⟩) (Nat.le_of_ble_eq_true rfl) rfl (fun μ22 xe23 xf24 => ?_)
                  refine ap_aload_n dX10_begins_139 rfl rfl ?_
                  refine ap_get ff_X10_19 dX10_begins_140 (by omega) xe23 rfl ?_
                  refine ap_aload_n dX10_begins_143 rfl rfl ?_
                  refine ap_get ff_X10_90 dX10_begins_144 (by omega) xe23 rfl ?_
                  refine ap_dup2 dX10_begins_147 rfl rfl ?_
                  have xm25 : μ22 124 = am_I 0 4 f := (xf24 _ (by omega)).trans xm21
                  refine ap_iald (j := (b - 1).toNat) dX10_begins_148 (by omega) xm25 (by omega) (by omega) ?_
                  refine ap_iconst dX10_begins_149 ?_
                  refine ap_iadd dX10_begins_150 ?_
                  refine ap_iast (j := (b - 1).toNat) dX10_begins_151 (by omega) xm25 (by omega) (by omega) (fun μ26 xe27 xf28 => ?_)
                  refine ap_iconst dX10_begins_152 ?_
                  have xm29 : μ26 120 = am_O 10 [.ref 121, .ref 122, am_i zp, .ref 123, am_i zt, am_i 0, am_i zd, am_i (b - 1), am_i u, .ref 124, .ref 125, am_i zu, .ref 126, .ref 127, .ref 128, .ref 129, .ref 130, .ref 131, .ref 132, .ref 133, .ref 134, .ref 135, am_i zc, .ref 136, .ref 137, .ref 138, .ref 139, .ref 140, am_i zg] := (xf28 _ (by omega)).trans xe23
                  exact ap_iret dX10_begins_153 rfl (am_nz (by first | omega | decide)) (Nat.le_of_ble_eq_true rfl) (Nat.le_of_ble_eq_true rfl) (⟨rfl, fun x hx1 hx2 => (xf28 x (by omega)).trans ((xf24 x (by omega)).trans ((xf3 x (by omega)))), Or.inl ⟨0, b - 1, 1, u, 0, 0, _, _, _, _, _, by subst c107; simp [gsI, show 1 ≤ b by omega, show w = 1 by omega], rfl, xm29, xe27, ⟨rfl, rfl, by omega, hu, Or.inr rfl, by omega, ms_0 _, mit_close hi (by omega)⟩⟩⟩)
          · refine ap_aload_n dX10_begins_77 rfl rfl ?_
            refine ap_dup dX10_begins_78 rfl ?_
            refine ap_get ff_X10_90 dX10_begins_79 (by omega) xe2 rfl ?_
            refine ap_iconst dX10_begins_82 ?_
            refine ap_iadd dX10_begins_83 ?_
            refine ap_put (fs2 := [.ref 121, .ref 122, am_i zp, .ref 123, am_i zt, am_i 0, am_i zd, am_i (b + 1), am_i u, .ref 124, .ref 125, am_i zu, .ref 126, .ref 127, .ref 128, .ref 129, .ref 130, .ref 131, .ref 132, .ref 133, .ref 134, .ref 135, am_i zc, .ref 136, .ref 137, .ref 138, .ref 139, .ref 140, am_i zg]) ff_X10_90 fc_X10_7 dX10_begins_84 (by omega) xe2 (fun _ => ⟨rfl, rfl⟩) (Nat.le_of_ble_eq_true rfl) rfl (fun μ30 xe31 xf32 => ?_)
            refine ap_aload_n dX10_begins_87 rfl rfl ?_
            refine ap_get ff_X10_19 dX10_begins_88 (by omega) xe31 rfl ?_
            refine ap_aload_n dX10_begins_91 rfl rfl ?_
            refine ap_get ff_X10_90 dX10_begins_92 (by omega) xe31 rfl ?_
            refine ap_iconst dX10_begins_95 ?_
            have xm33 : μ30 124 = am_I 0 4 f := (xf32 _ (by omega)).trans ((xf3 _ (by omega)).trans hI)
            refine ap_iast (j := (b + 1).toNat) dX10_begins_96 (by omega) xm33 (by omega) (by omega) (fun μ34 xe35 xf36 => ?_)
            refine ap_aload_n dX10_begins_97 rfl rfl ?_
            refine ap_iconst dX10_begins_98 ?_
            have xm37 : μ34 120 = am_O 10 [.ref 121, .ref 122, am_i zp, .ref 123, am_i zt, am_i 0, am_i zd, am_i (b + 1), am_i u, .ref 124, .ref 125, am_i zu, .ref 126, .ref 127, .ref 128, .ref 129, .ref 130, .ref 131, .ref 132, .ref 133, .ref 134, .ref 135, am_i zc, .ref 136, .ref 137, .ref 138, .ref 139, .ref 140, am_i zg] := (xf36 _ (by omega)).trans xe31
            refine ap_put (fs2 := [.ref 121, .ref 122, am_i zp, .ref 123, am_i zt, am_i 5, am_i zd, am_i (b + 1), am_i u, .ref 124, .ref 125, am_i zu, .ref 126, .ref 127, .ref 128, .ref 129, .ref 130, .ref 131, .ref 132, .ref 133, .ref 134, .ref 135, am_i zc, .ref 136, .ref 137, .ref 138, .ref 139, .ref 140, am_i zg]) ff_X10_80 fc_X10_5 dX10_begins_99 (by omega) xm37 (fun _ => ⟨rfl, rfl⟩) (Nat.le_of_ble_eq_true rfl) rfl (fun μ38 xe39 xf40 => ?_)
            refine ap_iconst dX10_begins_102 ?_
            have xm41 : μ38 124 = am_I 0 4 (va_up f ((b + 1).toNat) 0) := (xf40 _ (by omega)).trans xe35
            exact ap_iret dX10_begins_103 rfl (am_nz (by first | omega | decide)) (Nat.le_of_ble_eq_true rfl) (Nat.le_of_ble_eq_true rfl) (⟨rfl, fun x hx1 hx2 => (xf40 x (by omega)).trans ((xf36 x (by omega)).trans ((xf32 x (by omega)).trans ((xf3 x (by omega))))), Or.inl ⟨3, b + 1, 0, u, 0, 0, _, _, _, _, _, by subst c66; simp [gsI, show b < 2 by omega], rfl, xe39, xm41, ⟨rfl, rfl, by omega, hu, Or.inl rfl, by omega, ms_3 _, mit_open hi hb.1 hK.1⟩⟩⟩)
      · refine ap_aload_n dX10_begins_56 rfl rfl ?_
        refine ap_iconst dX10_begins_57 ?_
        refine ap_put (fs2 := [.ref 121, .ref 122, am_i zp, .ref 123, am_i zt, am_i 2, am_i zd, am_i b, am_i u, .ref 124, .ref 125, am_i zu, .ref 126, .ref 127, .ref 128, .ref 129, .ref 130, .ref 131, .ref 132, .ref 133, .ref 134, .ref 135, am_i zc, .ref 136, .ref 137, .ref 138, .ref 139, .ref 140, am_i zg]) ff_X10_80 fc_X10_5 dX10_begins_58 (by omega) xe2 (fun _ => ⟨rfl, rfl⟩) (Nat.le_of_ble_eq_true rfl) rfl (fun μ42 xe43 xf44 => ?_)
        refine ap_iconst dX10_begins_61 ?_
        have xm45 : μ42 124 = am_I 0 4 f := (xf44 _ (by omega)).trans ((xf3 _ (by omega)).trans hI)
        exact ap_iret dX10_begins_62 rfl (am_nz (by first | omega | decide)) (Nat.le_of_ble_eq_true rfl) (Nat.le_of_ble_eq_true rfl) (⟨rfl, fun x hx1 hx2 => (xf44 x (by omega)).trans ((xf3 x (by omega))), Or.inl ⟨2, b, w, u, 0, 0, _, _, _, _, _, by subst c53; simp [gsI], rfl, xe43, xm45, ⟨rfl, rfl, hb, hu, hw, by omega, ms_2 _, mit_mono hi⟩⟩⟩)
    · refine ap_aload_n dX10_begins_25 rfl rfl ?_
      refine ap_iconst dX10_begins_26 ?_
      refine ap_put (fs2 := [.ref 121, .ref 122, am_i zp, .ref 123, am_i zt, am_i 3, am_i zd, am_i b, am_i u, .ref 124, .ref 125, am_i zu, .ref 126, .ref 127, .ref 128, .ref 129, .ref 130, .ref 131, .ref 132, .ref 133, .ref 134, .ref 135, am_i zc, .ref 136, .ref 137, .ref 138, .ref 139, .ref 140, am_i zg]) ff_X10_80 fc_X10_5 dX10_begins_27 (by omega) xe2 (fun _ => ⟨rfl, rfl⟩) (Nat.le_of_ble_eq_true rfl) rfl (fun μ46 xe47 xf48 => ?_)
      refine ap_aload_n dX10_begins_30 rfl rfl ?_
      refine ap_iconst dX10_begins_31 ?_
      refine ap_put (fs2 := [.ref 121, .ref 122, am_i zp, .ref 123, am_i zt, am_i 3, am_i 0, am_i b, am_i u, .ref 124, .ref 125, am_i zu, .ref 126, .ref 127, .ref 128, .ref 129, .ref 130, .ref 131, .ref 132, .ref 133, .ref 134, .ref 135, am_i zc, .ref 136, .ref 137, .ref 138, .ref 139, .ref 140, am_i zg]) ff_X10_87 fc_X10_6 dX10_begins_32 (by omega) xe47 (fun _ => ⟨rfl, rfl⟩) (Nat.le_of_ble_eq_true rfl) rfl (fun μ49 xe50 xf51 => ?_)
      refine ap_aload_n dX10_begins_35 rfl rfl ?_
      refine ap_get ff_X10_19 dX10_begins_36 (by omega) xe50 rfl ?_
      refine ap_aload_n dX10_begins_39 rfl rfl ?_
      refine ap_get ff_X10_90 dX10_begins_40 (by omega) xe50 rfl ?_
      refine ap_dup2 dX10_begins_43 rfl rfl ?_
      have xm52 : μ49 124 = am_I 0 4 f := (xf51 _ (by omega)).trans ((xf48 _ (by omega)).trans ((xf3 _ (by omega)).trans hI))
      refine ap_iald (j := b.toNat) dX10_begins_44 (by omega) xm52 (by omega) (by omega) ?_
      refine ap_iconst dX10_begins_45 ?_
      refine ap_iadd dX10_begins_46 ?_
      refine ap_iast (j := b.toNat) dX10_begins_47 (by omega) xm52 (by omega) (by omega) (fun μ53 xe54 xf55 => ?_)
      refine ap_iconst dX10_begins_48 ?_
      have xm56 : μ53 120 = am_O 10 [.ref 121, .ref 122, am_i zp, .ref 123, am_i zt, am_i 3, am_i 0, am_i b, am_i u, .ref 124, .ref 125, am_i zu, .ref 126, .ref 127, .ref 128, .ref 129, .ref 130, .ref 131, .ref 132, .ref 133, .ref 134, .ref 135, am_i zc, .ref 136, .ref 137, .ref 138, .ref 139, .ref 140, am_i zg] := (xf55 _ (by omega)).trans xe50
      exact ap_iret dX10_begins_49 rfl (am_nz (by first | omega | decide)) (Nat.le_of_ble_eq_true rfl) (Nat.le_of_ble_eq_true rfl) (⟨rfl, fun x hx1 hx2 => (xf55 x (by omega)).trans ((xf51 x (by omega)).trans ((xf48 x (by omega)).trans ((xf3 x (by omega))))), Or.inl ⟨0, b, 1, u, 2, 1, _, _, _, _, _, gs_let (by omega), rfl, xm56, xe54, ⟨rfl, rfl, hb, hu, Or.inr rfl, by omega, ms_n, mit_inc hi⟩⟩⟩)
  · refine ap_aload_n dX10_begins_11 rfl rfl ?_
    refine ap_iconst dX10_begins_12 ?_
    refine ap_put (fs2 := [.ref 121, .ref 122, am_i zp, .ref 123, am_i zt, am_i 1, am_i zd, am_i b, am_i u, .ref 124, .ref 125, am_i zu, .ref 126, .ref 127, .ref 128, .ref 129, .ref 130, .ref 131, .ref 132, .ref 133, .ref 134, .ref 135, am_i zc, .ref 136, .ref 137, .ref 138, .ref 139, .ref 140, am_i zg]) ff_X10_80 fc_X10_5 dX10_begins_13 (by omega) xe2 (fun _ => ⟨rfl, rfl⟩) (Nat.le_of_ble_eq_true rfl) rfl (fun μ57 xe58 xf59 => ?_)
    refine ap_iconst dX10_begins_16 ?_
    have xm60 : μ57 124 = am_I 0 4 f := (xf59 _ (by omega)).trans ((xf3 _ (by omega)).trans hI)
    exact ap_iret dX10_begins_17 rfl (am_nz (by first | omega | decide)) (Nat.le_of_ble_eq_true rfl) (Nat.le_of_ble_eq_true rfl) (⟨rfl, fun x hx1 hx2 => (xf59 x (by omega)).trans ((xf3 x (by omega))), Or.inl ⟨1, b, w, u, 0, 0, _, _, _, _, _, by subst c8; simp [gsI], rfl, xe58, xm60, ⟨rfl, rfl, hb, hu, hw, by omega, ms_1 _, mit_mono hi⟩⟩⟩)

theorem mp_ret {Y : am_Y} {pc N N2 : Nat} {μ0 μ μ2 : am_M} {zp zt zu zc zg K : Int} {x x2 : Option GS} {r : Option Value} {lv : List (Nat × Value)} (hd : decode (am_c Y) pc = .ok (.ireturn, 1)) (ht : am_t Y = some .boolean) (hq : mpost N μ zp zt zu zc zg K x r N2 μ2) (hf : ∀ b, b ≠ 120 → b ≠ 124 → μ b = μ0 b) (hx : x2 = x) : am_W Y (mpost N μ0 zp zt zu zc zg K x2) 0 0 pc lv (r.toList ++ []) N2 μ2 := by
  subst hx
  obtain ⟨rfl, h2, h3⟩ := hq
  rcases h3 with ⟨a, b, w, u, q, y, zm, zd, ze, zi, f, h4, rfl, h5⟩ | ⟨h4, rfl, h5⟩
  · exact ap_iret hd ht (am_nz (Or.inr rfl)) (Nat.zero_le _) (Nat.zero_le _) ⟨rfl, fun b hb hb4 => (h2 b hb hb4).trans (hf b hb hb4), Or.inl ⟨a, b, w, u, q, y, zm, zd, ze, zi, f, h4, rfl, h5⟩⟩
  · exact ap_iret hd ht (am_nz (Or.inl rfl)) (Nat.zero_le _) (Nat.zero_le _) ⟨rfl, fun b hb hb4 => (h2 b hb hb4).trans (hf b hb hb4), Or.inr ⟨h4, rfl, h5⟩⟩
theorem mp_if {N : Nat} {μ μ2 : am_M} {zp zt zu zc zg K a b w u q y zm zd ze zi : Int} {f : Nat → Int} {P : Prop} [Decidable P] {x : Option GS} (hx : x = if P then some (a, b, w, u, q, y) else none) (hf : ∀ b, b ≠ 120 → b ≠ 124 → μ2 b = μ b) (h1 : μ2 120 = mcl zp zt zm zd ze zi zu zc zg) (h2 : μ2 124 = am_I 0 4 f) (hm : mrel a b w u q y zm zd ze zi f K) : mpost N μ zp zt zu zc zg K x (some (am_i (if P then 1 else 0))) N μ2 := by
  by_cases hP : P
  · rw [if_pos hP] at hx
    rw [if_pos hP]
    exact ⟨rfl, hf, Or.inl ⟨_, _, _, _, _, _, _, _, _, _, _, hx, rfl, h1, h2, hm⟩⟩
  · rw [if_neg hP] at hx
    rw [if_neg hP]
    exact ⟨rfl, hf, Or.inr ⟨hx, rfl, _, _, _, _, _, h1, h2⟩⟩
theorem ms_dot {q y zm zd : Int} (h : (zm = 3 ∧ zd = 2 - q ∧ y = 1) ∨ (zm = 4 ∧ zd = 2 - q ∧ y = 0)) : mst 0 (q - 1) y zm (zd + 1) := by
  rcases h with ⟨h1, h2, h3⟩ | ⟨h1, h2, h3⟩
  · exact Or.inr (Or.inl ⟨rfl, h1, by omega, h3⟩)
  · exact Or.inr (Or.inr (Or.inl ⟨rfl, h1, by omega, h3⟩))
theorem gs_00 {b w u q y ch : Int} (h1 : ch = 46 → q < 1) (h2 : ch = 126 → y ≠ 1) : gsI b w u q y ch = gsI b w u 0 0 ch := by
  unfold gsI
  by_cases g1 : ch = 46
  · rw [if_pos g1, if_pos g1, if_neg (by omega), if_neg (by omega)]
  · rw [if_neg g1, if_neg g1]
    by_cases g2 : ch = 126
    · rw [if_pos g2, if_pos g2, if_neg (h2 g2), if_neg (by omega)]
    · rw [if_neg g2, if_neg g2]
set_option maxHeartbeats 4000000 in
set_option maxRecDepth 100000 in
theorem cm_dotted {N : Nat} {μ : am_M} {zp zt zm zd b u zu zc zg K w ch : Int} {f : Nat → Int} (hM : μ 120 = mcl zp zt zm zd b u zu zc zg) (hI : μ 124 = am_I 0 4 f) (hN : 141 ≤ N) (hb : 0 ≤ b ∧ b ≤ 2) (hu : u = 0 ∨ u = 1) (hw : w = 0 ∨ w = 1) {q y : Int} (hq0 : 0 ≤ q ∧ q ≤ 2) (hs : (zm = 3 ∧ zd = 2 - q ∧ y = 1) ∨ (zm = 4 ∧ zd = 2 - q ∧ y = 0)) (hi : mit b w f K) (hK : 0 ≤ K ∧ K ≤ 1000) (hc : -2147483648 ≤ ch ∧ ch ≤ 2147483647) : am_Met YX10_dotted [.ref 120, am_i ch] N μ (mpost N μ zp zt zu zc zg (K + 1) (gsI b w u q y ch)) := by
  refine am_met (by first | decide | rfl) (Nat.le_of_ble_eq_true rfl) (fun h => by first | rfl | cases h) ?_
  show am_W YX10_dotted _ 0 0 0 [(0, .ref 120), (1, am_i ch)] [] _ _
  refine ap_iload_n dX10_dotted_0 rfl rfl ?_
  refine ap_bipush dX10_dotted_1 (by decide) ?_
  refine ap_icmp_ne (tgt := 26) dX10_dotted_3 (by decide) (by omega) (fun c3 => ?_) (fun c3 => ?_)
  · refine ap_iload_n dX10_dotted_26 rfl rfl ?_
    refine ap_bipush dX10_dotted_27 (by decide) ?_
    refine ap_icmp_ne (tgt := 47) dX10_dotted_29 (by decide) (by omega) (fun c29 => ?_) (fun c29 => ?_)
    · refine ap_aload_n dX10_dotted_47 rfl rfl ?_
      refine ap_iload_n dX10_dotted_48 rfl rfl ?_
      refine ap_cV (As := [am_i ch]) (rest := []) (cm_begins hM hI hN hb hu hw hi hK hc) dX10_dotted_49 lk_X10_101 hy_X10_begins rfl (by omega) hM ⟨_, _, rfl⟩ (Nat.le_of_ble_eq_true rfl) ⟨Nat.le_of_ble_eq_true rfl, Nat.le_of_ble_eq_true rfl⟩ ⟨rfl, rfl⟩ ⟨Nat.le_of_ble_eq_true rfl, Nat.le_of_ble_eq_true rfl⟩ (fun r2 N2 μ2 hq => ?_)
      exact mp_ret dX10_dotted_52 rfl hq (fun x hx1 hx2 => rfl) (gs_00 (by omega) (by omega))
    · refine ap_aload_n dX10_dotted_32 rfl rfl ?_
      refine ap_get ff_X10_80 dX10_dotted_33 (by omega) hM rfl ?_
      refine ap_iconst dX10_dotted_36 ?_
      refine ap_icmp_ne (tgt := 47) dX10_dotted_37 (by decide) (by omega) (fun c37 => ?_) (fun c37 => ?_)
      · refine ap_aload_n dX10_dotted_47 rfl rfl ?_
        refine ap_iload_n dX10_dotted_48 rfl rfl ?_
        refine ap_cV (As := [am_i ch]) (rest := []) (cm_begins hM hI hN hb hu hw hi hK hc) dX10_dotted_49 lk_X10_101 hy_X10_begins rfl (by omega) hM ⟨_, _, rfl⟩ (Nat.le_of_ble_eq_true rfl) ⟨Nat.le_of_ble_eq_true rfl, Nat.le_of_ble_eq_true rfl⟩ ⟨rfl, rfl⟩ ⟨Nat.le_of_ble_eq_true rfl, Nat.le_of_ble_eq_true rfl⟩ (fun r2 N2 μ2 hq => ?_)
        exact mp_ret dX10_dotted_52 rfl hq (fun x hx1 hx2 => rfl) (gs_00 (by omega) (by omega))
      · refine ap_aload_n dX10_dotted_40 rfl rfl ?_
        refine ap_iconst dX10_dotted_41 ?_
        refine ap_put (fs2 := [.ref 121, .ref 122, am_i zp, .ref 123, am_i zt, am_i 0, am_i zd, am_i b, am_i u, .ref 124, .ref 125, am_i zu, .ref 126, .ref 127, .ref 128, .ref 129, .ref 130, .ref 131, .ref 132, .ref 133, .ref 134, .ref 135, am_i zc, .ref 136, .ref 137, .ref 138, .ref 139, .ref 140, am_i zg]) ff_X10_80 fc_X10_5 dX10_dotted_42 (by omega) hM (fun _ => ⟨rfl, rfl⟩) (Nat.le_of_ble_eq_true rfl) rfl (fun μ1 xe2 xf3 => ?_)
        refine ap_iconst dX10_dotted_45 ?_
        have xm4 : μ1 124 = am_I 0 4 f := (xf3 _ (by omega)).trans hI
        exact ap_iret dX10_dotted_46 rfl (am_nz (by first | omega | decide)) (Nat.le_of_ble_eq_true rfl) (Nat.le_of_ble_eq_true rfl) (⟨rfl, fun x hx1 hx2 => (xf3 x (by omega)), Or.inl ⟨0, b, w, u, 0, 0, _, _, _, _, _, by subst c29; simp [gsI, show y = 1 by omega], rfl, xe2, xm4, ⟨rfl, rfl, hb, hu, hw, by omega, ms_0 _, mit_mono hi⟩⟩⟩)
  · refine ap_aload_n dX10_dotted_6 rfl rfl ?_
    refine ap_get ff_X10_87 dX10_dotted_7 (by omega) hM rfl ?_
    refine ap_iconst dX10_dotted_10 ?_
    refine ap_icmp_ge (tgt := 26) dX10_dotted_11 (by decide) (by omega) (fun c11 => ?_) (fun c11 => ?_)
    · refine ap_iload_n dX10_dotted_26 rfl rfl ?_
      refine ap_bipush dX10_dotted_27 (by decide) ?_
      refine ap_icmp_ne (tgt := 47) dX10_dotted_29 (by decide) (by omega) (fun c29 => ?_) (fun c29 => ?_)
      · refine ap_aload_n dX10_dotted_47 rfl rfl ?_
        refine ap_iload_n dX10_dotted_48 rfl rfl ?_
        refine ap_cV (As := [am_i ch]) (rest := []) (cm_begins hM hI hN hb hu hw hi hK hc) dX10_dotted_49 lk_X10_101 hy_X10_begins rfl (by omega) hM ⟨_, _, rfl⟩ (Nat.le_of_ble_eq_true rfl) ⟨Nat.le_of_ble_eq_true rfl, Nat.le_of_ble_eq_true rfl⟩ ⟨rfl, rfl⟩ ⟨Nat.le_of_ble_eq_true rfl, Nat.le_of_ble_eq_true rfl⟩ (fun r2 N2 μ2 hq => ?_)
        exact mp_ret dX10_dotted_52 rfl hq (fun x hx1 hx2 => rfl) (gs_00 (by omega) (by omega))
      · refine ap_aload_n dX10_dotted_32 rfl rfl ?_
        refine ap_get ff_X10_80 dX10_dotted_33 (by omega) hM rfl ?_
        refine ap_iconst dX10_dotted_36 ?_
        refine ap_icmp_ne (tgt := 47) dX10_dotted_37 (by decide) (by omega) (fun c37 => ?_) (fun c37 => ?_)
        · refine ap_aload_n dX10_dotted_47 rfl rfl ?_
          refine ap_iload_n dX10_dotted_48 rfl rfl ?_
          refine ap_cV (As := [am_i ch]) (rest := []) (cm_begins hM hI hN hb hu hw hi hK hc) dX10_dotted_49 lk_X10_101 hy_X10_begins rfl (by omega) hM ⟨_, _, rfl⟩ (Nat.le_of_ble_eq_true rfl) ⟨Nat.le_of_ble_eq_true rfl, Nat.le_of_ble_eq_true rfl⟩ ⟨rfl, rfl⟩ ⟨Nat.le_of_ble_eq_true rfl, Nat.le_of_ble_eq_true rfl⟩ (fun r2 N2 μ2 hq => ?_)
          exact mp_ret dX10_dotted_52 rfl hq (fun x hx1 hx2 => rfl) (gs_00 (by omega) (by omega))
        · refine ap_aload_n dX10_dotted_40 rfl rfl ?_
          refine ap_iconst dX10_dotted_41 ?_
          refine ap_put (fs2 := [.ref 121, .ref 122, am_i zp, .ref 123, am_i zt, am_i 0, am_i zd, am_i b, am_i u, .ref 124, .ref 125, am_i zu, .ref 126, .ref 127, .ref 128, .ref 129, .ref 130, .ref 131, .ref 132, .ref 133, .ref 134, .ref 135, am_i zc, .ref 136, .ref 137, .ref 138, .ref 139, .ref 140, am_i zg]) ff_X10_80 fc_X10_5 dX10_dotted_42 (by omega) hM (fun _ => ⟨rfl, rfl⟩) (Nat.le_of_ble_eq_true rfl) rfl (fun μ5 xe6 xf7 => ?_)
          refine ap_iconst dX10_dotted_45 ?_
          have xm8 : μ5 124 = am_I 0 4 f := (xf7 _ (by omega)).trans hI
          exact ap_iret dX10_dotted_46 rfl (am_nz (by first | omega | decide)) (Nat.le_of_ble_eq_true rfl) (Nat.le_of_ble_eq_true rfl) (⟨rfl, fun x hx1 hx2 => (xf7 x (by omega)), Or.inl ⟨0, b, w, u, 0, 0, _, _, _, _, _, by subst c29; simp [gsI, show y = 1 by omega], rfl, xe6, xm8, ⟨rfl, rfl, hb, hu, hw, by omega, ms_0 _, mit_mono hi⟩⟩⟩)
    · refine ap_aload_n dX10_dotted_14 rfl rfl ?_
      refine ap_dup dX10_dotted_15 rfl ?_
      refine ap_get ff_X10_87 dX10_dotted_16 (by omega) hM rfl ?_
      refine ap_iconst dX10_dotted_19 ?_
      refine ap_iadd dX10_dotted_20 ?_
      refine ap_put (fs2 := [.ref 121, .ref 122, am_i zp, .ref 123, am_i zt, am_i zm, am_i (zd + 1), am_i b, am_i u, .ref 124, .ref 125, am_i zu, .ref 126, .ref 127, .ref 128, .ref 129, .ref 130, .ref 131, .ref 132, .ref 133, .ref 134, .ref 135, am_i zc, .ref 136, .ref 137, .ref 138, .ref 139, .ref 140, am_i zg]) ff_X10_87 fc_X10_6 dX10_dotted_21 (by omega) hM (fun _ => ⟨rfl, rfl⟩) (Nat.le_of_ble_eq_true rfl) rfl (fun μ9 xe10 xf11 => ?_)
      refine ap_iconst dX10_dotted_24 ?_
      have xm12 : μ9 124 = am_I 0 4 f := (xf11 _ (by omega)).trans hI
      exact ap_iret dX10_dotted_25 rfl (am_nz (by first | omega | decide)) (Nat.le_of_ble_eq_true rfl) (Nat.le_of_ble_eq_true rfl) (⟨rfl, fun x hx1 hx2 => (xf11 x (by omega)), Or.inl ⟨0, b, w, u, q - 1, y, _, _, _, _, _, by subst c3; simp [gsI, show 1 ≤ q by omega], rfl, xe10, xm12, ⟨rfl, rfl, hb, hu, hw, by omega, ms_dot hs, mit_mono hi⟩⟩⟩)

set_option maxHeartbeats 4000000 in
set_option maxRecDepth 100000 in
theorem cm_num3 {N : Nat} {μ : am_M} {zp zt zd b u zu zc zg K w ch : Int} {f : Nat → Int} (hM : μ 120 = mcl zp zt 5 zd b u zu zc zg) (hI : μ 124 = am_I 0 4 f) (hN : 141 ≤ N) (hb : 0 ≤ b ∧ b ≤ 2) (hu : u = 0 ∨ u = 1) (hw : w = 0 ∨ w = 1) (hi : mit b w f K) (hK : 0 ≤ K ∧ K ≤ 1000) (hc : -2147483648 ≤ ch ∧ ch ≤ 2147483647) : am_Met YX10_numbered [.ref 120, am_i ch] N μ (mpost N μ zp zt zu zc zg (K + 1) (gst 3 b w u 0 0 ch)) := by
  refine am_met (by first | decide | rfl) (Nat.le_of_ble_eq_true rfl) (fun h => by first | rfl | cases h) ?_
  show am_W YX10_numbered _ 0 0 0 [(0, .ref 120), (1, am_i ch)] [] _ _
  refine ap_aload_n dX10_numbered_0 rfl rfl ?_
  refine ap_get ff_X10_80 dX10_numbered_1 (by omega) hM rfl ?_
  refine ap_iconst dX10_numbered_4 ?_
  refine ap_icmp_eq (tgt := 17) dX10_numbered_5 (by decide) (by omega) (fun c5 => ?_) (fun c5 => (by exfalso; omega))
  refine ap_aload_n dX10_numbered_17 rfl rfl ?_
  refine ap_aload_n dX10_numbered_18 rfl rfl ?_
  refine ap_get ff_X10_80 dX10_numbered_19 (by omega) hM rfl ?_
  refine ap_iconst dX10_numbered_22 ?_
  refine ap_icmp_ne (tgt := 31) dX10_numbered_23 (by decide) (by omega) (fun c23 => (by exfalso; omega)) (fun c23 => ?_)
  refine ap_bipush dX10_numbered_26 (by decide) ?_
  refine ap_goto (tgt := 32) dX10_numbered_28 (by decide) ?_
  refine ap_put (fs2 := [.ref 121, .ref 122, am_i zp, .ref 123, am_i zt, am_i 6, am_i zd, am_i b, am_i u, .ref 124, .ref 125, am_i zu, .ref 126, .ref 127, .ref 128, .ref 129, .ref 130, .ref 131, .ref 132, .ref 133, .ref 134, .ref 135, am_i zc, .ref 136, .ref 137, .ref 138, .ref 139, .ref 140, am_i zg]) ff_X10_80 fc_X10_5 dX10_numbered_32 (by omega) hM (fun _ => ⟨rfl, rfl⟩) (Nat.le_of_ble_eq_true rfl) rfl (fun μ1 xe2 xf3 => ?_)
  refine ap_iload_n dX10_numbered_35 rfl rfl ?_
  refine ap_iconst dX10_numbered_36 ?_
  refine ap_cS (As := [am_i ch, am_i 2]) (rest := []) (cm_isDigit hc (by omega)) dX10_numbered_37 lk_X10_104 hy_X10_isDigit rfl (Nat.le_of_ble_eq_true rfl) ⟨Nat.le_of_ble_eq_true rfl, Nat.le_of_ble_eq_true rfl⟩ ⟨rfl, rfl⟩ ⟨Nat.le_of_ble_eq_true rfl, Nat.le_of_ble_eq_true rfl⟩ (fun xr4 xN5 μ6 xq7 => ?_)
  obtain ⟨rfl, rfl, rfl⟩ := xq7
  have xm8 : μ1 124 = am_I 0 4 f := (xf3 _ (by omega)).trans hI
  exact ap_iret dX10_numbered_40 rfl (am_nz (by split <;> omega)) (Nat.le_of_ble_eq_true rfl) (Nat.le_of_ble_eq_true rfl) (mp_if (a := 4) (b := b) (w := w) (u := u) (q := 0) (y := 0) (by simp [gst]) (fun x hx1 hx2 => (xf3 x (by omega))) xe2 xm8 (⟨rfl, rfl, hb, hu, hw, by omega, ms_4 _, mit_mono hi⟩))

set_option maxHeartbeats 4000000 in
set_option maxRecDepth 100000 in
theorem cm_num5 {N : Nat} {μ : am_M} {zp zt zd b u zu zc zg K w ch : Int} {f : Nat → Int} (hM : μ 120 = mcl zp zt 7 zd b u zu zc zg) (hI : μ 124 = am_I 0 4 f) (hN : 141 ≤ N) (hb : 0 ≤ b ∧ b ≤ 2) (hu : u = 0 ∨ u = 1) (hw : w = 0 ∨ w = 1) (hi : mit b w f K) (hK : 0 ≤ K ∧ K ≤ 1000) (hc : -2147483648 ≤ ch ∧ ch ≤ 2147483647) : am_Met YX10_numbered [.ref 120, am_i ch] N μ (mpost N μ zp zt zu zc zg (K + 1) (gst 5 b w u 0 0 ch)) := by
  refine am_met (by first | decide | rfl) (Nat.le_of_ble_eq_true rfl) (fun h => by first | rfl | cases h) ?_
  show am_W YX10_numbered _ 0 0 0 [(0, .ref 120), (1, am_i ch)] [] _ _
  refine ap_aload_n dX10_numbered_0 rfl rfl ?_
  refine ap_get ff_X10_80 dX10_numbered_1 (by omega) hM rfl ?_
  refine ap_iconst dX10_numbered_4 ?_
  refine ap_icmp_eq (tgt := 17) dX10_numbered_5 (by decide) (by omega) (fun c5 => (by exfalso; omega)) (fun c5 => ?_)
  refine ap_aload_n dX10_numbered_8 rfl rfl ?_
  refine ap_get ff_X10_80 dX10_numbered_9 (by omega) hM rfl ?_
  refine ap_bipush dX10_numbered_12 (by decide) ?_
  refine ap_icmp_ne (tgt := 41) dX10_numbered_14 (by decide) (by omega) (fun c14 => (by exfalso; omega)) (fun c14 => ?_)
  refine ap_aload_n dX10_numbered_17 rfl rfl ?_
  refine ap_aload_n dX10_numbered_18 rfl rfl ?_
  refine ap_get ff_X10_80 dX10_numbered_19 (by omega) hM rfl ?_
  refine ap_iconst dX10_numbered_22 ?_
  refine ap_icmp_ne (tgt := 31) dX10_numbered_23 (by decide) (by omega) (fun c23 => ?_) (fun c23 => (by exfalso; omega))
  refine ap_iconst dX10_numbered_31 ?_
  refine ap_put (fs2 := [.ref 121, .ref 122, am_i zp, .ref 123, am_i zt, am_i 0, am_i zd, am_i b, am_i u, .ref 124, .ref 125, am_i zu, .ref 126, .ref 127, .ref 128, .ref 129, .ref 130, .ref 131, .ref 132, .ref 133, .ref 134, .ref 135, am_i zc, .ref 136, .ref 137, .ref 138, .ref 139, .ref 140, am_i zg]) ff_X10_80 fc_X10_5 dX10_numbered_32 (by omega) hM (fun _ => ⟨rfl, rfl⟩) (Nat.le_of_ble_eq_true rfl) rfl (fun μ1 xe2 xf3 => ?_)
  refine ap_iload_n dX10_numbered_35 rfl rfl ?_
  refine ap_iconst dX10_numbered_36 ?_
  refine ap_cS (As := [am_i ch, am_i 2]) (rest := []) (cm_isDigit hc (by omega)) dX10_numbered_37 lk_X10_104 hy_X10_isDigit rfl (Nat.le_of_ble_eq_true rfl) ⟨Nat.le_of_ble_eq_true rfl, Nat.le_of_ble_eq_true rfl⟩ ⟨rfl, rfl⟩ ⟨Nat.le_of_ble_eq_true rfl, Nat.le_of_ble_eq_true rfl⟩ (fun xr4 xN5 μ6 xq7 => ?_)
  obtain ⟨rfl, rfl, rfl⟩ := xq7
  have xm8 : μ1 124 = am_I 0 4 f := (xf3 _ (by omega)).trans hI
  exact ap_iret dX10_numbered_40 rfl (am_nz (by split <;> omega)) (Nat.le_of_ble_eq_true rfl) (Nat.le_of_ble_eq_true rfl) (mp_if (a := 0) (b := b) (w := w) (u := u) (q := 0) (y := 0) (by simp [gst]) (fun x hx1 hx2 => (xf3 x (by omega))) xe2 xm8 (⟨rfl, rfl, hb, hu, hw, by omega, ms_0 _, mit_mono hi⟩))

set_option maxHeartbeats 4000000 in
set_option maxRecDepth 100000 in
theorem cm_num4 {N : Nat} {μ : am_M} {zp zt zd b u zu zc zg K w ch : Int} {f : Nat → Int} (hM : μ 120 = mcl zp zt 6 zd b u zu zc zg) (hI : μ 124 = am_I 0 4 f) (hN : 141 ≤ N) (hb : 0 ≤ b ∧ b ≤ 2) (hu : u = 0 ∨ u = 1) (hw : w = 0 ∨ w = 1) (hi : mit b w f K) (hK : 0 ≤ K ∧ K ≤ 1000) (hc : -2147483648 ≤ ch ∧ ch ≤ 2147483647) : am_Met YX10_numbered [.ref 120, am_i ch] N μ (mpost N μ zp zt zu zc zg (K + 1) (gst 4 b w u 0 0 ch)) := by
  refine am_met (by first | decide | rfl) (Nat.le_of_ble_eq_true rfl) (fun h => by first | rfl | cases h) ?_
  show am_W YX10_numbered _ 0 0 0 [(0, .ref 120), (1, am_i ch)] [] _ _
  refine ap_aload_n dX10_numbered_0 rfl rfl ?_
  refine ap_get ff_X10_80 dX10_numbered_1 (by omega) hM rfl ?_
  refine ap_iconst dX10_numbered_4 ?_
  refine ap_icmp_eq (tgt := 17) dX10_numbered_5 (by decide) (by omega) (fun c5 => (by exfalso; omega)) (fun c5 => ?_)
  refine ap_aload_n dX10_numbered_8 rfl rfl ?_
  refine ap_get ff_X10_80 dX10_numbered_9 (by omega) hM rfl ?_
  refine ap_bipush dX10_numbered_12 (by decide) ?_
  refine ap_icmp_ne (tgt := 41) dX10_numbered_14 (by decide) (by omega) (fun c14 => ?_) (fun c14 => (by exfalso; omega))
  refine ap_aload_n dX10_numbered_41 rfl rfl ?_
  refine ap_get ff_X10_80 dX10_numbered_42 (by omega) hM rfl ?_
  refine ap_bipush dX10_numbered_45 (by decide) ?_
  refine ap_icmp_ne (tgt := 68) dX10_numbered_47 (by decide) (by omega) (fun c47 => (by exfalso; omega)) (fun c47 => ?_)
  refine ap_aload_n dX10_numbered_50 rfl rfl ?_
  refine ap_bipush dX10_numbered_51 (by decide) ?_
  refine ap_put (fs2 := [.ref 121, .ref 122, am_i zp, .ref 123, am_i zt, am_i 7, am_i zd, am_i b, am_i u, .ref 124, .ref 125, am_i zu, .ref 126, .ref 127, .ref 128, .ref 129, .ref 130, .ref 131, .ref 132, .ref 133, .ref 134, .ref 135, am_i zc, .ref 136, .ref 137, .ref 138, .ref 139, .ref 140, am_i zg]) ff_X10_80 fc_X10_5 dX10_numbered_53 (by omega) hM (fun _ => ⟨rfl, rfl⟩) (Nat.le_of_ble_eq_true rfl) rfl (fun μ1 xe2 xf3 => ?_)
  refine ap_iload_n dX10_numbered_56 rfl rfl ?_
  refine ap_bipush dX10_numbered_57 (by decide) ?_
  refine ap_icmp_ne (tgt := 66) dX10_numbered_59 (by decide) (by omega) (fun c59 => ?_) (fun c59 => ?_)
  · refine ap_iconst dX10_numbered_66 ?_
    have xm4 : μ1 124 = am_I 0 4 f := (xf3 _ (by omega)).trans hI
    exact ap_iret dX10_numbered_67 rfl (am_nz (by first | omega | decide)) (Nat.le_of_ble_eq_true rfl) (Nat.le_of_ble_eq_true rfl) (⟨rfl, fun x hx1 hx2 => (xf3 x (by omega)), Or.inr ⟨by simp [gst, c59], rfl, _, _, _, _, _, xe2, xm4⟩⟩)
  · refine ap_iconst dX10_numbered_62 ?_
    refine ap_goto (tgt := 67) dX10_numbered_63 (by decide) ?_
    have xm5 : μ1 124 = am_I 0 4 f := (xf3 _ (by omega)).trans hI
    exact ap_iret dX10_numbered_67 rfl (am_nz (by first | omega | decide)) (Nat.le_of_ble_eq_true rfl) (Nat.le_of_ble_eq_true rfl) (⟨rfl, fun x hx1 hx2 => (xf3 x (by omega)), Or.inl ⟨5, b, w, u, 0, 0, _, _, _, _, _, by simp [gst, c59], rfl, xe2, xm5, ⟨rfl, rfl, hb, hu, hw, by omega, ms_5 _, mit_mono hi⟩⟩⟩)

set_option maxHeartbeats 4000000 in
set_option maxRecDepth 100000 in
theorem cm_num8 {N : Nat} {μ : am_M} {zp zt zd b u zu zc zg K w ch : Int} {f : Nat → Int} (hM : μ 120 = mcl zp zt 8 zd b u zu zc zg) (hI : μ 124 = am_I 0 4 f) (hN : 141 ≤ N) (hb : 0 ≤ b ∧ b ≤ 2) (hu : u = 0 ∨ u = 1) (hw : w = 0 ∨ w = 1) (hi : mit b w f K) (hK : 0 ≤ K ∧ K ≤ 1000) (hc : -2147483648 ≤ ch ∧ ch ≤ 2147483647) : am_Met YX10_numbered [.ref 120, am_i ch] N μ (mpost N μ zp zt zu zc zg (K + 1) (gst 8 b w u 0 0 ch)) := by
  refine am_met (by first | decide | rfl) (Nat.le_of_ble_eq_true rfl) (fun h => by first | rfl | cases h) ?_
  show am_W YX10_numbered _ 0 0 0 [(0, .ref 120), (1, am_i ch)] [] _ _
  refine ap_aload_n dX10_numbered_0 rfl rfl ?_
  refine ap_get ff_X10_80 dX10_numbered_1 (by omega) hM rfl ?_
  refine ap_iconst dX10_numbered_4 ?_
  refine ap_icmp_eq (tgt := 17) dX10_numbered_5 (by decide) (by omega) (fun c5 => (by exfalso; omega)) (fun c5 => ?_)
  refine ap_aload_n dX10_numbered_8 rfl rfl ?_
  refine ap_get ff_X10_80 dX10_numbered_9 (by omega) hM rfl ?_
  refine ap_bipush dX10_numbered_12 (by decide) ?_
  refine ap_icmp_ne (tgt := 41) dX10_numbered_14 (by decide) (by omega) (fun c14 => ?_) (fun c14 => (by exfalso; omega))
  refine ap_aload_n dX10_numbered_41 rfl rfl ?_
  refine ap_get ff_X10_80 dX10_numbered_42 (by omega) hM rfl ?_
  refine ap_bipush dX10_numbered_45 (by decide) ?_
  refine ap_icmp_ne (tgt := 68) dX10_numbered_47 (by decide) (by omega) (fun c47 => ?_) (fun c47 => (by exfalso; omega))
  refine ap_aload_n dX10_numbered_68 rfl rfl ?_
  refine ap_get ff_X10_80 dX10_numbered_69 (by omega) hM rfl ?_
  refine ap_bipush dX10_numbered_72 (by decide) ?_
  refine ap_icmp_ne (tgt := 88) dX10_numbered_74 (by decide) (by omega) (fun c74 => (by exfalso; omega)) (fun c74 => ?_)
  refine ap_aload_n dX10_numbered_77 rfl rfl ?_
  refine ap_iconst dX10_numbered_78 ?_
  refine ap_put (fs2 := [.ref 121, .ref 122, am_i zp, .ref 123, am_i zt, am_i 0, am_i zd, am_i b, am_i u, .ref 124, .ref 125, am_i zu, .ref 126, .ref 127, .ref 128, .ref 129, .ref 130, .ref 131, .ref 132, .ref 133, .ref 134, .ref 135, am_i zc, .ref 136, .ref 137, .ref 138, .ref 139, .ref 140, am_i zg]) ff_X10_80 fc_X10_5 dX10_numbered_79 (by omega) hM (fun _ => ⟨rfl, rfl⟩) (Nat.le_of_ble_eq_true rfl) rfl (fun μ1 xe2 xf3 => ?_)
  refine ap_iload_n dX10_numbered_82 rfl rfl ?_
  refine ap_iconst dX10_numbered_83 ?_
  refine ap_cS (As := [am_i ch, am_i 2]) (rest := []) (cm_isDigit hc (by omega)) dX10_numbered_84 lk_X10_104 hy_X10_isDigit rfl (Nat.le_of_ble_eq_true rfl) ⟨Nat.le_of_ble_eq_true rfl, Nat.le_of_ble_eq_true rfl⟩ ⟨rfl, rfl⟩ ⟨Nat.le_of_ble_eq_true rfl, Nat.le_of_ble_eq_true rfl⟩ (fun xr4 xN5 μ6 xq7 => ?_)
  obtain ⟨rfl, rfl, rfl⟩ := xq7
  have xm8 : μ1 124 = am_I 0 4 f := (xf3 _ (by omega)).trans hI
  exact ap_iret dX10_numbered_87 rfl (am_nz (by split <;> omega)) (Nat.le_of_ble_eq_true rfl) (Nat.le_of_ble_eq_true rfl) (mp_if (a := 0) (b := b) (w := w) (u := u) (q := 0) (y := 0) (by simp [gst]) (fun x hx1 hx2 => (xf3 x (by omega))) xe2 xm8 (⟨rfl, rfl, hb, hu, hw, by omega, ms_0 _, mit_mono hi⟩))

set_option maxHeartbeats 4000000 in
set_option maxRecDepth 100000 in
theorem cm_num6 {N : Nat} {μ : am_M} {zp zt zd b u zu zc zg K w ch : Int} {f : Nat → Int} (hM : μ 120 = mcl zp zt 9 zd b u zu zc zg) (hI : μ 124 = am_I 0 4 f) (hN : 141 ≤ N) (hb : 0 ≤ b ∧ b ≤ 2) (hu : u = 0 ∨ u = 1) (hw : w = 0 ∨ w = 1) (hi : mit b w f K) (hK : 0 ≤ K ∧ K ≤ 1000) (hc : -2147483648 ≤ ch ∧ ch ≤ 2147483647) : am_Met YX10_numbered [.ref 120, am_i ch] N μ (mpost N μ zp zt zu zc zg (K + 1) (gst 6 b w u 0 0 ch)) := by
  refine am_met (by first | decide | rfl) (Nat.le_of_ble_eq_true rfl) (fun h => by first | rfl | cases h) ?_
  show am_W YX10_numbered _ 0 0 0 [(0, .ref 120), (1, am_i ch)] [] _ _
  refine ap_aload_n dX10_numbered_0 rfl rfl ?_
  refine ap_get ff_X10_80 dX10_numbered_1 (by omega) hM rfl ?_
  refine ap_iconst dX10_numbered_4 ?_
  refine ap_icmp_eq (tgt := 17) dX10_numbered_5 (by decide) (by omega) (fun c5 => (by exfalso; omega)) (fun c5 => ?_)
  refine ap_aload_n dX10_numbered_8 rfl rfl ?_
  refine ap_get ff_X10_80 dX10_numbered_9 (by omega) hM rfl ?_
  refine ap_bipush dX10_numbered_12 (by decide) ?_
  refine ap_icmp_ne (tgt := 41) dX10_numbered_14 (by decide) (by omega) (fun c14 => ?_) (fun c14 => (by exfalso; omega))
  refine ap_aload_n dX10_numbered_41 rfl rfl ?_
  refine ap_get ff_X10_80 dX10_numbered_42 (by omega) hM rfl ?_
  refine ap_bipush dX10_numbered_45 (by decide) ?_
  refine ap_icmp_ne (tgt := 68) dX10_numbered_47 (by decide) (by omega) (fun c47 => ?_) (fun c47 => (by exfalso; omega))
  refine ap_aload_n dX10_numbered_68 rfl rfl ?_
  refine ap_get ff_X10_80 dX10_numbered_69 (by omega) hM rfl ?_
  refine ap_bipush dX10_numbered_72 (by decide) ?_
  refine ap_icmp_ne (tgt := 88) dX10_numbered_74 (by decide) (by omega) (fun c74 => ?_) (fun c74 => (by exfalso; omega))
  refine ap_aload_n dX10_numbered_88 rfl rfl ?_
  refine ap_get ff_X10_80 dX10_numbered_89 (by omega) hM rfl ?_
  refine ap_bipush dX10_numbered_92 (by decide) ?_
  refine ap_icmp_ne (tgt := 110) dX10_numbered_94 (by decide) (by omega) (fun c94 => ?_) (fun c94 => (by exfalso; omega))
  refine ap_aload_n dX10_numbered_110 rfl rfl ?_
  refine ap_bipush dX10_numbered_111 (by decide) ?_
  refine ap_put (fs2 := [.ref 121, .ref 122, am_i zp, .ref 123, am_i zt, am_i 10, am_i zd, am_i b, am_i u, .ref 124, .ref 125, am_i zu, .ref 126, .ref 127, .ref 128, .ref 129, .ref 130, .ref 131, .ref 132, .ref 133, .ref 134, .ref 135, am_i zc, .ref 136, .ref 137, .ref 138, .ref 139, .ref 140, am_i zg]) ff_X10_80 fc_X10_5 dX10_numbered_113 (by omega) hM (fun _ => ⟨rfl, rfl⟩) (Nat.le_of_ble_eq_true rfl) rfl (fun μ1 xe2 xf3 => ?_)
  refine ap_iload_n dX10_numbered_116 rfl rfl ?_
  refine ap_iconst dX10_numbered_117 ?_
  refine ap_cS (As := [am_i ch, am_i 1]) (rest := []) (cm_isDigit hc (by omega)) dX10_numbered_118 lk_X10_104 hy_X10_isDigit rfl (Nat.le_of_ble_eq_true rfl) ⟨Nat.le_of_ble_eq_true rfl, Nat.le_of_ble_eq_true rfl⟩ ⟨rfl, rfl⟩ ⟨Nat.le_of_ble_eq_true rfl, Nat.le_of_ble_eq_true rfl⟩ (fun xr4 xN5 μ6 xq7 => ?_)
  obtain ⟨rfl, rfl, rfl⟩ := xq7
  have xm8 : μ1 124 = am_I 0 4 f := (xf3 _ (by omega)).trans hI
  exact ap_iret dX10_numbered_121 rfl (am_nz (by split <;> omega)) (Nat.le_of_ble_eq_true rfl) (Nat.le_of_ble_eq_true rfl) (mp_if (a := 7) (b := b) (w := w) (u := u) (q := 0) (y := 0) (by simp [gst]) (fun x hx1 hx2 => (xf3 x (by omega))) xe2 xm8 (⟨rfl, rfl, hb, hu, hw, by omega, ms_7 _, mit_mono hi⟩))

set_option maxHeartbeats 4000000 in
set_option maxRecDepth 100000 in
theorem cm_num7 {N : Nat} {μ : am_M} {zp zt zd b u zu zc zg K w ch : Int} {f : Nat → Int} (hM : μ 120 = mcl zp zt 10 zd b u zu zc zg) (hI : μ 124 = am_I 0 4 f) (hN : 141 ≤ N) (hb : 0 ≤ b ∧ b ≤ 2) (hu : u = 0 ∨ u = 1) (hw : w = 0 ∨ w = 1) (hi : mit b w f K) (hK : 0 ≤ K ∧ K ≤ 1000) (hc : -2147483648 ≤ ch ∧ ch ≤ 2147483647) : am_Met YX10_numbered [.ref 120, am_i ch] N μ (mpost N μ zp zt zu zc zg (K + 1) (gst 7 b w u 0 0 ch)) := by
  refine am_met (by first | decide | rfl) (Nat.le_of_ble_eq_true rfl) (fun h => by first | rfl | cases h) ?_
  show am_W YX10_numbered _ 0 0 0 [(0, .ref 120), (1, am_i ch)] [] _ _
  refine ap_aload_n dX10_numbered_0 rfl rfl ?_
  refine ap_get ff_X10_80 dX10_numbered_1 (by omega) hM rfl ?_
  refine ap_iconst dX10_numbered_4 ?_
  refine ap_icmp_eq (tgt := 17) dX10_numbered_5 (by decide) (by omega) (fun c5 => (by exfalso; omega)) (fun c5 => ?_)
  refine ap_aload_n dX10_numbered_8 rfl rfl ?_
  refine ap_get ff_X10_80 dX10_numbered_9 (by omega) hM rfl ?_
  refine ap_bipush dX10_numbered_12 (by decide) ?_
  refine ap_icmp_ne (tgt := 41) dX10_numbered_14 (by decide) (by omega) (fun c14 => ?_) (fun c14 => (by exfalso; omega))
  refine ap_aload_n dX10_numbered_41 rfl rfl ?_
  refine ap_get ff_X10_80 dX10_numbered_42 (by omega) hM rfl ?_
  refine ap_bipush dX10_numbered_45 (by decide) ?_
  refine ap_icmp_ne (tgt := 68) dX10_numbered_47 (by decide) (by omega) (fun c47 => ?_) (fun c47 => (by exfalso; omega))
  refine ap_aload_n dX10_numbered_68 rfl rfl ?_
  refine ap_get ff_X10_80 dX10_numbered_69 (by omega) hM rfl ?_
  refine ap_bipush dX10_numbered_72 (by decide) ?_
  refine ap_icmp_ne (tgt := 88) dX10_numbered_74 (by decide) (by omega) (fun c74 => ?_) (fun c74 => (by exfalso; omega))
  refine ap_aload_n dX10_numbered_88 rfl rfl ?_
  refine ap_get ff_X10_80 dX10_numbered_89 (by omega) hM rfl ?_
  refine ap_bipush dX10_numbered_92 (by decide) ?_
  refine ap_icmp_ne (tgt := 110) dX10_numbered_94 (by decide) (by omega) (fun c94 => (by exfalso; omega)) (fun c94 => ?_)
  refine ap_iload_n dX10_numbered_97 rfl rfl ?_
  refine ap_bipush dX10_numbered_98 (by decide) ?_
  refine ap_icmp_ne (tgt := 110) dX10_numbered_100 (by decide) (by omega) (fun c100 => ?_) (fun c100 => ?_)
  · refine ap_aload_n dX10_numbered_110 rfl rfl ?_
    refine ap_bipush dX10_numbered_111 (by decide) ?_
    refine ap_put (fs2 := [.ref 121, .ref 122, am_i zp, .ref 123, am_i zt, am_i 10, am_i zd, am_i b, am_i u, .ref 124, .ref 125, am_i zu, .ref 126, .ref 127, .ref 128, .ref 129, .ref 130, .ref 131, .ref 132, .ref 133, .ref 134, .ref 135, am_i zc, .ref 136, .ref 137, .ref 138, .ref 139, .ref 140, am_i zg]) ff_X10_80 fc_X10_5 dX10_numbered_113 (by omega) hM (fun _ => ⟨rfl, rfl⟩) (Nat.le_of_ble_eq_true rfl) rfl (fun μ1 xe2 xf3 => ?_)
    refine ap_iload_n dX10_numbered_116 rfl rfl ?_
    refine ap_iconst dX10_numbered_117 ?_
    refine ap_cS (As := [am_i ch, am_i 1]) (rest := []) (cm_isDigit hc (by omega)) dX10_numbered_118 lk_X10_104 hy_X10_isDigit rfl (Nat.le_of_ble_eq_true rfl) ⟨Nat.le_of_ble_eq_true rfl, Nat.le_of_ble_eq_true rfl⟩ ⟨rfl, rfl⟩ ⟨Nat.le_of_ble_eq_true rfl, Nat.le_of_ble_eq_true rfl⟩ (fun xr4 xN5 μ6 xq7 => ?_)
    obtain ⟨rfl, rfl, rfl⟩ := xq7
    have xm8 : μ1 124 = am_I 0 4 f := (xf3 _ (by omega)).trans hI
    exact ap_iret dX10_numbered_121 rfl (am_nz (by split <;> omega)) (Nat.le_of_ble_eq_true rfl) (Nat.le_of_ble_eq_true rfl) (mp_if (a := 7) (b := b) (w := w) (u := u) (q := 0) (y := 0) (by simp [gst, c100]) (fun x hx1 hx2 => (xf3 x (by omega))) xe2 xm8 (⟨rfl, rfl, hb, hu, hw, by omega, ms_7 _, mit_mono hi⟩))
  · refine ap_aload_n dX10_numbered_103 rfl rfl ?_
    refine ap_iconst dX10_numbered_104 ?_
    refine ap_put (fs2 := [.ref 121, .ref 122, am_i zp, .ref 123, am_i zt, am_i 0, am_i zd, am_i b, am_i u, .ref 124, .ref 125, am_i zu, .ref 126, .ref 127, .ref 128, .ref 129, .ref 130, .ref 131, .ref 132, .ref 133, .ref 134, .ref 135, am_i zc, .ref 136, .ref 137, .ref 138, .ref 139, .ref 140, am_i zg]) ff_X10_80 fc_X10_5 dX10_numbered_105 (by omega) hM (fun _ => ⟨rfl, rfl⟩) (Nat.le_of_ble_eq_true rfl) rfl (fun μ9 xe10 xf11 => ?_)
    refine ap_iconst dX10_numbered_108 ?_
    have xm12 : μ9 124 = am_I 0 4 f := (xf11 _ (by omega)).trans hI
    exact ap_iret dX10_numbered_109 rfl (am_nz (by first | omega | decide)) (Nat.le_of_ble_eq_true rfl) (Nat.le_of_ble_eq_true rfl) (⟨rfl, fun x hx1 hx2 => (xf11 x (by omega)), Or.inl ⟨0, b, w, u, 0, 0, _, _, _, _, _, by subst c100; simp [gst, dg], rfl, xe10, xm12, ⟨rfl, rfl, hb, hu, hw, by omega, ms_0 _, mit_mono hi⟩⟩⟩)

theorem cm_num {N : Nat} {μ : am_M} {zp zt zm zd b u zu zc zg K w ch : Int} {f : Nat → Int} (hM : μ 120 = mcl zp zt zm zd b u zu zc zg) (hI : μ 124 = am_I 0 4 f) (hN : 141 ≤ N) (hb : 0 ≤ b ∧ b ≤ 2) (hu : u = 0 ∨ u = 1) (hw : w = 0 ∨ w = 1) {a q y : Int} (hq0 : 0 ≤ q ∧ q ≤ 2) (hs : mst a q y zm zd) (hi : mit b w f K) (hK : 0 ≤ K ∧ K ≤ 1000) (hc : -2147483648 ≤ ch ∧ ch ≤ 2147483647) (hz : zm ≠ 0 ∧ zm ≠ 1 ∧ zm ≠ 2 ∧ zm ≠ 3 ∧ zm ≠ 4) : am_Met YX10_numbered [.ref 120, am_i ch] N μ (mpost N μ zp zt zu zc zg (K + 1) (gst a b w u q y ch)) := by
  obtain ⟨z0, z1, z2, z3, z4⟩ := hz
  rcases hs with ⟨_, h, _⟩ | ⟨_, h, _⟩ | ⟨_, h, _⟩ | ⟨rfl, rfl, ⟨rfl, h⟩ | ⟨rfl, h⟩ | ⟨rfl, rfl⟩ | ⟨rfl, rfl⟩ | ⟨rfl, rfl⟩ | ⟨rfl, rfl⟩ | ⟨rfl, rfl⟩ | ⟨rfl, rfl⟩⟩
  · exact absurd h z0
  · exact absurd h z3
  · exact absurd h z4
  · exact absurd h z1
  · exact absurd h z2
  · exact cm_num3 hM hI hN hb hu hw hi hK hc
  · exact cm_num4 hM hI hN hb hu hw hi hK hc
  · exact cm_num5 hM hI hN hb hu hw hi hK hc
  · exact cm_num6 hM hI hN hb hu hw hi hK hc
  · exact cm_num7 hM hI hN hb hu hw hi hK hc
  · exact cm_num8 hM hI hN hb hu hw hi hK hc
theorem ms_at0 {a q y zm zd : Int} (h : mst a q y zm zd) (hz : zm = 0) : a = 0 ∧ q = 0 ∧ y = 0 := by
  subst hz; simpa [mst] using h
theorem ms_at1 {a q y zm zd : Int} (h : mst a q y zm zd) (hz : zm = 1) : a = 1 ∧ q = 0 ∧ y = 0 := by
  subst hz; simp [mst] at h; omega
theorem ms_at2 {a q y zm zd : Int} (h : mst a q y zm zd) (hz : zm = 2) : a = 2 ∧ q = 0 ∧ y = 0 := by
  subst hz; simp [mst] at h; omega
theorem ms_at3 {a q y zm zd : Int} (h : mst a q y zm zd) (hz : zm = 3 ∨ zm = 4) : a = 0 ∧ ((zm = 3 ∧ zd = 2 - q ∧ y = 1) ∨ (zm = 4 ∧ zd = 2 - q ∧ y = 0)) := by
  rcases hz with rfl | rfl <;> simp [mst] at h <;> simp [h]
set_option maxHeartbeats 4000000 in
set_option maxRecDepth 100000 in
theorem cm_may {N : Nat} {μ : am_M} {zp zt zm zd b u zu zc zg K w ch : Int} {f : Nat → Int} (hM : μ 120 = mcl zp zt zm zd b u zu zc zg) (hI : μ 124 = am_I 0 4 f) (hN : 141 ≤ N) (hb : 0 ≤ b ∧ b ≤ 2) (hu : u = 0 ∨ u = 1) (hw : w = 0 ∨ w = 1) {a q y : Int} (hq0 : 0 ≤ q ∧ q ≤ 2) (hs : mst a q y zm zd) (hi : mit b w f K) (hK : 0 ≤ K ∧ K ≤ 1000) (hc : -2147483648 ≤ ch ∧ ch ≤ 2147483647) (hzr : 0 ≤ zm ∧ zm ≤ 10) : am_Met YX10_may [.ref 120, am_i ch] N μ (mpost N μ zp zt zu zc zg (K + 1) (gst a b w u q y ch)) := by
  refine am_met (by first | decide | rfl) (Nat.le_of_ble_eq_true rfl) (fun h => by first | rfl | cases h) ?_
  show am_W YX10_may _ 0 0 0 [(0, .ref 120), (1, am_i ch)] [] _ _
  refine ap_aload_n dX10_may_0 rfl rfl ?_
  refine ap_get ff_X10_80 dX10_may_1 (by omega) hM rfl ?_
  by_cases c4_0 : zm = 0
  · refine ap_tableIn (off := 36) (tgt := 40) dX10_may_4 (by omega) (by omega) (by rw [c4_0]; rfl) (by decide) ?_
    obtain ⟨rfl, rfl, rfl⟩ := ms_at0 hs c4_0
    refine ap_aload_n dX10_may_40 rfl rfl ?_
    refine ap_iload_n dX10_may_41 rfl rfl ?_
    refine ap_cV (As := [am_i ch]) (rest := []) (cm_begins hM hI hN hb hu hw hi hK hc) dX10_may_42 lk_X10_101 hy_X10_begins rfl (by omega) hM ⟨_, _, rfl⟩ (Nat.le_of_ble_eq_true rfl) ⟨Nat.le_of_ble_eq_true rfl, Nat.le_of_ble_eq_true rfl⟩ ⟨rfl, rfl⟩ ⟨Nat.le_of_ble_eq_true rfl, Nat.le_of_ble_eq_true rfl⟩ (fun r2 N2 μ2 hq => ?_)
    exact mp_ret dX10_may_45 rfl hq (fun x hx1 hx2 => rfl) (by simp [gst])
  · by_cases c4_1 : zm = 1
    · refine ap_tableIn (off := 42) (tgt := 46) dX10_may_4 (by omega) (by omega) (by rw [c4_1]; rfl) (by decide) ?_
      obtain ⟨rfl, rfl, rfl⟩ := ms_at1 hs c4_1
      refine ap_aload_n dX10_may_46 rfl rfl ?_
      refine ap_get ff_X10_19 dX10_may_47 (by omega) hM rfl ?_
      refine ap_aload_n dX10_may_50 rfl rfl ?_
      refine ap_get ff_X10_90 dX10_may_51 (by omega) hM rfl ?_
      refine ap_dup2 dX10_may_54 rfl rfl ?_
      refine ap_iald (j := b.toNat) dX10_may_55 (by omega) hI (by omega) (by omega) ?_
      refine ap_iconst dX10_may_56 ?_
      refine ap_iadd dX10_may_57 ?_
      refine ap_iast (j := b.toNat) dX10_may_58 (by omega) hI (by omega) (by omega) (fun μ1 xe2 xf3 => ?_)
      refine ap_aload_n dX10_may_59 rfl rfl ?_
      refine ap_iconst dX10_may_60 ?_
      have xm4 : μ1 120 = am_O 10 [.ref 121, .ref 122, am_i zp, .ref 123, am_i zt, am_i zm, am_i zd, am_i b, am_i u, .ref 124, .ref 125, am_i zu, .ref 126, .ref 127, .ref 128, .ref 129, .ref 130, .ref 131, .ref 132, .ref 133, .ref 134, .ref 135, am_i zc, .ref 136, .ref 137, .ref 138, .ref 139, .ref 140, am_i zg] := (xf3 _ (by omega)).trans hM
      refine ap_put (fs2 := [.ref 121, .ref 122, am_i zp, .ref 123, am_i zt, am_i 3, am_i zd, am_i b, am_i u, .ref 124, .ref 125, am_i zu, .ref 126, .ref 127, .ref 128, .ref 129, .ref 130, .ref 131, .ref 132, .ref 133, .ref 134, .ref 135, am_i zc, .ref 136, .ref 137, .ref 138, .ref 139, .ref 140, am_i zg]) ff_X10_80 fc_X10_5 dX10_may_61 (by omega) xm4 (fun _ => ⟨rfl, rfl⟩) (Nat.le_of_ble_eq_true rfl) rfl (fun μ5 xe6 xf7 => ?_)
      refine ap_aload_n dX10_may_64 rfl rfl ?_
      refine ap_iconst dX10_may_65 ?_
      refine ap_put (fs2 := [.ref 121, .ref 122, am_i zp, .ref 123, am_i zt, am_i 3, am_i 0, am_i b, am_i u, .ref 124, .ref 125, am_i zu, .ref 126, .ref 127, .ref 128, .ref 129, .ref 130, .ref 131, .ref 132, .ref 133, .ref 134, .ref 135, am_i zc, .ref 136, .ref 137, .ref 138, .ref 139, .ref 140, am_i zg]) ff_X10_87 fc_X10_6 dX10_may_66 (by omega) xe6 (fun _ => ⟨rfl, rfl⟩) (Nat.le_of_ble_eq_true rfl) rfl (fun μ8 xe9 xf10 => ?_)
      refine ap_iload_n dX10_may_69 rfl rfl ?_
      refine ap_cS (As := [am_i ch]) (rest := []) (cm_halvings hc) dX10_may_70 lk_X10_83 hy_X10_halvings rfl (Nat.le_of_ble_eq_true rfl) ⟨Nat.le_of_ble_eq_true rfl, Nat.le_of_ble_eq_true rfl⟩ ⟨rfl, rfl⟩ ⟨Nat.le_of_ble_eq_true rfl, Nat.le_of_ble_eq_true rfl⟩ (fun xr11 xN12 μ13 xq14 => ?_)
      obtain ⟨rfl, rfl, rfl⟩ := xq14
      have hh := hv_r ch
      refine ap_if_lt (tgt := 80) dX10_may_73 (by decide) (by omega) (fun c73 => ?_) (fun c73 => ?_)
      · refine ap_iconst dX10_may_80 ?_
        have xm15 : μ8 124 = am_I 0 4 (va_up f b.toNat ((f b.toNat) + 1)) := (xf10 _ (by omega)).trans ((xf7 _ (by omega)).trans xe2)
        exact ap_iret dX10_may_81 rfl (am_nz (by first | omega | decide)) (Nat.le_of_ble_eq_true rfl) (Nat.le_of_ble_eq_true rfl) (⟨rfl, fun x hx1 hx2 => (xf10 x (by omega)).trans ((xf7 x (by omega)).trans ((xf3 x (by omega)))), Or.inr ⟨by simp [gst, show ¬ 0 ≤ hv ch by omega], rfl, _, _, _, _, _, xe9, xm15⟩⟩)
      · refine ap_iconst dX10_may_76 ?_
        refine ap_goto (tgt := 81) dX10_may_77 (by decide) ?_
        have xm16 : μ8 124 = am_I 0 4 (va_up f b.toNat ((f b.toNat) + 1)) := (xf10 _ (by omega)).trans ((xf7 _ (by omega)).trans xe2)
        exact ap_iret dX10_may_81 rfl (am_nz (by first | omega | decide)) (Nat.le_of_ble_eq_true rfl) (Nat.le_of_ble_eq_true rfl) (⟨rfl, fun x hx1 hx2 => (xf10 x (by omega)).trans ((xf7 x (by omega)).trans ((xf3 x (by omega)))), Or.inl ⟨0, b, 1, u, 2, 1, _, _, _, _, _, by simp [gst, show 0 ≤ hv ch by omega], rfl, xe9, xm16, ⟨rfl, rfl, hb, hu, Or.inr rfl, by omega, ms_n, mit_inc hi⟩⟩⟩)
    · by_cases c4_2 : zm = 2
      · refine ap_tableIn (off := 78) (tgt := 82) dX10_may_4 (by omega) (by omega) (by rw [c4_2]; rfl) (by decide) ?_
        obtain ⟨rfl, rfl, rfl⟩ := ms_at2 hs c4_2
        refine ap_aload_n dX10_may_82 rfl rfl ?_
        refine ap_get ff_X10_19 dX10_may_83 (by omega) hM rfl ?_
        refine ap_aload_n dX10_may_86 rfl rfl ?_
        refine ap_get ff_X10_90 dX10_may_87 (by omega) hM rfl ?_
        refine ap_dup2 dX10_may_90 rfl rfl ?_
        refine ap_iald (j := b.toNat) dX10_may_91 (by omega) hI (by omega) (by omega) ?_
        refine ap_iconst dX10_may_92 ?_
        refine ap_iadd dX10_may_93 ?_
        refine ap_iast (j := b.toNat) dX10_may_94 (by omega) hI (by omega) (by omega) (fun μ17 xe18 xf19 => ?_)
        refine ap_aload_n dX10_may_95 rfl rfl ?_
        refine ap_iconst dX10_may_96 ?_
        have xm20 : μ17 120 = am_O 10 [.ref 121, .ref 122, am_i zp, .ref 123, am_i zt, am_i zm, am_i zd, am_i b, am_i u, .ref 124, .ref 125, am_i zu, .ref 126, .ref 127, .ref 128, .ref 129, .ref 130, .ref 131, .ref 132, .ref 133, .ref 134, .ref 135, am_i zc, .ref 136, .ref 137, .ref 138, .ref 139, .ref 140, am_i zg] := (xf19 _ (by omega)).trans hM
        refine ap_put (fs2 := [.ref 121, .ref 122, am_i zp, .ref 123, am_i zt, am_i 4, am_i zd, am_i b, am_i u, .ref 124, .ref 125, am_i zu, .ref 126, .ref 127, .ref 128, .ref 129, .ref 130, .ref 131, .ref 132, .ref 133, .ref 134, .ref 135, am_i zc, .ref 136, .ref 137, .ref 138, .ref 139, .ref 140, am_i zg]) ff_X10_80 fc_X10_5 dX10_may_97 (by omega) xm20 (fun _ => ⟨rfl, rfl⟩) (Nat.le_of_ble_eq_true rfl) rfl (fun μ21 xe22 xf23 => ?_)
        refine ap_aload_n dX10_may_100 rfl rfl ?_
        refine ap_iconst dX10_may_101 ?_
        refine ap_put (fs2 := [.ref 121, .ref 122, am_i zp, .ref 123, am_i zt, am_i 4, am_i 0, am_i b, am_i u, .ref 124, .ref 125, am_i zu, .ref 126, .ref 127, .ref 128, .ref 129, .ref 130, .ref 131, .ref 132, .ref 133, .ref 134, .ref 135, am_i zc, .ref 136, .ref 137, .ref 138, .ref 139, .ref 140, am_i zg]) ff_X10_87 fc_X10_6 dX10_may_102 (by omega) xe22 (fun _ => ⟨rfl, rfl⟩) (Nat.le_of_ble_eq_true rfl) rfl (fun μ24 xe25 xf26 => ?_)
        refine ap_iload_n dX10_may_105 rfl rfl ?_
        refine ap_cS (As := [am_i ch]) (rest := []) (cm_halvings hc) dX10_may_106 lk_X10_83 hy_X10_halvings rfl (Nat.le_of_ble_eq_true rfl) ⟨Nat.le_of_ble_eq_true rfl, Nat.le_of_ble_eq_true rfl⟩ ⟨rfl, rfl⟩ ⟨Nat.le_of_ble_eq_true rfl, Nat.le_of_ble_eq_true rfl⟩ (fun xr27 xN28 μ29 xq30 => ?_)
        obtain ⟨rfl, rfl, rfl⟩ := xq30
        have hh := hv_r ch
        refine ap_if_lt (tgt := 116) dX10_may_109 (by decide) (by omega) (fun c109 => ?_) (fun c109 => ?_)
        · refine ap_iconst dX10_may_116 ?_
          have xm31 : μ24 124 = am_I 0 4 (va_up f b.toNat ((f b.toNat) + 1)) := (xf26 _ (by omega)).trans ((xf23 _ (by omega)).trans xe18)
          exact ap_iret dX10_may_117 rfl (am_nz (by first | omega | decide)) (Nat.le_of_ble_eq_true rfl) (Nat.le_of_ble_eq_true rfl) (⟨rfl, fun x hx1 hx2 => (xf26 x (by omega)).trans ((xf23 x (by omega)).trans ((xf19 x (by omega)))), Or.inr ⟨by simp [gst, show ¬ 0 ≤ hv ch by omega], rfl, _, _, _, _, _, xe25, xm31⟩⟩)
        · refine ap_iconst dX10_may_112 ?_
          refine ap_goto (tgt := 117) dX10_may_113 (by decide) ?_
          have xm32 : μ24 124 = am_I 0 4 (va_up f b.toNat ((f b.toNat) + 1)) := (xf26 _ (by omega)).trans ((xf23 _ (by omega)).trans xe18)
          exact ap_iret dX10_may_117 rfl (am_nz (by first | omega | decide)) (Nat.le_of_ble_eq_true rfl) (Nat.le_of_ble_eq_true rfl) (⟨rfl, fun x hx1 hx2 => (xf26 x (by omega)).trans ((xf23 x (by omega)).trans ((xf19 x (by omega)))), Or.inl ⟨0, b, 1, u, 2, 0, _, _, _, _, _, by simp [gst, show 0 ≤ hv ch by omega], rfl, xe25, xm32, ⟨rfl, rfl, hb, hu, Or.inr rfl, by omega, ms_r, mit_inc hi⟩⟩⟩)
      · by_cases c4_3 : zm = 3
        · refine ap_tableIn (off := 114) (tgt := 118) dX10_may_4 (by omega) (by omega) (by rw [c4_3]; rfl) (by decide) ?_
          refine ap_aload_n dX10_may_118 rfl rfl ?_
          refine ap_iload_n dX10_may_119 rfl rfl ?_
          obtain ⟨rfl, hs3⟩ := ms_at3 hs (Or.inl c4_3)
          refine ap_cV (As := [am_i ch]) (rest := []) (cm_dotted hM hI hN hb hu hw hq0 hs3 hi hK hc) dX10_may_120 lk_X10_108 hy_X10_dotted rfl (by omega) hM ⟨_, _, rfl⟩ (Nat.le_of_ble_eq_true rfl) ⟨Nat.le_of_ble_eq_true rfl, Nat.le_of_ble_eq_true rfl⟩ ⟨rfl, rfl⟩ ⟨Nat.le_of_ble_eq_true rfl, Nat.le_of_ble_eq_true rfl⟩ (fun r2 N2 μ2 hq => ?_)
          exact mp_ret dX10_may_123 rfl hq (fun x hx1 hx2 => rfl) (by simp [gst])
        · by_cases c4_4 : zm = 4
          · refine ap_tableIn (off := 120) (tgt := 124) dX10_may_4 (by omega) (by omega) (by rw [c4_4]; rfl) (by decide) ?_
            refine ap_aload_n dX10_may_124 rfl rfl ?_
            refine ap_iload_n dX10_may_125 rfl rfl ?_
            obtain ⟨rfl, hs3⟩ := ms_at3 hs (Or.inr c4_4)
            refine ap_cV (As := [am_i ch]) (rest := []) (cm_dotted hM hI hN hb hu hw hq0 hs3 hi hK hc) dX10_may_126 lk_X10_108 hy_X10_dotted rfl (by omega) hM ⟨_, _, rfl⟩ (Nat.le_of_ble_eq_true rfl) ⟨Nat.le_of_ble_eq_true rfl, Nat.le_of_ble_eq_true rfl⟩ ⟨rfl, rfl⟩ ⟨Nat.le_of_ble_eq_true rfl, Nat.le_of_ble_eq_true rfl⟩ (fun r2 N2 μ2 hq => ?_)
            exact mp_ret dX10_may_129 rfl hq (fun x hx1 hx2 => rfl) (by simp [gst])
          · refine ap_tableOut (tgt := 130) dX10_may_4 (by omega) (by omega) (by decide) ?_
            refine ap_aload_n dX10_may_130 rfl rfl ?_
            refine ap_iload_n dX10_may_131 rfl rfl ?_
            refine ap_cV (As := [am_i ch]) (rest := []) (cm_num hM hI hN hb hu hw hq0 hs hi hK hc ⟨c4_0, c4_1, c4_2, c4_3, c4_4⟩) dX10_may_132 lk_X10_111 hy_X10_numbered rfl (by omega) hM ⟨_, _, rfl⟩ (Nat.le_of_ble_eq_true rfl) ⟨Nat.le_of_ble_eq_true rfl, Nat.le_of_ble_eq_true rfl⟩ ⟨rfl, rfl⟩ ⟨Nat.le_of_ble_eq_true rfl, Nat.le_of_ble_eq_true rfl⟩ (fun r2 N2 μ2 hq => ?_)
            exact mp_ret dX10_may_135 rfl hq (fun x hx1 hx2 => rfl) (rfl)

