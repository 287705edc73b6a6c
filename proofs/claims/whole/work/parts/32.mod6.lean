def Shp (μ : am_M) : Prop := (∃ f, μ 125 = am_I 0 1200 f) ∧ (∃ f, μ 126 = am_L 1200 f) ∧ (∃ f, μ 127 = am_L 1200 f) ∧ (∃ f, μ 128 = am_I 0 1200 f) ∧ (∃ f, μ 129 = am_I 0 1200 f) ∧ (∃ f, μ 130 = am_I 0 1200 f) ∧ (∃ f, μ 131 = am_I 0 4 f) ∧ (∃ f, μ 132 = am_L 4 f) ∧ (∃ f, μ 133 = am_I 0 4 f) ∧ (∃ f, μ 134 = am_L 1200 f) ∧ (∃ f, μ 135 = am_I 3 1200 f) ∧ (∃ f, μ 136 = am_I 0 3 f) ∧ (∃ f, μ 137 = am_I 0 3 f)
theorem Shp.kept {μ μ2 : am_M} (h : Shp μ) (hf : ∀ x, 125 ≤ x → x ≤ 137 → μ2 x = μ x) : Shp μ2 := by
  obtain ⟨⟨f0, h0⟩, ⟨f1, h1⟩, ⟨f2, h2⟩, ⟨f3, h3⟩, ⟨f4, h4⟩, ⟨f5, h5⟩, ⟨f6, h6⟩, ⟨f7, h7⟩, ⟨f8, h8⟩, ⟨f9, h9⟩, ⟨f10, h10⟩, ⟨f11, h11⟩, ⟨f12, h12⟩⟩ := h
  exact ⟨⟨_, (hf _ (by omega) (by omega)).trans h0⟩, ⟨_, (hf _ (by omega) (by omega)).trans h1⟩, ⟨_, (hf _ (by omega) (by omega)).trans h2⟩, ⟨_, (hf _ (by omega) (by omega)).trans h3⟩, ⟨_, (hf _ (by omega) (by omega)).trans h4⟩, ⟨_, (hf _ (by omega) (by omega)).trans h5⟩, ⟨_, (hf _ (by omega) (by omega)).trans h6⟩, ⟨_, (hf _ (by omega) (by omega)).trans h7⟩, ⟨_, (hf _ (by omega) (by omega)).trans h8⟩, ⟨_, (hf _ (by omega) (by omega)).trans h9⟩, ⟨_, (hf _ (by omega) (by omega)).trans h10⟩, ⟨_, (hf _ (by omega) (by omega)).trans h11⟩, ⟨_, (hf _ (by omega) (by omega)).trans h12⟩⟩
/-- part p has been worked out: its events, its length -/
def Wd (μ : am_M) (p : Nat) (P : PS) : Prop := ∃ fo fs fa fb fn fm fl : Nat → Int, (μ 126 = am_L 1200 fo ∧ μ 127 = am_L 1200 fs ∧ μ 128 = am_I 0 1200 fa ∧ μ 129 = am_I 0 1200 fb ∧ μ 130 = am_I 0 1200 fn ∧ μ 131 = am_I 0 4 fm ∧ μ 132 = am_L 4 fl) ∧ wrl p P fo fs fa fb fn ∧ fm p = (p_cnt P : Int) ∧ fl p = p_tot P ∧ p_cnt P ≤ 300
def Bd (μ : am_M) (p : Nat) (P : PS) : Prop := ∃ fc bl be : Nat → Int, (μ 133 = am_I 0 4 fc ∧ μ 134 = am_L 1200 bl ∧ μ 135 = am_I 3 1200 be) ∧ fc p = (p_nb P : Int) ∧ wbr P bl be
theorem Wd.kept {μ μ2 : am_M} {p : Nat} {P : PS} (h : Wd μ p P) (hf : ∀ x, 126 ≤ x → x ≤ 132 → μ2 x = μ x) : Wd μ2 p P := by
  obtain ⟨fo, fs, fa, fb, fn, fm, fl, ⟨h1, h2, h3, h4, h5, h6, h7⟩, h8⟩ := h
  exact ⟨fo, fs, fa, fb, fn, fm, fl, ⟨(hf _ (by omega) (by omega)).trans h1, (hf _ (by omega) (by omega)).trans h2, (hf _ (by omega) (by omega)).trans h3, (hf _ (by omega) (by omega)).trans h4, (hf _ (by omega) (by omega)).trans h5, (hf _ (by omega) (by omega)).trans h6, (hf _ (by omega) (by omega)).trans h7⟩, h8⟩
/-- what a text is good for that the grammar takes -/
def gtu (xs : List Int) : Prop := xs.length ≤ 100 ∧ bwf xs ∧ swf xs ∧ (uf xs 0).length ≤ 900 ∧ (∃ A, acc (uf xs 0) A) ∧ ∀ c ∈ uf xs 0, 0 ≤ c ∧ c ≤ 126
def gtx (xs : List Int) : Prop := gtu xs ∧ lets (uf xs 0) ≤ 300
def vrel (g : Nat → Int) (C : Snap) : Prop := (∀ p, p < 4 → vtx g p (s_t C p)) ∧ g 404 = s_b C ∧ g 405 = s_v C ∧ g 406 = s_a C ∧ g 407 = s_w C
def csn (C : Snap) : Prop := (∀ p, p < 4 → gtx (s_t C p)) ∧ mrok (s_b C) (s_v C) (s_a C) (s_w C)
def Mx (μ : am_M) (b : List Int) (C : Snap) (rem : Nat) (hs : Nat → Snap) : Prop :=
  (∃ zm zd ze zi zu zc zg, μ 120 = mcl (rem : Int) (b.length : Int) zm zd ze zi zu zc zg) ∧ (∃ g, μ 121 = am_I 0 420 g ∧ vrel g C) ∧ (∃ h, μ 122 = am_I 0 2100 h ∧ ∀ k, k < rem → vrel (fun j => h (420 * k + j)) (hs k)) ∧ (∃ tg, μ 123 = am_I 0 100 tg ∧ ∀ j, j < b.length → tg j = b.getD j 0) ∧ (∃ f, μ 124 = am_I 0 4 f) ∧ Shp μ ∧ (∃ f, μ 138 = am_I 0 101 f) ∧ (∃ f, μ 139 = am_I 0 100 f) ∧ (∃ f, μ 140 = am_I 0 4 f) ∧ rem ≤ 5 ∧ b.length ≤ 100 ∧ (∀ c ∈ b, 0 ≤ c ∧ c ≤ 126) ∧ csn C ∧ ∀ k, k < rem → csn (hs k)
def mq (N : Nat) (μ : am_M) (v : Value) (b : List Int) (C : Snap) (rem : Nat) (hs : Nat → Snap) : Option Value → Nat → am_M → Prop := fun r N2 μ2 => r = some v ∧ N = N2 ∧ Mx μ2 b C rem hs ∧ ∀ x, x < 120 → μ2 x = μ x
theorem vtx_congr {g g2 : Nat → Int} {p : Nat} {xs : List Int} (h : vtx g p xs) (hg : ∀ j, 101 * p ≤ j → j < 101 * p + 101 → g2 j = g j) : vtx g2 p xs :=
  ⟨(hg _ (by omega) (by omega)).trans h.1, fun k hk => (hg _ (by omega) (by have := h.2.2.1; omega)).trans (h.2.1 k hk), h.2.2⟩
theorem vrel_congr {g g2 : Nat → Int} {C : Snap} (h : vrel g C) (hg : ∀ j, j < 420 → g2 j = g j) : vrel g2 C :=
  ⟨fun p hp => vtx_congr (h.1 p hp) (fun j _ hj => hg j (by omega)), (hg _ (by omega)).trans h.2.1, (hg _ (by omega)).trans h.2.2.1, (hg _ (by omega)).trans h.2.2.2.1, (hg _ (by omega)).trans h.2.2.2.2⟩
theorem vrel_take {g g2 : Nat → Int} {C : Snap} {p : Nat} {xs : List Int} (h : vrel g C) (hp : p < 4) (hx : vtx g2 p xs) (hg : ∀ j, ¬ (101 * p ≤ j ∧ j < 101 * p + 101) → g2 j = g j) : vrel g2 (va_up (s_t C) p xs, s_b C, s_v C, s_a C, s_w C) := by
  refine ⟨fun q hq => ?_, (hg _ (by omega)).trans h.2.1, (hg _ (by omega)).trans h.2.2.1, (hg _ (by omega)).trans h.2.2.2.1, (hg _ (by omega)).trans h.2.2.2.2⟩
  show vtx g2 q (va_up (s_t C) p xs q)
  by_cases hqp : q = p
  · subst hqp; rw [va_upe]; exact hx
  · rw [va_upn hqp]; exact vtx_congr (h.1 q hq) (fun j h1 h2 => hg j (by omega))
set_option maxHeartbeats 4000000 in
set_option maxRecDepth 100000 in
theorem wm_works0 {N : Nat} {μ : am_M} {zp zt zm zd ze zi zu zc zg : Int} {g : Nat → Int} {p : Nat} {xs : List Int} (hM : μ 120 = mcl zp zt zm zd ze zi zu zc zg) (hV : μ 121 = am_I 0 420 g) (hN : 141 ≤ N) (hp : p < 4) (hx : vtx g p xs) (hS : Shp μ) (hg : gtu xs) : am_W YX10_works (fun r N2 μ2 => r = none ∧ N = N2 ∧ (∃ zu2 zc2, μ2 120 = mcl zp zt zm zd ze zi zu2 zc2 zg ∧ zc2 = (if lets (uf xs 0) ≤ 300 then (lets (uf xs 0) : Int) else 301)) ∧ Shp μ2 ∧ (∀ x, ¬ (x = 120 ∨ (125 ≤ x ∧ x ≤ 137)) → μ2 x = μ x) ∧ (lets (uf xs 0) ≤ 300 → Wd μ2 p (psc xs) ∧ Bd μ2 p (psc xs)) ∧ ∀ q P, q < 4 → q ≠ p → Wd μ q P → Wd μ2 q P) 0 0 0 [(0, .ref 120), (1, am_i (p : Int))] [] N μ := by
  obtain ⟨⟨h, s0⟩, ⟨fo, s1⟩, ⟨fs, s2⟩, ⟨fa, s3⟩, ⟨fb, s4⟩, ⟨fn, s5⟩, ⟨fm, s6⟩, ⟨fl, s7⟩, ⟨fc, s8⟩, ⟨bl, s9⟩, ⟨be, s10⟩, ⟨up, s11⟩, ⟨lo, s12⟩⟩ := id hS
  obtain ⟨w1, w2, w3, w4, ⟨A, hA⟩, w5⟩ := id hg
  have hcn : lets (uf xs 0) ≤ 300 → p_cnt (psc xs) ≤ 300 := fun hl => (acc_bok hA w4 hl _ (Nat.le_refl _)).1.1
  show am_W YX10_works _ 0 0 0 [(0, .ref 120), (1, am_i (p : Int))] [] _ _
  refine ap_aload_n dX10_works_0 rfl rfl ?_
  refine ap_iload_n dX10_works_1 rfl rfl ?_
  refine ap_cV (As := [am_i (p : Int)]) (rest := []) (cm_unfolds hM hV hN hp hx s0 w2 w3 (by omega)) dX10_works_2 lk_X10_148 hy_X10_unfolds rfl (by omega) hM ⟨_, _, rfl⟩ (Nat.le_of_ble_eq_true rfl) ⟨Nat.le_of_ble_eq_true rfl, Nat.le_of_ble_eq_true rfl⟩ ⟨rfl, rfl⟩ ⟨Nat.le_of_ble_eq_true rfl, Nat.le_of_ble_eq_true rfl⟩ (fun xr1 xN2 μz xq3 => ?_)
  obtain ⟨rfl, rfl, hz2, h2, hz1, hz3, hz4⟩ := xq3
  refine ap_aload_n dX10_works_5 rfl rfl ?_
  refine ap_get ff_X10_41 dX10_works_6 (by omega) hz1 rfl ?_
  refine ap_iload_n dX10_works_9 rfl rfl ?_
  refine ap_iconst dX10_works_10 ?_
  have xm4 : μz 131 = am_I 0 4 fm := (hz2 _ (by omega)).trans s6
  refine ap_iast (j := p) dX10_works_11 (by omega) xm4 (by omega) (by omega) (fun μ5 xe6 xf7 => ?_)
  refine ap_aload_n dX10_works_12 rfl rfl ?_
  refine ap_iconst dX10_works_13 ?_
  have xm8 : μ5 120 = am_O 10 [.ref 121, .ref 122, am_i zp, .ref 123, am_i zt, am_i zm, am_i zd, am_i ze, am_i zi, .ref 124, .ref 125, am_i ((uf xs 0).length : Int), .ref 126, .ref 127, .ref 128, .ref 129, .ref 130, .ref 131, .ref 132, .ref 133, .ref 134, .ref 135, am_i zc, .ref 136, .ref 137, .ref 138, .ref 139, .ref 140, am_i zg] := (xf7 _ (by omega)).trans hz1
  refine ap_put (fs2 := [.ref 121, .ref 122, am_i zp, .ref 123, am_i zt, am_i zm, am_i zd, am_i ze, am_i zi, .ref 124, .ref 125, am_i ((uf xs 0).length : Int), .ref 126, .ref 127, .ref 128, .ref 129, .ref 130, .ref 131, .ref 132, .ref 133, .ref 134, .ref 135, am_i 0, .ref 136, .ref 137, .ref 138, .ref 139, .ref 140, am_i zg]) ff_X10_152 fc_X10_22 dX10_works_14 (by omega) xm8 (fun _ => ⟨rfl, rfl⟩) (Nat.le_of_ble_eq_true rfl) rfl (fun μ9 xe10 xf11 => ?_)
  refine ap_lconst (v := 0) dX10_works_17 rfl ?_
  refine ap_Lstore_n (lv2 := [(0, .ref 120), (1, am_i (p : Int)), (2, am_l 0)]) dX10_works_18 rfl (by decide) rfl ?_
  refine ap_iconst dX10_works_19 ?_
  refine ap_Istore (lv2 := [(0, .ref 120), (1, am_i (p : Int)), (2, am_l 0), (4, am_i 0)]) dX10_works_20 (by decide) rfl ?_
  refine ap_iconst dX10_works_22 ?_
  refine ap_Istore (lv2 := [(0, .ref 120), (1, am_i (p : Int)), (2, am_l 0), (4, am_i 0), (5, am_i 0)]) dX10_works_23 (by decide) rfl ?_
  refine ap_iconst dX10_works_25 ?_
  refine ap_Istore (lv2 := [(0, .ref 120), (1, am_i (p : Int)), (2, am_l 0), (4, am_i 0), (5, am_i 0), (6, am_i 0)]) dX10_works_26 (by decide) rfl ?_
  refine ap_iconst dX10_works_28 ?_
  refine ap_Istore (lv2 := [(0, .ref 120), (1, am_i (p : Int)), (2, am_l 0), (4, am_i 0), (5, am_i 0), (6, am_i 0), (7, am_i 0)]) dX10_works_29 (by decide) rfl ?_
  refine ap_iconst dX10_works_31 ?_
  refine ap_Istore (lv2 := [(0, .ref 120), (1, am_i (p : Int)), (2, am_l 0), (4, am_i 0), (5, am_i 0), (6, am_i 0), (7, am_i 0), (8, am_i 0)]) dX10_works_32 (by decide) rfl ?_
  refine ap_aload_n dX10_works_34 rfl rfl ?_
  refine ap_get ff_X10_50 dX10_works_35 (by omega) xe10 rfl ?_
  refine ap_iconst dX10_works_38 ?_
  refine ap_lconst (v := 0) dX10_works_39 rfl ?_
  have xm12 : μ9 134 = am_L 1200 bl := (xf11 _ (by omega)).trans ((xf7 _ (by omega)).trans ((hz2 _ (by omega)).trans s9))
  refine ap_last (j := 0) dX10_works_40 (by omega) xm12 (by omega) (by omega) (fun μ13 xe14 xf15 => ?_)
  refine ap_aload_n dX10_works_41 rfl rfl ?_
  have xm16 : μ13 120 = am_O 10 [.ref 121, .ref 122, am_i zp, .ref 123, am_i zt, am_i zm, am_i zd, am_i ze, am_i zi, .ref 124, .ref 125, am_i ((uf xs 0).length : Int), .ref 126, .ref 127, .ref 128, .ref 129, .ref 130, .ref 131, .ref 132, .ref 133, .ref 134, .ref 135, am_i 0, .ref 136, .ref 137, .ref 138, .ref 139, .ref 140, am_i zg] := (xf15 _ (by omega)).trans xe10
  refine ap_get ff_X10_53 dX10_works_42 (by omega) xm16 rfl ?_
  refine ap_iconst dX10_works_45 ?_
  refine ap_iconst dX10_works_46 ?_
  have xm17 : μ13 135 = am_I 3 1200 be := (xf15 _ (by omega)).trans ((xf11 _ (by omega)).trans ((xf7 _ (by omega)).trans ((hz2 _ (by omega)).trans s10)))
  refine ap_zast (j := 0) dX10_works_47 (by omega) xm17 (by omega) (by omega) (by omega) (fun μ18 xe19 xf20 => ?_)
  refine ap_iconst dX10_works_48 ?_
  refine ap_Istore (lv2 := [(0, .ref 120), (1, am_i (p : Int)), (2, am_l 0), (4, am_i 0), (5, am_i 0), (6, am_i 0), (7, am_i 0), (8, am_i 0), (9, am_i 0)]) dX10_works_49 (by decide) rfl ?_
  have xm21 : μ18 125 = am_I 0 1200 h2 := (xf20 _ (by omega)).trans ((xf15 _ (by omega)).trans ((xf11 _ (by omega)).trans ((xf7 _ (by omega)).trans hz3)))
  have xm22 : μ18 132 = am_L 4 fl := (xf20 _ (by omega)).trans ((xf15 _ (by omega)).trans ((xf11 _ (by omega)).trans ((xf7 _ (by omega)).trans ((hz2 _ (by omega)).trans s7))))
  have xm23 : μ18 133 = am_I 0 4 fc := (xf20 _ (by omega)).trans ((xf15 _ (by omega)).trans ((xf11 _ (by omega)).trans ((xf7 _ (by omega)).trans ((hz2 _ (by omega)).trans s8))))
  have xm24 : μ18 120 = am_O 10 [.ref 121, .ref 122, am_i zp, .ref 123, am_i zt, am_i zm, am_i zd, am_i ze, am_i zi, .ref 124, .ref 125, am_i ((uf xs 0).length : Int), .ref 126, .ref 127, .ref 128, .ref 129, .ref 130, .ref 131, .ref 132, .ref 133, .ref 134, .ref 135, am_i 0, .ref 136, .ref 137, .ref 138, .ref 139, .ref 140, am_i zg] := (xf20 _ (by omega)).trans xm16
  have xm25 : μ18 126 = am_L 1200 fo := (xf20 _ (by omega)).trans ((xf15 _ (by omega)).trans ((xf11 _ (by omega)).trans ((xf7 _ (by omega)).trans ((hz2 _ (by omega)).trans s1))))
  have xm26 : μ18 127 = am_L 1200 fs := (xf20 _ (by omega)).trans ((xf15 _ (by omega)).trans ((xf11 _ (by omega)).trans ((xf7 _ (by omega)).trans ((hz2 _ (by omega)).trans s2))))
  have xm27 : μ18 128 = am_I 0 1200 fa := (xf20 _ (by omega)).trans ((xf15 _ (by omega)).trans ((xf11 _ (by omega)).trans ((xf7 _ (by omega)).trans ((hz2 _ (by omega)).trans s3))))
  have xm28 : μ18 129 = am_I 0 1200 fb := (xf20 _ (by omega)).trans ((xf15 _ (by omega)).trans ((xf11 _ (by omega)).trans ((xf7 _ (by omega)).trans ((hz2 _ (by omega)).trans s4))))
  have xm29 : μ18 130 = am_I 0 1200 fn := (xf20 _ (by omega)).trans ((xf15 _ (by omega)).trans ((xf11 _ (by omega)).trans ((xf7 _ (by omega)).trans ((hz2 _ (by omega)).trans s5))))
  have xm30 : μ18 131 = am_I 0 4 (va_up fm p 0) := (xf20 _ (by omega)).trans ((xf15 _ (by omega)).trans ((xf11 _ (by omega)).trans xe6))
  have xm31 : μ18 134 = am_L 1200 (va_up bl 0 0) := (xf20 _ (by omega)).trans xe14
  have xm32 : μ18 136 = am_I 0 3 up := (xf20 _ (by omega)).trans ((xf15 _ (by omega)).trans ((xf11 _ (by omega)).trans ((xf7 _ (by omega)).trans ((hz2 _ (by omega)).trans s11))))
  have xm33 : μ18 137 = am_I 0 3 lo := (xf20 _ (by omega)).trans ((xf15 _ (by omega)).trans ((xf11 _ (by omega)).trans ((xf7 _ (by omega)).trans ((hz2 _ (by omega)).trans s12))))
  refine am_mono (lm_works (μ0 := μ18) (us := uf xs 0) (A := A) (fo0 := fo) (fs0 := fs) (fa0 := fa) (fb0 := fb) (fn0 := fn) (fm0 := fm) xm21 xm22 xm23 hz4 hA w4 w5 hN hp ((uf xs 0).length + 1) 0 _ μ18 p0 0 fo fs fa fb fn _ _ _ up lo 0 0 0 0 0 0 rfl (Nat.zero_le _) (fun x hx => rfl) xm24 xm25 xm26 xm27 xm28 xm29 xm30 xm31 xe19 xm32 xm33 rfl rfl (by omega) (fun i hi => absurd hi (Nat.not_lt_zero i)) wof.rf (by rw [va_upe]; rfl) (fun q hq => va_upn hq) (fun j hj => by
      have hj1 : j < 1 := hj
      obtain rfl : j = 0 := by omega
      rw [va_upe, va_upe]; exact ⟨rfl, rfl⟩) (fun j hj => absurd hj (Nat.not_lt_zero j)) rfl rfl rfl rfl (by rw [hA.1]; decide) (by rw [hA.1]; rfl) (by rw [hA.1]; rfl) (by omega)) (fun r N2 μ2 hq => ?_)
  obtain ⟨y1, y2, y3, zcc, fo2, fs2, fa2, fb2, fn2, fm2, fl2, fc2, bl2, be2, up2, lo2, k1, ⟨m1, m2, m3, m4, m5, m6⟩, ⟨m7, m8, m9, m10, m11, m12⟩, k2, k3, k4, k5⟩ := hq
  refine ⟨y1, y2, ⟨_, _, k1, k4⟩, ⟨⟨_, (y3 125 (by omega)).trans (xm21)⟩, ⟨_, m1⟩, ⟨_, m2⟩, ⟨_, m3⟩, ⟨_, m4⟩, ⟨_, m5⟩, ⟨_, m6⟩, ⟨_, m7⟩, ⟨_, m8⟩, ⟨_, m9⟩, ⟨_, m10⟩, ⟨_, m11⟩, ⟨_, m12⟩⟩, fun x hx => (y3 x (by omega)).trans ((xf20 x (by omega)).trans ((xf15 x (by omega)).trans ((xf11 x (by omega)).trans ((xf7 x (by omega)).trans ((hz2 x (by omega))))))), fun hl => ?_, fun q P hq4 hqp hw => ?_⟩
  · obtain ⟨j1, j2, j3, j4, j5⟩ := k5 hl
    exact ⟨⟨fo2, fs2, fa2, fb2, fn2, fm2, fl2, ⟨m1, m2, m3, m4, m5, m6, m7⟩, j1, j2, j3, hcn hl⟩, ⟨fc2, bl2, be2, ⟨m8, m9, m10⟩, j4, j5⟩⟩
  · obtain ⟨go, gs, ga, gb, gn, gm, gl, ⟨i1, i2, i3, i4, i5, i6, i7⟩, i8, i9, i10, i11⟩ := hw
    have r1 := s1.symm.trans i1
    have r2 := s2.symm.trans i2
    have r3 := s3.symm.trans i3
    have r4 := s4.symm.trans i4
    have r5 := s5.symm.trans i5
    have r6 := s6.symm.trans i6
    have r7 := s7.symm.trans i7
    injection r1 with r1; injection r1 with _ r1; injection r1 with _ r1; injection r1 with r1; injection r1 with r1
    injection r2 with r2; injection r2 with _ r2; injection r2 with _ r2; injection r2 with r2; injection r2 with r2
    injection r3 with r3; injection r3 with _ r3; injection r3 with _ r3; injection r3 with r3
    injection r4 with r4; injection r4 with _ r4; injection r4 with _ r4; injection r4 with r4
    injection r5 with r5; injection r5 with _ r5; injection r5 with _ r5; injection r5 with r5
    injection r6 with r6; injection r6 with _ r6; injection r6 with _ r6; injection r6 with r6
    injection r7 with r7; injection r7 with _ r7; injection r7 with _ r7; injection r7 with r7; injection r7 with r7
    subst r1 r2 r3 r4 r5 r6 r7
    have c300 : ∀ i, i < p_cnt P → i < 300 → fo2 (300 * q + i) = p_B P i ∧ fs2 (300 * q + i) = p_E P i - p_B P i ∧ fa2 (300 * q + i) = p_AC P i ∧ fb2 (300 * q + i) = p_BN P i ∧ fn2 (300 * q + i) = p_NC P i := by
      intro i hi h3
      obtain ⟨l1, l2, l3, l4, l5⟩ := k2 (300 * q + i) (by omega)
      obtain ⟨n1, n2, n3, n4, n5⟩ := i8 i hi
      exact ⟨l1.trans n1, l2.trans n2, l3.trans n3, l4.trans n4, l5.trans n5⟩
    exact ⟨fo2, fs2, fa2, fb2, fn2, fm2, fl2, ⟨m1, m2, m3, m4, m5, m6, m7⟩, fun i hi => c300 i hi (by have := i11; omega), (k3 q hqp).1.trans i9, (k3 q hqp).2.trans i10, i11⟩

set_option maxHeartbeats 4000000 in
set_option maxRecDepth 100000 in
theorem cm_works {N : Nat} {μ : am_M} {zp zt zm zd ze zi zu zc zg : Int} {g : Nat → Int} {p : Nat} {xs : List Int} (hM : μ 120 = mcl zp zt zm zd ze zi zu zc zg) (hV : μ 121 = am_I 0 420 g) (hN : 141 ≤ N) (hp : p < 4) (hx : vtx g p xs) (hS : Shp μ) (hg : gtu xs) : am_Met YX10_works [.ref 120, am_i (p : Int)] N μ (fun r N2 μ2 => r = none ∧ N = N2 ∧ (∃ zu2 zc2, μ2 120 = mcl zp zt zm zd ze zi zu2 zc2 zg ∧ zc2 = (if lets (uf xs 0) ≤ 300 then (lets (uf xs 0) : Int) else 301)) ∧ Shp μ2 ∧ (∀ x, ¬ (x = 120 ∨ (125 ≤ x ∧ x ≤ 137)) → μ2 x = μ x) ∧ (lets (uf xs 0) ≤ 300 → Wd μ2 p (psc xs) ∧ Bd μ2 p (psc xs)) ∧ ∀ q P, q < 4 → q ≠ p → Wd μ q P → Wd μ2 q P) := by
  refine am_met (by first | decide | rfl) (Nat.le_of_ble_eq_true rfl) (fun h => by first | rfl | cases h) ?_
  exact wm_works0 hM hV hN hp hx hS hg
theorem hnx_lt {rem : Nat} {hs : Nat → Snap} {C : Snap} (h : rem < 5) : rnx rem = rem + 1 ∧ hnx rem hs C = va_up hs rem C := ⟨if_pos h, if_pos h⟩
theorem hnx_5 {rem : Nat} {hs : Nat → Snap} {C : Snap} (h : ¬ rem < 5) : rnx rem = 5 ∧ hnx rem hs C = va_up (fun k => hs ((k + 1) % 5)) 4 C := ⟨if_neg h, if_neg h⟩
set_option maxHeartbeats 4000000 in
set_option maxRecDepth 100000 in
theorem lm_act1 {N : Nat} {μ0 : am_M} {zp zt zm zd ze zi zu zc zg : Int} {h0 : Nat → Int} {Q : Option Value → Nat → am_M → Prop} (hM0 : μ0 120 = mcl zp zt zm zd ze zi zu zc zg) (hN : 141 ≤ N) (hk : ∀ (μ : am_M) (h : Nat → Int), (∀ x, x ≠ 122 → μ x = μ0 x) → μ 122 = am_I 0 2100 h → (∀ j, j < 1680 → h j = h0 (j + 420)) → am_W YX10_act Q 0 0 39 [(0, .ref 120), (1, am_i 1680)] [] N μ) : ∀ (nn : Nat) (i : Nat) (z : Int) (μ : am_M) (h : Nat → Int), z = (i : Int) → i ≤ 1680 → (∀ x, x ≠ 122 → μ x = μ0 x) → μ 122 = am_I 0 2100 h → (∀ j, j < i → h j = h0 (j + 420)) → (∀ j, i ≤ j → h j = h0 j) → 1680 - i < nn → am_W YX10_act (Q) 0 0 10 [(0, .ref 120), (1, am_i z)] [] N μ := by
  intro nn
  induction nn with
  | zero =>
    intro i z μ h hz hi hf hH h1 h2 hm
    exfalso; omega
  | succ nn ih =>
    intro i z μ h hz hi hf hH h1 h2 hm
    have hM : μ 120 = mcl zp zt zm zd ze zi zu zc zg := (hf 120 (by omega)).trans hM0
    refine ap_iload_n dX10_act_10 rfl rfl ?_
    refine ap_sipush dX10_act_11 (by decide) ?_
    refine ap_icmp_ge (tgt := 39) dX10_act_14 (by decide) (by omega) (fun c14 => ?_) (fun c14 => ?_)
    · obtain rfl : i = 1680 := by omega
      rw [hz]
      exact hk μ h hf hH h1
    · refine ap_aload_n dX10_act_17 rfl rfl ?_
      refine ap_get ff_X10_13 dX10_act_18 (by omega) hM rfl ?_
      refine ap_iload_n dX10_act_21 rfl rfl ?_
      refine ap_aload_n dX10_act_22 rfl rfl ?_
      refine ap_get ff_X10_13 dX10_act_23 (by omega) hM rfl ?_
      refine ap_iload_n dX10_act_26 rfl rfl ?_
      refine ap_sipush dX10_act_27 (by decide) ?_
      refine ap_iadd dX10_act_30 ?_
      refine ap_iald (j := i + 420) dX10_act_31 (by omega) hH (by omega) (by omega) ?_
      refine ap_iast (j := i) dX10_act_32 (by omega) hH (by omega) (by omega) (fun μ1 xe2 xf3 => ?_)
      refine ap_Iinc (lv2 := [(0, .ref 120), (1, am_i (z + 1))]) dX10_act_33 rfl (by decide) rfl ?_
      refine ap_goto (tgt := 10) dX10_act_36 (by decide) ?_
      exact ih (i + 1) _ μ1 _ (by omega) (by omega) (fun x hx => ((xf3 x (by omega))).trans (hf x hx)) xe2 (fun j hj => by
        by_cases hq : j = i
        · rw [hq, va_upe]; exact h2 _ (by omega)
        · rw [va_upn hq]; exact h1 j (by omega)) (fun j hj => by rw [va_upn (by omega)]; exact h2 j (by omega)) (by omega)

set_option maxHeartbeats 4000000 in
set_option maxRecDepth 100000 in
theorem lm_act2 {N : Nat} {μ0 : am_M} {zt zm zd ze zi zu zc zg : Int} {g h0 : Nat → Int} {r0 : Nat} (hM0 : μ0 120 = mcl (r0 : Int) zt zm zd ze zi zu zc zg) (hV0 : μ0 121 = am_I 0 420 g) (hN : 141 ≤ N) (hr : r0 < 5) : ∀ (nn : Nat) (i : Nat) (z : Int) (μ : am_M) (h : Nat → Int), z = (i : Int) → i ≤ 420 → (∀ x, x ≠ 122 → μ x = μ0 x) → μ 122 = am_I 0 2100 h → (∀ j, j < i → h (420 * r0 + j) = g j) → (∀ j, ¬ (420 * r0 ≤ j ∧ j < 420 * r0 + 420) → h j = h0 j) → 420 - i < nn → am_W YX10_act (fun r N2 μ2 => r = none ∧ N = N2 ∧ (∀ x, ¬ (x = 120 ∨ x = 122) → μ2 x = μ0 x) ∧ μ2 120 = mcl ((r0 + 1 : Nat) : Int) zt zm zd ze zi zu zc zg ∧ ∃ h2, μ2 122 = am_I 0 2100 h2 ∧ (∀ j, j < 420 → h2 (420 * r0 + j) = g j) ∧ ∀ j, ¬ (420 * r0 ≤ j ∧ j < 420 * r0 + 420) → h2 j = h0 j) 0 0 51 [(0, .ref 120), (1, am_i z)] [] N μ := by
  intro nn
  induction nn with
  | zero =>
    intro i z μ h hz hi hf hH h1 h2 hm
    exfalso; omega
  | succ nn ih =>
    intro i z μ h hz hi hf hH h1 h2 hm
    have hM : μ 120 = mcl (r0 : Int) zt zm zd ze zi zu zc zg := (hf 120 (by omega)).trans hM0
    have hV : μ 121 = am_I 0 420 g := (hf 121 (by omega)).trans hV0
    refine ap_iload_n dX10_act_51 rfl rfl ?_
    refine ap_sipush dX10_act_52 (by decide) ?_
    refine ap_icmp_ge (tgt := 85) dX10_act_55 (by decide) (by omega) (fun c55 => ?_) (fun c55 => ?_)
    · refine ap_aload_n dX10_act_85 rfl rfl ?_
      refine ap_dup dX10_act_86 rfl ?_
      refine ap_get ff_X10_72 dX10_act_87 (by omega) hM rfl ?_
      refine ap_iconst dX10_act_90 ?_
      refine ap_iadd dX10_act_91 ?_
      refine ap_put (fs2 := [.ref 121, .ref 122, am_i ((r0 : Int) + 1), .ref 123, am_i zt, am_i zm, am_i zd, am_i ze, am_i zi, .ref 124, .ref 125, am_i zu, .ref 126, .ref 127, .ref 128, .ref 129, .ref 130, .ref 131, .ref 132, .ref 133, .ref 134, .ref 135, am_i zc, .ref 136, .ref 137, .ref 138, .ref 139, .ref 140, am_i zg]) ff_X10_72 fc_X10_2 dX10_act_92 (by omega) hM (fun _ => ⟨rfl, rfl⟩) (Nat.le_of_ble_eq_true rfl) rfl (fun μ1 xe2 xf3 => ?_)
      have xm4 : μ1 122 = am_I 0 2100 h := (xf3 _ (by omega)).trans hH
      exact ap_vret dX10_act_95 rfl (Nat.le_of_ble_eq_true rfl) (Nat.le_of_ble_eq_true rfl) (⟨rfl, rfl, fun x hx => ((xf3 x (by omega))).trans (hf x (by omega)), by rw [show ((r0 + 1 : Nat) : Int) = (r0 : Int) + 1 by omega]; exact xe2, h, xm4, fun j hj => h1 j (by omega), h2⟩)
    · refine ap_aload_n dX10_act_58 rfl rfl ?_
      refine ap_get ff_X10_13 dX10_act_59 (by omega) hM rfl ?_
      refine ap_sipush dX10_act_62 (by decide) ?_
      refine ap_aload_n dX10_act_65 rfl rfl ?_
      refine ap_get ff_X10_72 dX10_act_66 (by omega) hM rfl ?_
      refine ap_imul dX10_act_69 ?_
      refine ap_iload_n dX10_act_70 rfl rfl ?_
      refine ap_iadd dX10_act_71 ?_
      refine ap_aload_n dX10_act_72 rfl rfl ?_
      refine ap_get ff_X10_7 dX10_act_73 (by omega) hM rfl ?_
      refine ap_iload_n dX10_act_76 rfl rfl ?_
      refine ap_iald (j := i) dX10_act_77 (by omega) hV (by omega) (by omega) ?_
      refine ap_iast (j := 420 * r0 + i) dX10_act_78 (by omega) hH (by omega) (by omega) (fun μ5 xe6 xf7 => ?_)
      refine ap_Iinc (lv2 := [(0, .ref 120), (1, am_i (z + 1))]) dX10_act_79 rfl (by decide) rfl ?_
      refine ap_goto (tgt := 51) dX10_act_82 (by decide) ?_
      exact ih (i + 1) _ μ5 _ (by omega) (by omega) (fun x hx => ((xf7 x (by omega))).trans (hf x hx)) xe6 (fun j hj => by
        by_cases hq : j = i
        · rw [hq, va_upe]
        · rw [va_upn (by omega)]; exact h1 j (by omega)) (fun j hj => by rw [va_upn (by omega)]; exact h2 j hj) (by omega)

set_option maxHeartbeats 4000000 in
set_option maxRecDepth 100000 in
theorem cm_act {N : Nat} {μ : am_M} {zt zm zd ze zi zu zc zg : Int} {g h : Nat → Int} {rem : Nat} {hs : Nat → Snap} {C : Snap} (hM : μ 120 = mcl (rem : Int) zt zm zd ze zi zu zc zg) (hV : μ 121 = am_I 0 420 g) (hH : μ 122 = am_I 0 2100 h) (hN : 141 ≤ N) (hr5 : rem ≤ 5) (hvr : vrel g C) (hpr : ∀ k, k < rem → vrel (fun j => h (420 * k + j)) (hs k)) : am_Met YX10_act [.ref 120] N μ (fun r N2 μ2 => r = none ∧ N = N2 ∧ (∀ x, ¬ (x = 120 ∨ x = 122) → μ2 x = μ x) ∧ μ2 120 = mcl ((rnx rem : Nat) : Int) zt zm zd ze zi zu zc zg ∧ ∃ h2, μ2 122 = am_I 0 2100 h2 ∧ ∀ k, k < rnx rem → vrel (fun j => h2 (420 * k + j)) (hnx rem hs C k)) := by
  refine am_met (by first | decide | rfl) (Nat.le_of_ble_eq_true rfl) (fun h => by first | rfl | cases h) ?_
  show am_W YX10_act _ 0 0 0 [(0, .ref 120)] [] _ _
  refine ap_aload_n dX10_act_0 rfl rfl ?_
  refine ap_get ff_X10_72 dX10_act_1 (by omega) hM rfl ?_
  refine ap_iconst dX10_act_4 ?_
  refine ap_icmp_ne (tgt := 49) dX10_act_5 (by decide) (by omega) (fun c5 => ?_) (fun c5 => ?_)
  · refine ap_iconst dX10_act_49 ?_
    refine ap_Istore_n (lv2 := [(0, .ref 120), (1, am_i 0)]) dX10_act_50 rfl (by decide) rfl ?_
    obtain ⟨u1, u2⟩ := hnx_lt (rem := rem) (hs := hs) (C := C) (by omega)
    rw [u1, u2]
    refine am_mono (lm_act2 (μ0 := μ) (r0 := rem) (h0 := h) hM hV hN (by omega) 421 0 _ μ h rfl (by omega) (fun x hx => rfl) hH (fun j hj => absurd hj (Nat.not_lt_zero j)) (fun j hj => rfl) (by omega)) (fun r N2 μ2 hq => ?_)
    obtain ⟨z1, z2, z3, z4, hz, z5, z6, z7⟩ := hq
    refine ⟨z1, z2, z3, z4, hz, z5, fun k hk => ?_⟩
    by_cases hq : k = rem
    · subst hq; rw [va_upe]
      exact vrel_congr hvr (fun j hj => z6 j hj)
    · rw [va_upn hq]
      exact vrel_congr (hpr k (by omega)) (fun j hj => z7 _ (by omega))
  · refine ap_iconst dX10_act_8 ?_
    refine ap_Istore_n (lv2 := [(0, .ref 120), (1, am_i 0)]) dX10_act_9 rfl (by decide) rfl ?_
    refine lm_act1 (h0 := h) hM hN ?_ 1681 0 _ μ h rfl (by omega) (fun x hx => rfl) hH (fun j hj => absurd hj (Nat.not_lt_zero j)) (fun j hj => rfl) (by omega)
    intro μy hy hy1 hy2 hy3
    refine ap_aload_n dX10_act_39 rfl rfl ?_
    refine ap_dup dX10_act_40 rfl ?_
    have xm1 : μy 120 = am_O 10 [.ref 121, .ref 122, am_i (rem : Int), .ref 123, am_i zt, am_i zm, am_i zd, am_i ze, am_i zi, .ref 124, .ref 125, am_i zu, .ref 126, .ref 127, .ref 128, .ref 129, .ref 130, .ref 131, .ref 132, .ref 133, .ref 134, .ref 135, am_i zc, .ref 136, .ref 137, .ref 138, .ref 139, .ref 140, am_i zg] := (hy1 _ (by omega)).trans hM
    refine ap_get ff_X10_72 dX10_act_41 (by omega) xm1 rfl ?_
    refine ap_iconst dX10_act_44 ?_
    refine ap_isub dX10_act_45 ?_
    refine ap_put (fs2 := [.ref 121, .ref 122, am_i ((rem : Int) - 1), .ref 123, am_i zt, am_i zm, am_i zd, am_i ze, am_i zi, .ref 124, .ref 125, am_i zu, .ref 126, .ref 127, .ref 128, .ref 129, .ref 130, .ref 131, .ref 132, .ref 133, .ref 134, .ref 135, am_i zc, .ref 136, .ref 137, .ref 138, .ref 139, .ref 140, am_i zg]) ff_X10_72 fc_X10_2 dX10_act_46 (by omega) xm1 (fun _ => ⟨rfl, rfl⟩) (Nat.le_of_ble_eq_true rfl) rfl (fun μ2 xe3 xf4 => ?_)
    refine ap_iconst dX10_act_49 ?_
    refine ap_Istore_n (lv2 := [(0, .ref 120), (1, am_i 0)]) dX10_act_50 rfl (by decide) rfl ?_
    have xm5 : μ2 121 = am_I 0 420 g := (xf4 _ (by omega)).trans ((hy1 _ (by omega)).trans hV)
    have xm6 : μ2 122 = am_I 0 2100 hy := (xf4 _ (by omega)).trans hy2
    have h5 : rem = 5 := by omega
    obtain ⟨u1, u2⟩ := hnx_5 (rem := rem) (hs := hs) (C := C) (by omega)
    rw [u1, u2]
    refine am_mono (lm_act2 (μ0 := μ2) (r0 := 4) (h0 := hy) (by rw [show ((4 : Nat) : Int) = (rem : Int) - 1 by omega]; exact xe3) xm5 hN (by omega) 421 0 _ μ2 hy rfl (by omega) (fun x hx => rfl) xm6 (fun j hj => absurd hj (Nat.not_lt_zero j)) (fun j hj => rfl) (by omega)) (fun r N2 μ2 hq => ?_)
    obtain ⟨z1, z2, z3, z4, hz, z5, z6, z7⟩ := hq
    refine ⟨z1, z2, fun x hx => (z3 x hx).trans ((xf4 x (by omega)).trans ((hy1 x (by omega)))), z4, hz, z5, fun k hk => ?_⟩
    by_cases hq : k = 4
    · subst hq; rw [va_upe]
      exact vrel_congr hvr (fun j hj => z6 j hj)
    · rw [va_upn hq]
      have := hpr (k + 1) (by omega)
      rw [show (k + 1) % 5 = k + 1 by omega]
      refine vrel_congr this (fun j hj => ?_)
      show hz (420 * k + j) = h (420 * (k + 1) + j)
      rw [z7 _ (by omega), hy3 _ (by omega)]
      congr 1; omega

set_option maxHeartbeats 4000000 in
set_option maxRecDepth 100000 in
theorem lm_takes {N : Nat} {μ0 : am_M} {zp zt zm zd ze zi zu zc zg : Int} {g0 fr : Nat → Int} {p n q : Nat} (hM0 : μ0 120 = mcl zp zt zm zd ze zi zu zc zg) (hq0 : μ0 q = am_I 0 100 fr) (hqn : q ≠ 121 ∧ q < N) (hN : 141 ≤ N) (hp : p < 4) (hn : n ≤ 100) : ∀ (nn : Nat) (i : Nat) (z : Int) (μ : am_M) (g : Nat → Int), z = (i : Int) → i ≤ 100 → (∀ x, x ≠ 121 → μ x = μ0 x) → μ 121 = am_I 0 420 g → g (101 * p) = (n : Int) → (∀ k, k < i → k < n → g (101 * p + 1 + k) = fr k) → (∀ j, ¬ (101 * p ≤ j ∧ j < 101 * p + 101) → g j = g0 j) → 100 - i < nn → am_W YX10_takes (fun r N2 μ2 => r = none ∧ N = N2 ∧ (∀ x, x ≠ 121 → μ2 x = μ0 x) ∧ ∃ g2, μ2 121 = am_I 0 420 g2 ∧ g2 (101 * p) = (n : Int) ∧ (∀ k, k < n → g2 (101 * p + 1 + k) = fr k) ∧ ∀ j, ¬ (101 * p ≤ j ∧ j < 101 * p + 101) → g2 j = g0 j) 0 0 13 [(0, .ref 120), (1, am_i (p : Int)), (2, .ref q), (3, am_i (n : Int)), (4, am_i z)] [] N μ := by
  intro nn
  induction nn with
  | zero =>
    intro i z μ g hz hi hf hV h0 h1 h2 hm
    exfalso; omega
  | succ nn ih =>
    intro i z μ g hz hi hf hV h0 h1 h2 hm
    have hM : μ 120 = mcl zp zt zm zd ze zi zu zc zg := (hf 120 (by omega)).trans hM0
    have hq1 : μ q = am_I 0 100 fr := (hf q hqn.1).trans hq0
    obtain ⟨hqa, hqb⟩ := hqn
    refine ap_iload dX10_takes_13 rfl ?_
    refine ap_bipush dX10_takes_15 (by decide) ?_
    refine ap_icmp_ge (tgt := 54) dX10_takes_17 (by decide) (by omega) (fun c17 => ?_) (fun c17 => ?_)
    · exact ap_vret dX10_takes_54 rfl (Nat.le_of_ble_eq_true rfl) (Nat.le_of_ble_eq_true rfl) (⟨rfl, rfl, hf, g, hV, h0, fun k hk => h1 k (by omega) hk, h2⟩)
    · refine ap_aload_n dX10_takes_20 rfl rfl ?_
      refine ap_get ff_X10_7 dX10_takes_21 (by omega) hM rfl ?_
      refine ap_bipush dX10_takes_24 (by decide) ?_
      refine ap_iload_n dX10_takes_26 rfl rfl ?_
      refine ap_imul dX10_takes_27 ?_
      refine ap_iconst dX10_takes_28 ?_
      refine ap_iadd dX10_takes_29 ?_
      refine ap_iload dX10_takes_30 rfl ?_
      refine ap_iadd dX10_takes_32 ?_
      refine ap_iload dX10_takes_33 rfl ?_
      refine ap_iload_n dX10_takes_35 rfl rfl ?_
      refine ap_icmp_ge (tgt := 46) dX10_takes_36 (by decide) (by omega) (fun c36 => ?_) (fun c36 => ?_)
      · refine ap_iconst dX10_takes_46 ?_
        refine ap_iast (j := 101 * p + 1 + i) dX10_takes_47 (by omega) hV (by omega) (by omega) (fun μ1 xe2 xf3 => ?_)
        refine ap_Iinc (lv2 := [(0, .ref 120), (1, am_i (p : Int)), (2, .ref q), (3, am_i (n : Int)), (4, am_i (z + 1))]) dX10_takes_48 rfl (by decide) rfl ?_
        refine ap_goto (tgt := 13) dX10_takes_51 (by decide) ?_
        exact ih (i + 1) _ μ1 _ (by omega) (by omega) (fun x hx => ((xf3 x (by omega))).trans (hf x hx)) xe2 (by rw [va_upn (by omega)]; exact h0) (fun k hk hkn => by rw [va_upn (by omega)]; exact h1 k (by omega) hkn) (fun j hj => by rw [va_upn (by omega)]; exact h2 j hj) (by omega)
      · refine ap_aload_n dX10_takes_39 rfl rfl ?_
        refine ap_iload dX10_takes_40 rfl ?_
        refine ap_iald (j := i) dX10_takes_42 (by omega) hq1 (by omega) (by omega) ?_
        refine ap_goto (tgt := 47) dX10_takes_43 (by decide) ?_
        refine ap_iast (j := 101 * p + 1 + i) dX10_takes_47 (by omega) hV (by omega) (by omega) (fun μ4 xe5 xf6 => ?_)
        refine ap_Iinc (lv2 := [(0, .ref 120), (1, am_i (p : Int)), (2, .ref q), (3, am_i (n : Int)), (4, am_i (z + 1))]) dX10_takes_48 rfl (by decide) rfl ?_
        refine ap_goto (tgt := 13) dX10_takes_51 (by decide) ?_
        exact ih (i + 1) _ μ4 _ (by omega) (by omega) (fun x hx => ((xf6 x (by omega))).trans (hf x hx)) xe5 (by rw [va_upn (by omega)]; exact h0) (fun k hk hkn => by
          by_cases hj : k = i
          · rw [hj, va_upe]
          · rw [va_upn (by omega)]; exact h1 k (by omega) hkn) (fun j hj => by rw [va_upn (by omega)]; exact h2 j hj) (by omega)

set_option maxHeartbeats 4000000 in
set_option maxRecDepth 100000 in
theorem cm_takes {N : Nat} {μ : am_M} {zp zt zm zd ze zi zu zc zg : Int} {g fr : Nat → Int} {p n q : Nat} (hM : μ 120 = mcl zp zt zm zd ze zi zu zc zg) (hV : μ 121 = am_I 0 420 g) (hq : μ q = am_I 0 100 fr) (hqn : q ≠ 121 ∧ q < N) (hN : 141 ≤ N) (hp : p < 4) (hn : n ≤ 100) : am_Met YX10_takes [.ref 120, am_i (p : Int), .ref q, am_i (n : Int)] N μ (fun r N2 μ2 => r = none ∧ N = N2 ∧ (∀ x, x ≠ 121 → μ2 x = μ x) ∧ ∃ g2, μ2 121 = am_I 0 420 g2 ∧ g2 (101 * p) = (n : Int) ∧ (∀ k, k < n → g2 (101 * p + 1 + k) = fr k) ∧ ∀ j, ¬ (101 * p ≤ j ∧ j < 101 * p + 101) → g2 j = g j) := by
  refine am_met (by first | decide | rfl) (Nat.le_of_ble_eq_true rfl) (fun h => by first | rfl | cases h) ?_
  show am_W YX10_takes _ 0 0 0 [(0, .ref 120), (1, am_i (p : Int)), (2, .ref q), (3, am_i (n : Int))] [] _ _
  refine ap_aload_n dX10_takes_0 rfl rfl ?_
  refine ap_get ff_X10_7 dX10_takes_1 (by omega) hM rfl ?_
  refine ap_bipush dX10_takes_4 (by decide) ?_
  refine ap_iload_n dX10_takes_6 rfl rfl ?_
  refine ap_imul dX10_takes_7 ?_
  refine ap_iload_n dX10_takes_8 rfl rfl ?_
  refine ap_iast (j := 101 * p) dX10_takes_9 (by omega) hV (by omega) (by omega) (fun μ1 xe2 xf3 => ?_)
  refine ap_iconst dX10_takes_10 ?_
  refine ap_Istore (lv2 := [(0, .ref 120), (1, am_i (p : Int)), (2, .ref q), (3, am_i (n : Int)), (4, am_i 0)]) dX10_takes_11 (by decide) rfl ?_
  exact am_mono (lm_takes (μ0 := μ) (g0 := g) hM hq hqn hN hp hn 101 0 _ μ1 _ rfl (by omega) (fun x hx => (xf3 x (by omega))) xe2 va_upe (fun k hk => absurd hk (Nat.not_lt_zero k)) (fun j hj => va_upn (by omega)) (by omega)) (fun r N2 μ2 hq => hq)

def wx (μ μ2 : am_M) (b : List Int) (C : Snap) (rem : Nat) (hs : Nat → Snap) (p : Nat) : Prop := Mx μ2 b C rem hs ∧ Wd μ2 p (psc (s_t C p)) ∧ Bd μ2 p (psc (s_t C p)) ∧ (∀ q P, q < 4 → q ≠ p → Wd μ q P → Wd μ2 q P) ∧ ∀ x, ¬ (x = 120 ∨ (125 ≤ x ∧ x ≤ 137)) → μ2 x = μ x
theorem cm_worksX {N : Nat} {μ : am_M} {b : List Int} {C : Snap} {rem : Nat} {hs : Nat → Snap} (hX : Mx μ b C rem hs) (hN : 141 ≤ N) {p : Nat} (hp : p < 4) : am_Met YX10_works [.ref 120, am_i (p : Int)] N μ (fun r N2 μ2 => r = none ∧ N = N2 ∧ wx μ μ2 b C rem hs p) := by
  obtain ⟨⟨zm, zd, ze, zi, zu, zc, zg, hM⟩, ⟨g, hV, hv1⟩, ⟨h, hH, hh1⟩, ⟨tg, hT, ht1⟩, ⟨fi, hI⟩, hS, ⟨f8, h138⟩, ⟨f9, h139⟩, ⟨f0, h140⟩, hr5, hb1, hb2, hC, hhs⟩ := id hX
  refine am_met (by first | decide | rfl) (Nat.le_of_ble_eq_true rfl) (fun h => by first | rfl | cases h) ?_
  refine am_mono (wm_works0 hM hV hN hp (hv1.1 p hp) hS (hC.1 p hp).1) (fun r N2 μ2 hq => ?_)
  obtain ⟨q1, q2, ⟨zu2, zc2, q3, -⟩, q4, q5, q6, q7⟩ := hq
  obtain ⟨w1, w2⟩ := q6 (hC.1 p hp).2
  exact ⟨q1, q2, ⟨⟨_, _, _, _, _, _, _, q3⟩, ⟨g, (q5 121 (by omega)).trans hV, hv1⟩, ⟨h, (q5 122 (by omega)).trans hH, hh1⟩, ⟨tg, (q5 123 (by omega)).trans hT, ht1⟩, ⟨fi, (q5 124 (by omega)).trans hI⟩, q4, ⟨f8, (q5 138 (by omega)).trans h138⟩, ⟨f9, (q5 139 (by omega)).trans h139⟩, ⟨f0, (q5 140 (by omega)).trans h140⟩, hr5, hb1, hb2, hC, hhs⟩, w1, w2, q7, q5⟩
theorem gtx_pgd {xs : List Int} (h : gtx xs) : ∃ L k b, pgd (psc xs) L k b := by
  obtain ⟨⟨w1, w2, w3, w4, ⟨A, hA⟩, w5⟩, hl⟩ := h
  exact ⟨_, _, _, acc_pgd hA w4 (uf xs 0).length (Nat.le_refl _) (by rw [List.take_length]; exact hl)⟩
theorem gtx_pok {xs : List Int} (h : gtx xs) : pok (psc xs) := by
  obtain ⟨L, k, b, hg⟩ := gtx_pgd h
  exact hg.1
