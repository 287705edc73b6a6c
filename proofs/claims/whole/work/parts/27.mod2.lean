theorem ms_a0 {a q y zm zd : Int} (h : mst a q y zm zd) : (a = 0 ↔ (zm = 0 ∨ zm = 3 ∨ zm = 4)) ∧ 0 ≤ zm ∧ zm ≤ 10 := by
  rcases h with ⟨rfl, rfl, _⟩ | ⟨rfl, rfl, _⟩ | ⟨rfl, rfl, _⟩ | ⟨_, _, ⟨rfl, rfl⟩ | ⟨rfl, rfl⟩ | ⟨rfl, rfl⟩ | ⟨rfl, rfl⟩ | ⟨rfl, rfl⟩ | ⟨rfl, rfl⟩ | ⟨rfl, rfl⟩ | ⟨rfl, rfl⟩⟩ <;> decide
set_option maxHeartbeats 4000000 in
set_option maxRecDepth 100000 in
theorem wm_wrong {N : Nat} {μ : am_M} {zp zt zm zd b u zu zc zg a k : Int} (hM : μ 120 = mcl zp zt zm zd b u zu zc zg) (hN : 141 ≤ N) (hb : 0 ≤ b ∧ b ≤ 2) (hu : u = 0 ∨ u = 1) (hs : (a = 0 ↔ (zm = 0 ∨ zm = 3 ∨ zm = 4)) ∧ 0 ≤ zm ∧ zm ≤ 10) : am_W YX10_wrongAt (am_pv (am_i (if a = 0 ∧ b = 0 ∧ u = 0 then -1 else zt)) N μ) 0 0 46 [(0, .ref 120), (1, am_i k)] [] N μ := by
  obtain ⟨hs1, hs2⟩ := hs
  refine ap_aload_n dX10_wrongAt_46 rfl rfl ?_
  refine ap_get ff_X10_80 dX10_wrongAt_47 (by omega) hM rfl ?_
  refine ap_if_eq (tgt := 69) dX10_wrongAt_50 (by decide) (by omega) (fun c50 => ?_) (fun c50 => ?_)
  · refine ap_aload_n dX10_wrongAt_69 rfl rfl ?_
    refine ap_get ff_X10_90 dX10_wrongAt_70 (by omega) hM rfl ?_
    refine ap_if_ne (tgt := 87) dX10_wrongAt_73 (by decide) (by omega) (fun c73 => ?_) (fun c73 => ?_)
    · refine ap_iconst dX10_wrongAt_87 ?_
      refine ap_Istore_n (lv2 := [(0, .ref 120), (1, am_i 0)]) dX10_wrongAt_88 rfl (by decide) rfl ?_
      refine ap_iload_n dX10_wrongAt_89 rfl rfl ?_
      refine ap_if_eq (tgt := 97) dX10_wrongAt_90 (by decide) (by omega) (fun c90 => ?_) (fun c90 => (by exfalso; omega))
      refine ap_aload_n dX10_wrongAt_97 rfl rfl ?_
      refine ap_get ff_X10_114 dX10_wrongAt_98 (by omega) hM rfl ?_
      exact ap_iret dX10_wrongAt_101 rfl rfl (Nat.le_of_ble_eq_true rfl) (Nat.le_of_ble_eq_true rfl) (⟨by rw [if_neg (by omega)], rfl, rfl⟩)
    · refine ap_aload_n dX10_wrongAt_76 rfl rfl ?_
      refine ap_get ff_X10_97 dX10_wrongAt_77 (by omega) hM rfl ?_
      refine ap_if_ne (tgt := 87) dX10_wrongAt_80 (by decide) (by omega) (fun c80 => ?_) (fun c80 => ?_)
      · refine ap_iconst dX10_wrongAt_87 ?_
        refine ap_Istore_n (lv2 := [(0, .ref 120), (1, am_i 0)]) dX10_wrongAt_88 rfl (by decide) rfl ?_
        refine ap_iload_n dX10_wrongAt_89 rfl rfl ?_
        refine ap_if_eq (tgt := 97) dX10_wrongAt_90 (by decide) (by omega) (fun c90 => ?_) (fun c90 => (by exfalso; omega))
        refine ap_aload_n dX10_wrongAt_97 rfl rfl ?_
        refine ap_get ff_X10_114 dX10_wrongAt_98 (by omega) hM rfl ?_
        exact ap_iret dX10_wrongAt_101 rfl rfl (Nat.le_of_ble_eq_true rfl) (Nat.le_of_ble_eq_true rfl) (⟨by rw [if_neg (by omega)], rfl, rfl⟩)
      · refine ap_iconst dX10_wrongAt_83 ?_
        refine ap_goto (tgt := 88) dX10_wrongAt_84 (by decide) ?_
        refine ap_Istore_n (lv2 := [(0, .ref 120), (1, am_i 1)]) dX10_wrongAt_88 rfl (by decide) rfl ?_
        refine ap_iload_n dX10_wrongAt_89 rfl rfl ?_
        refine ap_if_eq (tgt := 97) dX10_wrongAt_90 (by decide) (by omega) (fun c90 => (by exfalso; omega)) (fun c90 => ?_)
        refine ap_iconst dX10_wrongAt_93 ?_
        refine ap_goto (tgt := 101) dX10_wrongAt_94 (by decide) ?_
        exact ap_iret dX10_wrongAt_101 rfl rfl (Nat.le_of_ble_eq_true rfl) (Nat.le_of_ble_eq_true rfl) (⟨by rw [if_pos (by omega)], rfl, rfl⟩)
  · refine ap_aload_n dX10_wrongAt_53 rfl rfl ?_
    refine ap_get ff_X10_80 dX10_wrongAt_54 (by omega) hM rfl ?_
    refine ap_iconst dX10_wrongAt_57 ?_
    refine ap_icmp_eq (tgt := 69) dX10_wrongAt_58 (by decide) (by omega) (fun c58 => ?_) (fun c58 => ?_)
    · refine ap_aload_n dX10_wrongAt_69 rfl rfl ?_
      refine ap_get ff_X10_90 dX10_wrongAt_70 (by omega) hM rfl ?_
      refine ap_if_ne (tgt := 87) dX10_wrongAt_73 (by decide) (by omega) (fun c73 => ?_) (fun c73 => ?_)
      · refine ap_iconst dX10_wrongAt_87 ?_
        refine ap_Istore_n (lv2 := [(0, .ref 120), (1, am_i 0)]) dX10_wrongAt_88 rfl (by decide) rfl ?_
        refine ap_iload_n dX10_wrongAt_89 rfl rfl ?_
        refine ap_if_eq (tgt := 97) dX10_wrongAt_90 (by decide) (by omega) (fun c90 => ?_) (fun c90 => (by exfalso; omega))
        refine ap_aload_n dX10_wrongAt_97 rfl rfl ?_
        refine ap_get ff_X10_114 dX10_wrongAt_98 (by omega) hM rfl ?_
        exact ap_iret dX10_wrongAt_101 rfl rfl (Nat.le_of_ble_eq_true rfl) (Nat.le_of_ble_eq_true rfl) (⟨by rw [if_neg (by omega)], rfl, rfl⟩)
      · refine ap_aload_n dX10_wrongAt_76 rfl rfl ?_
        refine ap_get ff_X10_97 dX10_wrongAt_77 (by omega) hM rfl ?_
        refine ap_if_ne (tgt := 87) dX10_wrongAt_80 (by decide) (by omega) (fun c80 => ?_) (fun c80 => ?_)
        · refine ap_iconst dX10_wrongAt_87 ?_
          refine ap_Istore_n (lv2 := [(0, .ref 120), (1, am_i 0)]) dX10_wrongAt_88 rfl (by decide) rfl ?_
          refine ap_iload_n dX10_wrongAt_89 rfl rfl ?_
          refine ap_if_eq (tgt := 97) dX10_wrongAt_90 (by decide) (by omega) (fun c90 => ?_) (fun c90 => (by exfalso; omega))
          refine ap_aload_n dX10_wrongAt_97 rfl rfl ?_
          refine ap_get ff_X10_114 dX10_wrongAt_98 (by omega) hM rfl ?_
          exact ap_iret dX10_wrongAt_101 rfl rfl (Nat.le_of_ble_eq_true rfl) (Nat.le_of_ble_eq_true rfl) (⟨by rw [if_neg (by omega)], rfl, rfl⟩)
        · refine ap_iconst dX10_wrongAt_83 ?_
          refine ap_goto (tgt := 88) dX10_wrongAt_84 (by decide) ?_
          refine ap_Istore_n (lv2 := [(0, .ref 120), (1, am_i 1)]) dX10_wrongAt_88 rfl (by decide) rfl ?_
          refine ap_iload_n dX10_wrongAt_89 rfl rfl ?_
          refine ap_if_eq (tgt := 97) dX10_wrongAt_90 (by decide) (by omega) (fun c90 => (by exfalso; omega)) (fun c90 => ?_)
          refine ap_iconst dX10_wrongAt_93 ?_
          refine ap_goto (tgt := 101) dX10_wrongAt_94 (by decide) ?_
          exact ap_iret dX10_wrongAt_101 rfl rfl (Nat.le_of_ble_eq_true rfl) (Nat.le_of_ble_eq_true rfl) (⟨by rw [if_pos (by omega)], rfl, rfl⟩)
    · refine ap_aload_n dX10_wrongAt_61 rfl rfl ?_
      refine ap_get ff_X10_80 dX10_wrongAt_62 (by omega) hM rfl ?_
      refine ap_iconst dX10_wrongAt_65 ?_
      refine ap_icmp_ne (tgt := 87) dX10_wrongAt_66 (by decide) (by omega) (fun c66 => ?_) (fun c66 => ?_)
      · refine ap_iconst dX10_wrongAt_87 ?_
        refine ap_Istore_n (lv2 := [(0, .ref 120), (1, am_i 0)]) dX10_wrongAt_88 rfl (by decide) rfl ?_
        refine ap_iload_n dX10_wrongAt_89 rfl rfl ?_
        refine ap_if_eq (tgt := 97) dX10_wrongAt_90 (by decide) (by omega) (fun c90 => ?_) (fun c90 => (by exfalso; omega))
        refine ap_aload_n dX10_wrongAt_97 rfl rfl ?_
        refine ap_get ff_X10_114 dX10_wrongAt_98 (by omega) hM rfl ?_
        exact ap_iret dX10_wrongAt_101 rfl rfl (Nat.le_of_ble_eq_true rfl) (Nat.le_of_ble_eq_true rfl) (⟨by rw [if_neg (by omega)], rfl, rfl⟩)
      · refine ap_aload_n dX10_wrongAt_69 rfl rfl ?_
        refine ap_get ff_X10_90 dX10_wrongAt_70 (by omega) hM rfl ?_
        refine ap_if_ne (tgt := 87) dX10_wrongAt_73 (by decide) (by omega) (fun c73 => ?_) (fun c73 => ?_)
        · refine ap_iconst dX10_wrongAt_87 ?_
          refine ap_Istore_n (lv2 := [(0, .ref 120), (1, am_i 0)]) dX10_wrongAt_88 rfl (by decide) rfl ?_
          refine ap_iload_n dX10_wrongAt_89 rfl rfl ?_
          refine ap_if_eq (tgt := 97) dX10_wrongAt_90 (by decide) (by omega) (fun c90 => ?_) (fun c90 => (by exfalso; omega))
          refine ap_aload_n dX10_wrongAt_97 rfl rfl ?_
          refine ap_get ff_X10_114 dX10_wrongAt_98 (by omega) hM rfl ?_
          exact ap_iret dX10_wrongAt_101 rfl rfl (Nat.le_of_ble_eq_true rfl) (Nat.le_of_ble_eq_true rfl) (⟨by rw [if_neg (by omega)], rfl, rfl⟩)
        · refine ap_aload_n dX10_wrongAt_76 rfl rfl ?_
          refine ap_get ff_X10_97 dX10_wrongAt_77 (by omega) hM rfl ?_
          refine ap_if_ne (tgt := 87) dX10_wrongAt_80 (by decide) (by omega) (fun c80 => ?_) (fun c80 => ?_)
          · refine ap_iconst dX10_wrongAt_87 ?_
            refine ap_Istore_n (lv2 := [(0, .ref 120), (1, am_i 0)]) dX10_wrongAt_88 rfl (by decide) rfl ?_
            refine ap_iload_n dX10_wrongAt_89 rfl rfl ?_
            refine ap_if_eq (tgt := 97) dX10_wrongAt_90 (by decide) (by omega) (fun c90 => ?_) (fun c90 => (by exfalso; omega))
            refine ap_aload_n dX10_wrongAt_97 rfl rfl ?_
            refine ap_get ff_X10_114 dX10_wrongAt_98 (by omega) hM rfl ?_
            exact ap_iret dX10_wrongAt_101 rfl rfl (Nat.le_of_ble_eq_true rfl) (Nat.le_of_ble_eq_true rfl) (⟨by rw [if_neg (by omega)], rfl, rfl⟩)
          · refine ap_iconst dX10_wrongAt_83 ?_
            refine ap_goto (tgt := 88) dX10_wrongAt_84 (by decide) ?_
            refine ap_Istore_n (lv2 := [(0, .ref 120), (1, am_i 1)]) dX10_wrongAt_88 rfl (by decide) rfl ?_
            refine ap_iload_n dX10_wrongAt_89 rfl rfl ?_
            refine ap_if_eq (tgt := 97) dX10_wrongAt_90 (by decide) (by omega) (fun c90 => (by exfalso; omega)) (fun c90 => ?_)
            refine ap_iconst dX10_wrongAt_93 ?_
            refine ap_goto (tgt := 101) dX10_wrongAt_94 (by decide) ?_
            exact ap_iret dX10_wrongAt_101 rfl rfl (Nat.le_of_ble_eq_true rfl) (Nat.le_of_ble_eq_true rfl) (⟨by rw [if_pos (by omega)], rfl, rfl⟩)

set_option maxHeartbeats 4000000 in
set_option maxRecDepth 100000 in
theorem lm_wrongAt {N : Nat} {μ0 : am_M} {xs : List Int} {zp zu zc zg : Int} {tg : Nat → Int} (hT : μ0 123 = am_I 0 100 tg) (hTx : ∀ j, j < xs.length → tg j = xs.getD j 0) (hl : xs.length ≤ 100) (hch : ∀ c ∈ xs, 0 ≤ c ∧ c ≤ 126) (hN : 141 ≤ N) {R : Int} : ∀ (nn : Nat) (i : Nat) (z : Int) (μ : am_M) (a : Int) (b : Int) (w : Int) (u : Int) (q : Int) (y : Int) (zm : Int) (zd : Int) (f : Nat → Int), z = (i : Int) → i ≤ xs.length → (∀ x, ¬ (x = 120 ∨ x = 124) → μ x = μ0 x) → μ 120 = mcl zp (xs.length : Int) zm zd b u zu zc zg → μ 124 = am_I 0 4 f → mrel a b w u q y zm zd b u f (i : Int) → gw (a, b, w, u, q, y) (xs.drop i) (i : Int) = R → xs.length - i < nn → am_W YX10_wrongAt (fun r N2 μ2 => r = some (am_i (if R = -9 then -1 else R)) ∧ N = N2 ∧ (∀ x, ¬ (x = 120 ∨ x = 124) → μ2 x = μ0 x) ∧ ∃ zm zd ze zi f, μ2 120 = mcl zp (xs.length : Int) zm zd ze zi zu zc zg ∧ μ2 124 = am_I 0 4 f) 0 0 17 [(0, .ref 120), (1, am_i z)] [] N μ := by
  intro nn
  induction nn with
  | zero =>
    intro i z μ a b w u q y zm zd f hz hi hf hM hI hr hR hm
    exfalso; omega
  | succ nn ih =>
    intro i z μ a b w u q y zm zd f hz hi hf hM hI hr hR hm
    obtain ⟨-, -, hb, hu, hw, hq0, hs, hit⟩ := hr
    have hT3 : μ 123 = am_I 0 100 tg := (hf 123 (by omega)).trans hT
    refine ap_iload_n dX10_wrongAt_17 rfl rfl ?_
    refine ap_aload_n dX10_wrongAt_18 rfl rfl ?_
    refine ap_get ff_X10_114 dX10_wrongAt_19 (by omega) hM rfl ?_
    refine ap_icmp_ge (tgt := 46) dX10_wrongAt_22 (by decide) (by omega) (fun c22 => ?_) (fun c22 => ?_)
    · rw [show xs.drop i = [] from List.drop_eq_nil_of_le (by omega), gw_nil] at hR
      refine am_mono (wm_wrong hM hN hb hu (ms_a0 hs)) (fun r N2 μ2 hq => ?_)
      obtain ⟨rfl, rfl, rfl⟩ := hq
      refine ⟨?_, rfl, fun x hx => hf x hx, _, _, _, _, _, hM, hI⟩
      by_cases hcc : a = 0 ∧ b = 0 ∧ u = 0
      · rw [if_pos hcc] at hR; rw [← hR, if_pos hcc, if_pos rfl]
      · rw [if_neg hcc] at hR; rw [← hR, if_neg hcc, if_neg (by omega), show i = xs.length by omega]
    · have hlt : i < xs.length := by omega
      have hch1 := hch _ (am_gd hlt)
      rw [List.drop_eq_getElem_cons hlt, show xs[i] = xs.getD i 0 by simp [List.getD_eq_getElem?_getD, List.getElem?_eq_getElem hlt], gw] at hR
      refine ap_aload_n dX10_wrongAt_25 rfl rfl ?_
      refine ap_aload_n dX10_wrongAt_26 rfl rfl ?_
      refine ap_get ff_X10_16 dX10_wrongAt_27 (by omega) hM rfl ?_
      refine ap_iload_n dX10_wrongAt_30 rfl rfl ?_
      refine ap_iald (j := i) dX10_wrongAt_31 (by omega) hT3 (by omega) (by omega) ?_
      refine ap_topi (b := xs.getD i 0) (show (tg i) = (xs.getD i 0) from hTx i hlt) ?_
      refine ap_cV (As := [am_i (xs.getD i 0)]) (rest := []) (cm_may (K := (i : Int)) hM hI hN hb hu hw hq0 hs hit (by omega) (ch := xs.getD i 0) (by omega) (ms_a0 hs).2) dX10_wrongAt_32 lk_X10_117 hy_X10_may rfl (by omega) hM ⟨_, _, rfl⟩ (Nat.le_of_ble_eq_true rfl) ⟨Nat.le_of_ble_eq_true rfl, Nat.le_of_ble_eq_true rfl⟩ ⟨rfl, rfl⟩ ⟨Nat.le_of_ble_eq_true rfl, Nat.le_of_ble_eq_true rfl⟩ (fun xr1 xN2 μz xq3 => ?_)
      obtain ⟨rfl, hz2, hz3⟩ := xq3
      obtain ⟨v, hv1, hv2, a2, b2, w2, u2, q2, y2, zm2, zd2, ze2, zi2, f2, hz1, hz6, hz4⟩ : ∃ v : Int, xr1 = some (am_i v) ∧ (v = 0 ∨ v = 1) ∧ ∃ a2 b2 w2 u2 q2 y2 zm2 zd2 ze2 zi2 f2, μz 120 = mcl zp (xs.length : Int) zm2 zd2 ze2 zi2 zu zc zg ∧ μz 124 = am_I 0 4 f2 ∧ ((v = 1 ∧ gst a b w u q y (xs.getD i 0) = some (a2, b2, w2, u2, q2, y2) ∧ mrel a2 b2 w2 u2 q2 y2 zm2 zd2 ze2 zi2 f2 ((i : Int) + 1)) ∨ (v = 0 ∧ gst a b w u q y (xs.getD i 0) = none)) := by
        rcases hz3 with ⟨a2, b2, w2, u2, q2, y2, zm2, zd2, ze2, zi2, f2, g1, g2, g3, g4, g5⟩ | ⟨g1, g2, zm2, zd2, ze2, zi2, f2, g3, g4⟩
        · exact ⟨1, g2, Or.inr rfl, a2, b2, w2, u2, q2, y2, zm2, zd2, ze2, zi2, f2, g3, g4, Or.inl ⟨rfl, g1, g5⟩⟩
        · exact ⟨0, g2, Or.inl rfl, 0, 0, 0, 0, 0, 0, zm2, zd2, ze2, zi2, f2, g3, g4, Or.inr ⟨rfl, g1⟩⟩
      subst hv1
      have hz5 : ∀ x, ¬ (x = 120 ∨ x = 124) → μz x = μ x := fun x hx => hz2 x (by omega) (by omega)
      refine ap_if_ne (tgt := 40) dX10_wrongAt_35 (by decide) (by omega) (fun c35 => ?_) (fun c35 => ?_)
      · refine ap_Iinc (lv2 := [(0, .ref 120), (1, am_i (z + 1))]) dX10_wrongAt_40 rfl (by decide) rfl ?_
        refine ap_goto (tgt := 17) dX10_wrongAt_43 (by decide) ?_
        rcases hz4 with ⟨-, g2, g3⟩ | ⟨g1, -⟩
        · simp only [g2] at hR
          obtain ⟨rfl, rfl, g4⟩ := g3
          exact ih (i + 1) _ μz a2 ze2 w2 zi2 q2 y2 zm2 zd2 f2 (by omega) (by omega) (fun x hx => (hz5 x hx).trans (hf x hx)) hz1 hz6 ⟨rfl, rfl, g4⟩ (by rw [show ((i + 1 : Nat) : Int) = (i : Int) + 1 from by omega]; exact hR) (by omega)
        · omega
      · refine ap_iload_n dX10_wrongAt_38 rfl rfl ?_
        exact ap_iret dX10_wrongAt_39 rfl rfl (Nat.le_of_ble_eq_true rfl) (Nat.le_of_ble_eq_true rfl) (⟨(by rcases hz4 with ⟨g1, -⟩ | ⟨-, g2⟩ <;> first | omega | (simp only [g2] at hR; rw [← hR, if_neg (by omega), hz])), rfl, fun x hx => (hz5 x hx).trans (hf x hx), _, _, _, _, _, hz1, hz6⟩)

set_option maxHeartbeats 4000000 in
set_option maxRecDepth 100000 in
theorem cm_wrongAt {N : Nat} {μ : am_M} {xs : List Int} {zp zu zc zg : Int} {tg : Nat → Int} (hT : μ 123 = am_I 0 100 tg) (hTx : ∀ j, j < xs.length → tg j = xs.getD j 0) (hl : xs.length ≤ 100) (hch : ∀ c ∈ xs, 0 ≤ c ∧ c ≤ 126) (hN : 141 ≤ N)  {zm zd ze zi : Int} {f : Nat → Int} (hM : μ 120 = mcl zp (xs.length : Int) zm zd ze zi zu zc zg) (hI : μ 124 = am_I 0 4 f) : am_Met YX10_wrongAt [.ref 120] N μ (fun r N2 μ2 => r = some (am_i (if gwb xs = -9 then -1 else gwb xs)) ∧ N = N2 ∧ (∀ x, ¬ (x = 120 ∨ x = 124) → μ2 x = μ x) ∧ ∃ zm zd ze zi f, μ2 120 = mcl zp (xs.length : Int) zm zd ze zi zu zc zg ∧ μ2 124 = am_I 0 4 f) := by
  refine am_met (by first | decide | rfl) (Nat.le_of_ble_eq_true rfl) (fun h => by first | rfl | cases h) ?_
  show am_W YX10_wrongAt _ 0 0 0 [(0, .ref 120)] [] _ _
  refine ap_aload_n dX10_wrongAt_0 rfl rfl ?_
  refine ap_iconst dX10_wrongAt_1 ?_
  refine ap_put (fs2 := [.ref 121, .ref 122, am_i zp, .ref 123, am_i (xs.length : Int), am_i 0, am_i zd, am_i ze, am_i zi, .ref 124, .ref 125, am_i zu, .ref 126, .ref 127, .ref 128, .ref 129, .ref 130, .ref 131, .ref 132, .ref 133, .ref 134, .ref 135, am_i zc, .ref 136, .ref 137, .ref 138, .ref 139, .ref 140, am_i zg]) ff_X10_80 fc_X10_5 dX10_wrongAt_2 (by omega) hM (fun _ => ⟨rfl, rfl⟩) (Nat.le_of_ble_eq_true rfl) rfl (fun μ1 xe2 xf3 => ?_)
  refine ap_aload_n dX10_wrongAt_5 rfl rfl ?_
  refine ap_iconst dX10_wrongAt_6 ?_
  refine ap_put (fs2 := [.ref 121, .ref 122, am_i zp, .ref 123, am_i (xs.length : Int), am_i 0, am_i zd, am_i 0, am_i zi, .ref 124, .ref 125, am_i zu, .ref 126, .ref 127, .ref 128, .ref 129, .ref 130, .ref 131, .ref 132, .ref 133, .ref 134, .ref 135, am_i zc, .ref 136, .ref 137, .ref 138, .ref 139, .ref 140, am_i zg]) ff_X10_90 fc_X10_7 dX10_wrongAt_7 (by omega) xe2 (fun _ => ⟨rfl, rfl⟩) (Nat.le_of_ble_eq_true rfl) rfl (fun μ4 xe5 xf6 => ?_)
  refine ap_aload_n dX10_wrongAt_10 rfl rfl ?_
  refine ap_iconst dX10_wrongAt_11 ?_
  refine ap_put (fs2 := [.ref 121, .ref 122, am_i zp, .ref 123, am_i (xs.length : Int), am_i 0, am_i zd, am_i 0, am_i 0, .ref 124, .ref 125, am_i zu, .ref 126, .ref 127, .ref 128, .ref 129, .ref 130, .ref 131, .ref 132, .ref 133, .ref 134, .ref 135, am_i zc, .ref 136, .ref 137, .ref 138, .ref 139, .ref 140, am_i zg]) ff_X10_97 fc_X10_8 dX10_wrongAt_12 (by omega) xe5 (am_bool (by omega)) (Nat.le_of_ble_eq_true rfl) rfl (fun μ7 xe8 xf9 => ?_)
  refine ap_iconst dX10_wrongAt_15 ?_
  refine ap_Istore_n (lv2 := [(0, .ref 120), (1, am_i 0)]) dX10_wrongAt_16 rfl (by decide) rfl ?_
  have xm10 : μ7 123 = am_I 0 100 tg := (xf9 _ (by omega)).trans ((xf6 _ (by omega)).trans ((xf3 _ (by omega)).trans hT))
  have xm11 : μ7 124 = am_I 0 4 f := (xf9 _ (by omega)).trans ((xf6 _ (by omega)).trans ((xf3 _ (by omega)).trans hI))
  refine am_mono (lm_wrongAt (μ0 := μ7) (tg := tg) (xs := xs) (zp := zp) (zu := zu) (zc := zc) (zg := zg) xm10 hTx hl hch hN (R := gwb xs) (xs.length + 1) 0 0 μ7 0 0 0 0 0 0 0 zd f rfl (Nat.zero_le _) (fun x hx => rfl) xe8 xm11 ⟨rfl, rfl, by omega, by omega, by omega, by omega, ms_0 _, ⟨fun j h1 h2 => by omega, fun h => by omega⟩⟩ rfl (by omega)) (fun r N2 μ2 hq => ⟨hq.1, hq.2.1, fun x hx => (hq.2.2.1 x hx).trans ((xf9 x (by omega)).trans ((xf6 x (by omega)).trans ((xf3 x (by omega))))), hq.2.2.2⟩)

