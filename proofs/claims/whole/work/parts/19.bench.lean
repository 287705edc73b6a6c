/-! THE BENCH in the memory: a snapshot is texts, beats, value, both numbers of the swing -/
abbrev Snap : Type := (Nat → List Int) × Int × Int × Int × Int
abbrev s_t (S : Snap) : Nat → List Int := S.1
abbrev s_b (S : Snap) : Int := S.2.1
abbrev s_v (S : Snap) : Int := S.2.2.1
abbrev s_a (S : Snap) : Int := S.2.2.2.1
abbrev s_w (S : Snap) : Int := S.2.2.2.2
def snok (S : Snap) : Prop := (∀ k, k < 4 → okx (s_t S k)) ∧ mrok (s_b S) (s_v S) (s_a S) (s_w S)
def StO (μ : am_M) (q : Nat) (S : Snap) : Prop := μ q = am_O 5 [.ref (q + 1), am_i (s_b S), am_i (s_v S), am_i (s_a S), am_i (s_w S)] ∧ (∃ f : Nat → Option Nat, μ (q + 1) = am_R 6 4 f ∧ ∀ k, k < 4 → f k = some (q + 2 + 2 * k)) ∧ ∀ k, k < 4 → Tx μ (q + 2 + 2 * k) 100 (s_t S k)
def Hst (μ : am_M) (hs : Nat → Snap) : Prop := ∃ (f : Nat → Option Nat) (ρ : Nat), μ 67 = am_R 5 5 f ∧ (∀ k, k < 5 → f k = some (68 + 10 * ((k + ρ) % 5))) ∧ ∀ k, k < 5 → StO μ (68 + 10 * ((k + ρ) % 5)) (hs k)
def Pts (μ : am_M) (x : Nat → List Int) : Prop := (∃ f : Nat → Option Nat, μ 6 = am_R 4 4 f ∧ ∀ k, k < 4 → f k = some (7 + 15 * k)) ∧ ∀ k, k < 4 → Prt μ (7 + 15 * k) (x k)
def Rst (μ : am_M) : Prop := (∃ xs : List Int, Tx μ 3 900 xs) ∧ (∃ a b w u q y, μ 5 = gcl a b w u q y) ∧ ∃ (zn zs : Int) (f : Nat → Int), μ 118 = am_O 2 [.ref 119, am_l zn, am_i zs] ∧ μ 119 = am_I 0 4 f
def Bx (μ : am_M) (b : List Int) (C : Snap) (rem : Nat) (hs : Nat → Snap) : Prop := μ 0 = bcl (rem : Int) (s_b C) (s_v C) (s_a C) (s_w C) ∧ Tx μ 1 100 b ∧ Rst μ ∧ Pts μ (s_t C) ∧ Hst μ hs ∧ rem ≤ 5 ∧ mrok (s_b C) (s_v C) (s_a C) (s_w C) ∧ ∀ k, k < rem → snok (hs k)
theorem StO.kept {μ μ2 : am_M} {q : Nat} {S : Snap} (h : StO μ q S) (hf : ∀ b, q ≤ b → b < q + 10 → μ2 b = μ b) : StO μ2 q S := by
  obtain ⟨h1, ⟨f, h2, h3⟩, h4⟩ := h
  exact ⟨(hf _ (by omega) (by omega)).trans h1, ⟨f, (hf _ (by omega) (by omega)).trans h2, h3⟩, fun k hk => (h4 k hk).kept (hf _ (by omega) (by omega)) (hf _ (by omega) (by omega))⟩
theorem Hst.kept {μ μ2 : am_M} {hs : Nat → Snap} (h : Hst μ hs) (hf : ∀ b, 67 ≤ b → b < 118 → μ2 b = μ b) : Hst μ2 hs := by
  obtain ⟨f, ρ, h1, h2, h3⟩ := h
  exact ⟨f, ρ, (hf _ (by omega) (by omega)).trans h1, h2, fun k hk => (h3 k hk).kept (fun b h4 h5 => hf b (by omega) (by omega))⟩
theorem Prt.kept {μ μ2 : am_M} {p : Nat} {xs : List Int} (h : Prt μ p xs) (hf : ∀ b, p ≤ b → b < p + 15 → μ2 b = μ b) : Prt μ2 p xs := by
  have hd : am_fr (p + 15) (p + 15) μ (fun b => if p ≤ b ∧ b < p + 15 then μ2 b else μ b) := fun b hb => by
    show (if p ≤ b ∧ b < p + 15 then μ2 b else μ b) = μ b
    split
    · exact hf b (by omega) (by omega)
    · rfl
  have h0 : ∀ b, p ≤ b → b < p + 15 → μ2 b = μ b := hf
  obtain ⟨h1, h2, h3, ⟨a0, ⟨f1, a1, b1⟩, ⟨f2, a2, b2⟩, ⟨f3, a3, b3⟩, ⟨f4, a4, b4⟩, ⟨f5, a5, b5⟩, ⟨f6, a6, b6⟩, ⟨c1, ⟨fu, c2, c3⟩, fd, c4, c5⟩⟩, h5⟩ := h
  have K : ∀ b, p ≤ b → b < p + 15 → ∀ e, μ b = e → μ2 b = e := fun b q1 q2 e he => (hf b q1 q2).trans he
  exact ⟨K _ (by omega) (by omega) _ h1, h2.kept (hf _ (by omega) (by omega)) (hf _ (by omega) (by omega)), h3.kept (hf _ (by omega) (by omega)) (hf _ (by omega) (by omega)), ⟨K _ (by omega) (by omega) _ a0, ⟨f1, K _ (by omega) (by omega) _ a1, b1⟩, ⟨f2, K _ (by omega) (by omega) _ a2, b2⟩, ⟨f3, K _ (by omega) (by omega) _ a3, b3⟩, ⟨f4, K _ (by omega) (by omega) _ a4, b4⟩, ⟨f5, K _ (by omega) (by omega) _ a5, b5⟩, ⟨f6, K _ (by omega) (by omega) _ a6, b6⟩, ⟨K _ (by omega) (by omega) _ c1, ⟨fu, K _ (by omega) (by omega) _ c2, c3⟩, fd, K _ (by omega) (by omega) _ c4, c5⟩⟩, h5⟩
theorem Pts.kept {μ μ2 : am_M} {x : Nat → List Int} (h : Pts μ x) (hf : ∀ b, 6 ≤ b → b < 67 → μ2 b = μ b) : Pts μ2 x := by
  obtain ⟨⟨f, h1, h2⟩, h3⟩ := h
  exact ⟨⟨f, (hf _ (by omega) (by omega)).trans h1, h2⟩, fun k hk => (h3 k hk).kept (fun b h4 h5 => hf b (by omega) (by omega))⟩
theorem Rst.kept {μ μ2 : am_M} (h : Rst μ) (hf : ∀ b, b = 3 ∨ b = 4 ∨ b = 5 ∨ b = 118 ∨ b = 119 → μ2 b = μ b) : Rst μ2 := by
  obtain ⟨⟨xs, h1⟩, ⟨a, b, w, u, q, y, h2⟩, zn, zs, f, h3, h4⟩ := h
  exact ⟨⟨xs, h1.kept (hf _ (by omega)) (hf _ (by omega))⟩, ⟨a, b, w, u, q, y, (hf _ (by omega)).trans h2⟩, zn, zs, f, (hf _ (by omega)).trans h3, (hf _ (by omega)).trans h4⟩
set_option maxHeartbeats 4000000 in
set_option maxRecDepth 100000 in
theorem ct_partAtN {N : Nat} {μ : am_M} {k : Int} (hk : -2147483648 ≤ k ∧ k ≤ 2147483647) (hp : ¬ (0 ≤ k ∧ k < 4)) : am_Met YX9_partAt [.ref 0, am_i k] N μ (am_pv .null N μ) := by
  refine am_met (by first | decide | rfl) (Nat.le_of_ble_eq_true rfl) (fun h => by first | rfl | cases h) ?_
  show am_W YX9_partAt _ 0 0 0 [(0, .ref 0), (1, am_i k)] [] _ _
  refine ap_iload_n dX9_partAt_0 rfl rfl ?_
  refine ap_if_lt (tgt := 18) dX9_partAt_1 (by decide) (by omega) (fun c1 => ?_) (fun c1 => ?_)
  · refine ap_null dX9_partAt_18 ?_
    exact ap_aret dX9_partAt_19 rfl (Or.inl ⟨_, rfl⟩) (Or.inl rfl) (Nat.le_of_ble_eq_true rfl) (Nat.le_of_ble_eq_true rfl) (⟨rfl, rfl, rfl⟩)
  · 
    refine ap_iload_n dX9_partAt_4 rfl rfl ?_
    refine ap_iconst dX9_partAt_5 ?_
    refine ap_icmp_ge (tgt := 18) dX9_partAt_6 (by decide) (by omega) (fun c6 => ?_) (fun c6 => (by exfalso; omega))
    refine ap_null dX9_partAt_18 ?_
    exact ap_aret dX9_partAt_19 rfl (Or.inl ⟨_, rfl⟩) (Or.inl rfl) (Nat.le_of_ble_eq_true rfl) (Nat.le_of_ble_eq_true rfl) (⟨rfl, rfl, rfl⟩)

set_option maxHeartbeats 4000000 in
set_option maxRecDepth 100000 in
theorem ct_partAtP {N : Nat} {μ : am_M} {zr zb zv za zw : Int} {x : Nat → List Int} {p : Nat} (hB : μ 0 = bcl zr zb zv za zw) (hP : Pts μ x) (hN : 120 ≤ N) (hp : p < 4) : am_Met YX9_partAt [.ref 0, am_i (p : Int)] N μ (am_pv (.ref (7 + 15 * p)) N μ) := by
  obtain ⟨⟨f, h6, h7⟩, h8⟩ := id hP
  refine am_met (by first | decide | rfl) (Nat.le_of_ble_eq_true rfl) (fun h => by first | rfl | cases h) ?_
  show am_W YX9_partAt _ 0 0 0 [(0, .ref 0), (1, am_i (p : Int))] [] _ _
  refine ap_iload_n dX9_partAt_0 rfl rfl ?_
  refine ap_if_lt (tgt := 18) dX9_partAt_1 (by decide) (by omega) (fun c1 => (by exfalso; omega)) (fun c1 => ?_)
  refine ap_iload_n dX9_partAt_4 rfl rfl ?_
  refine ap_iconst dX9_partAt_5 ?_
  refine ap_icmp_ge (tgt := 18) dX9_partAt_6 (by decide) (by omega) (fun c6 => (by exfalso; omega)) (fun c6 => ?_)
  refine ap_aload_n dX9_partAt_9 rfl rfl ?_
  refine ap_get ff_X9_30 dX9_partAt_10 (by omega) hB rfl ?_
  refine ap_iload_n dX9_partAt_13 rfl rfl ?_
  refine ap_aald4 (j := p) (r := 7 + 15 * p) dX9_partAt_14 (by omega) h6 (by omega) (by omega) (h7 p hp) ?_
  refine ap_goto (tgt := 19) dX9_partAt_15 (by decide) ?_
  exact ap_aret dX9_partAt_19 rfl (Or.inl ⟨_, rfl⟩) (Or.inr ⟨_, rfl⟩) (Nat.le_of_ble_eq_true rfl) (Nat.le_of_ble_eq_true rfl) (⟨rfl, rfl, rfl⟩)

set_option maxHeartbeats 4000000 in
set_option maxRecDepth 100000 in
theorem ct_dropOldest {N : Nat} {μ : am_M} {zr zb zv za zw : Int} {hs : Nat → Snap} (hB : μ 0 = bcl zr zb zv za zw) (hH : Hst μ hs) (hN : 120 ≤ N) : am_Met YX9_dropOldest [.ref 0] N μ (fun r N2 μ2 => r = none ∧ N = N2 ∧ μ2 0 = bcl 4 zb zv za zw ∧ Hst μ2 (fun k => hs ((k + 1) % 5)) ∧ ∀ b, b ≠ 0 → b ≠ 67 → μ2 b = μ b) := by
  obtain ⟨f, ρ, h67, h8, h9⟩ := id hH
  refine am_met (by first | decide | rfl) (Nat.le_of_ble_eq_true rfl) (fun h => by first | rfl | cases h) ?_
  show am_W YX9_dropOldest _ 0 0 0 [(0, .ref 0)] [] _ _
  refine ap_aload_n dX9_dropOldest_0 rfl rfl ?_
  refine ap_get ff_X9_37 dX9_dropOldest_1 (by omega) hB rfl ?_
  refine ap_iconst dX9_dropOldest_4 ?_
  refine ap_aald5 (j := 0) (r := 68 + 10 * ((0 + ρ) % 5)) dX9_dropOldest_5 (by omega) h67 (by omega) (by omega) (h8 0 (by omega)) ?_
  refine ap_Astore_n (lv2 := [(0, .ref 0), (1, .ref (68 + 10 * ((0 + ρ) % 5)))]) dX9_dropOldest_6 rfl (by decide) rfl ?_
  refine ap_iconst dX9_dropOldest_7 ?_
  refine ap_Istore_n (lv2 := [(0, .ref 0), (1, .ref (68 + 10 * ((0 + ρ) % 5))), (2, am_i 1)]) dX9_dropOldest_8 rfl (by decide) rfl ?_
  refine ap_iload_n dX9_dropOldest_9 rfl rfl ?_
  refine ap_iconst dX9_dropOldest_10 ?_
  refine ap_icmp_ge (tgt := 34) dX9_dropOldest_11 (by decide) (by omega) (fun c11 => (by exfalso; omega)) (fun c11 => ?_)
  refine ap_aload_n dX9_dropOldest_14 rfl rfl ?_
  refine ap_get ff_X9_37 dX9_dropOldest_15 (by omega) hB rfl ?_
  refine ap_iload_n dX9_dropOldest_18 rfl rfl ?_
  refine ap_iconst dX9_dropOldest_19 ?_
  refine ap_isub dX9_dropOldest_20 ?_
  refine ap_aload_n dX9_dropOldest_21 rfl rfl ?_
  refine ap_get ff_X9_37 dX9_dropOldest_22 (by omega) hB rfl ?_
  refine ap_iload_n dX9_dropOldest_25 rfl rfl ?_
  refine ap_aald5 (j := 1) (r := 68 + 10 * ((1 + ρ) % 5)) dX9_dropOldest_26 (by omega) h67 (by omega) (by omega) (by first | exact h8 1 (by omega) | (simp only [va_up]; exact h8 1 (by omega))) ?_
  refine ap_aast5 (j := 0) dX9_dropOldest_27 (by omega) h67 (by omega) (by omega) (by omega) (h9 1 (by omega)).1 (fun μ1 xe2 xf3 => ?_)
  refine ap_Iinc (lv2 := [(0, .ref 0), (1, .ref (68 + 10 * ((0 + ρ) % 5))), (2, am_i (1 + 1))]) dX9_dropOldest_28 rfl (by decide) rfl ?_
  refine ap_goto (tgt := 9) dX9_dropOldest_31 (by decide) ?_
  refine ap_iload_n dX9_dropOldest_9 rfl rfl ?_
  refine ap_iconst dX9_dropOldest_10 ?_
  refine ap_icmp_ge (tgt := 34) dX9_dropOldest_11 (by decide) (by omega) (fun c11 => (by exfalso; omega)) (fun c11 => ?_)
  refine ap_aload_n dX9_dropOldest_14 rfl rfl ?_
  have xm4 : μ1 0 = am_O 9 [.ref 1, .ref 3, .ref 5, .ref 6, .ref 67, .ref 118, am_i zr, am_i zb, am_i zv, am_i za, am_i zw] := (xf3 _ (by omega)).trans hB
  refine ap_get ff_X9_37 dX9_dropOldest_15 (by omega) xm4 rfl ?_
  refine ap_iload_n dX9_dropOldest_18 rfl rfl ?_
  refine ap_iconst dX9_dropOldest_19 ?_
  refine ap_isub dX9_dropOldest_20 ?_
  refine ap_aload_n dX9_dropOldest_21 rfl rfl ?_
  refine ap_get ff_X9_37 dX9_dropOldest_22 (by omega) xm4 rfl ?_
  refine ap_iload_n dX9_dropOldest_25 rfl rfl ?_
  refine ap_aald5 (j := 2) (r := 68 + 10 * ((2 + ρ) % 5)) dX9_dropOldest_26 (by omega) xe2 (by omega) (by omega) (by first | exact h8 2 (by omega) | (simp only [va_up]; exact h8 2 (by omega))) ?_
  have xm5 : μ1 (68 + 10 * ((2 + ρ) % 5)) = am_O 5 [.ref (68 + 10 * ((2 + ρ) % 5) + 1), am_i (s_b (hs 2)), am_i (s_v (hs 2)), am_i (s_a (hs 2)), am_i (s_w (hs 2))] := (xf3 _ (by omega)).trans ((h9 2 (by omega)).1)
  refine ap_aast5 (j := 1) dX9_dropOldest_27 (by omega) xe2 (by omega) (by omega) (by omega) xm5 (fun μ6 xe7 xf8 => ?_)
  refine ap_Iinc (lv2 := [(0, .ref 0), (1, .ref (68 + 10 * ((0 + ρ) % 5))), (2, am_i ((1 + 1) + 1))]) dX9_dropOldest_28 rfl (by decide) rfl ?_
  refine ap_goto (tgt := 9) dX9_dropOldest_31 (by decide) ?_
  refine ap_iload_n dX9_dropOldest_9 rfl rfl ?_
  refine ap_iconst dX9_dropOldest_10 ?_
  refine ap_icmp_ge (tgt := 34) dX9_dropOldest_11 (by decide) (by omega) (fun c11 => (by exfalso; omega)) (fun c11 => ?_)
  refine ap_aload_n dX9_dropOldest_14 rfl rfl ?_
  have xm9 : μ6 0 = am_O 9 [.ref 1, .ref 3, .ref 5, .ref 6, .ref 67, .ref 118, am_i zr, am_i zb, am_i zv, am_i za, am_i zw] := (xf8 _ (by omega)).trans xm4
  refine ap_get ff_X9_37 dX9_dropOldest_15 (by omega) xm9 rfl ?_
  refine ap_iload_n dX9_dropOldest_18 rfl rfl ?_
  refine ap_iconst dX9_dropOldest_19 ?_
  refine ap_isub dX9_dropOldest_20 ?_
  refine ap_aload_n dX9_dropOldest_21 rfl rfl ?_
  refine ap_get ff_X9_37 dX9_dropOldest_22 (by omega) xm9 rfl ?_
  refine ap_iload_n dX9_dropOldest_25 rfl rfl ?_
  refine ap_aald5 (j := 3) (r := 68 + 10 * ((3 + ρ) % 5)) dX9_dropOldest_26 (by omega) xe7 (by omega) (by omega) (by first | exact h8 3 (by omega) | (simp only [va_up]; exact h8 3 (by omega))) ?_
  have xm10 : μ6 (68 + 10 * ((3 + ρ) % 5)) = am_O 5 [.ref (68 + 10 * ((3 + ρ) % 5) + 1), am_i (s_b (hs 3)), am_i (s_v (hs 3)), am_i (s_a (hs 3)), am_i (s_w (hs 3))] := (xf8 _ (by omega)).trans ((xf3 _ (by omega)).trans ((h9 3 (by omega)).1))
  refine ap_aast5 (j := 2) dX9_dropOldest_27 (by omega) xe7 (by omega) (by omega) (by omega) xm10 (fun μ11 xe12 xf13 => ?_)
  refine ap_Iinc (lv2 := [(0, .ref 0), (1, .ref (68 + 10 * ((0 + ρ) % 5))), (2, am_i (((1 + 1) + 1) + 1))]) dX9_dropOldest_28 rfl (by decide) rfl ?_
  refine ap_goto (tgt := 9) dX9_dropOldest_31 (by decide) ?_
  refine ap_iload_n dX9_dropOldest_9 rfl rfl ?_
  refine ap_iconst dX9_dropOldest_10 ?_
  refine ap_icmp_ge (tgt := 34) dX9_dropOldest_11 (by decide) (by omega) (fun c11 => (by exfalso; omega)) (fun c11 => ?_)
  refine ap_aload_n dX9_dropOldest_14 rfl rfl ?_
  have xm14 : μ11 0 = am_O 9 [.ref 1, .ref 3, .ref 5, .ref 6, .ref 67, .ref 118, am_i zr, am_i zb, am_i zv, am_i za, am_i zw] := (xf13 _ (by omega)).trans xm9
  refine ap_get ff_X9_37 dX9_dropOldest_15 (by omega) xm14 rfl ?_
  refine ap_iload_n dX9_dropOldest_18 rfl rfl ?_
  refine ap_iconst dX9_dropOldest_19 ?_
  refine ap_isub dX9_dropOldest_20 ?_
  refine ap_aload_n dX9_dropOldest_21 rfl rfl ?_
  refine ap_get ff_X9_37 dX9_dropOldest_22 (by omega) xm14 rfl ?_
  refine ap_iload_n dX9_dropOldest_25 rfl rfl ?_
  refine ap_aald5 (j := 4) (r := 68 + 10 * ((4 + ρ) % 5)) dX9_dropOldest_26 (by omega) xe12 (by omega) (by omega) (by first | exact h8 4 (by omega) | (simp only [va_up]; exact h8 4 (by omega))) ?_
  have xm15 : μ11 (68 + 10 * ((4 + ρ) % 5)) = am_O 5 [.ref (68 + 10 * ((4 + ρ) % 5) + 1), am_i (s_b (hs 4)), am_i (s_v (hs 4)), am_i (s_a (hs 4)), am_i (s_w (hs 4))] := (xf13 _ (by omega)).trans ((xf8 _ (by omega)).trans ((xf3 _ (by omega)).trans ((h9 4 (by omega)).1)))
  refine ap_aast5 (j := 3) dX9_dropOldest_27 (by omega) xe12 (by omega) (by omega) (by omega) xm15 (fun μ16 xe17 xf18 => ?_)
  refine ap_Iinc (lv2 := [(0, .ref 0), (1, .ref (68 + 10 * ((0 + ρ) % 5))), (2, am_i ((((1 + 1) + 1) + 1) + 1))]) dX9_dropOldest_28 rfl (by decide) rfl ?_
  refine ap_goto (tgt := 9) dX9_dropOldest_31 (by decide) ?_
  refine ap_iload_n dX9_dropOldest_9 rfl rfl ?_
  refine ap_iconst dX9_dropOldest_10 ?_
  refine ap_icmp_ge (tgt := 34) dX9_dropOldest_11 (by decide) (by omega) (fun c11 => ?_) (fun c11 => (by exfalso; omega))
  refine ap_aload_n dX9_dropOldest_34 rfl rfl ?_
  have xm19 : μ16 0 = am_O 9 [.ref 1, .ref 3, .ref 5, .ref 6, .ref 67, .ref 118, am_i zr, am_i zb, am_i zv, am_i za, am_i zw] := (xf18 _ (by omega)).trans xm14
  refine ap_get ff_X9_37 dX9_dropOldest_35 (by omega) xm19 rfl ?_
  refine ap_iconst dX9_dropOldest_38 ?_
  refine ap_aload_n dX9_dropOldest_39 rfl rfl ?_
  have xm20 : μ16 (68 + 10 * ((0 + ρ) % 5)) = am_O 5 [.ref (68 + 10 * ((0 + ρ) % 5) + 1), am_i (s_b (hs 0)), am_i (s_v (hs 0)), am_i (s_a (hs 0)), am_i (s_w (hs 0))] := (xf18 _ (by omega)).trans ((xf13 _ (by omega)).trans ((xf8 _ (by omega)).trans ((xf3 _ (by omega)).trans ((h9 0 (by omega)).1))))
  refine ap_aast5 (j := 4) dX9_dropOldest_40 (by omega) xe17 (by omega) (by omega) (by omega) xm20 (fun μ21 xe22 xf23 => ?_)
  refine ap_aload_n dX9_dropOldest_41 rfl rfl ?_
  refine ap_iconst dX9_dropOldest_42 ?_
  have xm24 : μ21 0 = am_O 9 [.ref 1, .ref 3, .ref 5, .ref 6, .ref 67, .ref 118, am_i zr, am_i zb, am_i zv, am_i za, am_i zw] := (xf23 _ (by omega)).trans xm19
  refine ap_put (fs2 := [.ref 1, .ref 3, .ref 5, .ref 6, .ref 67, .ref 118, am_i 4, am_i zb, am_i zv, am_i za, am_i zw]) ff_X9_212 fc_X9_6 dX9_dropOldest_43 (by omega) xm24 (fun _ => ⟨rfl, rfl⟩) (Nat.le_of_ble_eq_true rfl) rfl (fun μ25 xe26 xf27 => ?_)
  have xm28 : μ25 67 = am_R 5 5 (va_up (va_up (va_up (va_up (va_up f 0 (some (68 + 10 * ((1 + ρ) % 5)))) 1 (some (68 + 10 * ((2 + ρ) % 5)))) 2 (some (68 + 10 * ((3 + ρ) % 5)))) 3 (some (68 + 10 * ((4 + ρ) % 5)))) 4 (some (68 + 10 * ((0 + ρ) % 5)))) := (xf27 _ (by omega)).trans xe22
  exact ap_vret dX9_dropOldest_46 rfl (Nat.le_of_ble_eq_true rfl) (Nat.le_of_ble_eq_true rfl) (⟨rfl, rfl, xe26, ⟨_, ρ + 1, xm28, fun k hk => by
    rcases (show k = 0 ∨ k = 1 ∨ k = 2 ∨ k = 3 ∨ k = 4 by omega) with rfl | rfl | rfl | rfl | rfl <;> simp only [va_up] <;> (first | (rw [if_pos rfl]; congr 2; omega) | (simp; try omega)), fun k hk => by
    have hh : 68 + 10 * ((k + (ρ + 1)) % 5) = 68 + 10 * (((k + 1) % 5 + ρ) % 5) := by omega
    rw [hh]
    exact (h9 ((k + 1) % 5) (by omega)).kept (fun b q1 q2 => (xf27 b (by omega)).trans ((xf23 b (by omega)).trans ((xf18 b (by omega)).trans ((xf13 b (by omega)).trans ((xf8 b (by omega)).trans ((xf3 b (by omega))))))))⟩, fun b hb hb2 => (xf27 b (by omega)).trans ((xf23 b (by omega)).trans ((xf18 b (by omega)).trans ((xf13 b (by omega)).trans ((xf8 b (by omega)).trans ((xf3 b (by omega)))))))⟩)

set_option maxHeartbeats 8000000 in
set_option maxRecDepth 100000 in
theorem wk_remember {N : Nat} {μ : am_M} {rem : Nat} {zb zv za zw : Int} {hs : Nat → Snap} {x : Nat → List Int} (hB : μ 0 = bcl (rem : Int) zb zv za zw) (hH : Hst μ hs) (hP : Pts μ x) (hN : 120 ≤ N) (hr : rem < 5) : am_W YX9_remember (fun r N2 μ2 => r = none ∧ N = N2 ∧ μ2 0 = bcl ((rem : Int) + 1) zb zv za zw ∧ Hst μ2 (va_up hs rem (x, zb, zv, za, zw)) ∧ ∀ b, b ≠ 0 → ¬ (67 ≤ b ∧ b < 118) → μ2 b = μ b) 0 0 12 [(0, .ref 0)] [] N μ := by
  obtain ⟨f, ρ, h67, h8, h9⟩ := id hH
  obtain ⟨⟨fp, h6, h7⟩, hPt⟩ := id hP
  obtain ⟨q, hq⟩ : ∃ q, q = 68 + 10 * ((rem + ρ) % 5) := ⟨_, rfl⟩
  have hqr : 68 ≤ q ∧ q ≤ 108 := by omega
  obtain ⟨hq1, ⟨fq, hq2, hq3⟩, hq4⟩ : StO μ q (hs rem) := by rw [hq]; exact h9 rem hr
  have T0 : Tx μ (q + 2) 100 (s_t (hs rem) 0) := hq4 0 (by omega)
  have T1 : Tx μ (q + 4) 100 (s_t (hs rem) 1) := hq4 1 (by omega)
  have T2 : Tx μ (q + 6) 100 (s_t (hs rem) 2) := hq4 2 (by omega)
  have T3 : Tx μ (q + 8) 100 (s_t (hs rem) 3) := hq4 3 (by omega)
  have P0 : Prt μ 7 (x 0) := hPt 0 (by omega)
  have P1 : Prt μ 22 (x 1) := hPt 1 (by omega)
  have P2 : Prt μ 37 (x 2) := hPt 2 (by omega)
  have P3 : Prt μ 52 (x 3) := hPt 3 (by omega)
  refine ap_aload_n dX9_remember_12 rfl rfl ?_
  refine ap_get ff_X9_37 dX9_remember_13 (by omega) hB rfl ?_
  refine ap_aload_n dX9_remember_16 rfl rfl ?_
  refine ap_get ff_X9_212 dX9_remember_17 (by omega) hB rfl ?_
  refine ap_aald5 (j := rem) (r := q) dX9_remember_20 (by omega) h67 (by omega) (by omega) (by rw [hq]; exact h8 rem (by omega)) ?_
  refine ap_Astore_n (lv2 := [(0, .ref 0), (1, .ref q)]) dX9_remember_21 rfl (by decide) rfl ?_
  refine ap_iconst dX9_remember_22 ?_
  refine ap_Istore_n (lv2 := [(0, .ref 0), (1, .ref q), (2, am_i 0)]) dX9_remember_23 rfl (by decide) rfl ?_
  refine ap_iload_n dX9_remember_24 rfl rfl ?_
  refine ap_iconst dX9_remember_25 ?_
  refine ap_icmp_ge (tgt := 53) dX9_remember_26 (by decide) (by omega) (fun c26 => (by exfalso; omega)) (fun c26 => ?_)
  refine ap_aload_n dX9_remember_29 rfl rfl ?_
  refine ap_getN ff_X9_215 dX9_remember_30 (by omega) hq1 rfl ?_
  refine ap_iload_n dX9_remember_33 rfl rfl ?_
  refine ap_aald6 (j := 0) (r := q + 2) dX9_remember_34 (by omega) hq2 (by omega) (by omega) (hq3 0 (by omega)) ?_
  refine ap_aload_n dX9_remember_35 rfl rfl ?_
  refine ap_get ff_X9_30 dX9_remember_36 (by omega) hB rfl ?_
  refine ap_iload_n dX9_remember_39 rfl rfl ?_
  refine ap_aald4 (j := 0) (r := 7) dX9_remember_40 (by omega) h6 (by omega) (by omega) (h7 0 (by omega)) ?_
  refine ap_getN ff_X9_109 dX9_remember_41 (by omega) (P0).1 rfl ?_
  refine ap_cV (As := [.ref 8]) (rest := []) (ct_become (t := q + 2) (u := 8) ((T0).kept (rfl) (rfl)) ((P0).2.1.kept (rfl) (rfl)) (by omega) (by omega) (by omega) (P0).2.2.2.2.1) dX9_remember_44 lk_X9_230 hy_X6_become rfl (by omega) (T0).1 ⟨_, _, rfl⟩ (Nat.le_of_ble_eq_true rfl) ⟨Nat.le_of_ble_eq_true rfl, Nat.le_of_ble_eq_true rfl⟩ ⟨rfl, rfl⟩ ⟨Nat.le_of_ble_eq_true rfl, Nat.le_of_ble_eq_true rfl⟩ (fun xr1 xN2 μa xq3 => ?_)
  obtain ⟨rfl, rfl, ha1, ha2⟩ := xq3
  refine ap_Iinc (lv2 := [(0, .ref 0), (1, .ref q), (2, am_i (0 + 1))]) dX9_remember_47 rfl (by decide) rfl ?_
  refine ap_goto (tgt := 24) dX9_remember_50 (by decide) ?_
  refine ap_iload_n dX9_remember_24 rfl rfl ?_
  refine ap_iconst dX9_remember_25 ?_
  refine ap_icmp_ge (tgt := 53) dX9_remember_26 (by decide) (by omega) (fun c26 => (by exfalso; omega)) (fun c26 => ?_)
  refine ap_aload_n dX9_remember_29 rfl rfl ?_
  have xm4 : μa q = am_O 5 [.ref (q + 1), am_i (s_b (hs rem)), am_i (s_v (hs rem)), am_i (s_a (hs rem)), am_i (s_w (hs rem))] := (ha2 _ (by omega)).trans hq1
  refine ap_getN ff_X9_215 dX9_remember_30 (by omega) xm4 rfl ?_
  refine ap_iload_n dX9_remember_33 rfl rfl ?_
  have xm5 : μa (q + 1) = am_R 6 4 fq := (ha2 _ (by omega)).trans hq2
  refine ap_aald6 (j := 1) (r := q + 4) dX9_remember_34 (by omega) xm5 (by omega) (by omega) (hq3 1 (by omega)) ?_
  refine ap_aload_n dX9_remember_35 rfl rfl ?_
  have xm6 : μa 0 = am_O 9 [.ref 1, .ref 3, .ref 5, .ref 6, .ref 67, .ref 118, am_i (rem : Int), am_i zb, am_i zv, am_i za, am_i zw] := (ha2 _ (by omega)).trans hB
  refine ap_get ff_X9_30 dX9_remember_36 (by omega) xm6 rfl ?_
  refine ap_iload_n dX9_remember_39 rfl rfl ?_
  have xm7 : μa 6 = am_R 4 4 fp := (ha2 _ (by omega)).trans h6
  refine ap_aald4 (j := 1) (r := 22) dX9_remember_40 (by omega) xm7 (by omega) (by omega) (h7 1 (by omega)) ?_
  have xm8 : μa 22 = am_O 3 [.ref 23, .ref 25, .ref 27] := (ha2 _ (by omega)).trans ((P1).1)
  refine ap_getN ff_X9_109 dX9_remember_41 (by omega) xm8 rfl ?_
  have xm12 : μa (q + 4) = am_O 6 [.ref (q + 5), am_i ((s_t (hs rem) 1).length : Int)] := (ha2 _ (by omega)).trans ((T1).1)
  refine ap_cV (As := [.ref 23]) (rest := []) (ct_become (t := q + 4) (u := 23) ((T1).kept ((ha2 (q + 4) (by omega))) ((ha2 (q + 5) (by omega)))) ((P1).2.1.kept ((ha2 23 (by omega))) ((ha2 24 (by omega)))) (by omega) (by omega) (by omega) (P1).2.2.2.2.1) dX9_remember_44 lk_X9_230 hy_X6_become rfl (by omega) xm12 ⟨_, _, rfl⟩ (Nat.le_of_ble_eq_true rfl) ⟨Nat.le_of_ble_eq_true rfl, Nat.le_of_ble_eq_true rfl⟩ ⟨rfl, rfl⟩ ⟨Nat.le_of_ble_eq_true rfl, Nat.le_of_ble_eq_true rfl⟩ (fun xr9 xN10 μb xq11 => ?_)
  obtain ⟨rfl, rfl, hb1, hb2⟩ := xq11
  refine ap_Iinc (lv2 := [(0, .ref 0), (1, .ref q), (2, am_i ((0 + 1) + 1))]) dX9_remember_47 rfl (by decide) rfl ?_
  refine ap_goto (tgt := 24) dX9_remember_50 (by decide) ?_
  refine ap_iload_n dX9_remember_24 rfl rfl ?_
  refine ap_iconst dX9_remember_25 ?_
  refine ap_icmp_ge (tgt := 53) dX9_remember_26 (by decide) (by omega) (fun c26 => (by exfalso; omega)) (fun c26 => ?_)
  refine ap_aload_n dX9_remember_29 rfl rfl ?_
  have xm13 : μb q = am_O 5 [.ref (q + 1), am_i (s_b (hs rem)), am_i (s_v (hs rem)), am_i (s_a (hs rem)), am_i (s_w (hs rem))] := (hb2 _ (by omega)).trans xm4
  refine ap_getN ff_X9_215 dX9_remember_30 (by omega) xm13 rfl ?_
  refine ap_iload_n dX9_remember_33 rfl rfl ?_
  have xm14 : μb (q + 1) = am_R 6 4 fq := (hb2 _ (by omega)).trans xm5
  refine ap_aald6 (j := 2) (r := q + 6) dX9_remember_34 (by omega) xm14 (by omega) (by omega) (hq3 2 (by omega)) ?_
  refine ap_aload_n dX9_remember_35 rfl rfl ?_
  have xm15 : μb 0 = am_O 9 [.ref 1, .ref 3, .ref 5, .ref 6, .ref 67, .ref 118, am_i (rem : Int), am_i zb, am_i zv, am_i za, am_i zw] := (hb2 _ (by omega)).trans xm6
  refine ap_get ff_X9_30 dX9_remember_36 (by omega) xm15 rfl ?_
  refine ap_iload_n dX9_remember_39 rfl rfl ?_
  have xm16 : μb 6 = am_R 4 4 fp := (hb2 _ (by omega)).trans xm7
  refine ap_aald4 (j := 2) (r := 37) dX9_remember_40 (by omega) xm16 (by omega) (by omega) (h7 2 (by omega)) ?_
  have xm17 : μb 37 = am_O 3 [.ref 38, .ref 40, .ref 42] := (hb2 _ (by omega)).trans ((ha2 _ (by omega)).trans ((P2).1))
  refine ap_getN ff_X9_109 dX9_remember_41 (by omega) xm17 rfl ?_
  have xm21 : μb (q + 6) = am_O 6 [.ref (q + 7), am_i ((s_t (hs rem) 2).length : Int)] := (hb2 _ (by omega)).trans ((ha2 _ (by omega)).trans ((T2).1))
  refine ap_cV (As := [.ref 38]) (rest := []) (ct_become (t := q + 6) (u := 38) ((T2).kept ((hb2 (q + 6) (by omega)).trans ((ha2 (q + 6) (by omega)))) ((hb2 (q + 7) (by omega)).trans ((ha2 (q + 7) (by omega))))) ((P2).2.1.kept ((hb2 38 (by omega)).trans ((ha2 38 (by omega)))) ((hb2 39 (by omega)).trans ((ha2 39 (by omega))))) (by omega) (by omega) (by omega) (P2).2.2.2.2.1) dX9_remember_44 lk_X9_230 hy_X6_become rfl (by omega) xm21 ⟨_, _, rfl⟩ (Nat.le_of_ble_eq_true rfl) ⟨Nat.le_of_ble_eq_true rfl, Nat.le_of_ble_eq_true rfl⟩ ⟨rfl, rfl⟩ ⟨Nat.le_of_ble_eq_true rfl, Nat.le_of_ble_eq_true rfl⟩ (fun xr18 xN19 μc xq20 => ?_)
  obtain ⟨rfl, rfl, hc1, hc2⟩ := xq20
  refine ap_Iinc (lv2 := [(0, .ref 0), (1, .ref q), (2, am_i (((0 + 1) + 1) + 1))]) dX9_remember_47 rfl (by decide) rfl ?_
  refine ap_goto (tgt := 24) dX9_remember_50 (by decide) ?_
  refine ap_iload_n dX9_remember_24 rfl rfl ?_
  refine ap_iconst dX9_remember_25 ?_
  refine ap_icmp_ge (tgt := 53) dX9_remember_26 (by decide) (by omega) (fun c26 => (by exfalso; omega)) (fun c26 => ?_)
  refine ap_aload_n dX9_remember_29 rfl rfl ?_
  have xm22 : μc q = am_O 5 [.ref (q + 1), am_i (s_b (hs rem)), am_i (s_v (hs rem)), am_i (s_a (hs rem)), am_i (s_w (hs rem))] := (hc2 _ (by omega)).trans xm13
  refine ap_getN ff_X9_215 dX9_remember_30 (by omega) xm22 rfl ?_
  refine ap_iload_n dX9_remember_33 rfl rfl ?_
  have xm23 : μc (q + 1) = am_R 6 4 fq := (hc2 _ (by omega)).trans xm14
  refine ap_aald6 (j := 3) (r := q + 8) dX9_remember_34 (by omega) xm23 (by omega) (by omega) (hq3 3 (by omega)) ?_
  refine ap_aload_n dX9_remember_35 rfl rfl ?_
  have xm24 : μc 0 = am_O 9 [.ref 1, .ref 3, .ref 5, .ref 6, .ref 67, .ref 118, am_i (rem : Int), am_i zb, am_i zv, am_i za, am_i zw] := (hc2 _ (by omega)).trans xm15
  refine ap_get ff_X9_30 dX9_remember_36 (by omega) xm24 rfl ?_
  refine ap_iload_n dX9_remember_39 rfl rfl ?_
  have xm25 : μc 6 = am_R 4 4 fp := (hc2 _ (by omega)).trans xm16
  refine ap_aald4 (j := 3) (r := 52) dX9_remember_40 (by omega) xm25 (by omega) (by omega) (h7 3 (by omega)) ?_
  have xm26 : μc 52 = am_O 3 [.ref 53, .ref 55, .ref 57] := (hc2 _ (by omega)).trans ((hb2 _ (by omega)).trans ((ha2 _ (by omega)).trans ((P3).1)))
  refine ap_getN ff_X9_109 dX9_remember_41 (by omega) xm26 rfl ?_
  have xm30 : μc (q + 8) = am_O 6 [.ref (q + 9), am_i ((s_t (hs rem) 3).length : Int)] := (hc2 _ (by omega)).trans ((hb2 _ (by omega)).trans ((ha2 _ (by omega)).trans ((T3).1)))
  refine ap_cV (As := [.ref 53]) (rest := []) (ct_become (t := q + 8) (u := 53) ((T3).kept ((hc2 (q + 8) (by omega)).trans ((hb2 (q + 8) (by omega)).trans ((ha2 (q + 8) (by omega))))) ((hc2 (q + 9) (by omega)).trans ((hb2 (q + 9) (by omega)).trans ((ha2 (q + 9) (by omega)))))) ((P3).2.1.kept ((hc2 53 (by omega)).trans ((hb2 53 (by omega)).trans ((ha2 53 (by omega))))) ((hc2 54 (by omega)).trans ((hb2 54 (by omega)).trans ((ha2 54 (by omega)))))) (by omega) (by omega) (by omega) (P3).2.2.2.2.1) dX9_remember_44 lk_X9_230 hy_X6_become rfl (by omega) xm30 ⟨_, _, rfl⟩ (Nat.le_of_ble_eq_true rfl) ⟨Nat.le_of_ble_eq_true rfl, Nat.le_of_ble_eq_true rfl⟩ ⟨rfl, rfl⟩ ⟨Nat.le_of_ble_eq_true rfl, Nat.le_of_ble_eq_true rfl⟩ (fun xr27 xN28 μd xq29 => ?_)
  obtain ⟨rfl, rfl, hd1, hd2⟩ := xq29
  refine ap_Iinc (lv2 := [(0, .ref 0), (1, .ref q), (2, am_i ((((0 + 1) + 1) + 1) + 1))]) dX9_remember_47 rfl (by decide) rfl ?_
  refine ap_goto (tgt := 24) dX9_remember_50 (by decide) ?_
  refine ap_iload_n dX9_remember_24 rfl rfl ?_
  refine ap_iconst dX9_remember_25 ?_
  refine ap_icmp_ge (tgt := 53) dX9_remember_26 (by decide) (by omega) (fun c26 => ?_) (fun c26 => (by exfalso; omega))
  refine ap_aload_n dX9_remember_53 rfl rfl ?_
  refine ap_aload_n dX9_remember_54 rfl rfl ?_
  have xm31 : μd 0 = am_O 9 [.ref 1, .ref 3, .ref 5, .ref 6, .ref 67, .ref 118, am_i (rem : Int), am_i zb, am_i zv, am_i za, am_i zw] := (hd2 _ (by omega)).trans xm24
  refine ap_get ff_X9_49 dX9_remember_55 (by omega) xm31 rfl ?_
  have xm32 : μd q = am_O 5 [.ref (q + 1), am_i (s_b (hs rem)), am_i (s_v (hs rem)), am_i (s_a (hs rem)), am_i (s_w (hs rem))] := (hd2 _ (by omega)).trans xm22
  refine ap_putN (fs2 := [.ref (q + 1), am_i zb, am_i (s_v (hs rem)), am_i (s_a (hs rem)), am_i (s_w (hs rem))]) ff_X9_219 fc_X5_1 dX9_remember_58 (by omega) xm32 (fun _ => ⟨rfl, rfl⟩) (Nat.le_of_ble_eq_true rfl) rfl (fun μ33 xe34 xf35 => ?_)
  refine ap_aload_n dX9_remember_61 rfl rfl ?_
  refine ap_aload_n dX9_remember_62 rfl rfl ?_
  have xm36 : μ33 0 = am_O 9 [.ref 1, .ref 3, .ref 5, .ref 6, .ref 67, .ref 118, am_i (rem : Int), am_i zb, am_i zv, am_i za, am_i zw] := (xf35 _ (by omega)).trans xm31
  refine ap_get ff_X9_53 dX9_remember_63 (by omega) xm36 rfl ?_
  refine ap_putN (fs2 := [.ref (q + 1), am_i zb, am_i zv, am_i (s_a (hs rem)), am_i (s_w (hs rem))]) ff_X9_220 fc_X5_2 dX9_remember_66 (by omega) xe34 (fun _ => ⟨rfl, rfl⟩) (Nat.le_of_ble_eq_true rfl) rfl (fun μ37 xe38 xf39 => ?_)
  refine ap_aload_n dX9_remember_69 rfl rfl ?_
  refine ap_aload_n dX9_remember_70 rfl rfl ?_
  have xm40 : μ37 0 = am_O 9 [.ref 1, .ref 3, .ref 5, .ref 6, .ref 67, .ref 118, am_i (rem : Int), am_i zb, am_i zv, am_i za, am_i zw] := (xf39 _ (by omega)).trans xm36
  refine ap_get ff_X9_56 dX9_remember_71 (by omega) xm40 rfl ?_
  refine ap_putN (fs2 := [.ref (q + 1), am_i zb, am_i zv, am_i za, am_i (s_w (hs rem))]) ff_X9_221 fc_X5_3 dX9_remember_74 (by omega) xe38 (fun _ => ⟨rfl, rfl⟩) (Nat.le_of_ble_eq_true rfl) rfl (fun μ41 xe42 xf43 => ?_)
  refine ap_aload_n dX9_remember_77 rfl rfl ?_
  refine ap_aload_n dX9_remember_78 rfl rfl ?_
  have xm44 : μ41 0 = am_O 9 [.ref 1, .ref 3, .ref 5, .ref 6, .ref 67, .ref 118, am_i (rem : Int), am_i zb, am_i zv, am_i za, am_i zw] := (xf43 _ (by omega)).trans xm40
  refine ap_get ff_X9_59 dX9_remember_79 (by omega) xm44 rfl ?_
  refine ap_putN (fs2 := [.ref (q + 1), am_i zb, am_i zv, am_i za, am_i zw]) ff_X9_222 fc_X5_4 dX9_remember_82 (by omega) xe42 (fun _ => ⟨rfl, rfl⟩) (Nat.le_of_ble_eq_true rfl) rfl (fun μ45 xe46 xf47 => ?_)
  refine ap_aload_n dX9_remember_85 rfl rfl ?_
  refine ap_dup dX9_remember_86 rfl ?_
  have xm48 : μ45 0 = am_O 9 [.ref 1, .ref 3, .ref 5, .ref 6, .ref 67, .ref 118, am_i (rem : Int), am_i zb, am_i zv, am_i za, am_i zw] := (xf47 _ (by omega)).trans xm44
  refine ap_get ff_X9_212 dX9_remember_87 (by omega) xm48 rfl ?_
  refine ap_iconst dX9_remember_90 ?_
  refine ap_iadd dX9_remember_91 ?_
  refine ap_put (fs2 := [.ref 1, .ref 3, .ref 5, .ref 6, .ref 67, .ref 118, am_i ((rem : Int) + 1), am_i zb, am_i zv, am_i za, am_i zw]) ff_X9_212 fc_X9_6 dX9_remember_92 (by omega) xm48 (fun _ => ⟨rfl, rfl⟩) (Nat.le_of_ble_eq_true rfl) rfl (fun μ49 xe50 xf51 => ?_)
  have xm52 : μ49 67 = am_R 5 5 f := (xf51 _ (by omega)).trans ((xf47 _ (by omega)).trans ((xf43 _ (by omega)).trans ((xf39 _ (by omega)).trans ((xf35 _ (by omega)).trans ((hd2 _ (by omega)).trans ((hc2 _ (by omega)).trans ((hb2 _ (by omega)).trans ((ha2 _ (by omega)).trans h67))))))))
  have xm53 : μ49 q = am_O 5 [.ref (q + 1), am_i zb, am_i zv, am_i za, am_i zw] := (xf51 _ (by omega)).trans xe46
  have xm54 : μ49 (q + 1) = am_R 6 4 fq := (xf51 _ (by omega)).trans ((xf47 _ (by omega)).trans ((xf43 _ (by omega)).trans ((xf39 _ (by omega)).trans ((xf35 _ (by omega)).trans ((hd2 _ (by omega)).trans xm23)))))
  exact ap_vret dX9_remember_95 rfl (Nat.le_of_ble_eq_true rfl) (Nat.le_of_ble_eq_true rfl) (⟨rfl, rfl, xe50, ⟨f, ρ, xm52, h8, fun k hk => by
    by_cases hkr : k = rem
    · subst hkr
      rw [va_upe, ← hq]
      refine ⟨xm53, ⟨fq, xm54, hq3⟩, fun j hj => ?_⟩
      rcases (show j = 0 ∨ j = 1 ∨ j = 2 ∨ j = 3 by omega) with rfl | rfl | rfl | rfl
      · exact ha1.kept ((xf51 (q + 2) (by omega)).trans ((xf47 (q + 2) (by omega)).trans ((xf43 (q + 2) (by omega)).trans ((xf39 (q + 2) (by omega)).trans ((xf35 (q + 2) (by omega)).trans ((hd2 (q + 2) (by omega)).trans ((hc2 (q + 2) (by omega)).trans ((hb2 (q + 2) (by omega)))))))))) ((xf51 (q + 3) (by omega)).trans ((xf47 (q + 3) (by omega)).trans ((xf43 (q + 3) (by omega)).trans ((xf39 (q + 3) (by omega)).trans ((xf35 (q + 3) (by omega)).trans ((hd2 (q + 3) (by omega)).trans ((hc2 (q + 3) (by omega)).trans ((hb2 (q + 3) (by omega))))))))))
      · exact hb1.kept ((xf51 (q + 4) (by omega)).trans ((xf47 (q + 4) (by omega)).trans ((xf43 (q + 4) (by omega)).trans ((xf39 (q + 4) (by omega)).trans ((xf35 (q + 4) (by omega)).trans ((hd2 (q + 4) (by omega)).trans ((hc2 (q + 4) (by omega))))))))) ((xf51 (q + 5) (by omega)).trans ((xf47 (q + 5) (by omega)).trans ((xf43 (q + 5) (by omega)).trans ((xf39 (q + 5) (by omega)).trans ((xf35 (q + 5) (by omega)).trans ((hd2 (q + 5) (by omega)).trans ((hc2 (q + 5) (by omega)))))))))
      · exact hc1.kept ((xf51 (q + 6) (by omega)).trans ((xf47 (q + 6) (by omega)).trans ((xf43 (q + 6) (by omega)).trans ((xf39 (q + 6) (by omega)).trans ((xf35 (q + 6) (by omega)).trans ((hd2 (q + 6) (by omega)))))))) ((xf51 (q + 7) (by omega)).trans ((xf47 (q + 7) (by omega)).trans ((xf43 (q + 7) (by omega)).trans ((xf39 (q + 7) (by omega)).trans ((xf35 (q + 7) (by omega)).trans ((hd2 (q + 7) (by omega))))))))
      · exact hd1.kept ((xf51 (q + 8) (by omega)).trans ((xf47 (q + 8) (by omega)).trans ((xf43 (q + 8) (by omega)).trans ((xf39 (q + 8) (by omega)).trans ((xf35 (q + 8) (by omega))))))) ((xf51 (q + 9) (by omega)).trans ((xf47 (q + 9) (by omega)).trans ((xf43 (q + 9) (by omega)).trans ((xf39 (q + 9) (by omega)).trans ((xf35 (q + 9) (by omega)))))))
    · rw [va_upn hkr]
      exact (h9 k hk).kept (fun b q1 q2 => (xf51 b (by omega)).trans ((xf47 b (by omega)).trans ((xf43 b (by omega)).trans ((xf39 b (by omega)).trans ((xf35 b (by omega)).trans ((hd2 b (by omega)).trans ((hc2 b (by omega)).trans ((hb2 b (by omega)).trans ((ha2 b (by omega)))))))))))⟩, fun b nb nb2 => (xf51 b (by omega)).trans ((xf47 b (by omega)).trans ((xf43 b (by omega)).trans ((xf39 b (by omega)).trans ((xf35 b (by omega)).trans ((hd2 b (by omega)).trans ((hc2 b (by omega)).trans ((hb2 b (by omega)).trans ((ha2 b (by omega))))))))))⟩)
def hnx (rem : Nat) (hs : Nat → Snap) (C : Snap) : Nat → Snap := if rem < 5 then va_up hs rem C else va_up (fun k => hs ((k + 1) % 5)) 4 C
def rnx (rem : Nat) : Nat := if rem < 5 then rem + 1 else 5
set_option maxHeartbeats 4000000 in
set_option maxRecDepth 100000 in
theorem ct_remember {N : Nat} {μ : am_M} {rem : Nat} {zb zv za zw : Int} {hs : Nat → Snap} {x : Nat → List Int} (hB : μ 0 = bcl (rem : Int) zb zv za zw) (hH : Hst μ hs) (hP : Pts μ x) (hN : 120 ≤ N) (hr : rem ≤ 5) : am_Met YX9_remember [.ref 0] N μ (fun r N2 μ2 => r = none ∧ N = N2 ∧ μ2 0 = bcl (rnx rem : Int) zb zv za zw ∧ Hst μ2 (hnx rem hs (x, zb, zv, za, zw)) ∧ ∀ b, b ≠ 0 → ¬ (67 ≤ b ∧ b < 118) → μ2 b = μ b) := by
  refine am_met (by first | decide | rfl) (Nat.le_of_ble_eq_true rfl) (fun h => by first | rfl | cases h) ?_
  show am_W YX9_remember _ 0 0 0 [(0, .ref 0)] [] _ _
  refine ap_aload_n dX9_remember_0 rfl rfl ?_
  refine ap_get ff_X9_212 dX9_remember_1 (by omega) hB rfl ?_
  refine ap_iconst dX9_remember_4 ?_
  refine ap_icmp_lt (tgt := 12) dX9_remember_5 (by decide) (by omega) (fun c5 => ?_) (fun c5 => ?_)
  · have hlt : rem < 5 := by omega
    rw [show rnx rem = rem + 1 from if_pos hlt, show hnx rem hs (x, zb, zv, za, zw) = va_up hs rem (x, zb, zv, za, zw) from if_pos hlt]
    exact wk_remember hB hH hP hN hlt
  · refine ap_aload_n dX9_remember_8 rfl rfl ?_
    refine ap_cV (As := []) (rest := []) (ct_dropOldest hB hH hN) dX9_remember_9 lk_X9_227 hy_X9_dropOldest rfl (by omega) hB ⟨_, _, rfl⟩ (Nat.le_of_ble_eq_true rfl) ⟨Nat.le_of_ble_eq_true rfl, Nat.le_of_ble_eq_true rfl⟩ ⟨rfl, rfl⟩ ⟨Nat.le_of_ble_eq_true rfl, Nat.le_of_ble_eq_true rfl⟩ (fun xr1 xN2 μz xq3 => ?_)
    obtain ⟨rfl, rfl, hz1, hz2, hz3⟩ := xq3
    have hlt : ¬ rem < 5 := by omega
    rw [show rnx rem = 5 from if_neg hlt, show hnx rem hs (x, zb, zv, za, zw) = va_up (fun k => hs ((k + 1) % 5)) 4 (x, zb, zv, za, zw) from if_neg hlt]
    exact am_mono (wk_remember (rem := 4) hz1 hz2 (hP.kept (fun b q1 q2 => hz3 b (by omega) (by omega))) hN (by omega)) (fun r N2 μ2 hq => ⟨hq.1, hq.2.1, hq.2.2.1, hq.2.2.2.1, fun b q1 q2 => (hq.2.2.2.2 b q1 q2).trans (hz3 b q1 (by omega))⟩)

