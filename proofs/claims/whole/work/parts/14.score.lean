/-! THE PICTURE OF A SCORE: count, bars, total, tied, begins, ends, notes, bar numbers, accents, bar lengths, open tuplets -/
abbrev PS : Type := Nat × Nat × Int × Int × (Nat → Int) × (Nat → Int) × (Nat → Int) × (Nat → Int) × (Nat → Int) × (Nat → Int) × List (Int × Int)
abbrev p_cnt (P : PS) : Nat := P.1
abbrev p_nb (P : PS) : Nat := P.2.1
abbrev p_tot (P : PS) : Int := P.2.2.1
abbrev p_td (P : PS) : Int := P.2.2.2.1
abbrev p_B (P : PS) : Nat → Int := P.2.2.2.2.1
abbrev p_E (P : PS) : Nat → Int := P.2.2.2.2.2.1
abbrev p_NC (P : PS) : Nat → Int := P.2.2.2.2.2.2.1
abbrev p_BN (P : PS) : Nat → Int := P.2.2.2.2.2.2.2.1
abbrev p_AC (P : PS) : Nat → Int := P.2.2.2.2.2.2.2.2.1
abbrev p_BL (P : PS) : Nat → Int := P.2.2.2.2.2.2.2.2.2.1
abbrev p_ts (P : PS) : List (Int × Int) := P.2.2.2.2.2.2.2.2.2.2
def pn (ts : List (Int × Int)) : Int := match ts with
  | [] => 1
  | x :: r => x.2 * pn r
def pm (ts : List (Int × Int)) : Int := match ts with
  | [] => 1
  | x :: r => x.1 * pm r
def dqn (d : Nat) : Int := if d = 0 then 4 else if d = 1 then 6 else 7
def tk (h : Int) (d : Nat) (ts : List (Int × Int)) : Int := (812851200 * dqn d * pn ts) / (4 * 2 ^ h.toNat * pm ts)
def p0 : PS := (0, 1, 0, 0, fun _ => 0, fun _ => 0, fun _ => 0, fun _ => 0, fun _ => 0, fun _ => 0, [])
def pBar (P : PS) : PS := (p_cnt P, p_nb P + 1, p_tot P, p_td P, p_B P, p_E P, p_NC P, p_BN P, p_AC P, va_up (p_BL P) (p_nb P) 0, p_ts P)
def pTs (P : PS) (ts : List (Int × Int)) : PS := (p_cnt P, p_nb P, p_tot P, p_td P, p_B P, p_E P, p_NC P, p_BN P, p_AC P, p_BL P, ts)
def pJoin (P : PS) (x : Int) : PS := (p_cnt P, p_nb P, p_tot P, p_td P, p_B P, va_up (p_E P) (p_cnt P - 1) (p_E P (p_cnt P - 1) + x), va_up (p_NC P) (p_cnt P - 1) (p_NC P (p_cnt P - 1) + 1), p_BN P, p_AC P, p_BL P, p_ts P)
def pEv (P : PS) (x ac : Int) : PS := (p_cnt P + 1, p_nb P, p_tot P, p_td P, va_up (p_B P) (p_cnt P) (p_tot P), va_up (p_E P) (p_cnt P) (p_tot P + x), va_up (p_NC P) (p_cnt P) 1, va_up (p_BN P) (p_cnt P) ((p_nb P : Int) - 1), va_up (p_AC P) (p_cnt P) ac, p_BL P, p_ts P)
def pAdv (P : PS) (x td : Int) : PS := (p_cnt P, p_nb P, p_tot P + x, td, p_B P, p_E P, p_NC P, p_BN P, p_AC P, va_up (p_BL P) (p_nb P - 1) (p_BL P (p_nb P - 1) + x), p_ts P)
def pNote (P : PS) (x ac : Int) : PS := if p_td P = 1 then pJoin P x else pEv P x ac
def pSnd (P : PS) (rest : Bool) (x ac td : Int) : PS := if rest then pAdv P x 0 else pAdv (pNote P x ac) x td
def dts (us : List Int) (k : Nat) : Nat := if tat us (k + 1) = 46 then (if tat us (k + 2) = 46 then 2 else 1) else 0
def stp (us : List Int) (k : Nat) (P : PS) : PS :=
  if us.getD k 0 = 124 then pBar P
  else if us.getD k 0 = 123 then pTs P (p_ts P ++ [(dg (tat us (k + 1)), dg (tat us (k + 3)))])
  else if us.getD k 0 = 125 then pTs P (p_ts P).dropLast
  else if 0 ≤ hv (us.getD k 0) then pSnd P (tat us ((k : Int) - 1) = 114) (tk (hv (us.getD k 0)) (dts us k) (p_ts P)) (if tat us ((k : Int) - 1) = 94 then 1 else 0) (if tat us (k + 1 + dts us k) = 126 then 1 else 0)
  else P
def sp (us : List Int) (k : Nat) : PS := match k with
  | 0 => p0
  | k + 1 => stp us k (sp us k)
/-- what is known of a picture at any time -/
def pok (P : PS) : Prop := p_cnt P ≤ 300 ∧ (1 ≤ p_nb P ∧ p_nb P ≤ 901) ∧ (0 ≤ p_tot P ∧ p_tot P ≤ 140000000000000) ∧ (p_td P = 0 ∨ p_td P = 1) ∧ (p_td P = 1 → 0 < p_cnt P) ∧ (p_ts P).length ≤ 2 ∧ (∀ x ∈ p_ts P, (2 ≤ x.1 ∧ x.1 ≤ 9) ∧ 2 ≤ x.2 ∧ x.2 ≤ 9) ∧ (∀ i, i < p_cnt P → (0 ≤ p_B P i ∧ p_B P i ≤ p_tot P) ∧ (p_B P i ≤ p_E P i ∧ p_E P i ≤ p_tot P) ∧ (1 ≤ p_NC P i ∧ p_NC P i ≤ 300) ∧ (0 ≤ p_BN P i ∧ p_BN P i ≤ 900) ∧ (p_AC P i = 0 ∨ p_AC P i = 1)) ∧ ∀ j, j < p_nb P → 0 ≤ p_BL P j ∧ p_BL P j ≤ p_tot P
theorem pn_app (ts : List (Int × Int)) (x : Int × Int) : pn (ts ++ [x]) = pn ts * x.2 := by
  induction ts with
  | nil => simp [pn]
  | cons y r ih => simp only [List.cons_append, pn, ih, Int.mul_assoc]
theorem pm_app (ts : List (Int × Int)) (x : Int × Int) : pm (ts ++ [x]) = pm ts * x.1 := by
  induction ts with
  | nil => simp [pm]
  | cons y r ih => simp only [List.cons_append, pm, ih, Int.mul_assoc]
theorem pnm_r {ts : List (Int × Int)} (hl : ts.length ≤ 2) (h : ∀ x ∈ ts, (2 ≤ x.1 ∧ x.1 ≤ 9) ∧ 2 ≤ x.2 ∧ x.2 ≤ 9) : (1 ≤ pn ts ∧ pn ts ≤ 81) ∧ 1 ≤ pm ts ∧ pm ts ≤ 81 := by
  match ts, hl, h with
  | [], _, _ => simp [pn, pm]
  | [x], _, h =>
    have h1 := h x (by simp)
    simp only [pn, pm]
    omega
  | [x, y], _, h =>
    have h1 := h x (by simp)
    have h2 := h y (by simp)
    simp only [pn, pm, Int.mul_one]
    have a1 : x.2 * y.2 ≤ 9 * 9 := Int.mul_le_mul h1.2.2 h2.2.2 (by omega) (by omega)
    have a2 : 1 * 1 ≤ x.2 * y.2 := Int.mul_le_mul (by omega) (by omega) (by omega) (by omega)
    have a3 : x.1 * y.1 ≤ 9 * 9 := Int.mul_le_mul h1.1.2 h2.1.2 (by omega) (by omega)
    have a4 : 1 * 1 ≤ x.1 * y.1 := Int.mul_le_mul (by omega) (by omega) (by omega) (by omega)
    omega
  | x :: y :: z :: r, hl, _ => simp at hl
/-! the class's score in the memory: object at s, arrays s + 1 .. s + 6, its scale s + 7 .. s + 9 -/
def Sc7 (μ : am_M) (s : Nat) (ts : List (Int × Int)) : Prop := μ s = am_O 7 [.ref (s + 1), .ref (s + 2), am_i (ts.length : Int)] ∧ (∃ fu : Nat → Int, μ (s + 1) = am_L 3 fu ∧ ∀ k, k ≤ ts.length → fu k = pn (ts.take k)) ∧ ∃ fd : Nat → Int, μ (s + 2) = am_L 3 fd ∧ ∀ k, k ≤ ts.length → fd k = pm (ts.take k)
def Sco (μ : am_M) (s : Nat) (P : PS) : Prop := μ s = am_O 4 [.ref (s + 1), .ref (s + 2), .ref (s + 3), .ref (s + 4), .ref (s + 5), .ref (s + 6), .ref (s + 7), am_i (p_cnt P : Int), am_i (p_nb P : Int), am_l (p_tot P), am_i (p_td P)] ∧ (∃ f : Nat → Int, μ (s + 1) = am_L 300 f ∧ ∀ i, i < p_cnt P → f i = p_B P i) ∧ (∃ f : Nat → Int, μ (s + 2) = am_L 300 f ∧ ∀ i, i < p_cnt P → f i = p_E P i) ∧ (∃ f : Nat → Int, μ (s + 3) = am_I 0 300 f ∧ ∀ i, i < p_cnt P → f i = p_NC P i) ∧ (∃ f : Nat → Int, μ (s + 4) = am_I 0 300 f ∧ ∀ i, i < p_cnt P → f i = p_BN P i) ∧ (∃ f : Nat → Int, μ (s + 5) = am_I 3 300 f ∧ ∀ i, i < p_cnt P → f i = p_AC P i) ∧ (∃ f : Nat → Int, μ (s + 6) = am_L 901 f ∧ ∀ i, i < p_nb P → f i = p_BL P i) ∧ Sc7 μ (s + 7) (p_ts P)
theorem Sc7.fr {μ μ2 : am_M} {s lo hi : Nat} {ts : List (Int × Int)} (h : Sc7 μ s ts) (hf : am_fr lo hi μ μ2) (hd : s + 3 ≤ lo ∨ hi ≤ s) : Sc7 μ2 s ts := by
  obtain ⟨h1, ⟨fu, h2, h3⟩, fd, h4, h5⟩ := h
  exact ⟨(hf _ (by omega)).trans h1, ⟨fu, (hf _ (by omega)).trans h2, h3⟩, fd, (hf _ (by omega)).trans h4, h5⟩
theorem Sco.fr {μ μ2 : am_M} {s lo hi : Nat} {P : PS} (h : Sco μ s P) (hf : am_fr lo hi μ μ2) (hd : s + 10 ≤ lo ∨ hi ≤ s) : Sco μ2 s P := by
  obtain ⟨h1, ⟨f1, a1, b1⟩, ⟨f2, a2, b2⟩, ⟨f3, a3, b3⟩, ⟨f4, a4, b4⟩, ⟨f5, a5, b5⟩, ⟨f6, a6, b6⟩, h7⟩ := h
  exact ⟨(hf _ (by omega)).trans h1, ⟨f1, (hf _ (by omega)).trans a1, b1⟩, ⟨f2, (hf _ (by omega)).trans a2, b2⟩, ⟨f3, (hf _ (by omega)).trans a3, b3⟩, ⟨f4, (hf _ (by omega)).trans a4, b4⟩, ⟨f5, (hf _ (by omega)).trans a5, b5⟩, ⟨f6, (hf _ (by omega)).trans a6, b6⟩, h7.fr hf (by omega)⟩
set_option maxHeartbeats 4000000 in
set_option maxRecDepth 100000 in
theorem ct_sstart {N s : Nat} {μ : am_M} {ts : List (Int × Int)} (hS : Sc7 μ s ts) (hN : s + 2 < N) : am_Met YX7_start [.ref s] N μ (fun r N2 μ2 => r = none ∧ N = N2 ∧ Sc7 μ2 s ([]) ∧ am_fr s (s + 3) μ μ2) := by
  obtain ⟨h1, ⟨fu, h2, h3⟩, fd, h4, h5⟩ := id hS
  refine am_met (by first | decide | rfl) (Nat.le_of_ble_eq_true rfl) (fun h => by first | rfl | cases h) ?_
  show am_W YX7_start _ 0 0 0 [(0, .ref s)] [] _ _
  refine ap_aload_n dX7_start_0 rfl rfl ?_
  refine ap_iconst dX7_start_1 ?_
  refine ap_put (fs2 := [.ref (s + 1), .ref (s + 2), am_i 0]) ff_X7_18 fc_X7_2 dX7_start_2 (by omega) h1 (fun _ => ⟨rfl, rfl⟩) (Nat.le_of_ble_eq_true rfl) rfl (fun μ1 xe2 xf3 => ?_)
  have xm4 : μ1 (s + 1) = am_L 3 fu := (xf3 _ (by omega)).trans h2
  have xm5 : μ1 (s + 2) = am_L 3 fd := (xf3 _ (by omega)).trans h4
  exact ap_vret dX7_start_5 rfl (Nat.le_of_ble_eq_true rfl) (Nat.le_of_ble_eq_true rfl) (⟨rfl, rfl, ⟨xe2, ⟨fu, xm4, fun k hk => by simp at hk; rw [hk, h3 0 (by omega)]; simp⟩, fd, xm5, fun k hk => by simp at hk; rw [hk, h5 0 (by omega)]; simp⟩, fun b hb => (xf3 b (by omega))⟩)

set_option maxHeartbeats 4000000 in
set_option maxRecDepth 100000 in
theorem ct_sopen {N s : Nat} {μ : am_M} {ts : List (Int × Int)} (hS : Sc7 μ s ts) (hN : s + 2 < N) {zm zn : Int} (hm : -1 ≤ zm ∧ zm ≤ 9) (hn : -1 ≤ zn ∧ zn ≤ 9) (hl : ts.length < 2) : am_Met YX7_open [.ref s, am_i zm, am_i zn] N μ (fun r N2 μ2 => r = none ∧ N = N2 ∧ Sc7 μ2 s (ts ++ [(zm, zn)]) ∧ am_fr s (s + 3) μ μ2) := by
  obtain ⟨h1, ⟨fu, h2, h3⟩, fd, h4, h5⟩ := id hS
  refine am_met (by first | decide | rfl) (Nat.le_of_ble_eq_true rfl) (fun h => by first | rfl | cases h) ?_
  show am_W YX7_open _ 0 0 0 [(0, .ref s), (1, am_i zm), (2, am_i zn)] [] _ _
  refine ap_aload_n dX7_open_0 rfl rfl ?_
  refine ap_get ff_X7_18 dX7_open_1 (by omega) h1 rfl ?_
  refine ap_if_lt (tgt := 71) dX7_open_4 (by decide) (by omega) (fun c4 => (by exfalso; omega)) (fun c4 => ?_)
  refine ap_aload_n dX7_open_7 rfl rfl ?_
  refine ap_get ff_X7_18 dX7_open_8 (by omega) h1 rfl ?_
  refine ap_iconst dX7_open_11 ?_
  refine ap_icmp_ge (tgt := 71) dX7_open_12 (by decide) (by omega) (fun c12 => (by exfalso; omega)) (fun c12 => ?_)
  refine ap_aload_n dX7_open_15 rfl rfl ?_
  refine ap_get ff_X7_9 dX7_open_16 (by omega) h1 rfl ?_
  refine ap_aload_n dX7_open_19 rfl rfl ?_
  refine ap_get ff_X7_18 dX7_open_20 (by omega) h1 rfl ?_
  refine ap_iconst dX7_open_23 ?_
  refine ap_iadd dX7_open_24 ?_
  refine ap_aload_n dX7_open_25 rfl rfl ?_
  refine ap_get ff_X7_9 dX7_open_26 (by omega) h1 rfl ?_
  refine ap_aload_n dX7_open_29 rfl rfl ?_
  refine ap_get ff_X7_18 dX7_open_30 (by omega) h1 rfl ?_
  refine ap_lald (j := ts.length) dX7_open_33 (by omega) h2 (by omega) (by omega) ?_
  refine ap_iload_n dX7_open_34 rfl rfl ?_
  refine ap_i2l dX7_open_35 (by omega) ?_
  refine ap_lmul dX7_open_36 ?_
  refine ap_last (j := ts.length + 1) dX7_open_37 (by omega) h2 (by omega) (by omega) (fun μ1 xe2 xf3 => ?_)
  refine ap_aload_n dX7_open_38 rfl rfl ?_
  have xm4 : μ1 s = am_O 7 [.ref (s + 1), .ref (s + 2), am_i (ts.length : Int)] := (xf3 _ (by omega)).trans h1
  refine ap_get ff_X7_15 dX7_open_39 (by omega) xm4 rfl ?_
  refine ap_aload_n dX7_open_42 rfl rfl ?_
  refine ap_get ff_X7_18 dX7_open_43 (by omega) xm4 rfl ?_
  refine ap_iconst dX7_open_46 ?_
  refine ap_iadd dX7_open_47 ?_
  refine ap_aload_n dX7_open_48 rfl rfl ?_
  refine ap_get ff_X7_15 dX7_open_49 (by omega) xm4 rfl ?_
  refine ap_aload_n dX7_open_52 rfl rfl ?_
  refine ap_get ff_X7_18 dX7_open_53 (by omega) xm4 rfl ?_
  have xm5 : μ1 (s + 2) = am_L 3 fd := (xf3 _ (by omega)).trans h4
  refine ap_lald (j := ts.length) dX7_open_56 (by omega) xm5 (by omega) (by omega) ?_
  refine ap_iload_n dX7_open_57 rfl rfl ?_
  refine ap_i2l dX7_open_58 (by omega) ?_
  refine ap_lmul dX7_open_59 ?_
  refine ap_last (j := ts.length + 1) dX7_open_60 (by omega) xm5 (by omega) (by omega) (fun μ6 xe7 xf8 => ?_)
  refine ap_aload_n dX7_open_61 rfl rfl ?_
  refine ap_dup dX7_open_62 rfl ?_
  have xm9 : μ6 s = am_O 7 [.ref (s + 1), .ref (s + 2), am_i (ts.length : Int)] := (xf8 _ (by omega)).trans xm4
  refine ap_get ff_X7_18 dX7_open_63 (by omega) xm9 rfl ?_
  refine ap_iconst dX7_open_66 ?_
  refine ap_iadd dX7_open_67 ?_
  refine ap_put (fs2 := [.ref (s + 1), .ref (s + 2), am_i ((ts.length : Int) + 1)]) ff_X7_18 fc_X7_2 dX7_open_68 (by omega) xm9 (fun _ => ⟨rfl, rfl⟩) (Nat.le_of_ble_eq_true rfl) rfl (fun μ10 xe11 xf12 => ?_)
  have xm13 : μ10 (s + 1) = am_L 3 (va_up fu (ts.length + 1) ((fu ts.length) * zn)) := (xf12 _ (by omega)).trans ((xf8 _ (by omega)).trans xe2)
  have xm14 : μ10 (s + 2) = am_L 3 (va_up fd (ts.length + 1) ((fd ts.length) * zm)) := (xf12 _ (by omega)).trans xe7
  exact ap_vret dX7_open_71 rfl (Nat.le_of_ble_eq_true rfl) (Nat.le_of_ble_eq_true rfl) (⟨rfl, rfl, ⟨by rw [xe11]; simp, ⟨_, xm13, fun k hk => by
    simp at hk
    by_cases hk2 : k = ts.length + 1
    · subst hk2; rw [List.take_of_length_le (by simp), pn_app, ← List.take_length (l := ts), ← h3 _ (Nat.le_refl _)]; simp [va_up]
    · rw [List.take_append_of_le_length (by omega), ← h3 k (by omega)]; simp [va_up, hk2]⟩, _, xm14, fun k hk => by
    simp at hk
    by_cases hk2 : k = ts.length + 1
    · subst hk2; rw [List.take_of_length_le (by simp), pm_app, ← List.take_length (l := ts), ← h5 _ (Nat.le_refl _)]; simp [va_up]
    · rw [List.take_append_of_le_length (by omega), ← h5 k (by omega)]; simp [va_up, hk2]⟩, fun b hb => (xf12 b (by omega)).trans ((xf8 b (by omega)).trans ((xf3 b (by omega))))⟩)

set_option maxHeartbeats 4000000 in
set_option maxRecDepth 100000 in
theorem ct_sclose {N s : Nat} {μ : am_M} {ts : List (Int × Int)} (hS : Sc7 μ s ts) (hN : s + 2 < N) (hl : 0 < ts.length ∧ ts.length ≤ 2) : am_Met YX7_close [.ref s] N μ (fun r N2 μ2 => r = none ∧ N = N2 ∧ Sc7 μ2 s ts.dropLast ∧ am_fr s (s + 3) μ μ2) := by
  obtain ⟨h1, ⟨fu, h2, h3⟩, fd, h4, h5⟩ := id hS
  refine am_met (by first | decide | rfl) (Nat.le_of_ble_eq_true rfl) (fun h => by first | rfl | cases h) ?_
  show am_W YX7_close _ 0 0 0 [(0, .ref s)] [] _ _
  refine ap_aload_n dX7_close_0 rfl rfl ?_
  refine ap_get ff_X7_18 dX7_close_1 (by omega) h1 rfl ?_
  refine ap_if_le (tgt := 17) dX7_close_4 (by decide) (by omega) (fun c4 => (by exfalso; omega)) (fun c4 => ?_)
  refine ap_aload_n dX7_close_7 rfl rfl ?_
  refine ap_dup dX7_close_8 rfl ?_
  refine ap_get ff_X7_18 dX7_close_9 (by omega) h1 rfl ?_
  refine ap_iconst dX7_close_12 ?_
  refine ap_isub dX7_close_13 ?_
  refine ap_put (fs2 := [.ref (s + 1), .ref (s + 2), am_i ((ts.length : Int) - 1)]) ff_X7_18 fc_X7_2 dX7_close_14 (by omega) h1 (fun _ => ⟨rfl, rfl⟩) (Nat.le_of_ble_eq_true rfl) rfl (fun μ1 xe2 xf3 => ?_)
  have xm4 : μ1 (s + 1) = am_L 3 fu := (xf3 _ (by omega)).trans h2
  have xm5 : μ1 (s + 2) = am_L 3 fd := (xf3 _ (by omega)).trans h4
  exact ap_vret dX7_close_17 rfl (Nat.le_of_ble_eq_true rfl) (Nat.le_of_ble_eq_true rfl) (⟨rfl, rfl, ⟨by rw [xe2, show ((ts.dropLast.length : Nat) : Int) = (ts.length : Int) - 1 by simp; omega], ⟨fu, xm4, fun k hk => by
    simp at hk
    rw [h3 k (by omega), List.dropLast_eq_take, List.take_take, show min k (ts.length - 1) = k by omega]⟩, fd, xm5, fun k hk => by
    simp at hk
    rw [h5 k (by omega), List.dropLast_eq_take, List.take_take, show min k (ts.length - 1) = k by omega]⟩, fun b hb => (xf3 b (by omega))⟩)

set_option maxHeartbeats 4000000 in
set_option maxRecDepth 100000 in
theorem ct_sapply {N s : Nat} {μ : am_M} {ts : List (Int × Int)} (hS : Sc7 μ s ts) (hN : s + 2 < N) {x d : Int} (hl : ts.length ≤ 2) (ht : ∀ x ∈ ts, (2 ≤ x.1 ∧ x.1 ≤ 9) ∧ 2 ≤ x.2 ∧ x.2 ≤ 9) (hx : 0 ≤ x ∧ x ≤ 10000000000) (hd : 1 ≤ d ∧ d ≤ 1000) : am_Met YX7_apply [.ref s, am_l x, am_l d] N μ (am_pv (am_l ((x * pn ts) / (d * pm ts))) N μ) := by
  obtain ⟨h1, ⟨fu, h2, h3⟩, fd, h4, h5⟩ := id hS
  have hr := pnm_r hl ht
  have b1 : 0 ≤ x * pn ts := Int.mul_nonneg hx.1 (by omega)
  have b2 : x * pn ts ≤ 10000000000 * 81 := Int.mul_le_mul hx.2 hr.1.2 (by omega) (by omega)
  have b3 : 1 * 1 ≤ d * pm ts := Int.mul_le_mul hd.1 hr.2.1 (by omega) (by omega)
  have b4 : d * pm ts ≤ 1000 * 81 := Int.mul_le_mul hd.2 hr.2.2 (by omega) (by omega)
  refine am_met (by first | decide | rfl) (Nat.le_of_ble_eq_true rfl) (fun h => by first | rfl | cases h) ?_
  show am_W YX7_apply _ 0 0 0 [(0, .ref s), (1, am_l x), (3, am_l d)] [] _ _
  refine ap_aload_n dX7_apply_0 rfl rfl ?_
  refine ap_get ff_X7_18 dX7_apply_1 (by omega) h1 rfl ?_
  refine ap_if_lt (tgt := 15) dX7_apply_4 (by decide) (by omega) (fun c4 => (by exfalso; omega)) (fun c4 => ?_)
  refine ap_aload_n dX7_apply_7 rfl rfl ?_
  refine ap_get ff_X7_18 dX7_apply_8 (by omega) h1 rfl ?_
  refine ap_iconst dX7_apply_11 ?_
  refine ap_icmp_le (tgt := 17) dX7_apply_12 (by decide) (by omega) (fun c12 => ?_) (fun c12 => (by exfalso; omega))
  refine ap_lload_n dX7_apply_17 rfl rfl ?_
  refine ap_aload_n dX7_apply_18 rfl rfl ?_
  refine ap_get ff_X7_15 dX7_apply_19 (by omega) h1 rfl ?_
  refine ap_aload_n dX7_apply_22 rfl rfl ?_
  refine ap_get ff_X7_18 dX7_apply_23 (by omega) h1 rfl ?_
  refine ap_lald (j := ts.length) dX7_apply_26 (by omega) h4 (by omega) (by omega) ?_
  refine ap_lmul dX7_apply_27 ?_
  refine ap_topl (b := d * pm ts) (show (d * (fd ts.length)) = (d * pm ts) from by rw [h5 _ (Nat.le_refl _), List.take_length]) ?_
  refine ap_Lstore (lv2 := [(0, .ref s), (1, am_l x), (3, am_l d), (5, am_l (d * pm ts))]) dX7_apply_28 (by decide) rfl ?_
  refine ap_lload dX7_apply_30 rfl ?_
  refine ap_lconst (v := 1) dX7_apply_32 rfl ?_
  refine ap_lcmp_ge (tgt := 41) dX7_apply_33 dX7_apply_34 (by decide) (⟨by omega, by omega⟩) (fun c33 => ?_) (fun c33 => (by exfalso; omega))
  refine ap_lload_n dX7_apply_41 rfl rfl ?_
  refine ap_aload_n dX7_apply_42 rfl rfl ?_
  refine ap_get ff_X7_9 dX7_apply_43 (by omega) h1 rfl ?_
  refine ap_aload_n dX7_apply_46 rfl rfl ?_
  refine ap_get ff_X7_18 dX7_apply_47 (by omega) h1 rfl ?_
  refine ap_lald (j := ts.length) dX7_apply_50 (by omega) h2 (by omega) (by omega) ?_
  refine ap_lmul dX7_apply_51 ?_
  refine ap_topl (b := x * pn ts) (show (x * (fu ts.length)) = (x * pn ts) from by rw [h3 _ (Nat.le_refl _), List.take_length]) ?_
  refine ap_lload dX7_apply_52 rfl ?_
  refine ap_ldiv dX7_apply_54 (⟨⟨b1, by omega⟩, by omega⟩) ?_
  exact ap_lret dX7_apply_55 rfl (Nat.le_of_ble_eq_true rfl) (Nat.le_of_ble_eq_true rfl) (by first | exact ⟨rfl, rfl, rfl⟩ | (refine ⟨?_, rfl, rfl⟩; simp))

set_option maxHeartbeats 4000000 in
set_option maxRecDepth 100000 in
theorem ct_count {N s : Nat} {μ : am_M} {P : PS} (hS : Sco μ s P) (hN : s + 9 < N) (hp : pok P) : am_Met YX4_count [.ref s] N μ (am_pv (am_i (p_cnt P : Int)) N μ) := by
  obtain ⟨h1, ⟨fb, a1, b1⟩, ⟨fe, a2, b2⟩, ⟨fn, a3, b3⟩, ⟨fm, a4, b4⟩, ⟨fa, a5, b5⟩, ⟨fl, a6, b6⟩, h7⟩ := id hS
  obtain ⟨g1, g2, g3, g4, g5, g6, g7, g8, g9⟩ := id hp
  refine am_met (by first | decide | rfl) (Nat.le_of_ble_eq_true rfl) (fun h => by first | rfl | cases h) ?_
  show am_W YX4_count _ 0 0 0 [(0, .ref s)] [] _ _
  refine ap_aload_n dX4_count_0 rfl rfl ?_
  refine ap_get ff_X4_42 dX4_count_1 (by omega) h1 rfl ?_
  exact ap_iret dX4_count_4 rfl rfl (Nat.le_of_ble_eq_true rfl) (Nat.le_of_ble_eq_true rfl) (⟨rfl, rfl, rfl⟩)

set_option maxHeartbeats 4000000 in
set_option maxRecDepth 100000 in
theorem ct_barCount {N s : Nat} {μ : am_M} {P : PS} (hS : Sco μ s P) (hN : s + 9 < N) (hp : pok P) : am_Met YX4_barCount [.ref s] N μ (am_pv (am_i (p_nb P : Int)) N μ) := by
  obtain ⟨h1, ⟨fb, a1, b1⟩, ⟨fe, a2, b2⟩, ⟨fn, a3, b3⟩, ⟨fm, a4, b4⟩, ⟨fa, a5, b5⟩, ⟨fl, a6, b6⟩, h7⟩ := id hS
  obtain ⟨g1, g2, g3, g4, g5, g6, g7, g8, g9⟩ := id hp
  refine am_met (by first | decide | rfl) (Nat.le_of_ble_eq_true rfl) (fun h => by first | rfl | cases h) ?_
  show am_W YX4_barCount _ 0 0 0 [(0, .ref s)] [] _ _
  refine ap_aload_n dX4_barCount_0 rfl rfl ?_
  refine ap_get ff_X4_46 dX4_barCount_1 (by omega) h1 rfl ?_
  exact ap_iret dX4_barCount_4 rfl rfl (Nat.le_of_ble_eq_true rfl) (Nat.le_of_ble_eq_true rfl) (⟨rfl, rfl, rfl⟩)

set_option maxHeartbeats 4000000 in
set_option maxRecDepth 100000 in
theorem ct_total {N s : Nat} {μ : am_M} {P : PS} (hS : Sco μ s P) (hN : s + 9 < N) (hp : pok P) : am_Met YX4_total [.ref s] N μ (am_pv (am_l (p_tot P)) N μ) := by
  obtain ⟨h1, ⟨fb, a1, b1⟩, ⟨fe, a2, b2⟩, ⟨fn, a3, b3⟩, ⟨fm, a4, b4⟩, ⟨fa, a5, b5⟩, ⟨fl, a6, b6⟩, h7⟩ := id hS
  obtain ⟨g1, g2, g3, g4, g5, g6, g7, g8, g9⟩ := id hp
  refine am_met (by first | decide | rfl) (Nat.le_of_ble_eq_true rfl) (fun h => by first | rfl | cases h) ?_
  show am_W YX4_total _ 0 0 0 [(0, .ref s)] [] _ _
  refine ap_aload_n dX4_total_0 rfl rfl ?_
  refine ap_get ff_X4_49 dX4_total_1 (by omega) h1 rfl ?_
  exact ap_lret dX4_total_4 rfl (Nat.le_of_ble_eq_true rfl) (Nat.le_of_ble_eq_true rfl) (⟨rfl, rfl, rfl⟩)

set_option maxHeartbeats 4000000 in
set_option maxRecDepth 100000 in
theorem ct_hasEvent {N s : Nat} {μ : am_M} {P : PS} (hS : Sco μ s P) (hN : s + 9 < N) (hp : pok P) {k : Int} (hk : -2147483648 ≤ k ∧ k ≤ 2147483647) : am_Met YX4_hasEvent [.ref s, am_i k] N μ (am_pv (am_i (if 0 ≤ k ∧ k < p_cnt P then 1 else 0)) N μ) := by
  obtain ⟨h1, ⟨fb, a1, b1⟩, ⟨fe, a2, b2⟩, ⟨fn, a3, b3⟩, ⟨fm, a4, b4⟩, ⟨fa, a5, b5⟩, ⟨fl, a6, b6⟩, h7⟩ := id hS
  obtain ⟨g1, g2, g3, g4, g5, g6, g7, g8, g9⟩ := id hp
  refine am_met (by first | decide | rfl) (Nat.le_of_ble_eq_true rfl) (fun h => by first | rfl | cases h) ?_
  show am_W YX4_hasEvent _ 0 0 0 [(0, .ref s), (1, am_i k)] [] _ _
  refine ap_iload_n dX4_hasEvent_0 rfl rfl ?_
  refine ap_if_lt (tgt := 16) dX4_hasEvent_1 (by decide) (by omega) (fun c1 => ?_) (fun c1 => ?_)
  · refine ap_iconst dX4_hasEvent_16 ?_
    exact ap_iret dX4_hasEvent_17 rfl (am_nz (by first | omega | decide)) (Nat.le_of_ble_eq_true rfl) (Nat.le_of_ble_eq_true rfl) (⟨by rw [if_neg (by omega)], rfl, rfl⟩)
  · refine ap_iload_n dX4_hasEvent_4 rfl rfl ?_
    refine ap_aload_n dX4_hasEvent_5 rfl rfl ?_
    refine ap_get ff_X4_42 dX4_hasEvent_6 (by omega) h1 rfl ?_
    refine ap_icmp_ge (tgt := 16) dX4_hasEvent_9 (by decide) (by omega) (fun c9 => ?_) (fun c9 => ?_)
    · refine ap_iconst dX4_hasEvent_16 ?_
      exact ap_iret dX4_hasEvent_17 rfl (am_nz (by first | omega | decide)) (Nat.le_of_ble_eq_true rfl) (Nat.le_of_ble_eq_true rfl) (⟨by rw [if_neg (by omega)], rfl, rfl⟩)
    · refine ap_iconst dX4_hasEvent_12 ?_
      refine ap_goto (tgt := 17) dX4_hasEvent_13 (by decide) ?_
      exact ap_iret dX4_hasEvent_17 rfl (am_nz (by first | omega | decide)) (Nat.le_of_ble_eq_true rfl) (Nat.le_of_ble_eq_true rfl) (⟨by rw [if_pos (by omega)], rfl, rfl⟩)

set_option maxHeartbeats 4000000 in
set_option maxRecDepth 100000 in
theorem ct_hasBar {N s : Nat} {μ : am_M} {P : PS} (hS : Sco μ s P) (hN : s + 9 < N) (hp : pok P) {k : Int} (hk : -2147483648 ≤ k ∧ k ≤ 2147483647) : am_Met YX4_hasBar [.ref s, am_i k] N μ (am_pv (am_i (if 0 ≤ k ∧ k < p_nb P then 1 else 0)) N μ) := by
  obtain ⟨h1, ⟨fb, a1, b1⟩, ⟨fe, a2, b2⟩, ⟨fn, a3, b3⟩, ⟨fm, a4, b4⟩, ⟨fa, a5, b5⟩, ⟨fl, a6, b6⟩, h7⟩ := id hS
  obtain ⟨g1, g2, g3, g4, g5, g6, g7, g8, g9⟩ := id hp
  refine am_met (by first | decide | rfl) (Nat.le_of_ble_eq_true rfl) (fun h => by first | rfl | cases h) ?_
  show am_W YX4_hasBar _ 0 0 0 [(0, .ref s), (1, am_i k)] [] _ _
  refine ap_iload_n dX4_hasBar_0 rfl rfl ?_
  refine ap_if_lt (tgt := 16) dX4_hasBar_1 (by decide) (by omega) (fun c1 => ?_) (fun c1 => ?_)
  · refine ap_iconst dX4_hasBar_16 ?_
    exact ap_iret dX4_hasBar_17 rfl (am_nz (by first | omega | decide)) (Nat.le_of_ble_eq_true rfl) (Nat.le_of_ble_eq_true rfl) (⟨by rw [if_neg (by omega)], rfl, rfl⟩)
  · refine ap_iload_n dX4_hasBar_4 rfl rfl ?_
    refine ap_aload_n dX4_hasBar_5 rfl rfl ?_
    refine ap_get ff_X4_46 dX4_hasBar_6 (by omega) h1 rfl ?_
    refine ap_icmp_ge (tgt := 16) dX4_hasBar_9 (by decide) (by omega) (fun c9 => ?_) (fun c9 => ?_)
    · refine ap_iconst dX4_hasBar_16 ?_
      exact ap_iret dX4_hasBar_17 rfl (am_nz (by first | omega | decide)) (Nat.le_of_ble_eq_true rfl) (Nat.le_of_ble_eq_true rfl) (⟨by rw [if_neg (by omega)], rfl, rfl⟩)
    · refine ap_iconst dX4_hasBar_12 ?_
      refine ap_goto (tgt := 17) dX4_hasBar_13 (by decide) ?_
      exact ap_iret dX4_hasBar_17 rfl (am_nz (by first | omega | decide)) (Nat.le_of_ble_eq_true rfl) (Nat.le_of_ble_eq_true rfl) (⟨by rw [if_pos (by omega)], rfl, rfl⟩)

set_option maxHeartbeats 4000000 in
set_option maxRecDepth 100000 in
theorem ct_begin {N s : Nat} {μ : am_M} {P : PS} (hS : Sco μ s P) (hN : s + 9 < N) (hp : pok P) {k : Int} (hk : -2147483648 ≤ k ∧ k ≤ 2147483647) : am_Met YX4_begin [.ref s, am_i k] N μ (am_pv (am_l (if 0 ≤ k ∧ k < p_cnt P then p_B P k.toNat else 0)) N μ) := by
  obtain ⟨h1, ⟨fb, a1, b1⟩, ⟨fe, a2, b2⟩, ⟨fn, a3, b3⟩, ⟨fm, a4, b4⟩, ⟨fa, a5, b5⟩, ⟨fl, a6, b6⟩, h7⟩ := id hS
  obtain ⟨g1, g2, g3, g4, g5, g6, g7, g8, g9⟩ := id hp
  refine am_met (by first | decide | rfl) (Nat.le_of_ble_eq_true rfl) (fun h => by first | rfl | cases h) ?_
  show am_W YX4_begin _ 0 0 0 [(0, .ref s), (1, am_i k)] [] _ _
  refine ap_aload_n dX4_begin_0 rfl rfl ?_
  refine ap_iload_n dX4_begin_1 rfl rfl ?_
  refine ap_cV (As := [am_i k]) (rest := []) (ct_hasEvent hS hN hp hk) dX4_begin_2 lk_X4_53 hy_X4_hasEvent rfl (by omega) h1 ⟨_, _, rfl⟩ (Nat.le_of_ble_eq_true rfl) ⟨Nat.le_of_ble_eq_true rfl, Nat.le_of_ble_eq_true rfl⟩ ⟨rfl, rfl⟩ ⟨Nat.le_of_ble_eq_true rfl, Nat.le_of_ble_eq_true rfl⟩ (fun xr1 xN2 μ3 xq4 => ?_)
  obtain ⟨rfl, rfl, rfl⟩ := xq4
  refine ap_if_eq (tgt := 17) dX4_begin_5 (by decide) (by split <;> omega) (fun c5 => ?_) (fun c5 => ?_)
  · refine ap_lconst (v := 0) dX4_begin_17 rfl ?_
    exact ap_lret dX4_begin_18 rfl (Nat.le_of_ble_eq_true rfl) (Nat.le_of_ble_eq_true rfl) (⟨by rw [if_neg (fun hh => by rw [if_pos hh] at c5; omega)], rfl, rfl⟩)
  · have hh : 0 ≤ k ∧ k < p_cnt P := by
      by_cases hh : 0 ≤ k ∧ k < p_cnt P
      · exact hh
      · rw [if_neg hh] at c5; omega
    refine ap_aload_n dX4_begin_8 rfl rfl ?_
    refine ap_get ff_X4_9 dX4_begin_9 (by omega) h1 rfl ?_
    refine ap_iload_n dX4_begin_12 rfl rfl ?_
    refine ap_lald (j := k.toNat) dX4_begin_13 (by omega) a1 (by omega) (by omega) ?_
    refine ap_goto (tgt := 18) dX4_begin_14 (by decide) ?_
    exact ap_lret dX4_begin_18 rfl (Nat.le_of_ble_eq_true rfl) (Nat.le_of_ble_eq_true rfl) (⟨by rw [if_pos hh, b1 _ (by omega)], rfl, rfl⟩)

set_option maxHeartbeats 4000000 in
set_option maxRecDepth 100000 in
theorem ct_end {N s : Nat} {μ : am_M} {P : PS} (hS : Sco μ s P) (hN : s + 9 < N) (hp : pok P) {k : Int} (hk : -2147483648 ≤ k ∧ k ≤ 2147483647) : am_Met YX4_end [.ref s, am_i k] N μ (am_pv (am_l (if 0 ≤ k ∧ k < p_cnt P then p_E P k.toNat else 0)) N μ) := by
  obtain ⟨h1, ⟨fb, a1, b1⟩, ⟨fe, a2, b2⟩, ⟨fn, a3, b3⟩, ⟨fm, a4, b4⟩, ⟨fa, a5, b5⟩, ⟨fl, a6, b6⟩, h7⟩ := id hS
  obtain ⟨g1, g2, g3, g4, g5, g6, g7, g8, g9⟩ := id hp
  refine am_met (by first | decide | rfl) (Nat.le_of_ble_eq_true rfl) (fun h => by first | rfl | cases h) ?_
  show am_W YX4_end _ 0 0 0 [(0, .ref s), (1, am_i k)] [] _ _
  refine ap_aload_n dX4_end_0 rfl rfl ?_
  refine ap_iload_n dX4_end_1 rfl rfl ?_
  refine ap_cV (As := [am_i k]) (rest := []) (ct_hasEvent hS hN hp hk) dX4_end_2 lk_X4_53 hy_X4_hasEvent rfl (by omega) h1 ⟨_, _, rfl⟩ (Nat.le_of_ble_eq_true rfl) ⟨Nat.le_of_ble_eq_true rfl, Nat.le_of_ble_eq_true rfl⟩ ⟨rfl, rfl⟩ ⟨Nat.le_of_ble_eq_true rfl, Nat.le_of_ble_eq_true rfl⟩ (fun xr1 xN2 μ3 xq4 => ?_)
  obtain ⟨rfl, rfl, rfl⟩ := xq4
  refine ap_if_eq (tgt := 17) dX4_end_5 (by decide) (by split <;> omega) (fun c5 => ?_) (fun c5 => ?_)
  · refine ap_lconst (v := 0) dX4_end_17 rfl ?_
    exact ap_lret dX4_end_18 rfl (Nat.le_of_ble_eq_true rfl) (Nat.le_of_ble_eq_true rfl) (⟨by rw [if_neg (fun hh => by rw [if_pos hh] at c5; omega)], rfl, rfl⟩)
  · have hh : 0 ≤ k ∧ k < p_cnt P := by
      by_cases hh : 0 ≤ k ∧ k < p_cnt P
      · exact hh
      · rw [if_neg hh] at c5; omega
    refine ap_aload_n dX4_end_8 rfl rfl ?_
    refine ap_get ff_X4_15 dX4_end_9 (by omega) h1 rfl ?_
    refine ap_iload_n dX4_end_12 rfl rfl ?_
    refine ap_lald (j := k.toNat) dX4_end_13 (by omega) a2 (by omega) (by omega) ?_
    refine ap_goto (tgt := 18) dX4_end_14 (by decide) ?_
    exact ap_lret dX4_end_18 rfl (Nat.le_of_ble_eq_true rfl) (Nat.le_of_ble_eq_true rfl) (⟨by rw [if_pos hh, b2 _ (by omega)], rfl, rfl⟩)

set_option maxHeartbeats 4000000 in
set_option maxRecDepth 100000 in
theorem ct_notesOf {N s : Nat} {μ : am_M} {P : PS} (hS : Sco μ s P) (hN : s + 9 < N) (hp : pok P) {k : Int} (hk : -2147483648 ≤ k ∧ k ≤ 2147483647) : am_Met YX4_notesOf [.ref s, am_i k] N μ (am_pv (am_i (if 0 ≤ k ∧ k < p_cnt P then p_NC P k.toNat else 0)) N μ) := by
  obtain ⟨h1, ⟨fb, a1, b1⟩, ⟨fe, a2, b2⟩, ⟨fn, a3, b3⟩, ⟨fm, a4, b4⟩, ⟨fa, a5, b5⟩, ⟨fl, a6, b6⟩, h7⟩ := id hS
  obtain ⟨g1, g2, g3, g4, g5, g6, g7, g8, g9⟩ := id hp
  refine am_met (by first | decide | rfl) (Nat.le_of_ble_eq_true rfl) (fun h => by first | rfl | cases h) ?_
  show am_W YX4_notesOf _ 0 0 0 [(0, .ref s), (1, am_i k)] [] _ _
  refine ap_aload_n dX4_notesOf_0 rfl rfl ?_
  refine ap_iload_n dX4_notesOf_1 rfl rfl ?_
  refine ap_cV (As := [am_i k]) (rest := []) (ct_hasEvent hS hN hp hk) dX4_notesOf_2 lk_X4_53 hy_X4_hasEvent rfl (by omega) h1 ⟨_, _, rfl⟩ (Nat.le_of_ble_eq_true rfl) ⟨Nat.le_of_ble_eq_true rfl, Nat.le_of_ble_eq_true rfl⟩ ⟨rfl, rfl⟩ ⟨Nat.le_of_ble_eq_true rfl, Nat.le_of_ble_eq_true rfl⟩ (fun xr1 xN2 μ3 xq4 => ?_)
  obtain ⟨rfl, rfl, rfl⟩ := xq4
  refine ap_if_eq (tgt := 17) dX4_notesOf_5 (by decide) (by split <;> omega) (fun c5 => ?_) (fun c5 => ?_)
  · refine ap_iconst dX4_notesOf_17 ?_
    exact ap_iret dX4_notesOf_18 rfl rfl (Nat.le_of_ble_eq_true rfl) (Nat.le_of_ble_eq_true rfl) (⟨by rw [if_neg (fun hh => by rw [if_pos hh] at c5; omega)], rfl, rfl⟩)
  · have hh : 0 ≤ k ∧ k < p_cnt P := by
      by_cases hh : 0 ≤ k ∧ k < p_cnt P
      · exact hh
      · rw [if_neg hh] at c5; omega
    refine ap_aload_n dX4_notesOf_8 rfl rfl ?_
    refine ap_get ff_X4_18 dX4_notesOf_9 (by omega) h1 rfl ?_
    refine ap_iload_n dX4_notesOf_12 rfl rfl ?_
    refine ap_iald (j := k.toNat) dX4_notesOf_13 (by omega) a3 (by omega) (by omega) ?_
    refine ap_goto (tgt := 18) dX4_notesOf_14 (by decide) ?_
    exact ap_iret dX4_notesOf_18 rfl rfl (Nat.le_of_ble_eq_true rfl) (Nat.le_of_ble_eq_true rfl) (⟨by rw [if_pos hh, b3 _ (by omega)], rfl, rfl⟩)

set_option maxHeartbeats 4000000 in
set_option maxRecDepth 100000 in
theorem ct_barOf {N s : Nat} {μ : am_M} {P : PS} (hS : Sco μ s P) (hN : s + 9 < N) (hp : pok P) {k : Int} (hk : -2147483648 ≤ k ∧ k ≤ 2147483647) : am_Met YX4_barOf [.ref s, am_i k] N μ (am_pv (am_i (if 0 ≤ k ∧ k < p_cnt P then p_BN P k.toNat else 0)) N μ) := by
  obtain ⟨h1, ⟨fb, a1, b1⟩, ⟨fe, a2, b2⟩, ⟨fn, a3, b3⟩, ⟨fm, a4, b4⟩, ⟨fa, a5, b5⟩, ⟨fl, a6, b6⟩, h7⟩ := id hS
  obtain ⟨g1, g2, g3, g4, g5, g6, g7, g8, g9⟩ := id hp
  refine am_met (by first | decide | rfl) (Nat.le_of_ble_eq_true rfl) (fun h => by first | rfl | cases h) ?_
  show am_W YX4_barOf _ 0 0 0 [(0, .ref s), (1, am_i k)] [] _ _
  refine ap_aload_n dX4_barOf_0 rfl rfl ?_
  refine ap_iload_n dX4_barOf_1 rfl rfl ?_
  refine ap_cV (As := [am_i k]) (rest := []) (ct_hasEvent hS hN hp hk) dX4_barOf_2 lk_X4_53 hy_X4_hasEvent rfl (by omega) h1 ⟨_, _, rfl⟩ (Nat.le_of_ble_eq_true rfl) ⟨Nat.le_of_ble_eq_true rfl, Nat.le_of_ble_eq_true rfl⟩ ⟨rfl, rfl⟩ ⟨Nat.le_of_ble_eq_true rfl, Nat.le_of_ble_eq_true rfl⟩ (fun xr1 xN2 μ3 xq4 => ?_)
  obtain ⟨rfl, rfl, rfl⟩ := xq4
  refine ap_if_eq (tgt := 17) dX4_barOf_5 (by decide) (by split <;> omega) (fun c5 => ?_) (fun c5 => ?_)
  · refine ap_iconst dX4_barOf_17 ?_
    exact ap_iret dX4_barOf_18 rfl rfl (Nat.le_of_ble_eq_true rfl) (Nat.le_of_ble_eq_true rfl) (⟨by rw [if_neg (fun hh => by rw [if_pos hh] at c5; omega)], rfl, rfl⟩)
  · have hh : 0 ≤ k ∧ k < p_cnt P := by
      by_cases hh : 0 ≤ k ∧ k < p_cnt P
      · exact hh
      · rw [if_neg hh] at c5; omega
    refine ap_aload_n dX4_barOf_8 rfl rfl ?_
    refine ap_get ff_X4_22 dX4_barOf_9 (by omega) h1 rfl ?_
    refine ap_iload_n dX4_barOf_12 rfl rfl ?_
    refine ap_iald (j := k.toNat) dX4_barOf_13 (by omega) a4 (by omega) (by omega) ?_
    refine ap_goto (tgt := 18) dX4_barOf_14 (by decide) ?_
    exact ap_iret dX4_barOf_18 rfl rfl (Nat.le_of_ble_eq_true rfl) (Nat.le_of_ble_eq_true rfl) (⟨by rw [if_pos hh, b4 _ (by omega)], rfl, rfl⟩)

set_option maxHeartbeats 4000000 in
set_option maxRecDepth 100000 in
theorem ct_barLength {N s : Nat} {μ : am_M} {P : PS} (hS : Sco μ s P) (hN : s + 9 < N) (hp : pok P) {k : Int} (hk : -2147483648 ≤ k ∧ k ≤ 2147483647) : am_Met YX4_barLength [.ref s, am_i k] N μ (am_pv (am_l (if 0 ≤ k ∧ k < p_nb P then p_BL P k.toNat else 0)) N μ) := by
  obtain ⟨h1, ⟨fb, a1, b1⟩, ⟨fe, a2, b2⟩, ⟨fn, a3, b3⟩, ⟨fm, a4, b4⟩, ⟨fa, a5, b5⟩, ⟨fl, a6, b6⟩, h7⟩ := id hS
  obtain ⟨g1, g2, g3, g4, g5, g6, g7, g8, g9⟩ := id hp
  refine am_met (by first | decide | rfl) (Nat.le_of_ble_eq_true rfl) (fun h => by first | rfl | cases h) ?_
  show am_W YX4_barLength _ 0 0 0 [(0, .ref s), (1, am_i k)] [] _ _
  refine ap_aload_n dX4_barLength_0 rfl rfl ?_
  refine ap_iload_n dX4_barLength_1 rfl rfl ?_
  refine ap_cV (As := [am_i k]) (rest := []) (ct_hasBar hS hN hp hk) dX4_barLength_2 lk_X4_57 hy_X4_hasBar rfl (by omega) h1 ⟨_, _, rfl⟩ (Nat.le_of_ble_eq_true rfl) ⟨Nat.le_of_ble_eq_true rfl, Nat.le_of_ble_eq_true rfl⟩ ⟨rfl, rfl⟩ ⟨Nat.le_of_ble_eq_true rfl, Nat.le_of_ble_eq_true rfl⟩ (fun xr1 xN2 μ3 xq4 => ?_)
  obtain ⟨rfl, rfl, rfl⟩ := xq4
  refine ap_if_eq (tgt := 17) dX4_barLength_5 (by decide) (by split <;> omega) (fun c5 => ?_) (fun c5 => ?_)
  · refine ap_lconst (v := 0) dX4_barLength_17 rfl ?_
    exact ap_lret dX4_barLength_18 rfl (Nat.le_of_ble_eq_true rfl) (Nat.le_of_ble_eq_true rfl) (⟨by rw [if_neg (fun hh => by rw [if_pos hh] at c5; omega)], rfl, rfl⟩)
  · have hh : 0 ≤ k ∧ k < p_nb P := by
      by_cases hh : 0 ≤ k ∧ k < p_nb P
      · exact hh
      · rw [if_neg hh] at c5; omega
    refine ap_aload_n dX4_barLength_8 rfl rfl ?_
    refine ap_get ff_X4_29 dX4_barLength_9 (by omega) h1 rfl ?_
    refine ap_iload_n dX4_barLength_12 rfl rfl ?_
    refine ap_lald (j := k.toNat) dX4_barLength_13 (by omega) a6 (by omega) (by omega) ?_
    refine ap_goto (tgt := 18) dX4_barLength_14 (by decide) ?_
    exact ap_lret dX4_barLength_18 rfl (Nat.le_of_ble_eq_true rfl) (Nat.le_of_ble_eq_true rfl) (⟨by rw [if_pos hh, b6 _ (by omega)], rfl, rfl⟩)

set_option maxHeartbeats 4000000 in
set_option maxRecDepth 100000 in
theorem ct_isAccented {N s : Nat} {μ : am_M} {P : PS} (hS : Sco μ s P) (hN : s + 9 < N) (hp : pok P) {k : Int} (hk : -2147483648 ≤ k ∧ k ≤ 2147483647) : am_Met YX4_isAccented [.ref s, am_i k] N μ (am_pv (am_i (if 0 ≤ k ∧ k < p_cnt P then p_AC P k.toNat else 0)) N μ) := by
  obtain ⟨h1, ⟨fb, a1, b1⟩, ⟨fe, a2, b2⟩, ⟨fn, a3, b3⟩, ⟨fm, a4, b4⟩, ⟨fa, a5, b5⟩, ⟨fl, a6, b6⟩, h7⟩ := id hS
  obtain ⟨g1, g2, g3, g4, g5, g6, g7, g8, g9⟩ := id hp
  refine am_met (by first | decide | rfl) (Nat.le_of_ble_eq_true rfl) (fun h => by first | rfl | cases h) ?_
  show am_W YX4_isAccented _ 0 0 0 [(0, .ref s), (1, am_i k)] [] _ _
  refine ap_aload_n dX4_isAccented_0 rfl rfl ?_
  refine ap_iload_n dX4_isAccented_1 rfl rfl ?_
  refine ap_cV (As := [am_i k]) (rest := []) (ct_hasEvent hS hN hp hk) dX4_isAccented_2 lk_X4_53 hy_X4_hasEvent rfl (by omega) h1 ⟨_, _, rfl⟩ (Nat.le_of_ble_eq_true rfl) ⟨Nat.le_of_ble_eq_true rfl, Nat.le_of_ble_eq_true rfl⟩ ⟨rfl, rfl⟩ ⟨Nat.le_of_ble_eq_true rfl, Nat.le_of_ble_eq_true rfl⟩ (fun xr1 xN2 μ3 xq4 => ?_)
  obtain ⟨rfl, rfl, rfl⟩ := xq4
  refine ap_if_eq (tgt := 21) dX4_isAccented_5 (by decide) (by split <;> omega) (fun c5 => ?_) (fun c5 => ?_)
  · refine ap_iconst dX4_isAccented_21 ?_
    exact ap_iret dX4_isAccented_22 rfl (am_nz (by first | omega | decide)) (Nat.le_of_ble_eq_true rfl) (Nat.le_of_ble_eq_true rfl) (⟨by rw [if_neg (fun hh => by rw [if_pos hh] at c5; omega)], rfl, rfl⟩)
  · have hh : 0 ≤ k ∧ k < p_cnt P := by
      by_cases hh : 0 ≤ k ∧ k < p_cnt P
      · exact hh
      · rw [if_neg hh] at c5; omega
    have hac := (g8 k.toNat (by omega)).2.2.2.2
    rw [← b5 _ (by omega)] at hac
    refine ap_aload_n dX4_isAccented_8 rfl rfl ?_
    refine ap_get ff_X4_25 dX4_isAccented_9 (by omega) h1 rfl ?_
    refine ap_iload_n dX4_isAccented_12 rfl rfl ?_
    refine ap_zald (j := k.toNat) dX4_isAccented_13 (by omega) a5 (by omega) (by omega) ?_
    refine ap_if_eq (tgt := 21) dX4_isAccented_14 (by decide) (by omega) (fun c14 => ?_) (fun c14 => ?_)
    · refine ap_iconst dX4_isAccented_21 ?_
      exact ap_iret dX4_isAccented_22 rfl (am_nz (by first | omega | decide)) (Nat.le_of_ble_eq_true rfl) (Nat.le_of_ble_eq_true rfl) (⟨by rw [if_pos hh, ← b5 _ (by omega), c14], rfl, rfl⟩)
    · refine ap_iconst dX4_isAccented_17 ?_
      refine ap_goto (tgt := 22) dX4_isAccented_18 (by decide) ?_
      exact ap_iret dX4_isAccented_22 rfl (am_nz (by first | omega | decide)) (Nat.le_of_ble_eq_true rfl) (Nat.le_of_ble_eq_true rfl) (⟨by rw [if_pos hh, ← b5 _ (by omega), show fa k.toNat = 1 by omega], rfl, rfl⟩)

