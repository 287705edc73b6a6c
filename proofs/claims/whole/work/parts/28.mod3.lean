/-! the model's texts: v, un -/
def vtx (g : Nat → Int) (p : Nat) (xs : List Int) : Prop := g (101 * p) = (xs.length : Int) ∧ (∀ k, k < xs.length → g (101 * p + 1 + k) = xs.getD k 0) ∧ xs.length ≤ 100 ∧ ∀ c ∈ xs, 0 ≤ c ∧ c ≤ 126
def mat (xs : List Int) (k : Nat) : Int := if k < xs.length then xs.getD k 0 else -1
def unr (h : Nat → Int) (us : List Int) : Prop := ∀ j, j < us.length → h j = us.getD j 0
theorem mat_r {xs : List Int} (h : ∀ c ∈ xs, 0 ≤ c ∧ c ≤ 126) (k : Nat) : -1 ≤ mat xs k ∧ mat xs k ≤ 126 := by
  unfold mat
  split
  · have := h _ (am_gd ‹_›); omega
  · omega
theorem mat_lt {xs : List Int} {k : Nat} (h : k < xs.length) : mat xs k = xs.getD k 0 := if_pos h
theorem unr_app {h : Nat → Int} {us : List Int} {c : Int} (hu : unr h us) : unr (va_up h us.length c) (us ++ [c]) := by
  intro j hj
  rw [List.length_append, List.length_singleton] at hj
  by_cases hjl : j = us.length
  · subst hjl; rw [va_upe, am_gd_last]
  · rw [va_upn hjl, am_gd_app (by omega)]; exact hu j (by omega)
theorem piece_cons {ys : List Int} {a b : Nat} (h : a < b) (hb : b ≤ ys.length) : piece ys a b = ys.getD a 0 :: piece ys (a + 1) b := by
  unfold piece
  rw [List.drop_eq_getElem_cons (by rw [List.length_take]; omega), List.getElem_take]
  congr 1
  simp [List.getD_eq_getElem?_getD, List.getElem?_eq_getElem (show a < ys.length by omega)]
theorem sk_lt {xs : List Int} {c d : Int} {k R : Nat} (h : sk xs c d k = R) (hR : R < xs.length) : k < xs.length := by
  rcases Nat.lt_or_ge k xs.length with hk | hk
  · exact hk
  · rw [sk, if_neg (by omega)] at h; omega
theorem sk_hit {xs : List Int} {c d : Int} {k : Nat} (hk : k < xs.length) (h : xs.getD k 0 = c ∨ xs.getD k 0 = d) : sk xs c d k = k := by rw [sk, if_pos hk, if_pos h]
theorem sk_nx {xs : List Int} {c d : Int} {k : Nat} (hk : k < xs.length) (h : ¬ (xs.getD k 0 = c ∨ xs.getD k 0 = d)) : sk xs c d k = sk xs c d (k + 1) := by
  conv => lhs; rw [sk]
  rw [if_pos hk, if_neg h]
theorem sk_hop {xs : List Int} {c d : Int} : ∀ (n k j : Nat), j - k ≤ n → k ≤ j → j ≤ sk xs c d k → sk xs c d j = sk xs c d k := by
  intro n
  induction n with
  | zero => intro k j h1 h2 _; rw [show j = k by omega]
  | succ n ih =>
    intro k j h1 h2 h3
    by_cases hjk : j = k
    · rw [hjk]
    · have hl := sk_le xs c d k
      have hk : k < xs.length := by omega
      by_cases hh : xs.getD k 0 = c ∨ xs.getD k 0 = d
      · rw [sk_hit hk hh] at h3; omega
      · rw [sk_nx hk hh] at h3 ⊢
        exact ih (k + 1) j (by omega) (by omega) h3
theorem sk_at {xs : List Int} {c d : Int} : ∀ (n k : Nat), xs.length - k ≤ n → sk xs c d k < xs.length → xs.getD (sk xs c d k) 0 = c ∨ xs.getD (sk xs c d k) 0 = d := by
  intro n
  induction n with
  | zero => intro k h1 h2; have := sk_lt rfl h2; omega
  | succ n ih =>
    intro k h1 h2
    have hk := sk_lt rfl h2
    by_cases hh : xs.getD k 0 = c ∨ xs.getD k 0 = d
    · rw [sk_hit hk hh]; exact hh
    · rw [sk_nx hk hh] at h2 ⊢
      exact ih (k + 1) (by omega) h2
theorem sk_sub {xs : List Int} : ∀ (n k : Nat), xs.length - k ≤ n → sk xs 47 93 k ≤ sk xs 93 93 k := by
  intro n
  induction n with
  | zero =>
    intro k h1
    rw [sk, if_neg (by omega), sk, if_neg (by omega)]; exact Nat.le_refl _
  | succ n ih =>
    intro k h1
    by_cases hk : k < xs.length
    · by_cases hh : xs.getD k 0 = 47 ∨ xs.getD k 0 = 93
      · rw [sk_hit hk hh]; exact sk_ge _ _ _ _ (by omega)
      · rw [sk_nx hk hh, sk_nx hk (by omega)]; exact ih (k + 1) (by omega)
    · rw [sk, if_neg hk, sk, if_neg hk]; exact Nat.le_refl _
theorem endg_skip {xs : List Int} {ps : Int} {cl : Nat} : ∀ (n k : Nat), xs.length - k ≤ n → k ≤ xs.length → sk xs 47 93 k ≤ cl → endg xs ps cl k = endg xs ps cl (sk xs 47 93 k) := by
  intro n
  induction n with
  | zero =>
    intro k h1 h0 h2
    rw [show sk xs 47 93 k = k by rw [sk, if_neg (by omega)]; omega]
  | succ n ih =>
    intro k h1 h0 h2
    by_cases hk : k < xs.length
    · by_cases hh : xs.getD k 0 = 47 ∨ xs.getD k 0 = 93
      · rw [sk_hit hk hh]
      · rw [sk_nx hk hh] at h2 ⊢
        have hge := sk_ge xs 47 93 (k + 1) (by omega)
        conv => lhs; rw [endg]
        rw [if_pos (by omega), if_neg (fun q => hh (Or.inl q.1))]
        exact ih (k + 1) (by omega) (by omega) h2
    · rw [show sk xs 47 93 k = k by rw [sk, if_neg (by omega)]; omega]
/-- the shape of a text that the grammar takes: each bracket is closed, each slash has its colon -/
def bwf (xs : List Int) : Prop := ∀ k, k < xs.length → xs.getD k 0 = 91 → sk xs 93 93 k + 1 < xs.length ∧ 2 ≤ dg (xs.getD (sk xs 93 93 k + 1) 0)
def swf (xs : List Int) : Prop := ∀ k, k < xs.length → xs.getD k 0 = 47 → sk xs 58 58 (k + 1) < sk xs 47 93 (k + 1) ∧ sk xs 47 93 (k + 1) < xs.length
theorem isEr_end {xs : List Int} {ps : Int} {co k : Nat} (h : ¬ k < co) : isEr xs ps co k = 0 := by rw [isEr, if_neg h]
theorem endg_end {xs : List Int} {ps : Int} {cl k : Nat} (h : ¬ k < cl) : endg xs ps cl k = [] := by rw [endg, if_neg h]
theorem dg_eq {c ps : Int} (h : 0 ≤ ps ∧ ps ≤ 9) : dg c = ps ↔ c = 48 + ps := by unfold dg; split <;> omega
set_option maxHeartbeats 4000000 in
set_option maxRecDepth 100000 in
theorem cm_at {N : Nat} {μ : am_M} {zp zt zm zd ze zi zu zc zg : Int} {g : Nat → Int} {p : Nat} {xs : List Int} (hM : μ 120 = mcl zp zt zm zd ze zi zu zc zg) (hV : μ 121 = am_I 0 420 g) (hN : 141 ≤ N) (hp : p < 4) (hx : vtx g p xs) {k : Nat} {z : Int} (hz : z = (k : Int)) (hk : k ≤ 300) : am_Met YX10_at [.ref 120, am_i (p : Int), am_i z] N μ (am_pv (am_i (mat xs k)) N μ) := by
  obtain ⟨x1, x2, x3, x4⟩ := id hx
  refine am_met (by first | decide | rfl) (Nat.le_of_ble_eq_true rfl) (fun h => by first | rfl | cases h) ?_
  show am_W YX10_at _ 0 0 0 [(0, .ref 120), (1, am_i (p : Int)), (2, am_i z)] [] _ _
  refine ap_iload_n dX10_at_0 rfl rfl ?_
  refine ap_aload_n dX10_at_1 rfl rfl ?_
  refine ap_get ff_X10_7 dX10_at_2 (by omega) hM rfl ?_
  refine ap_bipush dX10_at_5 (by decide) ?_
  refine ap_iload_n dX10_at_7 rfl rfl ?_
  refine ap_imul dX10_at_8 ?_
  refine ap_iald (j := 101 * p) dX10_at_9 (by omega) hV (by omega) (by omega) ?_
  refine ap_topi (b := (xs.length : Int)) (show (g (101 * p)) = (xs.length : Int) from x1) ?_
  refine ap_icmp_ge (tgt := 29) dX10_at_10 (by decide) (by omega) (fun c10 => ?_) (fun c10 => ?_)
  · refine ap_iconst dX10_at_29 ?_
    exact ap_iret dX10_at_30 rfl rfl (Nat.le_of_ble_eq_true rfl) (Nat.le_of_ble_eq_true rfl) (⟨by rw [mat, if_neg (by omega)], rfl, rfl⟩)
  · refine ap_aload_n dX10_at_13 rfl rfl ?_
    refine ap_get ff_X10_7 dX10_at_14 (by omega) hM rfl ?_
    refine ap_bipush dX10_at_17 (by decide) ?_
    refine ap_iload_n dX10_at_19 rfl rfl ?_
    refine ap_imul dX10_at_20 ?_
    refine ap_iconst dX10_at_21 ?_
    refine ap_iadd dX10_at_22 ?_
    refine ap_iload_n dX10_at_23 rfl rfl ?_
    refine ap_iadd dX10_at_24 ?_
    refine ap_iald (j := 101 * p + 1 + k) dX10_at_25 (by omega) hV (by omega) (by omega) ?_
    refine ap_goto (tgt := 30) dX10_at_26 (by decide) ?_
    exact ap_iret dX10_at_30 rfl rfl (Nat.le_of_ble_eq_true rfl) (Nat.le_of_ble_eq_true rfl) (⟨by rw [mat, if_pos (by omega), x2 k (by omega)], rfl, rfl⟩)

set_option maxHeartbeats 4000000 in
set_option maxRecDepth 100000 in
theorem lm_closing {N : Nat} {μ : am_M} {zp zt zm zd ze zi zu zc zg : Int} {g : Nat → Int} {p : Nat} {xs : List Int} (hM : μ 120 = mcl zp zt zm zd ze zi zu zc zg) (hV : μ 121 = am_I 0 420 g) (hN : 141 ≤ N) (hp : p < 4) (hx : vtx g p xs) {zf : Int} {R : Nat} (hRl : R < xs.length) : ∀ (nn : Nat) (i : Nat) (z : Int), z = (i : Int) → sk xs 93 93 i = R → xs.length - i < nn → am_W YX10_closing (am_pv (am_i (R : Int)) N μ) 0 0 2 [(0, .ref 120), (1, am_i (p : Int)), (2, am_i zf), (3, am_i z)] [] N μ := by
  intro nn
  induction nn with
  | zero =>
    intro i z hz hR hm
    exfalso; omega
  | succ nn ih =>
    intro i z hz hR hm
    obtain ⟨x1, x2, x3, x4⟩ := id hx
    have hlt := sk_lt hR hRl
    have hma := mat_lt hlt
    refine ap_aload_n dX10_closing_2 rfl rfl ?_
    refine ap_iload_n dX10_closing_3 rfl rfl ?_
    refine ap_iload_n dX10_closing_4 rfl rfl ?_
    refine ap_cV (As := [am_i (p : Int), am_i z]) (rest := []) (cm_at hM hV hN hp hx (k := i) (by omega) (by omega)) dX10_closing_5 lk_X10_120 hy_X10_at rfl (by omega) hM ⟨_, _, rfl⟩ (Nat.le_of_ble_eq_true rfl) ⟨Nat.le_of_ble_eq_true rfl, Nat.le_of_ble_eq_true rfl⟩ ⟨rfl, rfl⟩ ⟨Nat.le_of_ble_eq_true rfl, Nat.le_of_ble_eq_true rfl⟩ (fun xr1 xN2 μ3 xq4 => ?_)
    obtain ⟨rfl, rfl, rfl⟩ := xq4
    refine ap_bipush dX10_closing_8 (by decide) ?_
    refine ap_icmp_eq (tgt := 19) dX10_closing_10 (by decide) (by have := mat_r x4 i; omega) (fun c10 => ?_) (fun c10 => ?_)
    · refine ap_iload_n dX10_closing_19 rfl rfl ?_
      exact ap_iret dX10_closing_20 rfl rfl (Nat.le_of_ble_eq_true rfl) (Nat.le_of_ble_eq_true rfl) (⟨by rw [sk_hit hlt (by omega)] at hR; rw [← hR, hz], rfl, rfl⟩)
    · refine ap_Iinc (lv2 := [(0, .ref 120), (1, am_i (p : Int)), (2, am_i zf), (3, am_i (z + 1))]) dX10_closing_13 rfl (by decide) rfl ?_
      refine ap_goto (tgt := 2) dX10_closing_16 (by decide) ?_
      exact ih (i + 1) _ (by omega) (by rw [sk_nx hlt (by omega)] at hR; exact hR) (by omega)

set_option maxHeartbeats 4000000 in
set_option maxRecDepth 100000 in
theorem cm_closing {N : Nat} {μ : am_M} {zp zt zm zd ze zi zu zc zg : Int} {g : Nat → Int} {p : Nat} {xs : List Int} (hM : μ 120 = mcl zp zt zm zd ze zi zu zc zg) (hV : μ 121 = am_I 0 420 g) (hN : 141 ≤ N) (hp : p < 4) (hx : vtx g p xs) {k : Nat} {z : Int} (hz : z = (k : Int)) (hl : sk xs 93 93 k < xs.length) : am_Met YX10_closing [.ref 120, am_i (p : Int), am_i z] N μ (am_pv (am_i (sk xs 93 93 k : Int)) N μ) := by
  refine am_met (by first | decide | rfl) (Nat.le_of_ble_eq_true rfl) (fun h => by first | rfl | cases h) ?_
  show am_W YX10_closing _ 0 0 0 [(0, .ref 120), (1, am_i (p : Int)), (2, am_i z)] [] _ _
  refine ap_iload_n dX10_closing_0 rfl rfl ?_
  refine ap_Istore_n (lv2 := [(0, .ref 120), (1, am_i (p : Int)), (2, am_i z), (3, am_i z)]) dX10_closing_1 rfl (by decide) rfl ?_
  exact lm_closing hM hV hN hp hx hl (xs.length + 1) k _ hz rfl (by omega)

set_option maxHeartbeats 4000000 in
set_option maxRecDepth 100000 in
theorem lm_lays0 {N : Nat} {μ : am_M} {zp zt zm zd ze zi zu zc zg : Int} {g : Nat → Int} {p : Nat} {xs : List Int} (hM : μ 120 = mcl zp zt zm zd ze zi zu zc zg) (hV : μ 121 = am_I 0 420 g) (hN : 141 ≤ N) (hp : p < 4) (hx : vtx g p xs) {zf : Int} {R : Nat} (hRl : R < xs.length) : ∀ (nn : Nat) (i : Nat) (z : Int), z = (i : Int) → sk xs 47 93 i = R → xs.length - i < nn → am_W YX10_lays (am_pv (am_i (R : Int)) N μ) 0 0 3 [(0, .ref 120), (1, am_i (p : Int)), (2, am_i zf), (3, am_i 0), (4, am_i z)] [] N μ := by
  intro nn
  induction nn with
  | zero =>
    intro i z hz hR hm
    exfalso; omega
  | succ nn ih =>
    intro i z hz hR hm
    obtain ⟨x1, x2, x3, x4⟩ := id hx
    have hlt := sk_lt hR hRl
    have hma := mat_lt hlt
    refine ap_aload_n dX10_lays_3 rfl rfl ?_
    refine ap_iload_n dX10_lays_4 rfl rfl ?_
    refine ap_iload dX10_lays_5 rfl ?_
    refine ap_cV (As := [am_i (p : Int), am_i z]) (rest := []) (cm_at hM hV hN hp hx (k := i) (by omega) (by omega)) dX10_lays_7 lk_X10_120 hy_X10_at rfl (by omega) hM ⟨_, _, rfl⟩ (Nat.le_of_ble_eq_true rfl) ⟨Nat.le_of_ble_eq_true rfl, Nat.le_of_ble_eq_true rfl⟩ ⟨rfl, rfl⟩ ⟨Nat.le_of_ble_eq_true rfl, Nat.le_of_ble_eq_true rfl⟩ (fun xr1 xN2 μ3 xq4 => ?_)
    obtain ⟨rfl, rfl, rfl⟩ := xq4
    refine ap_bipush dX10_lays_10 (by decide) ?_
    refine ap_icmp_eq (tgt := 63) dX10_lays_12 (by decide) (by have := mat_r x4 i; omega) (fun c12 => ?_) (fun c12 => ?_)
    · refine ap_iload dX10_lays_63 rfl ?_
      exact ap_iret dX10_lays_65 rfl rfl (Nat.le_of_ble_eq_true rfl) (Nat.le_of_ble_eq_true rfl) (⟨by rw [sk_hit hlt (by omega)] at hR; rw [← hR, hz], rfl, rfl⟩)
    · refine ap_aload_n dX10_lays_15 rfl rfl ?_
      refine ap_iload_n dX10_lays_16 rfl rfl ?_
      refine ap_iload dX10_lays_17 rfl ?_
      refine ap_cV (As := [am_i (p : Int), am_i z]) (rest := []) (cm_at hM hV hN hp hx (k := i) (by omega) (by omega)) dX10_lays_19 lk_X10_120 hy_X10_at rfl (by omega) hM ⟨_, _, rfl⟩ (Nat.le_of_ble_eq_true rfl) ⟨Nat.le_of_ble_eq_true rfl, Nat.le_of_ble_eq_true rfl⟩ ⟨rfl, rfl⟩ ⟨Nat.le_of_ble_eq_true rfl, Nat.le_of_ble_eq_true rfl⟩ (fun xr5 xN6 μ7 xq8 => ?_)
      obtain ⟨rfl, rfl, rfl⟩ := xq8
      refine ap_bipush dX10_lays_22 (by decide) ?_
      refine ap_icmp_eq (tgt := 63) dX10_lays_24 (by decide) (by have := mat_r x4 i; omega) (fun c24 => ?_) (fun c24 => ?_)
      · refine ap_iload dX10_lays_63 rfl ?_
        exact ap_iret dX10_lays_65 rfl rfl (Nat.le_of_ble_eq_true rfl) (Nat.le_of_ble_eq_true rfl) (⟨by rw [sk_hit hlt (by omega)] at hR; rw [← hR, hz], rfl, rfl⟩)
      · refine ap_iload_n dX10_lays_27 rfl rfl ?_
        refine ap_if_eq (tgt := 57) dX10_lays_28 (by decide) (by omega) (fun c28 => ?_) (fun c28 => (by exfalso; omega))
        refine ap_Iinc (lv2 := [(0, .ref 120), (1, am_i (p : Int)), (2, am_i zf), (3, am_i 0), (4, am_i (z + 1))]) dX10_lays_57 rfl (by decide) rfl ?_
        refine ap_goto (tgt := 3) dX10_lays_60 (by decide) ?_
        exact ih (i + 1) _ (by omega) (by rw [sk_nx hlt (by omega)] at hR; exact hR) (by omega)

set_option maxHeartbeats 4000000 in
set_option maxRecDepth 100000 in
theorem cm_lays0 {N : Nat} {μ : am_M} {zp zt zm zd ze zi zu zc zg : Int} {g : Nat → Int} {p : Nat} {xs : List Int} (hM : μ 120 = mcl zp zt zm zd ze zi zu zc zg) (hV : μ 121 = am_I 0 420 g) (hN : 141 ≤ N) (hp : p < 4) (hx : vtx g p xs) {k : Nat} {z : Int} (hz : z = (k : Int)) (hl : sk xs 47 93 k < xs.length) : am_Met YX10_lays [.ref 120, am_i (p : Int), am_i z, am_i 0] N μ (am_pv (am_i (sk xs 47 93 k : Int)) N μ) := by
  refine am_met (by first | decide | rfl) (Nat.le_of_ble_eq_true rfl) (fun h => by first | rfl | cases h) ?_
  show am_W YX10_lays _ 0 0 0 [(0, .ref 120), (1, am_i (p : Int)), (2, am_i z), (3, am_i 0)] [] _ _
  refine ap_iload_n dX10_lays_0 rfl rfl ?_
  refine ap_Istore (lv2 := [(0, .ref 120), (1, am_i (p : Int)), (2, am_i z), (3, am_i 0), (4, am_i z)]) dX10_lays_1 (by decide) rfl ?_
  exact lm_lays0 hM hV hN hp hx hl (xs.length + 1) k _ hz rfl (by omega)

set_option maxHeartbeats 4000000 in
set_option maxRecDepth 100000 in
theorem lm_lays1 {N : Nat} {μ0 : am_M} {zp zt zm zd ze zi zc zg : Int} {g : Nat → Int} {p : Nat} {xs : List Int} (hV0 : μ0 121 = am_I 0 420 g) (hN : 141 ≤ N) (hp : p < 4) (hx : vtx g p xs) {zf : Int} {R : Nat} (hRl : R < xs.length) {E : List Int} (hfit : E.length ≤ 1200) : ∀ (nn : Nat) (i : Nat) (z : Int) (μ : am_M) (us : List Int) (zu : Int) (h : Nat → Int), z = (i : Int) → (∀ x, ¬ (x = 120 ∨ x = 125) → μ x = μ0 x) → μ 120 = mcl zp zt zm zd ze zi zu zc zg → μ 125 = am_I 0 1200 h → unr h us → zu = (us.length : Int) → sk xs 47 93 i = R → us ++ piece xs i R = E → xs.length - i < nn → am_W YX10_lays (fun r N2 μ2 => r = some (am_i (R : Int)) ∧ N = N2 ∧ (∀ x, ¬ (x = 120 ∨ x = 125) → μ2 x = μ0 x) ∧ ∃ h2, μ2 120 = mcl zp zt zm zd ze zi ((E).length : Int) zc zg ∧ μ2 125 = am_I 0 1200 h2 ∧ unr h2 (E)) 0 0 3 [(0, .ref 120), (1, am_i (p : Int)), (2, am_i zf), (3, am_i 1), (4, am_i z)] [] N μ := by
  intro nn
  induction nn with
  | zero =>
    intro i z μ us zu h hz hf hM hH hu hzu hR hE hm
    exfalso; omega
  | succ nn ih =>
    intro i z μ us zu h hz hf hM hH hu hzu hR hE hm
    obtain ⟨x1, x2, x3, x4⟩ := id hx
    have hV : μ 121 = am_I 0 420 g := (hf 121 (by omega)).trans hV0
    have hlt := sk_lt hR hRl
    have hma := mat_lt hlt
    refine ap_aload_n dX10_lays_3 rfl rfl ?_
    refine ap_iload_n dX10_lays_4 rfl rfl ?_
    refine ap_iload dX10_lays_5 rfl ?_
    refine ap_cV (As := [am_i (p : Int), am_i z]) (rest := []) (cm_at hM hV hN hp hx (k := i) (by omega) (by omega)) dX10_lays_7 lk_X10_120 hy_X10_at rfl (by omega) hM ⟨_, _, rfl⟩ (Nat.le_of_ble_eq_true rfl) ⟨Nat.le_of_ble_eq_true rfl, Nat.le_of_ble_eq_true rfl⟩ ⟨rfl, rfl⟩ ⟨Nat.le_of_ble_eq_true rfl, Nat.le_of_ble_eq_true rfl⟩ (fun xr1 xN2 μ3 xq4 => ?_)
    obtain ⟨rfl, rfl, rfl⟩ := xq4
    refine ap_bipush dX10_lays_10 (by decide) ?_
    refine ap_icmp_eq (tgt := 63) dX10_lays_12 (by decide) (by have := mat_r x4 i; omega) (fun c12 => ?_) (fun c12 => ?_)
    · refine ap_iload dX10_lays_63 rfl ?_
      exact ap_iret dX10_lays_65 rfl rfl (Nat.le_of_ble_eq_true rfl) (Nat.le_of_ble_eq_true rfl) (⟨by rw [sk_hit hlt (by omega)] at hR; rw [← hR, hz], rfl, fun x hx => hf x hx, h, by rw [sk_hit hlt (by omega)] at hR; subst hR; rw [piece_nil, List.append_nil] at hE; rw [← hE, ← hzu]; exact hM, hH, by rw [sk_hit hlt (by omega)] at hR; subst hR; rw [piece_nil, List.append_nil] at hE; rw [← hE]; exact hu⟩)
    · refine ap_aload_n dX10_lays_15 rfl rfl ?_
      refine ap_iload_n dX10_lays_16 rfl rfl ?_
      refine ap_iload dX10_lays_17 rfl ?_
      refine ap_cV (As := [am_i (p : Int), am_i z]) (rest := []) (cm_at hM hV hN hp hx (k := i) (by omega) (by omega)) dX10_lays_19 lk_X10_120 hy_X10_at rfl (by omega) hM ⟨_, _, rfl⟩ (Nat.le_of_ble_eq_true rfl) ⟨Nat.le_of_ble_eq_true rfl, Nat.le_of_ble_eq_true rfl⟩ ⟨rfl, rfl⟩ ⟨Nat.le_of_ble_eq_true rfl, Nat.le_of_ble_eq_true rfl⟩ (fun xr5 xN6 μ7 xq8 => ?_)
      obtain ⟨rfl, rfl, rfl⟩ := xq8
      refine ap_bipush dX10_lays_22 (by decide) ?_
      refine ap_icmp_eq (tgt := 63) dX10_lays_24 (by decide) (by have := mat_r x4 i; omega) (fun c24 => ?_) (fun c24 => ?_)
      · refine ap_iload dX10_lays_63 rfl ?_
        exact ap_iret dX10_lays_65 rfl rfl (Nat.le_of_ble_eq_true rfl) (Nat.le_of_ble_eq_true rfl) (⟨by rw [sk_hit hlt (by omega)] at hR; rw [← hR, hz], rfl, fun x hx => hf x hx, h, by rw [sk_hit hlt (by omega)] at hR; subst hR; rw [piece_nil, List.append_nil] at hE; rw [← hE, ← hzu]; exact hM, hH, by rw [sk_hit hlt (by omega)] at hR; subst hR; rw [piece_nil, List.append_nil] at hE; rw [← hE]; exact hu⟩)
      · refine ap_iload_n dX10_lays_27 rfl rfl ?_
        refine ap_if_eq (tgt := 57) dX10_lays_28 (by decide) (by omega) (fun c28 => (by exfalso; omega)) (fun c28 => ?_)
        refine ap_aload_n dX10_lays_31 rfl rfl ?_
        refine ap_get ff_X10_22 dX10_lays_32 (by omega) hM rfl ?_
        refine ap_aload_n dX10_lays_35 rfl rfl ?_
        refine ap_get ff_X10_124 dX10_lays_36 (by omega) hM rfl ?_
        refine ap_aload_n dX10_lays_39 rfl rfl ?_
        refine ap_iload_n dX10_lays_40 rfl rfl ?_
        refine ap_iload dX10_lays_41 rfl ?_
        have hg1 := sk_ge xs 47 93 (i + 1) (by omega)
        have hR1 := hR
        rw [sk_nx hlt (by omega)] at hR1
        rw [piece_cons (by omega) (by omega)] at hE
        have hlen := congrArg List.length hE
        rw [List.length_append, List.length_cons] at hlen
        refine ap_cV (As := [am_i (p : Int), am_i z]) (rest := [am_i zu, .ref 125]) (cm_at hM hV hN hp hx (k := i) (by omega) (by omega)) dX10_lays_43 lk_X10_120 hy_X10_at rfl (by omega) hM ⟨_, _, rfl⟩ (Nat.le_of_ble_eq_true rfl) ⟨Nat.le_of_ble_eq_true rfl, Nat.le_of_ble_eq_true rfl⟩ ⟨rfl, rfl⟩ ⟨Nat.le_of_ble_eq_true rfl, Nat.le_of_ble_eq_true rfl⟩ (fun xr9 xN10 μ11 xq12 => ?_)
        obtain ⟨rfl, rfl, rfl⟩ := xq12
        refine ap_topi (b := xs.getD i 0) (show (mat xs i) = (xs.getD i 0) from hma) ?_
        refine ap_iast (j := us.length) dX10_lays_46 (by omega) hH (by omega) (by omega) (fun μ13 xe14 xf15 => ?_)
        refine ap_aload_n dX10_lays_47 rfl rfl ?_
        refine ap_dup dX10_lays_48 rfl ?_
        have xm16 : μ13 120 = am_O 10 [.ref 121, .ref 122, am_i zp, .ref 123, am_i zt, am_i zm, am_i zd, am_i ze, am_i zi, .ref 124, .ref 125, am_i zu, .ref 126, .ref 127, .ref 128, .ref 129, .ref 130, .ref 131, .ref 132, .ref 133, .ref 134, .ref 135, am_i zc, .ref 136, .ref 137, .ref 138, .ref 139, .ref 140, am_i zg] := (xf15 _ (by omega)).trans hM
        refine ap_get ff_X10_124 dX10_lays_49 (by omega) xm16 rfl ?_
        refine ap_iconst dX10_lays_52 ?_
        refine ap_iadd dX10_lays_53 ?_
        refine ap_put (fs2 := [.ref 121, .ref 122, am_i zp, .ref 123, am_i zt, am_i zm, am_i zd, am_i ze, am_i zi, .ref 124, .ref 125, am_i (zu + 1), .ref 126, .ref 127, .ref 128, .ref 129, .ref 130, .ref 131, .ref 132, .ref 133, .ref 134, .ref 135, am_i zc, .ref 136, .ref 137, .ref 138, .ref 139, .ref 140, am_i zg]) ff_X10_124 fc_X10_11 dX10_lays_54 (by omega) xm16 (fun _ => ⟨rfl, rfl⟩) (Nat.le_of_ble_eq_true rfl) rfl (fun μ17 xe18 xf19 => ?_)
        refine ap_Iinc (lv2 := [(0, .ref 120), (1, am_i (p : Int)), (2, am_i zf), (3, am_i 1), (4, am_i (z + 1))]) dX10_lays_57 rfl (by decide) rfl ?_
        refine ap_goto (tgt := 3) dX10_lays_60 (by decide) ?_
        have xm20 : μ17 125 = am_I 0 1200 (va_up h us.length (xs.getD i 0)) := (xf19 _ (by omega)).trans xe14
        exact ih (i + 1) _ μ17 (us ++ [xs.getD i 0]) _ _ (by omega) (fun x hx => ((xf19 x (by omega)).trans ((xf15 x (by omega)))).trans (hf x hx)) xe18 xm20 (unr_app hu) (by rw [List.length_append, List.length_singleton]; omega) hR1 (by rw [List.append_assoc]; exact hE) (by omega)

set_option maxHeartbeats 4000000 in
set_option maxRecDepth 100000 in
theorem cm_lays1 {N : Nat} {μ : am_M} {zp zt zm zd ze zi zc zg : Int} {g : Nat → Int} {p : Nat} {xs us : List Int} {h : Nat → Int} (hM : μ 120 = mcl zp zt zm zd ze zi (us.length : Int) zc zg) (hV : μ 121 = am_I 0 420 g) (hN : 141 ≤ N) (hp : p < 4) (hx : vtx g p xs) (hH : μ 125 = am_I 0 1200 h) (hu : unr h us) {k : Nat} {z : Int} (hz : z = (k : Int)) (hl : sk xs 47 93 k < xs.length) (hfit : (us ++ piece xs k (sk xs 47 93 k)).length ≤ 1200) : am_Met YX10_lays [.ref 120, am_i (p : Int), am_i z, am_i 1] N μ (fun r N2 μ2 => r = some (am_i (sk xs 47 93 k : Int)) ∧ N = N2 ∧ (∀ x, ¬ (x = 120 ∨ x = 125) → μ2 x = μ x) ∧ ∃ h2, μ2 120 = mcl zp zt zm zd ze zi ((us ++ piece xs k (sk xs 47 93 k)).length : Int) zc zg ∧ μ2 125 = am_I 0 1200 h2 ∧ unr h2 (us ++ piece xs k (sk xs 47 93 k))) := by
  refine am_met (by first | decide | rfl) (Nat.le_of_ble_eq_true rfl) (fun h => by first | rfl | cases h) ?_
  show am_W YX10_lays _ 0 0 0 [(0, .ref 120), (1, am_i (p : Int)), (2, am_i z), (3, am_i 1)] [] _ _
  refine ap_iload_n dX10_lays_0 rfl rfl ?_
  refine ap_Istore (lv2 := [(0, .ref 120), (1, am_i (p : Int)), (2, am_i z), (3, am_i 1), (4, am_i z)]) dX10_lays_1 (by decide) rfl ?_
  exact lm_lays1 hV hN hp hx hl hfit (xs.length + 1) k _ μ us _ h hz (fun x hx => rfl) hM hH hu rfl rfl rfl (by omega)

set_option maxHeartbeats 4000000 in
set_option maxRecDepth 100000 in
theorem lm_passI {N : Nat} {μ : am_M} {zp zt zm zd ze zi zu zc zg : Int} {g : Nat → Int} {p : Nat} {xs : List Int} (hM : μ 120 = mcl zp zt zm zd ze zi zu zc zg) (hV : μ 121 = am_I 0 420 g) (hN : 141 ≤ N) (hp : p < 4) (hx : vtx g p xs) {zf ps zdn E : Int} {co : Nat} {Q : Option Value → Nat → am_M → Prop} (hps : 1 ≤ ps ∧ ps ≤ 9) (hcl : co < xs.length) (hk : am_W YX10_passes Q 0 0 74 [(0, .ref 120), (1, am_i (p : Int)), (2, am_i zf), (3, am_i ps), (4, am_i (co : Int)), (5, am_i zdn), (6, am_i E)] [] N μ) : ∀ (nn : Nat) (i : Nat) (z : Int) (zis : Int), z = (i : Int) → (zis = 0 ∨ zis = 1) → (if zis = 1 then 1 else isEr xs ps co i) = E → sk xs 58 58 i = co → xs.length - i < nn → am_W YX10_passes (Q) 0 0 30 [(0, .ref 120), (1, am_i (p : Int)), (2, am_i zf), (3, am_i ps), (4, am_i z), (5, am_i zdn), (6, am_i zis)] [] N μ := by
  intro nn
  induction nn with
  | zero =>
    intro i z zis hz his hE hco hm
    exfalso; omega
  | succ nn ih =>
    intro i z zis hz his hE hco hm
    obtain ⟨x1, x2, x3, x4⟩ := id hx
    have hps := (⟨by omega, by omega⟩ : 0 ≤ ps ∧ ps ≤ 9)
    have hlt := sk_lt hco hcl
    have hma := mat_lt hlt
    refine ap_aload_n dX10_passes_30 rfl rfl ?_
    refine ap_iload_n dX10_passes_31 rfl rfl ?_
    refine ap_iload dX10_passes_32 rfl ?_
    refine ap_cV (As := [am_i (p : Int), am_i z]) (rest := []) (cm_at hM hV hN hp hx (k := i) (by omega) (by omega)) dX10_passes_34 lk_X10_120 hy_X10_at rfl (by omega) hM ⟨_, _, rfl⟩ (Nat.le_of_ble_eq_true rfl) ⟨Nat.le_of_ble_eq_true rfl, Nat.le_of_ble_eq_true rfl⟩ ⟨rfl, rfl⟩ ⟨Nat.le_of_ble_eq_true rfl, Nat.le_of_ble_eq_true rfl⟩ (fun xr1 xN2 μ3 xq4 => ?_)
    obtain ⟨rfl, rfl, rfl⟩ := xq4
    refine ap_bipush dX10_passes_37 (by decide) ?_
    refine ap_icmp_eq (tgt := 74) dX10_passes_39 (by decide) (by have := mat_r x4 i; omega) (fun c39 => ?_) (fun c39 => ?_)
    · rw [sk_hit hlt (by omega)] at hco
      subst hco
      rw [isEr_end (by omega)] at hE
      obtain rfl : E = zis := by rcases his with rfl | rfl <;> simpa using hE.symm
      rw [hz]
      exact hk
    · rw [sk_nx hlt (by omega)] at hco
      have hg1 := sk_ge xs 58 58 (i + 1) (by omega)
      have hdq := dg_eq (c := xs.getD i 0) hps
      refine ap_iload dX10_passes_42 rfl ?_
      refine ap_if_ne (tgt := 61) dX10_passes_44 (by decide) (by omega) (fun c44 => ?_) (fun c44 => ?_)
      · refine ap_iconst dX10_passes_61 ?_
        refine ap_goto (tgt := 66) dX10_passes_62 (by decide) ?_
        refine ap_Istore (lv2 := [(0, .ref 120), (1, am_i (p : Int)), (2, am_i zf), (3, am_i ps), (4, am_i z), (5, am_i zdn), (6, am_i 1)]) dX10_passes_66 (by decide) rfl ?_
        refine ap_Iinc (lv2 := [(0, .ref 120), (1, am_i (p : Int)), (2, am_i zf), (3, am_i ps), (4, am_i (z + 1)), (5, am_i zdn), (6, am_i 1)]) dX10_passes_68 rfl (by decide) rfl ?_
        refine ap_goto (tgt := 30) dX10_passes_71 (by decide) ?_
        exact ih (i + 1) _ 1 (by omega) (Or.inr rfl) (by rw [if_pos rfl]; rw [if_pos (by omega)] at hE; exact hE) hco (by omega)
      · refine ap_aload_n dX10_passes_47 rfl rfl ?_
        refine ap_iload_n dX10_passes_48 rfl rfl ?_
        refine ap_iload dX10_passes_49 rfl ?_
        refine ap_cV (As := [am_i (p : Int), am_i z]) (rest := []) (cm_at hM hV hN hp hx (k := i) (by omega) (by omega)) dX10_passes_51 lk_X10_120 hy_X10_at rfl (by omega) hM ⟨_, _, rfl⟩ (Nat.le_of_ble_eq_true rfl) ⟨Nat.le_of_ble_eq_true rfl, Nat.le_of_ble_eq_true rfl⟩ ⟨rfl, rfl⟩ ⟨Nat.le_of_ble_eq_true rfl, Nat.le_of_ble_eq_true rfl⟩ (fun xr5 xN6 μ7 xq8 => ?_)
        obtain ⟨rfl, rfl, rfl⟩ := xq8
        refine ap_bipush dX10_passes_54 (by decide) ?_
        refine ap_iload_n dX10_passes_56 rfl rfl ?_
        refine ap_iadd dX10_passes_57 ?_
        refine ap_icmp_ne (tgt := 65) dX10_passes_58 (by decide) (by have := mat_r x4 i; omega) (fun c58 => ?_) (fun c58 => ?_)
        · refine ap_iconst dX10_passes_65 ?_
          refine ap_Istore (lv2 := [(0, .ref 120), (1, am_i (p : Int)), (2, am_i zf), (3, am_i ps), (4, am_i z), (5, am_i zdn), (6, am_i 0)]) dX10_passes_66 (by decide) rfl ?_
          refine ap_Iinc (lv2 := [(0, .ref 120), (1, am_i (p : Int)), (2, am_i zf), (3, am_i ps), (4, am_i (z + 1)), (5, am_i zdn), (6, am_i 0)]) dX10_passes_68 rfl (by decide) rfl ?_
          refine ap_goto (tgt := 30) dX10_passes_71 (by decide) ?_
          exact ih (i + 1) _ 0 (by omega) (Or.inl rfl) (by rw [if_neg (by omega)]; rw [if_neg (by omega), isEr, if_pos (by omega), if_neg (by omega)] at hE; exact hE) hco (by omega)
        · refine ap_iconst dX10_passes_61 ?_
          refine ap_goto (tgt := 66) dX10_passes_62 (by decide) ?_
          refine ap_Istore (lv2 := [(0, .ref 120), (1, am_i (p : Int)), (2, am_i zf), (3, am_i ps), (4, am_i z), (5, am_i zdn), (6, am_i 1)]) dX10_passes_66 (by decide) rfl ?_
          refine ap_Iinc (lv2 := [(0, .ref 120), (1, am_i (p : Int)), (2, am_i zf), (3, am_i ps), (4, am_i (z + 1)), (5, am_i zdn), (6, am_i 1)]) dX10_passes_68 rfl (by decide) rfl ?_
          refine ap_goto (tgt := 30) dX10_passes_71 (by decide) ?_
          exact ih (i + 1) _ 1 (by omega) (Or.inr rfl) (by rw [if_pos rfl]; rw [if_neg (by omega), isEr, if_pos (by omega), if_pos (by omega)] at hE; exact hE) hco (by omega)

set_option maxHeartbeats 4000000 in
set_option maxRecDepth 100000 in
theorem lm_pass {N : Nat} {μ0 : am_M} {zp zt zm zd ze zi zc zg : Int} {g : Nat → Int} {p : Nat} {xs : List Int} (hV0 : μ0 121 = am_I 0 420 g) (hN : 141 ≤ N) (hp : p < 4) (hx : vtx g p xs) {zf ps : Int} {cl : Nat} (hps : 1 ≤ ps ∧ ps ≤ 9) (hsw : swf xs) (hcl : cl < xs.length) {E : List Int} (hfit : E.length ≤ 1200) : ∀ (nn : Nat) (i : Nat) (z : Int) (μ : am_M) (us : List Int) (zu : Int) (h : Nat → Int) (zdn : Int), z = (i : Int) → (∀ x, ¬ (x = 120 ∨ x = 125) → μ x = μ0 x) → μ 120 = mcl zp zt zm zd ze zi zu zc zg → μ 125 = am_I 0 1200 h → unr h us → zu = (us.length : Int) → us ++ (if zdn = 1 then [] else endg xs ps cl i) = E → (zdn = 0 ∨ zdn = 1) → sk xs 93 93 i = cl → (xs.getD i 0 = 47 ∨ xs.getD i 0 = 93) → xs.length - i < nn → am_W YX10_passes (fun r N2 μ2 => r = none ∧ N = N2 ∧ (∀ x, ¬ (x = 120 ∨ x = 125) → μ2 x = μ0 x) ∧ ∃ h2, μ2 120 = mcl zp zt zm zd ze zi ((E).length : Int) zc zg ∧ μ2 125 = am_I 0 1200 h2 ∧ unr h2 (E)) 0 0 12 [(0, .ref 120), (1, am_i (p : Int)), (2, am_i zf), (3, am_i ps), (4, am_i z), (5, am_i zdn)] [] N μ := by
  intro nn
  induction nn with
  | zero =>
    intro i z μ us zu h zdn hz hf hM hH hu hzu hE hdn hR hat hm
    exfalso; omega
  | succ nn ih =>
    intro i z μ us zu h zdn hz hf hM hH hu hzu hE hdn hR hat hm
    obtain ⟨x1, x2, x3, x4⟩ := id hx
    have hV : μ 121 = am_I 0 420 g := (hf 121 (by omega)).trans hV0
    have hlt := sk_lt hR hcl
    have hma := mat_lt hlt
    have hic : i ≤ cl := by rw [← hR]; exact sk_ge _ _ _ _ (by omega)
    have hE1 : xs.getD i 0 ≠ 47 → E = us := by
      intro hq
      rw [sk_hit hlt (by omega)] at hR
      rw [← hE, endg_end (by omega)]
      split <;> simp
    refine ap_aload_n dX10_passes_12 rfl rfl ?_
    refine ap_iload_n dX10_passes_13 rfl rfl ?_
    refine ap_iload dX10_passes_14 rfl ?_
    refine ap_cV (As := [am_i (p : Int), am_i z]) (rest := []) (cm_at hM hV hN hp hx (k := i) (by omega) (by omega)) dX10_passes_16 lk_X10_120 hy_X10_at rfl (by omega) hM ⟨_, _, rfl⟩ (Nat.le_of_ble_eq_true rfl) ⟨Nat.le_of_ble_eq_true rfl, Nat.le_of_ble_eq_true rfl⟩ ⟨rfl, rfl⟩ ⟨Nat.le_of_ble_eq_true rfl, Nat.le_of_ble_eq_true rfl⟩ (fun xr1 xN2 μ3 xq4 => ?_)
    obtain ⟨rfl, rfl, rfl⟩ := xq4
    refine ap_bipush dX10_passes_19 (by decide) ?_
    refine ap_icmp_ne (tgt := 120) dX10_passes_21 (by decide) (by have := mat_r x4 i; omega) (fun c21 => ?_) (fun c21 => ?_)
    · exact ap_vret dX10_passes_120 rfl (Nat.le_of_ble_eq_true rfl) (Nat.le_of_ble_eq_true rfl) (⟨rfl, rfl, fun x hx => hf x hx, h, by rw [show E = us from hE1 (by omega)]; rw [← hzu]; exact hM, hH, by rw [show E = us from hE1 (by omega)]; exact hu⟩)
    · have hxi : xs.getD i 0 = 47 := by omega
      obtain ⟨hs1, hs2⟩ := hsw i hlt hxi
      have hg1 := sk_ge xs 58 58 (i + 1) (by omega)
      have hs3 : sk xs 47 93 (sk xs 58 58 (i + 1) + 1) = sk xs 47 93 (i + 1) := sk_hop _ _ _ (Nat.le_refl _) (by omega) (by omega)
      have hs4 : sk xs 47 93 (sk xs 58 58 (i + 1)) = sk xs 47 93 (i + 1) := sk_hop _ _ _ (Nat.le_refl _) (by omega) (by omega)
      have hs5 : sk xs 58 58 i = sk xs 58 58 (i + 1) := sk_nx hlt (by omega)
      have hs6 : sk xs 93 93 (i + 1) = cl := by rw [sk_nx hlt (by omega)] at hR; exact hR
      have hs7 : sk xs 47 93 (i + 1) ≤ cl := by rw [← hs6]; exact sk_sub _ _ (Nat.le_refl _)
      have hs8 : sk xs 93 93 (sk xs 47 93 (i + 1)) = cl := by rw [← hs6]; exact sk_hop _ _ _ (Nat.le_refl _) (by have := sk_ge xs 47 93 (i + 1) (by omega); omega) (by omega)
      have hs9 := sk_at (xs := xs) (c := 47) (d := 93) _ (i + 1) (Nat.le_refl _) hs2
      have hs0 := sk_ge xs 47 93 (i + 1) (by omega)
      have hend : endg xs ps cl i = if isEr xs ps (sk xs 58 58 (i + 1)) (i + 1) = 1 then piece xs (sk xs 58 58 (i + 1) + 1) (sk xs 47 93 (i + 1)) else endg xs ps cl (sk xs 47 93 (i + 1)) := by
        rw [endg, if_pos (by omega), hs5, hs4]
        by_cases hq : isEr xs ps (sk xs 58 58 (i + 1)) (i + 1) = 1
        · rw [if_pos hq, if_pos ⟨hxi, hq⟩]
        · rw [if_neg hq, if_neg (fun q => hq q.2)]
          exact endg_skip _ _ (Nat.le_refl _) (by omega) hs7
      have hy := isEr_r xs ps (sk xs 58 58 (i + 1)) (i + 1)
      have hs10 := sk_le xs 58 58 (i + 1)
      generalize his : isEr xs ps (sk xs 58 58 (i + 1)) (i + 1) = zis at hend hy
      refine ap_iconst dX10_passes_24 ?_
      refine ap_Istore (lv2 := [(0, .ref 120), (1, am_i (p : Int)), (2, am_i zf), (3, am_i ps), (4, am_i z), (5, am_i zdn), (6, am_i 0)]) dX10_passes_25 (by decide) rfl ?_
      refine ap_Iinc (lv2 := [(0, .ref 120), (1, am_i (p : Int)), (2, am_i zf), (3, am_i ps), (4, am_i (z + 1)), (5, am_i zdn), (6, am_i 0)]) dX10_passes_27 rfl (by decide) rfl ?_
      refine lm_passI hM hV hN hp hx (co := sk xs 58 58 (i + 1)) (E := zis) hps (by omega) ?_ (xs.length + 1) (i + 1) _ 0 (by omega) (Or.inl rfl) (by rw [if_neg (by omega)]; exact his) rfl (by omega)
      refine ap_aload_n dX10_passes_74 rfl rfl ?_
      refine ap_iload_n dX10_passes_75 rfl rfl ?_
      refine ap_iload dX10_passes_76 rfl ?_
      refine ap_iconst dX10_passes_78 ?_
      refine ap_iadd dX10_passes_79 ?_
      refine ap_iload dX10_passes_80 rfl ?_
      refine ap_if_eq (tgt := 94) dX10_passes_82 (by decide) (by omega) (fun c82 => ?_) (fun c82 => ?_)
      · refine ap_iconst dX10_passes_94 ?_
        refine ap_cV (As := [am_i (p : Int), am_i (((sk xs 58 58 (i + 1) : Nat) : Int) + 1), am_i 0]) (rest := []) (cm_lays0 hM hV hN hp hx (k := sk xs 58 58 (i + 1) + 1) (by omega) (by rw [hs3]; exact hs2)) dX10_passes_95 lk_X10_127 hy_X10_lays rfl (by omega) hM ⟨_, _, rfl⟩ (Nat.le_of_ble_eq_true rfl) ⟨Nat.le_of_ble_eq_true rfl, Nat.le_of_ble_eq_true rfl⟩ ⟨rfl, rfl⟩ ⟨Nat.le_of_ble_eq_true rfl, Nat.le_of_ble_eq_true rfl⟩ (fun xr5 xN6 μ7 xq8 => ?_)
        obtain ⟨rfl, rfl, rfl⟩ := xq8
        refine ap_topi (b := ((sk xs 47 93 (i + 1) : Nat) : Int)) (show ((sk xs 47 93 (sk xs 58 58 (i + 1) + 1) : Nat) : Int) = ((sk xs 47 93 (i + 1) : Nat) : Int) from by rw [hs3]) ?_
        refine ap_Istore (lv2 := [(0, .ref 120), (1, am_i (p : Int)), (2, am_i zf), (3, am_i ps), (4, am_i ((sk xs 47 93 (i + 1) : Nat) : Int)), (5, am_i zdn), (6, am_i zis)]) dX10_passes_98 (by decide) rfl ?_
        refine ap_iload dX10_passes_100 rfl ?_
        refine ap_if_ne (tgt := 110) dX10_passes_102 (by decide) (by omega) (fun c102 => ?_) (fun c102 => ?_)
        · refine ap_iconst dX10_passes_110 ?_
          refine ap_goto (tgt := 115) dX10_passes_111 (by decide) ?_
          refine ap_Istore (lv2 := [(0, .ref 120), (1, am_i (p : Int)), (2, am_i zf), (3, am_i ps), (4, am_i ((sk xs 47 93 (i + 1) : Nat) : Int)), (5, am_i 1), (6, am_i zis)]) dX10_passes_115 (by decide) rfl ?_
          refine ap_goto (tgt := 12) dX10_passes_117 (by decide) ?_
          refine ap_pick (lv2 := [(0, .ref 120), (1, am_i (p : Int)), (2, am_i zf), (3, am_i ps), (4, am_i ((sk xs 47 93 (i + 1) : Nat) : Int)), (5, am_i 1)]) [0, 1, 2, 3, 4, 5] rfl ?_
          exact ih _ _ μ us zu h 1 rfl hf hM hH hu hzu (by rw [if_pos (show zdn = 1 by omega)] at hE; rw [if_pos rfl]; exact hE) (Or.inr rfl) hs8 hs9 (by omega)
        · refine ap_iload dX10_passes_105 rfl ?_
          refine ap_if_eq (tgt := 114) dX10_passes_107 (by decide) (by omega) (fun c107 => ?_) (fun c107 => (by exfalso; omega))
          refine ap_iconst dX10_passes_114 ?_
          refine ap_Istore (lv2 := [(0, .ref 120), (1, am_i (p : Int)), (2, am_i zf), (3, am_i ps), (4, am_i ((sk xs 47 93 (i + 1) : Nat) : Int)), (5, am_i 0), (6, am_i zis)]) dX10_passes_115 (by decide) rfl ?_
          refine ap_goto (tgt := 12) dX10_passes_117 (by decide) ?_
          refine ap_pick (lv2 := [(0, .ref 120), (1, am_i (p : Int)), (2, am_i zf), (3, am_i ps), (4, am_i ((sk xs 47 93 (i + 1) : Nat) : Int)), (5, am_i 0)]) [0, 1, 2, 3, 4, 5] rfl ?_
          exact ih _ _ μ us zu h 0 rfl hf hM hH hu hzu (by rw [if_neg (show ¬ zdn = 1 by omega), hend, if_neg (by omega)] at hE; rw [if_neg (by omega)]; exact hE) (Or.inl rfl) hs8 hs9 (by omega)
      · refine ap_iload dX10_passes_85 rfl ?_
        refine ap_if_ne (tgt := 94) dX10_passes_87 (by decide) (by omega) (fun c87 => ?_) (fun c87 => ?_)
        · refine ap_iconst dX10_passes_94 ?_
          refine ap_cV (As := [am_i (p : Int), am_i (((sk xs 58 58 (i + 1) : Nat) : Int) + 1), am_i 0]) (rest := []) (cm_lays0 hM hV hN hp hx (k := sk xs 58 58 (i + 1) + 1) (by omega) (by rw [hs3]; exact hs2)) dX10_passes_95 lk_X10_127 hy_X10_lays rfl (by omega) hM ⟨_, _, rfl⟩ (Nat.le_of_ble_eq_true rfl) ⟨Nat.le_of_ble_eq_true rfl, Nat.le_of_ble_eq_true rfl⟩ ⟨rfl, rfl⟩ ⟨Nat.le_of_ble_eq_true rfl, Nat.le_of_ble_eq_true rfl⟩ (fun xr9 xN10 μ11 xq12 => ?_)
          obtain ⟨rfl, rfl, rfl⟩ := xq12
          refine ap_topi (b := ((sk xs 47 93 (i + 1) : Nat) : Int)) (show ((sk xs 47 93 (sk xs 58 58 (i + 1) + 1) : Nat) : Int) = ((sk xs 47 93 (i + 1) : Nat) : Int) from by rw [hs3]) ?_
          refine ap_Istore (lv2 := [(0, .ref 120), (1, am_i (p : Int)), (2, am_i zf), (3, am_i ps), (4, am_i ((sk xs 47 93 (i + 1) : Nat) : Int)), (5, am_i zdn), (6, am_i zis)]) dX10_passes_98 (by decide) rfl ?_
          refine ap_iload dX10_passes_100 rfl ?_
          refine ap_if_ne (tgt := 110) dX10_passes_102 (by decide) (by omega) (fun c102 => ?_) (fun c102 => (by exfalso; omega))
          refine ap_iconst dX10_passes_110 ?_
          refine ap_goto (tgt := 115) dX10_passes_111 (by decide) ?_
          refine ap_Istore (lv2 := [(0, .ref 120), (1, am_i (p : Int)), (2, am_i zf), (3, am_i ps), (4, am_i ((sk xs 47 93 (i + 1) : Nat) : Int)), (5, am_i 1), (6, am_i zis)]) dX10_passes_115 (by decide) rfl ?_
          refine ap_goto (tgt := 12) dX10_passes_117 (by decide) ?_
          refine ap_pick (lv2 := [(0, .ref 120), (1, am_i (p : Int)), (2, am_i zf), (3, am_i ps), (4, am_i ((sk xs 47 93 (i + 1) : Nat) : Int)), (5, am_i 1)]) [0, 1, 2, 3, 4, 5] rfl ?_
          exact ih _ _ μ us zu h 1 rfl hf hM hH hu hzu (by rw [if_pos (show zdn = 1 by omega)] at hE; rw [if_pos rfl]; exact hE) (Or.inr rfl) hs8 hs9 (by omega)
        · refine ap_iconst dX10_passes_90 ?_
          refine ap_goto (tgt := 95) dX10_passes_91 (by decide) ?_
          have hE2 := hE
          rw [if_neg (by omega), hend, if_pos (by omega)] at hE2
          refine ap_cV (As := [am_i (p : Int), am_i (((sk xs 58 58 (i + 1) : Nat) : Int) + 1), am_i 1]) (rest := []) (cm_lays1 (us := us) (by rw [← hzu]; exact hM) hV hN hp hx hH hu (k := sk xs 58 58 (i + 1) + 1) (by omega) (by rw [hs3]; exact hs2) (by rw [hs3, hE2]; exact hfit)) dX10_passes_95 lk_X10_127 hy_X10_lays rfl (by omega) hM ⟨_, _, rfl⟩ (Nat.le_of_ble_eq_true rfl) ⟨Nat.le_of_ble_eq_true rfl, Nat.le_of_ble_eq_true rfl⟩ ⟨rfl, rfl⟩ ⟨Nat.le_of_ble_eq_true rfl, Nat.le_of_ble_eq_true rfl⟩ (fun xr13 xN14 μz xq15 => ?_)
          obtain ⟨rfl, rfl, hz2, h2, hz1, hz3, hz4⟩ := xq15
          rw [hs3, hE2] at hz1 hz4
          refine ap_topi (b := ((sk xs 47 93 (i + 1) : Nat) : Int)) (show ((sk xs 47 93 (sk xs 58 58 (i + 1) + 1) : Nat) : Int) = ((sk xs 47 93 (i + 1) : Nat) : Int) from by rw [hs3]) ?_
          refine ap_Istore (lv2 := [(0, .ref 120), (1, am_i (p : Int)), (2, am_i zf), (3, am_i ps), (4, am_i ((sk xs 47 93 (i + 1) : Nat) : Int)), (5, am_i zdn), (6, am_i zis)]) dX10_passes_98 (by decide) rfl ?_
          refine ap_iload dX10_passes_100 rfl ?_
          refine ap_if_ne (tgt := 110) dX10_passes_102 (by decide) (by omega) (fun c102 => (by exfalso; omega)) (fun c102 => ?_)
          refine ap_iload dX10_passes_105 rfl ?_
          refine ap_if_eq (tgt := 114) dX10_passes_107 (by decide) (by omega) (fun c107 => (by exfalso; omega)) (fun c107 => ?_)
          refine ap_iconst dX10_passes_110 ?_
          refine ap_goto (tgt := 115) dX10_passes_111 (by decide) ?_
          refine ap_Istore (lv2 := [(0, .ref 120), (1, am_i (p : Int)), (2, am_i zf), (3, am_i ps), (4, am_i ((sk xs 47 93 (i + 1) : Nat) : Int)), (5, am_i 1), (6, am_i zis)]) dX10_passes_115 (by decide) rfl ?_
          refine ap_goto (tgt := 12) dX10_passes_117 (by decide) ?_
          refine ap_pick (lv2 := [(0, .ref 120), (1, am_i (p : Int)), (2, am_i zf), (3, am_i ps), (4, am_i ((sk xs 47 93 (i + 1) : Nat) : Int)), (5, am_i 1)]) [0, 1, 2, 3, 4, 5] rfl ?_
          exact ih _ _ μz E _ h2 1 rfl (fun x hx => (hz2 x hx).trans (hf x hx)) hz1 hz3 hz4 rfl (by rw [if_pos rfl, List.append_nil]) (Or.inr rfl) hs8 hs9 (by omega)

set_option maxHeartbeats 4000000 in
set_option maxRecDepth 100000 in
theorem cm_passes {N : Nat} {μ : am_M} {zp zt zm zd ze zi zc zg : Int} {g : Nat → Int} {p : Nat} {xs us : List Int} {h : Nat → Int} (hM : μ 120 = mcl zp zt zm zd ze zi (us.length : Int) zc zg) (hV : μ 121 = am_I 0 420 g) (hN : 141 ≤ N) (hp : p < 4) (hx : vtx g p xs) (hH : μ 125 = am_I 0 1200 h) (hu : unr h us) {k : Nat} {z ps : Int} (hps : 1 ≤ ps ∧ ps ≤ 9) (hsw : swf xs) (hz : z = (k : Int)) (hl : sk xs 93 93 k < xs.length) (hfit : (us ++ (piece xs k (sk xs 47 93 k) ++ endg xs ps (sk xs 93 93 k) (sk xs 47 93 k))).length ≤ 1200) : am_Met YX10_passes [.ref 120, am_i (p : Int), am_i z, am_i ps] N μ (fun r N2 μ2 => r = none ∧ N = N2 ∧ (∀ x, ¬ (x = 120 ∨ x = 125) → μ2 x = μ x) ∧ ∃ h2, μ2 120 = mcl zp zt zm zd ze zi ((us ++ (piece xs k (sk xs 47 93 k) ++ endg xs ps (sk xs 93 93 k) (sk xs 47 93 k))).length : Int) zc zg ∧ μ2 125 = am_I 0 1200 h2 ∧ unr h2 (us ++ (piece xs k (sk xs 47 93 k) ++ endg xs ps (sk xs 93 93 k) (sk xs 47 93 k)))) := by
  refine am_met (by first | decide | rfl) (Nat.le_of_ble_eq_true rfl) (fun h => by first | rfl | cases h) ?_
  show am_W YX10_passes _ 0 0 0 [(0, .ref 120), (1, am_i (p : Int)), (2, am_i z), (3, am_i ps)] [] _ _
  refine ap_aload_n dX10_passes_0 rfl rfl ?_
  refine ap_iload_n dX10_passes_1 rfl rfl ?_
  refine ap_iload_n dX10_passes_2 rfl rfl ?_
  refine ap_iconst dX10_passes_3 ?_
  have hsb := sk_sub (xs := xs) _ k (Nat.le_refl _)
  have hk1 := sk_lt rfl hl
  have hk2 := sk_ge xs 47 93 k (by omega)
  refine ap_cV (As := [am_i (p : Int), am_i z, am_i 1]) (rest := []) (cm_lays1 hM hV hN hp hx hH hu (k := k) hz (by omega) (by rw [List.length_append] at hfit ⊢; rw [List.length_append] at hfit; omega)) dX10_passes_4 lk_X10_127 hy_X10_lays rfl (by omega) hM ⟨_, _, rfl⟩ (Nat.le_of_ble_eq_true rfl) ⟨Nat.le_of_ble_eq_true rfl, Nat.le_of_ble_eq_true rfl⟩ ⟨rfl, rfl⟩ ⟨Nat.le_of_ble_eq_true rfl, Nat.le_of_ble_eq_true rfl⟩ (fun xr1 xN2 μz xq3 => ?_)
  obtain ⟨rfl, rfl, hz2, h2, hz1, hz3, hz4⟩ := xq3
  refine ap_Istore (lv2 := [(0, .ref 120), (1, am_i (p : Int)), (2, am_i z), (3, am_i ps), (4, am_i ((sk xs 47 93 k : Nat) : Int))]) dX10_passes_7 (by decide) rfl ?_
  refine ap_iconst dX10_passes_9 ?_
  refine ap_Istore (lv2 := [(0, .ref 120), (1, am_i (p : Int)), (2, am_i z), (3, am_i ps), (4, am_i ((sk xs 47 93 k : Nat) : Int)), (5, am_i 0)]) dX10_passes_10 (by decide) rfl ?_
  have xm4 : μz 121 = am_I 0 420 g := (hz2 _ (by omega)).trans hV
  exact am_mono (lm_pass (μ0 := μz) xm4 hN hp hx hps hsw hl hfit (xs.length + 1) (sk xs 47 93 k) _ μz (us ++ piece xs k (sk xs 47 93 k)) _ h2 0 rfl (fun x hx => rfl) hz1 hz3 hz4 rfl (by rw [if_neg (by omega), List.append_assoc]) (Or.inl rfl) (sk_hop _ _ _ (Nat.le_refl _) (by omega) (by omega)) (sk_at _ _ (Nat.le_refl _) (by omega)) (by omega)) (fun r N2 μ2 hq => ⟨hq.1, hq.2.1, fun x hx => (hq.2.2.1 x hx).trans (hz2 x hx), hq.2.2.2⟩)

set_option maxHeartbeats 4000000 in
set_option maxRecDepth 100000 in
theorem lm_unfI {N : Nat} {μ0 : am_M} {zp zt zm zd ze zi zc zg : Int} {g : Nat → Int} {p : Nat} {xs : List Int} (hV0 : μ0 121 = am_I 0 420 g) (hN : 141 ≤ N) (hp : p < 4) (hx : vtx g p xs) {k m : Nat} {bs : List Int} {Q : Option Value → Nat → am_M → Prop} (hk : k < xs.length) (hxk : xs.getD k 0 = 91) (hsw : swf xs) (hb1 : sk xs 93 93 k + 1 < xs.length) (hb2 : xs.getD (sk xs 93 93 k + 1) 0 = (m : Int) + 48) (hm9 : m ≤ 9) (hfit : bs.length + (psn xs k (sk xs 47 93 k) (sk xs 93 93 k) m).length ≤ 1200) (hk9 : ∀ (μ : am_M) (us : List Int) (zu : Int) (h : Nat → Int) (zz : Int), (∀ x, ¬ (x = 120 ∨ x = 125) → μ x = μ0 x) → μ 120 = mcl zp zt zm zd ze zi zu zc zg → μ 125 = am_I 0 1200 h → unr h us → zu = (us.length : Int) → bs ++ psn xs k (sk xs 47 93 k) (sk xs 93 93 k) m = us → am_W YX10_unfolds Q 0 0 73 [(0, .ref 120), (1, am_i (p : Int)), (2, am_i (k : Int)), (3, am_i ((sk xs 93 93 k : Nat) : Int)), (4, am_i zz)] [] N μ) : ∀ (nn : Nat) (j : Nat) (z : Int) (μ : am_M) (us : List Int) (zu : Int) (h : Nat → Int), z = (j : Int) + 1 → (∀ x, ¬ (x = 120 ∨ x = 125) → μ x = μ0 x) → μ 120 = mcl zp zt zm zd ze zi zu zc zg → μ 125 = am_I 0 1200 h → unr h us → zu = (us.length : Int) → bs ++ psn xs k (sk xs 47 93 k) (sk xs 93 93 k) j = us → j ≤ m → m - j < nn → am_W YX10_unfolds (Q) 0 0 41 [(0, .ref 120), (1, am_i (p : Int)), (2, am_i (k : Int)), (3, am_i ((sk xs 93 93 k : Nat) : Int)), (4, am_i z)] [] N μ := by
  intro nn
  induction nn with
  | zero =>
    intro j z μ us zu h hz hf hM hH hu hzu hE hj0 hm
    exfalso; omega
  | succ nn ih =>
    intro j z μ us zu h hz hf hM hH hu hzu hE hj0 hm
    obtain ⟨x1, x2, x3, x4⟩ := id hx
    have hV : μ 121 = am_I 0 420 g := (hf 121 (by omega)).trans hV0
    refine ap_iload dX10_unfolds_41 rfl ?_
    refine ap_aload_n dX10_unfolds_43 rfl rfl ?_
    refine ap_iload_n dX10_unfolds_44 rfl rfl ?_
    refine ap_iload_n dX10_unfolds_45 rfl rfl ?_
    refine ap_iconst dX10_unfolds_46 ?_
    refine ap_iadd dX10_unfolds_47 ?_
    refine ap_cV (As := [am_i (p : Int), am_i (((sk xs 93 93 k : Nat) : Int) + 1)]) (rest := [am_i z]) (cm_at hM hV hN hp hx (k := sk xs 93 93 k + 1) (by omega) (by omega)) dX10_unfolds_48 lk_X10_120 hy_X10_at rfl (by omega) hM ⟨_, _, rfl⟩ (Nat.le_of_ble_eq_true rfl) ⟨Nat.le_of_ble_eq_true rfl, Nat.le_of_ble_eq_true rfl⟩ ⟨rfl, rfl⟩ ⟨Nat.le_of_ble_eq_true rfl, Nat.le_of_ble_eq_true rfl⟩ (fun xr1 xN2 μ3 xq4 => ?_)
    obtain ⟨rfl, rfl, rfl⟩ := xq4
    refine ap_topi (b := ((m : Int) + 48)) (show (mat xs (sk xs 93 93 k + 1)) = ((m : Int) + 48) from by rw [mat_lt hb1]; omega) ?_
    refine ap_bipush dX10_unfolds_51 (by decide) ?_
    refine ap_isub dX10_unfolds_53 ?_
    refine ap_icmp_gt (tgt := 73) dX10_unfolds_54 (by decide) (by omega) (fun c54 => ?_) (fun c54 => ?_)
    · obtain rfl : j = m := by omega
      exact hk9 μ us zu h _ hf hM hH hu hzu hE
    · have hj : j < m := by omega
      have hpre := psn_pre (xs := xs) (op := k) (be := sk xs 47 93 k) (cl := sk xs 93 93 k) (show j + 1 ≤ m from hj)
      have hlt2 := congrArg List.length hE
      have he1 : sk xs 47 93 (k + 1) = sk xs 47 93 k := (sk_nx hk (by omega)).symm
      have he2 : sk xs 93 93 (k + 1) = sk xs 93 93 k := (sk_nx hk (by omega)).symm
      have hstep : us ++ (piece xs (k + 1) (sk xs 47 93 k) ++ endg xs z (sk xs 93 93 k) (sk xs 47 93 k)) = bs ++ psn xs k (sk xs 47 93 k) (sk xs 93 93 k) (j + 1) := by
        rw [psn, ← List.append_assoc bs, hE, hz]
      have hlen := congrArg List.length hstep
      have hlen3 : (bs ++ psn xs k (sk xs 47 93 k) (sk xs 93 93 k) (j + 1)).length = bs.length + (psn xs k (sk xs 47 93 k) (sk xs 93 93 k) (j + 1)).length := List.length_append
      refine ap_aload_n dX10_unfolds_57 rfl rfl ?_
      refine ap_iload_n dX10_unfolds_58 rfl rfl ?_
      refine ap_iload_n dX10_unfolds_59 rfl rfl ?_
      refine ap_iconst dX10_unfolds_60 ?_
      refine ap_iadd dX10_unfolds_61 ?_
      refine ap_iload dX10_unfolds_62 rfl ?_
      refine ap_cV (As := [am_i (p : Int), am_i ((k : Int) + 1), am_i z]) (rest := []) (cm_passes (us := us) (by rw [← hzu]; exact hM) hV hN hp hx hH hu (k := k + 1) (ps := z) (by omega) hsw (by omega) (by rw [he2]; omega) (by rw [he1, he2]; omega)) dX10_unfolds_64 lk_X10_134 hy_X10_passes rfl (by omega) hM ⟨_, _, rfl⟩ (Nat.le_of_ble_eq_true rfl) ⟨Nat.le_of_ble_eq_true rfl, Nat.le_of_ble_eq_true rfl⟩ ⟨rfl, rfl⟩ ⟨Nat.le_of_ble_eq_true rfl, Nat.le_of_ble_eq_true rfl⟩ (fun xr5 xN6 μz xq7 => ?_)
      obtain ⟨rfl, rfl, hz2, h2, hz1, hz3, hz4⟩ := xq7
      rw [he1, he2, hstep] at hz1 hz4
      refine ap_Iinc (lv2 := [(0, .ref 120), (1, am_i (p : Int)), (2, am_i (k : Int)), (3, am_i ((sk xs 93 93 k : Nat) : Int)), (4, am_i (z + 1))]) dX10_unfolds_67 rfl (by decide) rfl ?_
      refine ap_goto (tgt := 41) dX10_unfolds_70 (by decide) ?_
      exact ih (j + 1) _ μz _ _ h2 (by omega) (fun x hx => (hz2 x hx).trans (hf x hx)) hz1 hz3 hz4 rfl rfl (by omega) (by omega)

set_option maxHeartbeats 4000000 in
set_option maxRecDepth 100000 in
theorem lm_unfolds {N : Nat} {μ0 : am_M} {zp zt zm zd ze zi zc zg : Int} {g : Nat → Int} {p : Nat} {xs : List Int} (hV0 : μ0 121 = am_I 0 420 g) (hN : 141 ≤ N) (hp : p < 4) (hx : vtx g p xs) (hbw : bwf xs) (hsw : swf xs) {E : List Int} (hfit : E.length ≤ 1200) : ∀ (nn : Nat) (i : Nat) (z : Int) (μ : am_M) (us : List Int) (zu : Int) (h : Nat → Int), z = (i : Int) → (∀ x, ¬ (x = 120 ∨ x = 125) → μ x = μ0 x) → μ 120 = mcl zp zt zm zd ze zi zu zc zg → μ 125 = am_I 0 1200 h → unr h us → zu = (us.length : Int) → us ++ uf xs i = E → i ≤ xs.length + 2 → xs.length + 2 - i < nn → am_W YX10_unfolds (fun r N2 μ2 => r = none ∧ N = N2 ∧ (∀ x, ¬ (x = 120 ∨ x = 125) → μ2 x = μ0 x) ∧ ∃ h2, μ2 120 = mcl zp zt zm zd ze zi ((E).length : Int) zc zg ∧ μ2 125 = am_I 0 1200 h2 ∧ unr h2 (E)) 0 0 7 [(0, .ref 120), (1, am_i (p : Int)), (2, am_i z)] [] N μ := by
  intro nn
  induction nn with
  | zero =>
    intro i z μ us zu h hz hf hM hH hu hzu hR hi hm
    exfalso; omega
  | succ nn ih =>
    intro i z μ us zu h hz hf hM hH hu hzu hR hi hm
    obtain ⟨x1, x2, x3, x4⟩ := id hx
    have hV : μ 121 = am_I 0 420 g := (hf 121 (by omega)).trans hV0
    refine ap_iload_n dX10_unfolds_7 rfl rfl ?_
    refine ap_aload_n dX10_unfolds_8 rfl rfl ?_
    refine ap_get ff_X10_7 dX10_unfolds_9 (by omega) hM rfl ?_
    refine ap_bipush dX10_unfolds_12 (by decide) ?_
    refine ap_iload_n dX10_unfolds_14 rfl rfl ?_
    refine ap_imul dX10_unfolds_15 ?_
    refine ap_iald (j := 101 * p) dX10_unfolds_16 (by omega) hV (by omega) (by omega) ?_
    refine ap_topi (b := (xs.length : Int)) (show (g (101 * p)) = (xs.length : Int) from x1) ?_
    refine ap_icmp_ge (tgt := 111) dX10_unfolds_17 (by decide) (by omega) (fun c17 => ?_) (fun c17 => ?_)
    · exact ap_vret dX10_unfolds_111 rfl (Nat.le_of_ble_eq_true rfl) (Nat.le_of_ble_eq_true rfl) (⟨rfl, rfl, fun x hx => hf x hx, h, by rw [uf, dif_neg (by omega), List.append_nil] at hR; rw [← hR, ← hzu]; exact hM, hH, by rw [uf, dif_neg (by omega), List.append_nil] at hR; rw [← hR]; exact hu⟩)
    · have hlt : i < xs.length := by omega
      have hma := mat_lt hlt
      have hR0 := hR
      rw [uf, dif_pos hlt] at hR
      refine ap_aload_n dX10_unfolds_20 rfl rfl ?_
      refine ap_iload_n dX10_unfolds_21 rfl rfl ?_
      refine ap_iload_n dX10_unfolds_22 rfl rfl ?_
      refine ap_cV (As := [am_i (p : Int), am_i z]) (rest := []) (cm_at hM hV hN hp hx (k := i) (by omega) (by omega)) dX10_unfolds_23 lk_X10_120 hy_X10_at rfl (by omega) hM ⟨_, _, rfl⟩ (Nat.le_of_ble_eq_true rfl) ⟨Nat.le_of_ble_eq_true rfl, Nat.le_of_ble_eq_true rfl⟩ ⟨rfl, rfl⟩ ⟨Nat.le_of_ble_eq_true rfl, Nat.le_of_ble_eq_true rfl⟩ (fun xr1 xN2 μ3 xq4 => ?_)
      obtain ⟨rfl, rfl, rfl⟩ := xq4
      refine ap_bipush dX10_unfolds_26 (by decide) ?_
      refine ap_icmp_ne (tgt := 80) dX10_unfolds_28 (by decide) (by have := mat_r x4 i; omega) (fun c28 => ?_) (fun c28 => ?_)
      · rw [if_neg (by omega)] at hR
        have hlen := congrArg List.length hR
        simp only [List.length_append, List.length_cons] at hlen
        refine ap_aload_n dX10_unfolds_80 rfl rfl ?_
        refine ap_get ff_X10_22 dX10_unfolds_81 (by omega) hM rfl ?_
        refine ap_aload_n dX10_unfolds_84 rfl rfl ?_
        refine ap_get ff_X10_124 dX10_unfolds_85 (by omega) hM rfl ?_
        refine ap_aload_n dX10_unfolds_88 rfl rfl ?_
        refine ap_iload_n dX10_unfolds_89 rfl rfl ?_
        refine ap_iload_n dX10_unfolds_90 rfl rfl ?_
        refine ap_cV (As := [am_i (p : Int), am_i z]) (rest := [am_i zu, .ref 125]) (cm_at hM hV hN hp hx (k := i) (by omega) (by omega)) dX10_unfolds_91 lk_X10_120 hy_X10_at rfl (by omega) hM ⟨_, _, rfl⟩ (Nat.le_of_ble_eq_true rfl) ⟨Nat.le_of_ble_eq_true rfl, Nat.le_of_ble_eq_true rfl⟩ ⟨rfl, rfl⟩ ⟨Nat.le_of_ble_eq_true rfl, Nat.le_of_ble_eq_true rfl⟩ (fun xr5 xN6 μ7 xq8 => ?_)
        obtain ⟨rfl, rfl, rfl⟩ := xq8
        refine ap_topi (b := xs.getD i 0) (show (mat xs i) = (xs.getD i 0) from hma) ?_
        refine ap_iast (j := us.length) dX10_unfolds_94 (by omega) hH (by omega) (by omega) (fun μ9 xe10 xf11 => ?_)
        refine ap_aload_n dX10_unfolds_95 rfl rfl ?_
        refine ap_dup dX10_unfolds_96 rfl ?_
        have xm12 : μ9 120 = am_O 10 [.ref 121, .ref 122, am_i zp, .ref 123, am_i zt, am_i zm, am_i zd, am_i ze, am_i zi, .ref 124, .ref 125, am_i zu, .ref 126, .ref 127, .ref 128, .ref 129, .ref 130, .ref 131, .ref 132, .ref 133, .ref 134, .ref 135, am_i zc, .ref 136, .ref 137, .ref 138, .ref 139, .ref 140, am_i zg] := (xf11 _ (by omega)).trans hM
        refine ap_get ff_X10_124 dX10_unfolds_97 (by omega) xm12 rfl ?_
        refine ap_iconst dX10_unfolds_100 ?_
        refine ap_iadd dX10_unfolds_101 ?_
        refine ap_put (fs2 := [.ref 121, .ref 122, am_i zp, .ref 123, am_i zt, am_i zm, am_i zd, am_i ze, am_i zi, .ref 124, .ref 125, am_i (zu + 1), .ref 126, .ref 127, .ref 128, .ref 129, .ref 130, .ref 131, .ref 132, .ref 133, .ref 134, .ref 135, am_i zc, .ref 136, .ref 137, .ref 138, .ref 139, .ref 140, am_i zg]) ff_X10_124 fc_X10_11 dX10_unfolds_102 (by omega) xm12 (fun _ => ⟨rfl, rfl⟩) (Nat.le_of_ble_eq_true rfl) rfl (fun μ13 xe14 xf15 => ?_)
        refine ap_Iinc (lv2 := [(0, .ref 120), (1, am_i (p : Int)), (2, am_i (z + 1))]) dX10_unfolds_105 rfl (by decide) rfl ?_
        refine ap_goto (tgt := 7) dX10_unfolds_108 (by decide) ?_
        refine ap_pick (lv2 := [(0, .ref 120), (1, am_i (p : Int)), (2, am_i (z + 1))]) [0, 1, 2] rfl ?_
        have xm16 : μ13 125 = am_I 0 1200 (va_up h us.length (xs.getD i 0)) := (xf15 _ (by omega)).trans xe10
        exact ih (i + 1) _ μ13 (us ++ [xs.getD i 0]) _ _ (by omega) (fun x hx => ((xf15 x (by omega)).trans ((xf11 x (by omega)))).trans (hf x hx)) xe14 xm16 (unr_app hu) (by rw [List.length_append, List.length_singleton]; omega) (by rw [List.append_assoc]; exact hR) (by omega) (by omega)
      · have hxi : xs.getD i 0 = 91 := by omega
        rw [if_pos hxi] at hR
        obtain ⟨hb1, hb2⟩ := hbw i hlt hxi
        subst hz
        have hg1 := sk_ge xs 93 93 i (by omega)
        have hlen := congrArg List.length hR
        simp only [List.length_append] at hlen
        have htt : tat xs ((sk xs 93 93 i : Int) + 1) = xs.getD (sk xs 93 93 i + 1) 0 := by
          rw [tat, if_pos (by omega)]; congr 1
        have hd9 := dg_r (xs.getD (sk xs 93 93 i + 1) 0)
        have hd0 : xs.getD (sk xs 93 93 i + 1) 0 = (((dg (xs.getD (sk xs 93 93 i + 1) 0)).toNat : Nat) : Int) + 48 := by
          have hq := (dg_eq (c := xs.getD (sk xs 93 93 i + 1) 0) (ps := dg (xs.getD (sk xs 93 93 i + 1) 0)) (by omega)).mp rfl
          omega
        rw [htt] at hR hlen
        generalize hmm : (dg (xs.getD (sk xs 93 93 i + 1) 0)).toNat = m at hR hlen hd0
        refine ap_aload_n dX10_unfolds_31 rfl rfl ?_
        refine ap_iload_n dX10_unfolds_32 rfl rfl ?_
        refine ap_iload_n dX10_unfolds_33 rfl rfl ?_
        refine ap_cV (As := [am_i (p : Int), am_i (i : Int)]) (rest := []) (cm_closing hM hV hN hp hx (k := i) rfl (by omega)) dX10_unfolds_34 lk_X10_131 hy_X10_closing rfl (by omega) hM ⟨_, _, rfl⟩ (Nat.le_of_ble_eq_true rfl) ⟨Nat.le_of_ble_eq_true rfl, Nat.le_of_ble_eq_true rfl⟩ ⟨rfl, rfl⟩ ⟨Nat.le_of_ble_eq_true rfl, Nat.le_of_ble_eq_true rfl⟩ (fun xr17 xN18 μ19 xq20 => ?_)
        obtain ⟨rfl, rfl, rfl⟩ := xq20
        refine ap_Istore_n (lv2 := [(0, .ref 120), (1, am_i (p : Int)), (2, am_i (i : Int)), (3, am_i ((sk xs 93 93 i : Nat) : Int))]) dX10_unfolds_37 rfl (by decide) rfl ?_
        refine ap_iconst dX10_unfolds_38 ?_
        refine ap_Istore (lv2 := [(0, .ref 120), (1, am_i (p : Int)), (2, am_i (i : Int)), (3, am_i ((sk xs 93 93 i : Nat) : Int)), (4, am_i 1)]) dX10_unfolds_39 (by decide) rfl ?_
        refine lm_unfI (μ0 := μ0) hV0 hN hp hx (k := i) (m := m) (bs := us) hlt hxi hsw hb1 hd0 (by omega) (by omega) ?_ (m + 1) 0 _ μ us zu h rfl hf hM hH hu hzu (by rw [psn, List.append_nil]) (Nat.zero_le _) (by omega)
        intro μy us2 zw hh zz hy1 hy2 hy3 hy4 hy5 hy6
        refine ap_iload_n dX10_unfolds_73 rfl rfl ?_
        refine ap_iconst dX10_unfolds_74 ?_
        refine ap_iadd dX10_unfolds_75 ?_
        refine ap_Istore_n (lv2 := [(0, .ref 120), (1, am_i (p : Int)), (2, am_i (((sk xs 93 93 i : Nat) : Int) + 2)), (3, am_i ((sk xs 93 93 i : Nat) : Int)), (4, am_i zz)]) dX10_unfolds_76 rfl (by decide) rfl ?_
        refine ap_goto (tgt := 7) dX10_unfolds_77 (by decide) ?_
        refine ap_pick (lv2 := [(0, .ref 120), (1, am_i (p : Int)), (2, am_i (((sk xs 93 93 i : Nat) : Int) + 2))]) [0, 1, 2] rfl ?_
        exact ih (sk xs 93 93 i + 2) _ μy us2 zw hh (by omega) hy1 hy2 hy3 hy4 hy5 (by rw [← hy6, List.append_assoc, show sk xs 93 93 i + 2 = max i (sk xs 93 93 i + 1) + 1 by omega]; exact hR) (by omega) (by omega)

set_option maxHeartbeats 4000000 in
set_option maxRecDepth 100000 in
theorem cm_unfolds {N : Nat} {μ : am_M} {zp zt zm zd ze zi zu zc zg : Int} {g : Nat → Int} {p : Nat} {xs : List Int} (hM : μ 120 = mcl zp zt zm zd ze zi zu zc zg) (hV : μ 121 = am_I 0 420 g) (hN : 141 ≤ N) (hp : p < 4) (hx : vtx g p xs) {h : Nat → Int} (hH : μ 125 = am_I 0 1200 h) (hbw : bwf xs) (hsw : swf xs) (hfit : (uf xs 0).length ≤ 1200) : am_Met YX10_unfolds [.ref 120, am_i (p : Int)] N μ (fun r N2 μ2 => r = none ∧ N = N2 ∧ (∀ x, ¬ (x = 120 ∨ x = 125) → μ2 x = μ x) ∧ ∃ h2, μ2 120 = mcl zp zt zm zd ze zi ((uf xs 0).length : Int) zc zg ∧ μ2 125 = am_I 0 1200 h2 ∧ unr h2 (uf xs 0)) := by
  refine am_met (by first | decide | rfl) (Nat.le_of_ble_eq_true rfl) (fun h => by first | rfl | cases h) ?_
  show am_W YX10_unfolds _ 0 0 0 [(0, .ref 120), (1, am_i (p : Int))] [] _ _
  refine ap_aload_n dX10_unfolds_0 rfl rfl ?_
  refine ap_iconst dX10_unfolds_1 ?_
  refine ap_put (fs2 := [.ref 121, .ref 122, am_i zp, .ref 123, am_i zt, am_i zm, am_i zd, am_i ze, am_i zi, .ref 124, .ref 125, am_i 0, .ref 126, .ref 127, .ref 128, .ref 129, .ref 130, .ref 131, .ref 132, .ref 133, .ref 134, .ref 135, am_i zc, .ref 136, .ref 137, .ref 138, .ref 139, .ref 140, am_i zg]) ff_X10_124 fc_X10_11 dX10_unfolds_2 (by omega) hM (fun _ => ⟨rfl, rfl⟩) (Nat.le_of_ble_eq_true rfl) rfl (fun μ1 xe2 xf3 => ?_)
  refine ap_iconst dX10_unfolds_5 ?_
  refine ap_Istore_n (lv2 := [(0, .ref 120), (1, am_i (p : Int)), (2, am_i 0)]) dX10_unfolds_6 rfl (by decide) rfl ?_
  have xm4 : μ1 121 = am_I 0 420 g := (xf3 _ (by omega)).trans hV
  have xm5 : μ1 125 = am_I 0 1200 h := (xf3 _ (by omega)).trans hH
  exact am_mono (lm_unfolds (μ0 := μ1) xm4 hN hp hx hbw hsw hfit (xs.length + 3) 0 _ μ1 [] _ h rfl (fun x hx => rfl) xe2 xm5 (fun j hj => absurd hj (Nat.not_lt_zero j)) rfl rfl (by omega) (by omega)) (fun r N2 μ2 hq => ⟨hq.1, hq.2.1, fun x hx => (hq.2.2.1 x hx).trans ((xf3 x (by omega))), hq.2.2.2⟩)

