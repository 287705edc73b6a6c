/-! the least time, and who has it -/
def lst (X : Nat → PS) (ah : Nat → Nat) (k : Nat) : Int := match k with
  | 0 => -1
  | k + 1 => if ah k < p_cnt (X k) ∧ (lst X ah k < 0 ∨ p_B (X k) (ah k) < lst X ah k) then p_B (X k) (ah k) else lst X ah k
def tgs (X : Nat → PS) (ah : Nat → Nat) (v : Int) (k : Nat) : Int := match k with
  | 0 => 0
  | k + 1 => tgs X ah v k + (if ah k < p_cnt (X k) ∧ p_B (X k) (ah k) = v then 2 ^ k else 0)
theorem tgs_0 {X : Nat → PS} {ah : Nat → Nat} {v : Int} : ∀ k, (∀ j, j < k → ¬ (ah j < p_cnt (X j) ∧ p_B (X j) (ah j) = v)) → tgs X ah v k = 0 := by
  intro k
  induction k with
  | zero => intro _; rfl
  | succ k ih =>
    intro h
    show tgs X ah v k + _ = 0
    rw [ih (fun j hj => h j (by omega)), if_neg (h k (by omega))]; rfl
theorem tgs_r (X : Nat → PS) (ah : Nat → Nat) (v : Int) (k : Nat) (hk : k ≤ 4) : 0 ≤ tgs X ah v k ∧ tgs X ah v k < 2 ^ k := by
  induction k with
  | zero => exact ⟨Int.le_refl 0, by show (0 : Int) < 1; omega⟩
  | succ k ih =>
    have h := ih (by omega)
    have hp := p2_r (show k ≤ 4 by omega)
    show 0 ≤ tgs X ah v k + _ ∧ tgs X ah v k + _ < _
    rw [Int.pow_succ]
    split <;> omega
theorem ovk_lst {X : Nat → PS} {ah : Nat → Nat} (n0 : Int) (hb : ∀ k, k < 4 → ah k < p_cnt (X k) → 0 ≤ p_B (X k) (ah k)) : ∀ k, k ≤ 4 → ((ovk X ah n0 k).2 = 0 → lst X ah k = -1 ∧ ∀ j, j < k → ¬ ah j < p_cnt (X j)) ∧ ((ovk X ah n0 k).2 ≠ 0 → lst X ah k = (ovk X ah n0 k).1 ∧ 0 ≤ (ovk X ah n0 k).1 ∧ (ovk X ah n0 k).2 = tgs X ah (ovk X ah n0 k).1 k ∧ ∀ j, j < k → ah j < p_cnt (X j) → (ovk X ah n0 k).1 ≤ p_B (X j) (ah j)) := by
  intro k
  induction k with
  | zero => intro _; exact ⟨fun _ => ⟨rfl, fun j hj => absurd hj (Nat.not_lt_zero j)⟩, fun h => absurd rfl h⟩
  | succ k ih =>
    intro hk
    obtain ⟨h1, h2⟩ := ih (by omega)
    have hr := ovk_r X ah n0 k
    have hp := p2_r (show k ≤ 4 by omega)
    have hbk := hb k (by omega)
    show ((if ah k < p_cnt (X k) then ofr (ovk X ah n0 k).1 (ovk X ah n0 k).2 k (p_B (X k) (ah k)) else ovk X ah n0 k).2 = 0 → (if ah k < p_cnt (X k) ∧ (lst X ah k < 0 ∨ p_B (X k) (ah k) < lst X ah k) then p_B (X k) (ah k) else lst X ah k) = -1 ∧ _) ∧ ((if ah k < p_cnt (X k) then ofr (ovk X ah n0 k).1 (ovk X ah n0 k).2 k (p_B (X k) (ah k)) else ovk X ah n0 k).2 ≠ 0 → (if ah k < p_cnt (X k) ∧ (lst X ah k < 0 ∨ p_B (X k) (ah k) < lst X ah k) then p_B (X k) (ah k) else lst X ah k) = (if ah k < p_cnt (X k) then ofr (ovk X ah n0 k).1 (ovk X ah n0 k).2 k (p_B (X k) (ah k)) else ovk X ah n0 k).1 ∧ 0 ≤ (if ah k < p_cnt (X k) then ofr (ovk X ah n0 k).1 (ovk X ah n0 k).2 k (p_B (X k) (ah k)) else ovk X ah n0 k).1 ∧ (if ah k < p_cnt (X k) then ofr (ovk X ah n0 k).1 (ovk X ah n0 k).2 k (p_B (X k) (ah k)) else ovk X ah n0 k).2 = tgs X ah (if ah k < p_cnt (X k) then ofr (ovk X ah n0 k).1 (ovk X ah n0 k).2 k (p_B (X k) (ah k)) else ovk X ah n0 k).1 k + (if ah k < p_cnt (X k) ∧ p_B (X k) (ah k) = (if ah k < p_cnt (X k) then ofr (ovk X ah n0 k).1 (ovk X ah n0 k).2 k (p_B (X k) (ah k)) else ovk X ah n0 k).1 then 2 ^ k else 0) ∧ ∀ j, j < k + 1 → ah j < p_cnt (X j) → (if ah k < p_cnt (X k) then ofr (ovk X ah n0 k).1 (ovk X ah n0 k).2 k (p_B (X k) (ah k)) else ovk X ah n0 k).1 ≤ p_B (X j) (ah j))
    generalize hov : ovk X ah n0 k = ov at h1 h2 hr ⊢
    obtain ⟨n, s⟩ := ov
    dsimp only at h1 h2 hr ⊢
    by_cases hc : ah k < p_cnt (X k)
    · have hb0 := hbk hc
      rw [if_pos hc]
      generalize hB : p_B (X k) (ah k) = B at hb0 ⊢
      by_cases hs : s = 0
      · obtain ⟨e1, e2⟩ := h1 hs
        rw [ofr, if_pos (Or.inl hs)]
        dsimp only
        refine ⟨fun q => by omega, fun _ => ⟨?_, hb0, ?_, fun j hj hcj => ?_⟩⟩
        · rw [if_pos ⟨hc, Or.inl (by omega)⟩]
        · rw [if_pos ⟨hc, rfl⟩, tgs_0 k (fun j hj q => e2 j hj q.1)]; omega
        · by_cases hjk : j = k
          · subst hjk; omega
          · exact absurd hcj (e2 j (by omega))
      · obtain ⟨e1, e2, e3, e4⟩ := h2 hs
        by_cases hlt : B < n
        · rw [ofr, if_pos (Or.inr hlt)]
          dsimp only
          refine ⟨fun q => by omega, fun _ => ⟨?_, hb0, ?_, fun j hj hcj => ?_⟩⟩
          · rw [if_pos ⟨hc, Or.inr (by omega)⟩]
          · rw [if_pos ⟨hc, rfl⟩, tgs_0 k (fun j hj q => by have := e4 j hj q.1; omega)]; omega
          · by_cases hjk : j = k
            · subst hjk; omega
            · have := e4 j (by omega) hcj; omega
        · rw [ofr, if_neg (by omega)]
          by_cases heq : B = n
          · rw [if_pos heq]
            dsimp only
            refine ⟨fun q => by omega, fun _ => ⟨?_, e2, ?_, fun j hj hcj => ?_⟩⟩
            · rw [if_neg (by omega)]; exact e1
            · rw [if_pos ⟨hc, heq⟩, ← e3]
            · by_cases hjk : j = k
              · subst hjk; omega
              · exact e4 j (by omega) hcj
          · rw [if_neg heq]
            dsimp only
            refine ⟨fun q => absurd q hs, fun _ => ⟨?_, e2, ?_, fun j hj hcj => ?_⟩⟩
            · rw [if_neg (by omega)]; exact e1
            · rw [if_neg (fun q => heq q.2), ← e3]; omega
            · by_cases hjk : j = k
              · subst hjk; omega
              · exact e4 j (by omega) hcj
    · rw [if_neg hc, if_neg (fun q => hc q.1)]
      dsimp only
      refine ⟨fun q => ⟨(h1 q).1, fun j hj => ?_⟩, fun q => ⟨(h2 q).1, (h2 q).2.1, ?_, fun j hj hcj => ?_⟩⟩
      · by_cases hjk : j = k
        · subst hjk; exact hc
        · exact (h1 q).2 j (by omega)
      · rw [if_neg (fun q => hc q.1), ← (h2 q).2.2.1]; omega
      · by_cases hjk : j = k
        · subst hjk; exact absurd hcj hc
        · exact (h2 q).2.2.2 j (by omega) hcj
/-- how far each part goes -/
def stpn (X : Nat → PS) (ah : Nat → Nat) (v : Int) (k : Nat) : Nat := ah k + (if ah k < p_cnt (X k) ∧ p_B (X k) (ah k) = v then 1 else 0)
theorem onx_stp {X : Nat → PS} {S : OS} (hb : ∀ k, k < 4 → S.1 k < p_cnt (X k) → 0 ≤ p_B (X k) (S.1 k)) {k : Nat} (hk : k < 4) : (onx X S).1 k = (if (onx X S).2.2 = 0 then S.1 k else stpn X S.1 (onx X S).2.1 k) := by
  obtain ⟨h1, h2⟩ := ovk_lst S.2.1 hb 4 (Nat.le_refl 4)
  show S.1 k + ((ovk X S.1 S.2.1 4).2 / 2 ^ k % 2).toNat = (if (ovk X S.1 S.2.1 4).2 = 0 then S.1 k else stpn X S.1 (ovk X S.1 S.2.1 4).1 k)
  by_cases hs : (ovk X S.1 S.2.1 4).2 = 0
  · rw [if_pos hs, hs]; simp
  · rw [if_neg hs]
    obtain ⟨-, -, e3, -⟩ := h2 hs
    rw [e3]
    unfold stpn
    congr 1
    generalize (ovk X S.1 S.2.1 4).1 = v
    have c0 : ∀ j : Nat, (if S.1 j < p_cnt (X j) ∧ p_B (X j) (S.1 j) = v then (2 : Int) ^ j else 0) = (2 : Int) ^ j * (((if S.1 j < p_cnt (X j) ∧ p_B (X j) (S.1 j) = v then 1 else 0) : Nat) : Int) := fun j => by split <;> simp
    have c1 : ∀ j : Nat, (if S.1 j < p_cnt (X j) ∧ p_B (X j) (S.1 j) = v then 1 else 0 : Nat) ≤ 1 := fun j => by split <;> omega
    have e4 : tgs X S.1 v 4 = (((if S.1 0 < p_cnt (X 0) ∧ p_B (X 0) (S.1 0) = v then 1 else 0) : Nat) : Int) + 2 * (((if S.1 1 < p_cnt (X 1) ∧ p_B (X 1) (S.1 1) = v then 1 else 0) : Nat) : Int) + 4 * (((if S.1 2 < p_cnt (X 2) ∧ p_B (X 2) (S.1 2) = v then 1 else 0) : Nat) : Int) + 8 * (((if S.1 3 < p_cnt (X 3) ∧ p_B (X 3) (S.1 3) = v then 1 else 0) : Nat) : Int) := by
      simp only [tgs, c0]
      simp only [Int.pow_succ, Int.pow_zero]
      omega
    rw [e4]
    have d0 := c1 0
    have d1 := c1 1
    have d2 := c1 2
    have d3 := c1 3
    rcases (show k = 0 ∨ k = 1 ∨ k = 2 ∨ k = 3 by omega) with rfl | rfl | rfl | rfl <;>
    (generalize (if S.1 0 < p_cnt (X 0) ∧ p_B (X 0) (S.1 0) = v then 1 else 0 : Nat) = b0 at *
     generalize (if S.1 1 < p_cnt (X 1) ∧ p_B (X 1) (S.1 1) = v then 1 else 0 : Nat) = b1 at *
     generalize (if S.1 2 < p_cnt (X 2) ∧ p_B (X 2) (S.1 2) = v then 1 else 0 : Nat) = b2 at *
     generalize (if S.1 3 < p_cnt (X 3) ∧ p_B (X 3) (S.1 3) = v then 1 else 0 : Nat) = b3 at *
     simp only [Int.reducePow]
     omega)
def osum (S : OS) : Nat := S.1 0 + S.1 1 + S.1 2 + S.1 3
theorem onx_sum {X : Nat → PS} {S : OS} (hs : (onx X S).2.2 ≠ 0) : osum S + 1 ≤ osum (onx X S) := by
  have hr := ovk_r X S.1 S.2.1 4
  have hs2 : (ovk X S.1 S.2.1 4).2 ≠ 0 := hs
  show S.1 0 + S.1 1 + S.1 2 + S.1 3 + 1 ≤ (S.1 0 + ((ovk X S.1 S.2.1 4).2 / 2 ^ 0 % 2).toNat) + (S.1 1 + ((ovk X S.1 S.2.1 4).2 / 2 ^ 1 % 2).toNat) + (S.1 2 + ((ovk X S.1 S.2.1 4).2 / 2 ^ 2 % 2).toNat) + (S.1 3 + ((ovk X S.1 S.2.1 4).2 / 2 ^ 3 % 2).toNat)
  generalize (ovk X S.1 S.2.1 4).2 = s at *
  simp only [Int.reducePow] at hr ⊢
  omega
theorem osum_le {X : Nat → PS} (hX : ∀ k, k < 4 → pok (X k)) (m : Nat) : osum (ose X m) ≤ 1200 := by
  have h := ose_ok X m
  have h0 := h 0 (by omega)
  have h1 := h 1 (by omega)
  have h2 := h 2 (by omega)
  have h3 := h 3 (by omega)
  have q0 := (hX 0 (by omega)).1
  have q1 := (hX 1 (by omega)).1
  have q2 := (hX 2 (by omega)).1
  have q3 := (hX 3 (by omega)).1
  unfold osum
  omega
theorem tmo_big {X : Nat → PS} (hX : ∀ k, k < 4 → pok (X k)) {i : Nat} {w : Int} (hi : 1200 ≤ i) : ∀ (n m : Nat), 1201 - m ≤ n → m ≤ osum (ose X m) → tmo X i w m = -1 := by
  intro n
  induction n with
  | zero => intro m h1 h2; have := osum_le hX m; omega
  | succ n ih =>
    intro m h1 h2
    have h3 := osum_le hX m
    rw [tmo, if_pos (by omega)]
    by_cases hs : (ose X (m + 1)).2.2 = 0
    · rw [if_pos hs]
    · rw [if_neg hs]
      have h4 : osum (ose X m) + 1 ≤ osum (ose X (m + 1)) := onx_sum hs
      exact ih (m + 1) (by omega) (by omega)
theorem Mx.upd {μ μ2 : am_M} {b : List Int} {C : Snap} {rem : Nat} {hs : Nat → Snap} (h : Mx μ b C rem hs) (h1 : ∃ zm zd ze zi zu zc zg, μ2 120 = mcl (rem : Int) (b.length : Int) zm zd ze zi zu zc zg) (h2 : ∃ f, μ2 140 = am_I 0 4 f) (hf : ∀ x, x ≠ 120 → x ≠ 140 → μ2 x = μ x) : Mx μ2 b C rem hs := by
  obtain ⟨-, ⟨g, hV, hv1⟩, ⟨h, hH, hh1⟩, ⟨tg, hT, ht1⟩, ⟨fi, hI⟩, hS, ⟨f8, h138⟩, ⟨f9, h139⟩, -, hq⟩ := h
  exact ⟨h1, ⟨g, (hf 121 (by omega) (by omega)).trans hV, hv1⟩, ⟨h, (hf 122 (by omega) (by omega)).trans hH, hh1⟩, ⟨tg, (hf 123 (by omega) (by omega)).trans hT, ht1⟩, ⟨fi, (hf 124 (by omega) (by omega)).trans hI⟩, hS.kept (fun x y1 y2 => hf x (by omega) (by omega)), ⟨f8, (hf 138 (by omega) (by omega)).trans h138⟩, ⟨f9, (hf 139 (by omega) (by omega)).trans h139⟩, h2, hq⟩
set_option maxHeartbeats 4000000 in
set_option maxRecDepth 100000 in
theorem lm_starts {N : Nat} {μ0 : am_M} {b : List Int} {C : Snap} {rem : Nat} {hs : Nat → Snap} (hN : 141 ≤ N) : ∀ (nn : Nat) (k : Nat) (z : Int) (μ : am_M) (f : Nat → Int), z = (k : Int) → k ≤ 4 → Mx μ b C rem hs → (∀ q, q < k → Wd μ q (xs_ C q)) → μ 140 = am_I 0 4 f → (∀ q, q < k → f q = 0) → (∀ x, x < 120 → μ x = μ0 x) → 4 - k < nn → am_W YX10_startsAll (fun r N2 μ2 => r = none ∧ N = N2 ∧ Mx μ2 b C rem hs ∧ (∀ q, q < 4 → Wd μ2 q (xs_ C q)) ∧ (∃ f : Nat → Int, μ2 140 = am_I 0 4 f ∧ ∀ q, q < 4 → f q = 0) ∧ ∀ x, x < 120 → μ2 x = μ0 x) 0 0 2 [(0, .ref 120), (1, am_i z)] [] N μ := by
  intro nn
  induction nn with
  | zero =>
    intro k z μ f hz hk hX hW h0 h1 hf hm
    exfalso; omega
  | succ nn ih =>
    intro k z μ f hz hk hX hW h0 h1 hf hm
    obtain ⟨⟨zm, zd, ze, zi, zu, zc, zg, hM⟩, -⟩ := id hX
    refine ap_iload_n dX10_startsAll_2 rfl rfl ?_
    refine ap_iconst dX10_startsAll_3 ?_
    refine ap_icmp_ge (tgt := 25) dX10_startsAll_4 (by decide) (by omega) (fun c4 => ?_) (fun c4 => ?_)
    · exact ap_vret dX10_startsAll_25 rfl (Nat.le_of_ble_eq_true rfl) (Nat.le_of_ble_eq_true rfl) (⟨rfl, rfl, hX, fun q hq => hW q (by omega), ⟨f, h0, fun q hq => h1 q (by omega)⟩, hf⟩)
    · subst hz
      refine ap_aload_n dX10_startsAll_7 rfl rfl ?_
      refine ap_iload_n dX10_startsAll_8 rfl rfl ?_
      refine ap_cV (As := [am_i (k : Int)]) (rest := []) (cm_worksX hX hN (p := k) (by omega)) dX10_startsAll_9 lk_X10_174 hy_X10_works rfl (by omega) hM ⟨_, _, rfl⟩ (Nat.le_of_ble_eq_true rfl) ⟨Nat.le_of_ble_eq_true rfl, Nat.le_of_ble_eq_true rfl⟩ ⟨rfl, rfl⟩ ⟨Nat.le_of_ble_eq_true rfl, Nat.le_of_ble_eq_true rfl⟩ (fun xr1 xN2 μw xq3 => ?_)
      obtain ⟨rfl, rfl, hY, hWd, -, hK, hF⟩ := xq3
      obtain ⟨⟨ym, yd, ye, yi, yu, yc, yg, hM2⟩, -⟩ := id hY
      have h140 : μw 140 = am_I 0 4 f := (hF 140 (by omega)).trans h0
      refine ap_aload_n dX10_startsAll_12 rfl rfl ?_
      refine ap_get ff_X10_69 dX10_startsAll_13 (by omega) hM2 rfl ?_
      refine ap_iload_n dX10_startsAll_16 rfl rfl ?_
      refine ap_iconst dX10_startsAll_17 ?_
      refine ap_iast (j := k) dX10_startsAll_18 (by omega) h140 (by omega) (by omega) (fun μ4 xe5 xf6 => ?_)
      refine ap_Iinc (lv2 := [(0, .ref 120), (1, am_i ((k : Int) + 1))]) dX10_startsAll_19 rfl (by decide) rfl ?_
      refine ap_goto (tgt := 2) dX10_startsAll_22 (by decide) ?_
      have xm7 : μ4 120 = am_O 10 [.ref 121, .ref 122, am_i (rem : Int), .ref 123, am_i (b.length : Int), am_i ym, am_i yd, am_i ye, am_i yi, .ref 124, .ref 125, am_i yu, .ref 126, .ref 127, .ref 128, .ref 129, .ref 130, .ref 131, .ref 132, .ref 133, .ref 134, .ref 135, am_i yc, .ref 136, .ref 137, .ref 138, .ref 139, .ref 140, am_i yg] := (xf6 _ (by omega)).trans hM2
      exact ih (k + 1) _ μ4 _ (by omega) (by omega) (hY.upd ⟨_, _, _, _, _, _, _, xm7⟩ ⟨_, xe5⟩ (fun x y1 y2 => (xf6 x (by omega)))) (fun q hq => by
        refine Wd.kept ?_ (fun x y1 y2 => (xf6 x (by omega)))
        by_cases hqk : q = k
        · subst hqk; exact hWd
        · exact hK q _ (by omega) hqk (hW q (by omega))) xe5 (fun q hq => by
        by_cases hqk : q = k
        · rw [hqk, va_upe]
        · rw [va_upn hqk]; exact h1 q (by omega)) (fun x hx => ((xf6 x (by omega))).trans ((hF x (by omega)).trans (hf x hx))) (by omega)

set_option maxHeartbeats 4000000 in
set_option maxRecDepth 100000 in
theorem cm_startsAll {N : Nat} {μ : am_M} {b : List Int} {C : Snap} {rem : Nat} {hs : Nat → Snap} (hX : Mx μ b C rem hs) (hN : 141 ≤ N) : am_Met YX10_startsAll [.ref 120] N μ (fun r N2 μ2 => r = none ∧ N = N2 ∧ Mx μ2 b C rem hs ∧ (∀ q, q < 4 → Wd μ2 q (xs_ C q)) ∧ (∃ f : Nat → Int, μ2 140 = am_I 0 4 f ∧ ∀ q, q < 4 → f q = 0) ∧ ∀ x, x < 120 → μ2 x = μ x) := by
  obtain ⟨⟨zm, zd, ze, zi, zu, zc, zg, hM⟩, ⟨g, hV, hv1⟩, ⟨h, hH, hh1⟩, ⟨tg, hT, ht1⟩, ⟨fi, hI⟩, hS, ⟨f8, h138⟩, ⟨f9, h139⟩, ⟨f0, h140⟩, hr5, hb1, hb2, hC, hhs⟩ := id hX
  refine am_met (by first | decide | rfl) (Nat.le_of_ble_eq_true rfl) (fun h => by first | rfl | cases h) ?_
  show am_W YX10_startsAll _ 0 0 0 [(0, .ref 120)] [] _ _
  refine ap_iconst dX10_startsAll_0 ?_
  refine ap_Istore_n (lv2 := [(0, .ref 120), (1, am_i 0)]) dX10_startsAll_1 rfl (by decide) rfl ?_
  exact lm_starts hN 5 0 _ μ f0 rfl (by omega) hX (fun q hq => absurd hq (Nat.not_lt_zero q)) h140 (fun q hq => absurd hq (Nat.not_lt_zero q)) (fun x hx => rfl) (by omega)

theorem lst_r {X : Nat → PS} {ah : Nat → Nat} (hX : ∀ k, k < 4 → pok (X k)) : ∀ k, k ≤ 4 → -1 ≤ lst X ah k ∧ lst X ah k ≤ 140000000000000 := by
  intro k
  induction k with
  | zero => intro _; exact ⟨by show (-1 : Int) ≤ -1; omega, by show (-1 : Int) ≤ _; omega⟩
  | succ k ih =>
    intro hk
    have h := ih (by omega)
    have h8 := (hX k (by omega)).2.2.2.2.2.2.2.1 (ah k)
    have h3 := (hX k (by omega)).2.2.1
    show -1 ≤ (if _ then _ else _) ∧ (if _ then _ else _) ≤ _
    split
    · have := h8 (by omega); omega
    · exact h
set_option maxHeartbeats 4000000 in
set_option maxRecDepth 100000 in
theorem lm_least4 {N : Nat} {μ : am_M} {zp zt zm zd ze zi zu zc : Int} {X : Nat → PS} {ah : Nat → Nat} {fo fm : Nat → Int} (m1 : μ 126 = am_L 1200 fo) (m6 : μ 131 = am_I 0 4 fm) (hN : 141 ≤ N) (hX : ∀ k, k < 4 → pok (X k)) (hfo : ∀ k, k < 4 → ∀ i, i < p_cnt (X k) → fo (300 * k + i) = p_B (X k) i) (hfm : ∀ k, k < 4 → fm k = (p_cnt (X k) : Int)) (hah : ∀ k, k < 4 → ah k ≤ p_cnt (X k)) {zg : Int} {fx : Nat → Int} (hM : μ 120 = mcl zp zt zm zd ze zi zu zc zg) (hx : μ 140 = am_I 0 4 fx) (hfx : ∀ k, k < 4 → fx k = (ah k : Int)) {Q : Option Value → Nat → am_M → Prop} (hk9 : am_W YX10_nextTime Q 0 0 84 [(0, .ref 120), (1, am_l (lst X ah 4)), (3, am_i 4)] [] N μ) : ∀ (nn : Nat) (k : Nat) (z : Int) (zl : Int), z = (k : Int) → k ≤ 4 → zl = lst X ah k → 4 - k < nn → am_W YX10_nextTime (Q) 0 0 6 [(0, .ref 120), (1, am_l zl), (3, am_i z)] [] N μ := by
  intro nn
  induction nn with
  | zero =>
    intro k z zl hz hk hl hw
    exfalso; omega
  | succ nn ih =>
    intro k z zl hz hk hl hw
    have hlr := lst_r (ah := ah) hX k hk
    refine ap_iload_n dX10_nextTime_6 rfl rfl ?_
    refine ap_iconst dX10_nextTime_7 ?_
    refine ap_icmp_ge (tgt := 84) dX10_nextTime_8 (by decide) (by omega) (fun c8 => ?_) (fun c8 => ?_)
    · have hke : k = 4 := by omega
      rw [hz, hl, hke]
      exact hk9
    · have hk4 : k < 4 := by omega
      have hx1 := hfx k hk4
      have hm1 := hfm k hk4
      have hc1 := hah k hk4
      have hc2 := (hX k hk4).1
      have hr8 := (hX k hk4).2.2.2.2.2.2.2.1 (ah k)
      have hr9 := (hX k hk4).2.2.1
      refine ap_aload_n dX10_nextTime_11 rfl rfl ?_
      refine ap_get ff_X10_69 dX10_nextTime_12 (by omega) hM rfl ?_
      refine ap_iload_n dX10_nextTime_15 rfl rfl ?_
      refine ap_iald (j := k) dX10_nextTime_16 (by omega) hx (by omega) (by omega) ?_
      refine ap_topi (b := (ah k : Int)) (show (fx k) = (ah k : Int) from hx1) ?_
      refine ap_aload_n dX10_nextTime_17 rfl rfl ?_
      refine ap_get ff_X10_41 dX10_nextTime_18 (by omega) hM rfl ?_
      refine ap_iload_n dX10_nextTime_21 rfl rfl ?_
      refine ap_iald (j := k) dX10_nextTime_22 (by omega) m6 (by omega) (by omega) ?_
      refine ap_topi (b := (p_cnt (X k) : Int)) (show (fm k) = (p_cnt (X k) : Int) from hm1) ?_
      refine ap_icmp_ge (tgt := 46) dX10_nextTime_23 (by decide) (by omega) (fun c23 => ?_) (fun c23 => ?_)
      · refine ap_ldc2 dX10_nextTime_46 kl_X10_184 ?_
        refine ap_Lstore (lv2 := [(0, .ref 120), (1, am_l zl), (3, am_i z), (4, am_l (-1))]) dX10_nextTime_49 (by decide) rfl ?_
        refine ap_lload dX10_nextTime_51 rfl ?_
        refine ap_lconst (v := 0) dX10_nextTime_53 rfl ?_
        refine ap_lcmp_lt (tgt := 76) dX10_nextTime_54 dX10_nextTime_55 (by decide) (⟨by omega, by omega⟩) (fun c54 => ?_) (fun c54 => (by exfalso; omega))
        refine ap_lload_n dX10_nextTime_76 rfl rfl ?_
        refine ap_Lstore_n (lv2 := [(0, .ref 120), (1, am_l zl), (3, am_i z), (4, am_l (-1))]) dX10_nextTime_77 rfl (by decide) rfl ?_
        refine ap_Iinc (lv2 := [(0, .ref 120), (1, am_l zl), (3, am_i (z + 1)), (4, am_l (-1))]) dX10_nextTime_78 rfl (by decide) rfl ?_
        refine ap_goto (tgt := 6) dX10_nextTime_81 (by decide) ?_
        refine ap_pick (lv2 := [(0, .ref 120), (1, am_l zl), (3, am_i (z + 1))]) [0, 1, 2] rfl ?_
        exact ih (k + 1) _ _ (by omega) (by omega) (by show _ = (if ah k < p_cnt (X k) ∧ (lst X ah k < 0 ∨ p_B (X k) (ah k) < lst X ah k) then p_B (X k) (ah k) else lst X ah k); rw [if_neg (by omega)]; exact hl) (by omega)
      · have hr7 := hr8 (by omega)
        refine ap_aload_n dX10_nextTime_26 rfl rfl ?_
        refine ap_get ff_X10_25 dX10_nextTime_27 (by omega) hM rfl ?_
        refine ap_sipush dX10_nextTime_30 (by decide) ?_
        refine ap_iload_n dX10_nextTime_33 rfl rfl ?_
        refine ap_imul dX10_nextTime_34 ?_
        refine ap_aload_n dX10_nextTime_35 rfl rfl ?_
        refine ap_get ff_X10_69 dX10_nextTime_36 (by omega) hM rfl ?_
        refine ap_iload_n dX10_nextTime_39 rfl rfl ?_
        refine ap_iald (j := k) dX10_nextTime_40 (by omega) hx (by omega) (by omega) ?_
        refine ap_topi (b := (ah k : Int)) (show (fx k) = (ah k : Int) from hx1) ?_
        refine ap_iadd dX10_nextTime_41 ?_
        refine ap_lald (j := 300 * k + ah k) dX10_nextTime_42 (by omega) m1 (by omega) (by omega) ?_
        refine ap_topl (b := p_B (X k) (ah k)) (show (fo (300 * k + ah k)) = (p_B (X k) (ah k)) from hfo k hk4 _ (by omega)) ?_
        refine ap_goto (tgt := 49) dX10_nextTime_43 (by decide) ?_
        refine ap_Lstore (lv2 := [(0, .ref 120), (1, am_l zl), (3, am_i z), (4, am_l (p_B (X k) (ah k)))]) dX10_nextTime_49 (by decide) rfl ?_
        refine ap_lload dX10_nextTime_51 rfl ?_
        refine ap_lconst (v := 0) dX10_nextTime_53 rfl ?_
        refine ap_lcmp_lt (tgt := 76) dX10_nextTime_54 dX10_nextTime_55 (by decide) (⟨by omega, by omega⟩) (fun c54 => (by exfalso; omega)) (fun c54 => ?_)
        refine ap_lload_n dX10_nextTime_58 rfl rfl ?_
        refine ap_lconst (v := 0) dX10_nextTime_59 rfl ?_
        refine ap_lcmp_lt (tgt := 71) dX10_nextTime_60 dX10_nextTime_61 (by decide) (⟨by omega, by omega⟩) (fun c60 => ?_) (fun c60 => ?_)
        · refine ap_lload dX10_nextTime_71 rfl ?_
          refine ap_goto (tgt := 77) dX10_nextTime_73 (by decide) ?_
          refine ap_Lstore_n (lv2 := [(0, .ref 120), (1, am_l (p_B (X k) (ah k))), (3, am_i z), (4, am_l (p_B (X k) (ah k)))]) dX10_nextTime_77 rfl (by decide) rfl ?_
          refine ap_Iinc (lv2 := [(0, .ref 120), (1, am_l (p_B (X k) (ah k))), (3, am_i (z + 1)), (4, am_l (p_B (X k) (ah k)))]) dX10_nextTime_78 rfl (by decide) rfl ?_
          refine ap_goto (tgt := 6) dX10_nextTime_81 (by decide) ?_
          refine ap_pick (lv2 := [(0, .ref 120), (1, am_l (p_B (X k) (ah k))), (3, am_i (z + 1))]) [0, 1, 2] rfl ?_
          exact ih (k + 1) _ _ (by omega) (by omega) (by show _ = (if ah k < p_cnt (X k) ∧ (lst X ah k < 0 ∨ p_B (X k) (ah k) < lst X ah k) then p_B (X k) (ah k) else lst X ah k); rw [if_pos (by omega)]) (by omega)
        · refine ap_lload dX10_nextTime_64 rfl ?_
          refine ap_lload_n dX10_nextTime_66 rfl rfl ?_
          refine ap_lcmp_ge (tgt := 76) dX10_nextTime_67 dX10_nextTime_68 (by decide) (⟨by omega, by omega⟩) (fun c67 => ?_) (fun c67 => ?_)
          · refine ap_lload_n dX10_nextTime_76 rfl rfl ?_
            refine ap_Lstore_n (lv2 := [(0, .ref 120), (1, am_l zl), (3, am_i z), (4, am_l (p_B (X k) (ah k)))]) dX10_nextTime_77 rfl (by decide) rfl ?_
            refine ap_Iinc (lv2 := [(0, .ref 120), (1, am_l zl), (3, am_i (z + 1)), (4, am_l (p_B (X k) (ah k)))]) dX10_nextTime_78 rfl (by decide) rfl ?_
            refine ap_goto (tgt := 6) dX10_nextTime_81 (by decide) ?_
            refine ap_pick (lv2 := [(0, .ref 120), (1, am_l zl), (3, am_i (z + 1))]) [0, 1, 2] rfl ?_
            exact ih (k + 1) _ _ (by omega) (by omega) (by show _ = (if ah k < p_cnt (X k) ∧ (lst X ah k < 0 ∨ p_B (X k) (ah k) < lst X ah k) then p_B (X k) (ah k) else lst X ah k); rw [if_neg (by omega)]; exact hl) (by omega)
          · refine ap_lload dX10_nextTime_71 rfl ?_
            refine ap_goto (tgt := 77) dX10_nextTime_73 (by decide) ?_
            refine ap_Lstore_n (lv2 := [(0, .ref 120), (1, am_l (p_B (X k) (ah k))), (3, am_i z), (4, am_l (p_B (X k) (ah k)))]) dX10_nextTime_77 rfl (by decide) rfl ?_
            refine ap_Iinc (lv2 := [(0, .ref 120), (1, am_l (p_B (X k) (ah k))), (3, am_i (z + 1)), (4, am_l (p_B (X k) (ah k)))]) dX10_nextTime_78 rfl (by decide) rfl ?_
            refine ap_goto (tgt := 6) dX10_nextTime_81 (by decide) ?_
            refine ap_pick (lv2 := [(0, .ref 120), (1, am_l (p_B (X k) (ah k))), (3, am_i (z + 1))]) [0, 1, 2] rfl ?_
            exact ih (k + 1) _ _ (by omega) (by omega) (by show _ = (if ah k < p_cnt (X k) ∧ (lst X ah k < 0 ∨ p_B (X k) (ah k) < lst X ah k) then p_B (X k) (ah k) else lst X ah k); rw [if_pos (by omega)]) (by omega)

set_option maxHeartbeats 4000000 in
set_option maxRecDepth 100000 in
theorem lm_next2 {N : Nat} {μ0 : am_M} {zp zt zm zd ze zi zu zc : Int} {X : Nat → PS} {ah : Nat → Nat} {fo fm : Nat → Int} (m1 : μ0 126 = am_L 1200 fo) (m6 : μ0 131 = am_I 0 4 fm) (hN : 141 ≤ N) (hX : ∀ k, k < 4 → pok (X k)) (hfo : ∀ k, k < 4 → ∀ i, i < p_cnt (X k) → fo (300 * k + i) = p_B (X k) i) (hfm : ∀ k, k < 4 → fm k = (p_cnt (X k) : Int)) (hah : ∀ k, k < 4 → ah k ≤ p_cnt (X k)) {v : Int} (hvr : -1 ≤ v ∧ v ≤ 140000000000000) : ∀ (nn : Nat) (k : Nat) (z : Int) (μ : am_M) (zg : Int) (fx : Nat → Int), z = (k : Int) → k ≤ 4 → (∀ x, x ≠ 120 → x ≠ 140 → μ x = μ0 x) → μ 120 = mcl zp zt zm zd ze zi zu zc zg → μ 140 = am_I 0 4 fx → zg = tgs X ah v k → (∀ j, j < k → fx j = ((stpn X ah v j : Nat) : Int)) → (∀ j, k ≤ j → j < 4 → fx j = (ah j : Int)) → (v < 0 → k = 0) → 4 - k < nn → am_W YX10_nextTime (fun r N2 μ2 => r = some (am_l v) ∧ N = N2 ∧ (∀ x, x ≠ 120 → x ≠ 140 → μ2 x = μ0 x) ∧ μ2 120 = mcl zp zt zm zd ze zi zu zc (if v < 0 then 0 else tgs X ah v 4) ∧ ∃ f2 : Nat → Int, μ2 140 = am_I 0 4 f2 ∧ ∀ k, k < 4 → f2 k = ((if v < 0 then ah k else stpn X ah v k : Nat) : Int)) 0 0 91 [(0, .ref 120), (1, am_l v), (3, am_i z)] [] N μ := by
  intro nn
  induction nn with
  | zero =>
    intro k z μ zg fx hz hk hf hM hx hzg h1 h2 hneg hw
    exfalso; omega
  | succ nn ih =>
    intro k z μ zg fx hz hk hf hM hx hzg h1 h2 hneg hw
    have n1 : μ 126 = am_L 1200 fo := (hf 126 (by omega) (by omega)).trans m1
    have n6 : μ 131 = am_I 0 4 fm := (hf 131 (by omega) (by omega)).trans m6
    refine ap_iload_n dX10_nextTime_91 rfl rfl ?_
    refine ap_iconst dX10_nextTime_92 ?_
    refine ap_icmp_ge (tgt := 167) dX10_nextTime_93 (by decide) (by omega) (fun c93 => ?_) (fun c93 => ?_)
    · refine ap_lload_n dX10_nextTime_167 rfl rfl ?_
      by_cases hvn : v < 0
      · exact ap_lret dX10_nextTime_168 rfl (Nat.le_of_ble_eq_true rfl) (Nat.le_of_ble_eq_true rfl) (by exact absurd (hneg hvn) (by omega))
      · exact ap_lret dX10_nextTime_168 rfl (Nat.le_of_ble_eq_true rfl) (Nat.le_of_ble_eq_true rfl) ⟨rfl, rfl, hf, by rw [if_neg hvn, ← show k = 4 by omega, ← hzg]; exact hM, fx, hx, fun j hj => by rw [if_neg hvn]; exact h1 j (by omega)⟩
    · refine ap_lload_n dX10_nextTime_96 rfl rfl ?_
      refine ap_lconst (v := 0) dX10_nextTime_97 rfl ?_
      refine ap_lcmp_lt (tgt := 167) dX10_nextTime_98 dX10_nextTime_99 (by decide) (⟨by omega, by omega⟩) (fun c98 => ?_) (fun c98 => ?_)
      · refine ap_lload_n dX10_nextTime_167 rfl rfl ?_
        exact ap_lret dX10_nextTime_168 rfl (Nat.le_of_ble_eq_true rfl) (Nat.le_of_ble_eq_true rfl) (⟨rfl, rfl, hf, by rw [if_pos (by omega)]; rw [show zg = 0 by rw [hzg, hneg (by omega)]; rfl] at hM; exact hM, fx, hx, fun j hj => by rw [if_pos (by omega)]; exact h2 j (by have := hneg (by omega); omega) hj⟩)
      · have hk4 : k < 4 := by omega
        have hx1 := h2 k (Nat.le_refl k) hk4
        have hm1 := hfm k hk4
        have hc1 := hah k hk4
        have hc2 := (hX k hk4).1
        have hr8 := (hX k hk4).2.2.2.2.2.2.2.1 (ah k)
        have hr9 := (hX k hk4).2.2.1
        refine ap_aload_n dX10_nextTime_102 rfl rfl ?_
        refine ap_get ff_X10_69 dX10_nextTime_103 (by omega) hM rfl ?_
        refine ap_iload_n dX10_nextTime_106 rfl rfl ?_
        refine ap_iald (j := k) dX10_nextTime_107 (by omega) hx (by omega) (by omega) ?_
        refine ap_topi (b := (ah k : Int)) (show (fx k) = (ah k : Int) from hx1) ?_
        refine ap_aload_n dX10_nextTime_108 rfl rfl ?_
        refine ap_get ff_X10_41 dX10_nextTime_109 (by omega) hM rfl ?_
        refine ap_iload_n dX10_nextTime_112 rfl rfl ?_
        refine ap_iald (j := k) dX10_nextTime_113 (by omega) n6 (by omega) (by omega) ?_
        refine ap_topi (b := (p_cnt (X k) : Int)) (show (fm k) = (p_cnt (X k) : Int) from hm1) ?_
        refine ap_icmp_ge (tgt := 161) dX10_nextTime_114 (by decide) (by omega) (fun c114 => ?_) (fun c114 => ?_)
        · refine ap_Iinc (lv2 := [(0, .ref 120), (1, am_l v), (3, am_i (z + 1))]) dX10_nextTime_161 rfl (by decide) rfl ?_
          refine ap_goto (tgt := 91) dX10_nextTime_164 (by decide) ?_
          exact ih (k + 1) _ μ _ _ (by omega) (by omega) (fun x y1 y2 => (rfl).trans (hf x y1 y2)) hM hx (by show _ = tgs X ah v k + _; rw [if_neg (by omega)]; omega) (fun j hj => by
            by_cases hjk : j = k
            · rw [hjk]; unfold stpn; rw [if_neg (by omega)]; omega
            · exact h1 j (by omega)) (fun j hj hj4 => by exact h2 j (by omega) hj4) (fun q => by omega) (by omega)
        · have hr7 := hr8 (by omega)
          refine ap_aload_n dX10_nextTime_117 rfl rfl ?_
          refine ap_get ff_X10_25 dX10_nextTime_118 (by omega) hM rfl ?_
          refine ap_sipush dX10_nextTime_121 (by decide) ?_
          refine ap_iload_n dX10_nextTime_124 rfl rfl ?_
          refine ap_imul dX10_nextTime_125 ?_
          refine ap_aload_n dX10_nextTime_126 rfl rfl ?_
          refine ap_get ff_X10_69 dX10_nextTime_127 (by omega) hM rfl ?_
          refine ap_iload_n dX10_nextTime_130 rfl rfl ?_
          refine ap_iald (j := k) dX10_nextTime_131 (by omega) hx (by omega) (by omega) ?_
          refine ap_topi (b := (ah k : Int)) (show (fx k) = (ah k : Int) from hx1) ?_
          refine ap_iadd dX10_nextTime_132 ?_
          refine ap_lald (j := 300 * k + ah k) dX10_nextTime_133 (by omega) n1 (by omega) (by omega) ?_
          refine ap_topl (b := p_B (X k) (ah k)) (show (fo (300 * k + ah k)) = (p_B (X k) (ah k)) from hfo k hk4 _ (by omega)) ?_
          refine ap_lload_n dX10_nextTime_134 rfl rfl ?_
          refine ap_lcmp_ne (tgt := 161) dX10_nextTime_135 dX10_nextTime_136 (by decide) (⟨by omega, by omega⟩) (fun c135 => ?_) (fun c135 => ?_)
          · refine ap_Iinc (lv2 := [(0, .ref 120), (1, am_l v), (3, am_i (z + 1))]) dX10_nextTime_161 rfl (by decide) rfl ?_
            refine ap_goto (tgt := 91) dX10_nextTime_164 (by decide) ?_
            exact ih (k + 1) _ μ _ _ (by omega) (by omega) (fun x y1 y2 => (rfl).trans (hf x y1 y2)) hM hx (by show _ = tgs X ah v k + _; rw [if_neg (by omega)]; omega) (fun j hj => by
              by_cases hjk : j = k
              · rw [hjk]; unfold stpn; rw [if_neg (by omega)]; omega
              · exact h1 j (by omega)) (fun j hj hj4 => by exact h2 j (by omega) hj4) (fun q => by omega) (by omega)
          · refine ap_aload_n dX10_nextTime_139 rfl rfl ?_
            refine ap_dup dX10_nextTime_140 rfl ?_
            refine ap_get ff_X10_214 dX10_nextTime_141 (by omega) hM rfl ?_
            refine ap_iconst dX10_nextTime_144 ?_
            refine ap_iload_n dX10_nextTime_145 rfl rfl ?_
            refine ap_ishl (r := 2 ^ k) dX10_nextTime_146 (sh1 hz (by omega)) ?_
            refine ap_ior (r := zg + 2 ^ k) dX10_nextTime_147 (or1 (by omega) (by rw [hzg]; exact tgs_r X ah v k (by omega))) ?_
            refine ap_put (fs2 := [.ref 121, .ref 122, am_i zp, .ref 123, am_i zt, am_i zm, am_i zd, am_i ze, am_i zi, .ref 124, .ref 125, am_i zu, .ref 126, .ref 127, .ref 128, .ref 129, .ref 130, .ref 131, .ref 132, .ref 133, .ref 134, .ref 135, am_i zc, .ref 136, .ref 137, .ref 138, .ref 139, .ref 140, am_i (zg + 2 ^ k)]) ff_X10_214 fc_X10_28 dX10_nextTime_148 (by omega) hM (fun _ => ⟨rfl, rfl⟩) (Nat.le_of_ble_eq_true rfl) rfl (fun μ1 xe2 xf3 => ?_)
            refine ap_aload_n dX10_nextTime_151 rfl rfl ?_
            refine ap_get ff_X10_69 dX10_nextTime_152 (by omega) xe2 rfl ?_
            refine ap_iload_n dX10_nextTime_155 rfl rfl ?_
            refine ap_dup2 dX10_nextTime_156 rfl rfl ?_
            have xm4 : μ1 140 = am_I 0 4 fx := (xf3 _ (by omega)).trans hx
            refine ap_iald (j := k) dX10_nextTime_157 (by omega) xm4 (by omega) (by omega) ?_
            refine ap_topi (b := (ah k : Int)) (show (fx k) = (ah k : Int) from hx1) ?_
            refine ap_iconst dX10_nextTime_158 ?_
            refine ap_iadd dX10_nextTime_159 ?_
            refine ap_iast (j := k) dX10_nextTime_160 (by omega) xm4 (by omega) (by omega) (fun μ5 xe6 xf7 => ?_)
            refine ap_Iinc (lv2 := [(0, .ref 120), (1, am_l v), (3, am_i (z + 1))]) dX10_nextTime_161 rfl (by decide) rfl ?_
            refine ap_goto (tgt := 91) dX10_nextTime_164 (by decide) ?_
            have xm8 : μ5 120 = am_O 10 [.ref 121, .ref 122, am_i zp, .ref 123, am_i zt, am_i zm, am_i zd, am_i ze, am_i zi, .ref 124, .ref 125, am_i zu, .ref 126, .ref 127, .ref 128, .ref 129, .ref 130, .ref 131, .ref 132, .ref 133, .ref 134, .ref 135, am_i zc, .ref 136, .ref 137, .ref 138, .ref 139, .ref 140, am_i (zg + 2 ^ k)] := (xf7 _ (by omega)).trans xe2
            exact ih (k + 1) _ μ5 _ _ (by omega) (by omega) (fun x y1 y2 => ((xf7 x (by omega)).trans ((xf3 x (by omega)))).trans (hf x y1 y2)) xm8 xe6 (by show _ = tgs X ah v k + _; rw [if_pos ⟨by omega, by omega⟩, hzg]) (fun j hj => by
              by_cases hjk : j = k
              · rw [hjk]; unfold stpn; rw [if_pos ⟨by omega, by omega⟩]; rw [va_upe]; omega
              · rw [va_upn hjk]; exact h1 j (by omega)) (fun j hj hj4 => by rw [va_upn (by omega)]; exact h2 j (by omega) hj4) (fun q => by omega) (by omega)

set_option maxHeartbeats 4000000 in
set_option maxRecDepth 100000 in
theorem cm_nextTime {N : Nat} {μ : am_M} {zp zt zm zd ze zi zu zc : Int} {X : Nat → PS} {ah : Nat → Nat} {fo fm : Nat → Int} (m1 : μ 126 = am_L 1200 fo) (m6 : μ 131 = am_I 0 4 fm) (hN : 141 ≤ N) (hX : ∀ k, k < 4 → pok (X k)) (hfo : ∀ k, k < 4 → ∀ i, i < p_cnt (X k) → fo (300 * k + i) = p_B (X k) i) (hfm : ∀ k, k < 4 → fm k = (p_cnt (X k) : Int)) (hah : ∀ k, k < 4 → ah k ≤ p_cnt (X k)) {zg : Int} {fx : Nat → Int} (hM : μ 120 = mcl zp zt zm zd ze zi zu zc zg) (hx : μ 140 = am_I 0 4 fx) (hfx : ∀ k, k < 4 → fx k = (ah k : Int)) : am_Met YX10_nextTime [.ref 120] N μ (fun r N2 μ2 => r = some (am_l (lst X ah 4)) ∧ N = N2 ∧ (∀ x, x ≠ 120 → x ≠ 140 → μ2 x = μ x) ∧ μ2 120 = mcl zp zt zm zd ze zi zu zc (if lst X ah 4 < 0 then 0 else tgs X ah (lst X ah 4) 4) ∧ ∃ f2 : Nat → Int, μ2 140 = am_I 0 4 f2 ∧ ∀ k, k < 4 → f2 k = ((if lst X ah 4 < 0 then ah k else stpn X ah (lst X ah 4) k : Nat) : Int)) := by
  refine am_met (by first | decide | rfl) (Nat.le_of_ble_eq_true rfl) (fun h => by first | rfl | cases h) ?_
  show am_W YX10_nextTime _ 0 0 0 [(0, .ref 120)] [] _ _
  refine ap_ldc2 dX10_nextTime_0 kl_X10_184 ?_
  refine ap_Lstore_n (lv2 := [(0, .ref 120), (1, am_l (-1))]) dX10_nextTime_3 rfl (by decide) rfl ?_
  refine ap_iconst dX10_nextTime_4 ?_
  refine ap_Istore_n (lv2 := [(0, .ref 120), (1, am_l (-1)), (3, am_i 0)]) dX10_nextTime_5 rfl (by decide) rfl ?_
  refine lm_least4 m1 m6 hN hX hfo hfm hah hM hx hfx ?_ 5 0 _ _ rfl (by omega) rfl (by omega)
  refine ap_aload_n dX10_nextTime_84 rfl rfl ?_
  refine ap_iconst dX10_nextTime_85 ?_
  refine ap_put (fs2 := [.ref 121, .ref 122, am_i zp, .ref 123, am_i zt, am_i zm, am_i zd, am_i ze, am_i zi, .ref 124, .ref 125, am_i zu, .ref 126, .ref 127, .ref 128, .ref 129, .ref 130, .ref 131, .ref 132, .ref 133, .ref 134, .ref 135, am_i zc, .ref 136, .ref 137, .ref 138, .ref 139, .ref 140, am_i 0]) ff_X10_214 fc_X10_28 dX10_nextTime_86 (by omega) hM (fun _ => ⟨rfl, rfl⟩) (Nat.le_of_ble_eq_true rfl) rfl (fun μ1 xe2 xf3 => ?_)
  refine ap_iconst dX10_nextTime_89 ?_
  refine ap_Istore_n (lv2 := [(0, .ref 120), (1, am_l (lst X ah 4)), (3, am_i 0)]) dX10_nextTime_90 rfl (by decide) rfl ?_
  have xm4 : μ1 140 = am_I 0 4 fx := (xf3 _ (by omega)).trans hx
  have hlr := lst_r (ah := ah) hX 4 (Nat.le_refl 4)
  exact am_mono (lm_next2 (μ0 := μ) m1 m6 hN hX hfo hfm hah hlr 5 0 _ μ1 0 fx rfl (by omega) (fun x y1 y2 => (xf3 x (by omega))) xe2 xm4 rfl (fun j hj => absurd hj (Nat.not_lt_zero j)) (fun j _ hj => hfx j hj) (fun _ => rfl) (by omega)) (fun r N2 μ2 hq => hq)

