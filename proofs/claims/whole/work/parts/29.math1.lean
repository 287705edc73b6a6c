def g_alt (a b w u q y ch : Int) (s : GS) : Prop := (a = 0 ∧ (ch = 46 ∧ 1 ≤ q) ∧ s = (0, b, w, u, q - 1, y)) ∨
  (a = 0 ∧ (ch = 126 ∧ y = 1) ∧ s = (0, b, w, u, 0, 0)) ∨
  (a = 0 ∧ (ch = 94) ∧ s = (1, b, w, u, 0, 0)) ∨
  (a = 0 ∧ (ch = 114) ∧ s = (2, b, w, u, 0, 0)) ∨
  (a = 0 ∧ (ch = 123 ∧ b < 2) ∧ s = (3, b + 1, 0, u, 0, 0)) ∨
  (a = 0 ∧ (ch = 125 ∧ 1 ≤ b ∧ w = 1) ∧ s = (0, b - 1, w, u, 0, 0)) ∨
  (a = 0 ∧ (ch = 124 ∧ b = 0) ∧ s = (0, b, w, u, 0, 0)) ∨
  (a = 0 ∧ (ch = 91 ∧ b ≤ 0 ∧ u = 0) ∧ s = (0, b, w, 1, 0, 0)) ∨
  (a = 0 ∧ (ch = 47 ∧ u = 1 ∧ b = 0) ∧ s = (6, b, w, u, 0, 0)) ∨
  (a = 0 ∧ (ch = 93 ∧ b ≤ 0 ∧ u = 1) ∧ s = (8, b, w, 0, 0, 0)) ∨
  (a = 0 ∧ (0 ≤ hv ch) ∧ s = (0, b, 1, u, 2, 1)) ∨
  (a = 1 ∧ (0 ≤ hv ch) ∧ s = (0, b, 1, u, 2, 1)) ∨
  (a = 2 ∧ (0 ≤ hv ch) ∧ s = (0, b, 1, u, 2, 0)) ∨
  (a = 3 ∧ (2 ≤ dg ch) ∧ s = (4, b, w, u, q, y)) ∨
  (a = 4 ∧ (ch = 58) ∧ s = (5, b, w, u, q, y)) ∨
  (a = 5 ∧ (2 ≤ dg ch) ∧ s = (0, b, w, u, q, y)) ∨
  (a = 6 ∧ (1 ≤ dg ch) ∧ s = (7, b, w, u, q, y)) ∨
  (a = 7 ∧ (1 ≤ dg ch) ∧ s = (7, b, w, u, q, y)) ∨
  (a = 7 ∧ (ch = 58) ∧ s = (0, b, w, u, q, y)) ∨
  (a = 8 ∧ (2 ≤ dg ch) ∧ s = (0, b, w, u, q, y))
theorem gsI_inv {b w u q y ch : Int} {s : GS} (h : gsI b w u q y ch = some s) : g_alt 0 b w u q y ch s := by
  unfold gsI at h
  by_cases k0 : ch = 46
  · rw [if_pos k0] at h
    by_cases e0 : 1 ≤ q
    · rw [if_pos e0] at h
      exact Or.inl ⟨rfl, ⟨k0, e0⟩, (Option.some.inj h).symm⟩
    · rw [if_neg e0] at h; cases h
  rw [if_neg k0] at h
  by_cases k1 : ch = 126
  · rw [if_pos k1] at h
    by_cases e1 : y = 1
    · rw [if_pos e1] at h
      exact Or.inr (Or.inl ⟨rfl, ⟨k1, e1⟩, (Option.some.inj h).symm⟩)
    · rw [if_neg e1] at h; cases h
  rw [if_neg k1] at h
  by_cases k2 : ch = 94
  · rw [if_pos k2] at h
    exact Or.inr (Or.inr (Or.inl ⟨rfl, k2, (Option.some.inj h).symm⟩))
  rw [if_neg k2] at h
  by_cases k3 : ch = 114
  · rw [if_pos k3] at h
    exact Or.inr (Or.inr (Or.inr (Or.inl ⟨rfl, k3, (Option.some.inj h).symm⟩)))
  rw [if_neg k3] at h
  by_cases k4 : ch = 123
  · rw [if_pos k4] at h
    by_cases e4 : b < 2
    · rw [if_pos e4] at h
      exact Or.inr (Or.inr (Or.inr (Or.inr (Or.inl ⟨rfl, ⟨k4, e4⟩, (Option.some.inj h).symm⟩))))
    · rw [if_neg e4] at h; cases h
  rw [if_neg k4] at h
  by_cases k5 : ch = 125
  · rw [if_pos k5] at h
    by_cases e5 : 1 ≤ b ∧ w = 1
    · rw [if_pos e5] at h
      exact Or.inr (Or.inr (Or.inr (Or.inr (Or.inr (Or.inl ⟨rfl, ⟨k5, e5⟩, (Option.some.inj h).symm⟩)))))
    · rw [if_neg e5] at h; cases h
  rw [if_neg k5] at h
  by_cases k6 : ch = 124
  · rw [if_pos k6] at h
    by_cases e6 : b = 0
    · rw [if_pos e6] at h
      exact Or.inr (Or.inr (Or.inr (Or.inr (Or.inr (Or.inr (Or.inl ⟨rfl, ⟨k6, e6⟩, (Option.some.inj h).symm⟩))))))
    · rw [if_neg e6] at h; cases h
  rw [if_neg k6] at h
  by_cases k7 : ch = 91
  · rw [if_pos k7] at h
    by_cases e7 : b ≤ 0 ∧ u = 0
    · rw [if_pos e7] at h
      exact Or.inr (Or.inr (Or.inr (Or.inr (Or.inr (Or.inr (Or.inr (Or.inl ⟨rfl, ⟨k7, e7⟩, (Option.some.inj h).symm⟩)))))))
    · rw [if_neg e7] at h; cases h
  rw [if_neg k7] at h
  by_cases k8 : ch = 47
  · rw [if_pos k8] at h
    by_cases e8 : u = 1 ∧ b = 0
    · rw [if_pos e8] at h
      exact Or.inr (Or.inr (Or.inr (Or.inr (Or.inr (Or.inr (Or.inr (Or.inr (Or.inl ⟨rfl, ⟨k8, e8⟩, (Option.some.inj h).symm⟩))))))))
    · rw [if_neg e8] at h; cases h
  rw [if_neg k8] at h
  by_cases k9 : ch = 93
  · rw [if_pos k9] at h
    by_cases e9 : b ≤ 0 ∧ u = 1
    · rw [if_pos e9] at h
      exact Or.inr (Or.inr (Or.inr (Or.inr (Or.inr (Or.inr (Or.inr (Or.inr (Or.inr (Or.inl ⟨rfl, ⟨k9, e9⟩, (Option.some.inj h).symm⟩)))))))))
    · rw [if_neg e9] at h; cases h
  rw [if_neg k9] at h
  by_cases k10 : 0 ≤ hv ch
  · rw [if_pos k10] at h
    exact Or.inr (Or.inr (Or.inr (Or.inr (Or.inr (Or.inr (Or.inr (Or.inr (Or.inr (Or.inr (Or.inl ⟨rfl, k10, (Option.some.inj h).symm⟩))))))))))
  · rw [if_neg k10] at h; cases h
theorem gst_inv {a b w u q y ch : Int} {s : GS} (ha : 0 ≤ a ∧ a ≤ 8) (h : gst a b w u q y ch = some s) : g_alt a b w u q y ch s := by
  unfold gst at h
  by_cases k1 : a = 1
  · rw [if_pos k1] at h
    by_cases e1 : 0 ≤ hv ch
    · rw [if_pos e1] at h
      exact Or.inr (Or.inr (Or.inr (Or.inr (Or.inr (Or.inr (Or.inr (Or.inr (Or.inr (Or.inr (Or.inr (Or.inl ⟨k1, e1, (Option.some.inj h).symm⟩)))))))))))
    · rw [if_neg e1] at h; cases h
  rw [if_neg k1] at h
  by_cases k2 : a = 2
  · rw [if_pos k2] at h
    by_cases e2 : 0 ≤ hv ch
    · rw [if_pos e2] at h
      exact Or.inr (Or.inr (Or.inr (Or.inr (Or.inr (Or.inr (Or.inr (Or.inr (Or.inr (Or.inr (Or.inr (Or.inr (Or.inl ⟨k2, e2, (Option.some.inj h).symm⟩))))))))))))
    · rw [if_neg e2] at h; cases h
  rw [if_neg k2] at h
  by_cases k3 : a = 3
  · rw [if_pos k3] at h
    by_cases e3 : 2 ≤ dg ch
    · rw [if_pos e3] at h
      exact Or.inr (Or.inr (Or.inr (Or.inr (Or.inr (Or.inr (Or.inr (Or.inr (Or.inr (Or.inr (Or.inr (Or.inr (Or.inr (Or.inl ⟨k3, e3, (Option.some.inj h).symm⟩)))))))))))))
    · rw [if_neg e3] at h; cases h
  rw [if_neg k3] at h
  by_cases k4 : a = 4
  · rw [if_pos k4] at h
    by_cases e4 : ch = 58
    · rw [if_pos e4] at h
      exact Or.inr (Or.inr (Or.inr (Or.inr (Or.inr (Or.inr (Or.inr (Or.inr (Or.inr (Or.inr (Or.inr (Or.inr (Or.inr (Or.inr (Or.inl ⟨k4, e4, (Option.some.inj h).symm⟩))))))))))))))
    · rw [if_neg e4] at h; cases h
  rw [if_neg k4] at h
  by_cases k5 : a = 5
  · rw [if_pos k5] at h
    by_cases e5 : 2 ≤ dg ch
    · rw [if_pos e5] at h
      exact Or.inr (Or.inr (Or.inr (Or.inr (Or.inr (Or.inr (Or.inr (Or.inr (Or.inr (Or.inr (Or.inr (Or.inr (Or.inr (Or.inr (Or.inr (Or.inl ⟨k5, e5, (Option.some.inj h).symm⟩)))))))))))))))
    · rw [if_neg e5] at h; cases h
  rw [if_neg k5] at h
  by_cases k6 : a = 6
  · rw [if_pos k6] at h
    by_cases e6 : 1 ≤ dg ch
    · rw [if_pos e6] at h
      exact Or.inr (Or.inr (Or.inr (Or.inr (Or.inr (Or.inr (Or.inr (Or.inr (Or.inr (Or.inr (Or.inr (Or.inr (Or.inr (Or.inr (Or.inr (Or.inr (Or.inl ⟨k6, e6, (Option.some.inj h).symm⟩))))))))))))))))
    · rw [if_neg e6] at h; cases h
  rw [if_neg k6] at h
  by_cases k7 : a = 7
  · rw [if_pos k7] at h
    by_cases e7 : 1 ≤ dg ch
    · rw [if_pos e7] at h
      exact Or.inr (Or.inr (Or.inr (Or.inr (Or.inr (Or.inr (Or.inr (Or.inr (Or.inr (Or.inr (Or.inr (Or.inr (Or.inr (Or.inr (Or.inr (Or.inr (Or.inr (Or.inl ⟨k7, e7, (Option.some.inj h).symm⟩)))))))))))))))))
    · rw [if_neg e7] at h
      by_cases f7 : ch = 58
      · rw [if_pos f7] at h
        exact Or.inr (Or.inr (Or.inr (Or.inr (Or.inr (Or.inr (Or.inr (Or.inr (Or.inr (Or.inr (Or.inr (Or.inr (Or.inr (Or.inr (Or.inr (Or.inr (Or.inr (Or.inr (Or.inl ⟨k7, f7, (Option.some.inj h).symm⟩))))))))))))))))))
      · rw [if_neg f7] at h; cases h
  rw [if_neg k7] at h
  by_cases k8 : a = 8
  · rw [if_pos k8] at h
    by_cases e8 : 2 ≤ dg ch
    · rw [if_pos e8] at h
      exact Or.inr (Or.inr (Or.inr (Or.inr (Or.inr (Or.inr (Or.inr (Or.inr (Or.inr (Or.inr (Or.inr (Or.inr (Or.inr (Or.inr (Or.inr (Or.inr (Or.inr (Or.inr (Or.inr (⟨k8, e8, (Option.some.inj h).symm⟩)))))))))))))))))))
    · rw [if_neg e8] at h; cases h
  rw [if_neg k8] at h
  obtain rfl : a = 0 := by omega
  exact gsI_inv h
theorem hv_c {c : Int} (h : 0 ≤ hv c) : c = 119 ∨ c = 104 ∨ c = 113 ∨ c = 101 ∨ c = 115 ∨ c = 116 := by
  unfold hv at h
  (repeat' split at h) <;> omega
theorem dg_c {c : Int} (h : 1 ≤ dg c) : c = 48 + dg c ∧ dg c ≤ 9 := by
  unfold dg at h ⊢
  split at h <;> omega
def gsS (s : GS) (c : Int) : Option GS := gst s.1 s.2.1 s.2.2.1 s.2.2.2.1 s.2.2.2.2.1 s.2.2.2.2.2 c
/-- the automaton goes through us; A: where it stands -/
def acc (us : List Int) (A : Nat → GS) : Prop := A 0 = (0, 0, 0, 0, 0, 0) ∧ (∀ k, k < us.length → gsS (A k) (us.getD k 0) = some (A (k + 1))) ∧ (A us.length).1 = 0 ∧ ∀ k, k ≤ us.length → (A k).2.2.2.1 = 0
theorem acc_ok {us : List Int} {A : Nat → GS} (h : acc us A) : ∀ k, k ≤ us.length → gokS (A k) := by
  intro k
  induction k with
  | zero => intro _; rw [h.1]; exact ⟨by decide, by decide, by decide, by decide, by decide, by decide⟩
  | succ k ih => intro hk; exact gst_ok (h.2.1 k (by omega)) (ih (by omega))
theorem acc_inv {us : List Int} {A : Nat → GS} (h : acc us A) {k : Nat} (hk : k < us.length) : g_alt (A k).1 (A k).2.1 (A k).2.2.1 (A k).2.2.2.1 (A k).2.2.2.2.1 (A k).2.2.2.2.2 (us.getD k 0) (A (k + 1)) :=
  gst_inv (acc_ok h k (by omega)).1 (h.2.1 k hk)
theorem acc_prev {us : List Int} {A : Nat → GS} (h : acc us A) {k : Nat} (hk : k < us.length) : ((A (k + 1)).1 = 1 ↔ us.getD k 0 = 94) ∧ ((A (k + 1)).1 = 2 ↔ us.getD k 0 = 114) := by
  have hi := acc_inv h hk
  rcases hi with ⟨ka, kc, ks⟩ | ⟨ka, kc, ks⟩ | ⟨ka, kc, ks⟩ | ⟨ka, kc, ks⟩ | ⟨ka, kc, ks⟩ | ⟨ka, kc, ks⟩ | ⟨ka, kc, ks⟩ | ⟨ka, kc, ks⟩ | ⟨ka, kc, ks⟩ | ⟨ka, kc, ks⟩ | ⟨ka, kc, ks⟩ | ⟨ka, kc, ks⟩ | ⟨ka, kc, ks⟩ | ⟨ka, kc, ks⟩ | ⟨ka, kc, ks⟩ | ⟨ka, kc, ks⟩ | ⟨ka, kc, ks⟩ | ⟨ka, kc, ks⟩ | ⟨ka, kc, ks⟩ | ⟨ka, kc, ks⟩ <;> rw [ks] <;> dsimp only <;> first | omega | (have := hv_c kc; omega) | (have := dg_c (show 1 ≤ dg (us.getD k 0) by omega); omega)
theorem acc_brace {us : List Int} {A : Nat → GS} (h : acc us A) {k : Nat} (hk : k < us.length) (hc : us.getD k 0 = 123) : (A k).1 = 0 ∧ (A k).2.1 < 2 ∧ (A (k + 1)).1 = 3 ∧ (A (k + 1)).2.1 = (A k).2.1 + 1 := by
  have hi := acc_inv h hk
  rcases hi with ⟨ka, kc, ks⟩ | ⟨ka, kc, ks⟩ | ⟨ka, kc, ks⟩ | ⟨ka, kc, ks⟩ | ⟨ka, kc, ks⟩ | ⟨ka, kc, ks⟩ | ⟨ka, kc, ks⟩ | ⟨ka, kc, ks⟩ | ⟨ka, kc, ks⟩ | ⟨ka, kc, ks⟩ | ⟨ka, kc, ks⟩ | ⟨ka, kc, ks⟩ | ⟨ka, kc, ks⟩ | ⟨ka, kc, ks⟩ | ⟨ka, kc, ks⟩ | ⟨ka, kc, ks⟩ | ⟨ka, kc, ks⟩ | ⟨ka, kc, ks⟩ | ⟨ka, kc, ks⟩ | ⟨ka, kc, ks⟩ <;> rw [ks] <;> dsimp only <;> first | omega | (have := hv_c kc; omega) | (have := dg_c (show 1 ≤ dg (us.getD k 0) by omega); omega)
theorem acc_at3 {us : List Int} {A : Nat → GS} (h : acc us A) {k : Nat} (hk : k ≤ us.length) (ha : (A k).1 = 3) : k < us.length ∧ 2 ≤ dg (us.getD k 0) ∧ (A (k + 1)).1 = 4 ∧ (A (k + 1)).2.1 = (A k).2.1 := by
  have hl : k < us.length := by
    rcases Nat.lt_or_ge k us.length with q | q
    · exact q
    · rw [show k = us.length by omega, h.2.2.1] at ha; omega
  have hi := acc_inv h hl
  rcases hi with ⟨ka, kc, ks⟩ | ⟨ka, kc, ks⟩ | ⟨ka, kc, ks⟩ | ⟨ka, kc, ks⟩ | ⟨ka, kc, ks⟩ | ⟨ka, kc, ks⟩ | ⟨ka, kc, ks⟩ | ⟨ka, kc, ks⟩ | ⟨ka, kc, ks⟩ | ⟨ka, kc, ks⟩ | ⟨ka, kc, ks⟩ | ⟨ka, kc, ks⟩ | ⟨ka, kc, ks⟩ | ⟨ka, kc, ks⟩ | ⟨ka, kc, ks⟩ | ⟨ka, kc, ks⟩ | ⟨ka, kc, ks⟩ | ⟨ka, kc, ks⟩ | ⟨ka, kc, ks⟩ | ⟨ka, kc, ks⟩ <;> rw [ks] <;> dsimp only <;> omega
theorem acc_at4 {us : List Int} {A : Nat → GS} (h : acc us A) {k : Nat} (hk : k ≤ us.length) (ha : (A k).1 = 4) : k < us.length ∧ us.getD k 0 = 58 ∧ (A (k + 1)).1 = 5 ∧ (A (k + 1)).2.1 = (A k).2.1 := by
  have hl : k < us.length := by
    rcases Nat.lt_or_ge k us.length with q | q
    · exact q
    · rw [show k = us.length by omega, h.2.2.1] at ha; omega
  have hi := acc_inv h hl
  rcases hi with ⟨ka, kc, ks⟩ | ⟨ka, kc, ks⟩ | ⟨ka, kc, ks⟩ | ⟨ka, kc, ks⟩ | ⟨ka, kc, ks⟩ | ⟨ka, kc, ks⟩ | ⟨ka, kc, ks⟩ | ⟨ka, kc, ks⟩ | ⟨ka, kc, ks⟩ | ⟨ka, kc, ks⟩ | ⟨ka, kc, ks⟩ | ⟨ka, kc, ks⟩ | ⟨ka, kc, ks⟩ | ⟨ka, kc, ks⟩ | ⟨ka, kc, ks⟩ | ⟨ka, kc, ks⟩ | ⟨ka, kc, ks⟩ | ⟨ka, kc, ks⟩ | ⟨ka, kc, ks⟩ | ⟨ka, kc, ks⟩ <;> rw [ks] <;> dsimp only <;> omega
theorem acc_at5 {us : List Int} {A : Nat → GS} (h : acc us A) {k : Nat} (hk : k ≤ us.length) (ha : (A k).1 = 5) : k < us.length ∧ 2 ≤ dg (us.getD k 0) ∧ (A (k + 1)).1 = 0 ∧ (A (k + 1)).2.1 = (A k).2.1 := by
  have hl : k < us.length := by
    rcases Nat.lt_or_ge k us.length with q | q
    · exact q
    · rw [show k = us.length by omega, h.2.2.1] at ha; omega
  have hi := acc_inv h hl
  rcases hi with ⟨ka, kc, ks⟩ | ⟨ka, kc, ks⟩ | ⟨ka, kc, ks⟩ | ⟨ka, kc, ks⟩ | ⟨ka, kc, ks⟩ | ⟨ka, kc, ks⟩ | ⟨ka, kc, ks⟩ | ⟨ka, kc, ks⟩ | ⟨ka, kc, ks⟩ | ⟨ka, kc, ks⟩ | ⟨ka, kc, ks⟩ | ⟨ka, kc, ks⟩ | ⟨ka, kc, ks⟩ | ⟨ka, kc, ks⟩ | ⟨ka, kc, ks⟩ | ⟨ka, kc, ks⟩ | ⟨ka, kc, ks⟩ | ⟨ka, kc, ks⟩ | ⟨ka, kc, ks⟩ | ⟨ka, kc, ks⟩ <;> rw [ks] <;> dsimp only <;> omega
theorem acc_tup {us : List Int} {A : Nat → GS} (h : acc us A) {k : Nat} (hk : k < us.length) (hc : us.getD k 0 = 123) : k + 3 < us.length ∧ 2 ≤ dg (us.getD (k + 1) 0) ∧ us.getD (k + 2) 0 = 58 ∧ 2 ≤ dg (us.getD (k + 3) 0) ∧ (A (k + 4)).1 = 0 ∧ (A k).1 = 0 ∧ (A k).2.1 < 2 := by
  obtain ⟨a1, a2, a3, a4⟩ := acc_brace h hk hc
  obtain ⟨b1, b2, b3, b4⟩ := acc_at3 h (k := k + 1) (by omega) a3
  obtain ⟨c1, c2, c3, c4⟩ := acc_at4 h (k := k + 2) (by omega) b3
  obtain ⟨d1, d2, d3, d4⟩ := acc_at5 h (k := k + 3) (by omega) c3
  exact ⟨d1, b2, c2, d2, d3, a1, a2⟩
/-- the depth, sign by sign -/
theorem acc_b {us : List Int} {A : Nat → GS} (h : acc us A) {k : Nat} (hk : k < us.length) : (A (k + 1)).2.1 = (if us.getD k 0 = 123 then (A k).2.1 + 1 else if us.getD k 0 = 125 then (A k).2.1 - 1 else (A k).2.1) ∧ (us.getD k 0 = 125 → 1 ≤ (A k).2.1) := by
  have hi := acc_inv h hk
  rcases hi with ⟨ka, kc, ks⟩ | ⟨ka, kc, ks⟩ | ⟨ka, kc, ks⟩ | ⟨ka, kc, ks⟩ | ⟨ka, kc, ks⟩ | ⟨ka, kc, ks⟩ | ⟨ka, kc, ks⟩ | ⟨ka, kc, ks⟩ | ⟨ka, kc, ks⟩ | ⟨ka, kc, ks⟩ | ⟨ka, kc, ks⟩ | ⟨ka, kc, ks⟩ | ⟨ka, kc, ks⟩ | ⟨ka, kc, ks⟩ | ⟨ka, kc, ks⟩ | ⟨ka, kc, ks⟩ | ⟨ka, kc, ks⟩ | ⟨ka, kc, ks⟩ | ⟨ka, kc, ks⟩ | ⟨ka, kc, ks⟩ <;> rw [ks] <;> dsimp only <;> first | (refine ⟨?_, by omega⟩; (repeat' split) <;> omega) | (have := hv_c kc; refine ⟨?_, by omega⟩; (repeat' split) <;> omega) | (have := dg_c (show 1 ≤ dg (us.getD k 0) by omega); refine ⟨?_, by omega⟩; (repeat' split) <;> omega)
/-- from an item's head to the next: what a sign may be -/
theorem acc_head {us : List Int} {A : Nat → GS} (h : acc us A) {k : Nat} (hk : k < us.length) (ha : (A k).1 ≤ 2) : (0 ≤ hv (us.getD k 0) → (A (k + 1)).1 = 0 ∧ (A (k + 1)).2.2.2.2.1 = 2) ∧ (¬ 0 ≤ hv (us.getD k 0) → (A k).1 = 0 ∧ (us.getD k 0 ≠ 123 → (A (k + 1)).1 ≤ 2)) := by
  have hi := acc_inv h hk
  have hu := h.2.2.2 k (by omega)
  have hu1 := h.2.2.2 (k + 1) (by omega)
  rcases hi with ⟨ka, kc, ks⟩ | ⟨ka, kc, ks⟩ | ⟨ka, kc, ks⟩ | ⟨ka, kc, ks⟩ | ⟨ka, kc, ks⟩ | ⟨ka, kc, ks⟩ | ⟨ka, kc, ks⟩ | ⟨ka, kc, ks⟩ | ⟨ka, kc, ks⟩ | ⟨ka, kc, ks⟩ | ⟨ka, kc, ks⟩ | ⟨ka, kc, ks⟩ | ⟨ka, kc, ks⟩ | ⟨ka, kc, ks⟩ | ⟨ka, kc, ks⟩ | ⟨ka, kc, ks⟩ | ⟨ka, kc, ks⟩ | ⟨ka, kc, ks⟩ | ⟨ka, kc, ks⟩ | ⟨ka, kc, ks⟩ <;> rw [ks] at hu1 ⊢ <;> dsimp only at hu1 ⊢ <;> first | omega | (refine ⟨fun q => ?_, fun q => ?_⟩ <;> first | omega | (have := hv_c q; omega))
theorem acc_dot {us : List Int} {A : Nat → GS} (h : acc us A) {k : Nat} (hk : k < us.length) (ha : (A k).1 = 0) (hc : us.getD k 0 = 46) : 1 ≤ (A k).2.2.2.2.1 ∧ (A (k + 1)).1 = 0 ∧ (A (k + 1)).2.2.2.2.1 = (A k).2.2.2.2.1 - 1 := by
  have hi := acc_inv h hk
  rcases hi with ⟨ka, kc, ks⟩ | ⟨ka, kc, ks⟩ | ⟨ka, kc, ks⟩ | ⟨ka, kc, ks⟩ | ⟨ka, kc, ks⟩ | ⟨ka, kc, ks⟩ | ⟨ka, kc, ks⟩ | ⟨ka, kc, ks⟩ | ⟨ka, kc, ks⟩ | ⟨ka, kc, ks⟩ | ⟨ka, kc, ks⟩ | ⟨ka, kc, ks⟩ | ⟨ka, kc, ks⟩ | ⟨ka, kc, ks⟩ | ⟨ka, kc, ks⟩ | ⟨ka, kc, ks⟩ | ⟨ka, kc, ks⟩ | ⟨ka, kc, ks⟩ | ⟨ka, kc, ks⟩ | ⟨ka, kc, ks⟩ <;> rw [ks] <;> dsimp only <;> first | omega | (have := hv_c kc; omega)
theorem tat_lt {us : List Int} {k : Nat} {z : Int} (hz : z = (k : Int)) (h : k < us.length) : tat us z = us.getD k 0 := by rw [tat, if_pos (by omega), hz]; rfl
theorem tat_ge {us : List Int} {k : Nat} {z : Int} (hz : z = (k : Int)) (h : us.length ≤ k) : tat us z = -9 := by rw [tat, if_neg (by omega)]
/-- a letter has at most two dots, and what follows them is none -/
theorem acc_dts {us : List Int} {A : Nat → GS} (h : acc us A) {k : Nat} (hk : k < us.length) (ha : (A k).1 ≤ 2) (hl : 0 ≤ hv (us.getD k 0)) : (∀ j, j < dts us k → k + 1 + j < us.length ∧ us.getD (k + 1 + j) 0 = 46) ∧ ¬ (k + 1 + dts us k < us.length ∧ us.getD (k + 1 + dts us k) 0 = 46) ∧ (A (k + 1 + dts us k)).1 = 0 ∧ k + 1 + dts us k ≤ us.length ∧ dts us k ≤ 2 := by
  obtain ⟨h1, h2⟩ := (acc_head h hk ha).1 hl
  by_cases c1 : k + 1 < us.length ∧ us.getD (k + 1) 0 = 46
  · have t1 : tat us (k + 1) = 46 := by rw [tat_lt (k := k + 1) (by omega) c1.1]; exact c1.2
    obtain ⟨e1, e2, e3⟩ := acc_dot h c1.1 h1 c1.2
    by_cases c2 : k + 2 < us.length ∧ us.getD (k + 2) 0 = 46
    · have t2 : tat us (k + 2) = 46 := by rw [tat_lt (k := k + 2) (by omega) c2.1]; exact c2.2
      obtain ⟨f1, f2, f3⟩ := acc_dot h c2.1 e2 c2.2
      have hd : dts us k = 2 := by rw [dts, if_pos t1, if_pos t2]
      rw [hd]
      refine ⟨fun j hj => ?_, fun q => ?_, f2, by omega, by omega⟩
      · rcases (show j = 0 ∨ j = 1 by omega) with rfl | rfl
        · exact c1
        · exact c2
      · have g3 : (A (k + 2)).2.2.2.2.1 = (A (k + 1)).2.2.2.2.1 - 1 := e3
        have g4 := acc_dot (k := k + 2 + 1) h q.1 f2 q.2
        omega
    · have t2 : tat us (k + 2) ≠ 46 := by
        intro q
        rcases Nat.lt_or_ge (k + 2) us.length with hq | hq
        · exact c2 ⟨hq, by rw [tat_lt (k := k + 2) (by omega) hq] at q; exact q⟩
        · rw [tat_ge (k := k + 2) (by omega) hq] at q; omega
      have hd : dts us k = 1 := by rw [dts, if_pos t1, if_neg t2]
      rw [hd]
      refine ⟨fun j hj => ?_, c2, e2, by omega, by omega⟩
      rw [show j = 0 by omega]; exact c1
  · have t1 : tat us (k + 1) ≠ 46 := by
      intro q
      rcases Nat.lt_or_ge (k + 1) us.length with hq | hq
      · exact c1 ⟨hq, by rw [tat_lt (k := k + 1) (by omega) hq] at q; exact q⟩
      · rw [tat_ge (k := k + 1) (by omega) hq] at q; omega
    have hd : dts us k = 0 := by rw [dts, if_neg t1]
    rw [hd]
    exact ⟨fun j hj => absurd hj (Nat.not_lt_zero _), c1, h1, by omega, by omega⟩
/-- what a picture is like when L sounds and k signs have gone by, at depth b -/
def pgd (P : PS) (L k : Nat) (b : Int) : Prop := pok P ∧ p_cnt P ≤ L ∧ ((p_ts P).length : Int) = b ∧ p_nb P ≤ k + 1 ∧ p_tot P ≤ 460886630400 * (L : Int) ∧ (∀ i, i < p_cnt P → p_NC P i ≤ (L : Int)) ∧ (∀ i, i < p_cnt P → p_B P i < p_E P i) ∧ ∀ i j, i < j → j < p_cnt P → p_B P i < p_B P j
theorem pgd_0 : pgd p0 0 0 0 := by
  refine ⟨⟨by decide, by decide, by decide, Or.inl rfl, fun h => absurd h (by decide), by decide, fun x hx => (by cases hx), fun i hi => absurd hi (Nat.not_lt_zero i), fun j hj => ⟨Int.le_refl _, Int.le_refl _⟩⟩, by decide, rfl, by decide, by decide, fun i hi => absurd hi (Nat.not_lt_zero i), fun i hi => absurd hi (Nat.not_lt_zero i), fun i j _ hj => absurd hj (Nat.not_lt_zero j)⟩
theorem pgd_id {P : PS} {L k : Nat} {b : Int} (h : pgd P L k b) : pgd P L (k + 1) b := by
  obtain ⟨h1, h2, h3, h4, h5⟩ := h
  exact ⟨h1, h2, h3, by omega, h5⟩
theorem pgd_bar {P : PS} {L k : Nat} {b : Int} (h : pgd P L k b) (hk : k < 900) : pgd (pBar P) L (k + 1) b := by
  obtain ⟨⟨g1, g2, g3, g4, g5, g6, g7, g8, g9⟩, h2, h3, h4, h5, h6, h7⟩ := h
  refine ⟨⟨g1, ?_, g3, g4, g5, g6, g7, g8, fun j hj => ?_⟩, h2, h3, ?_, h5, h6, h7⟩
  · show 1 ≤ p_nb P + 1 ∧ p_nb P + 1 ≤ 901
    omega
  · show 0 ≤ va_up (p_BL P) (p_nb P) 0 j ∧ va_up (p_BL P) (p_nb P) 0 j ≤ p_tot P
    by_cases hq : j = p_nb P
    · subst hq; rw [va_upe]; omega
    · rw [va_upn hq]; exact g9 j (by have : j < p_nb P + 1 := hj; omega)
  · show p_nb P + 1 ≤ k + 1 + 1
    omega
theorem pgd_push {P : PS} {L k : Nat} {b m n : Int} (h : pgd P L k b) (hb : b < 2) (hm : 2 ≤ m ∧ m ≤ 9) (hn : 2 ≤ n ∧ n ≤ 9) : pgd (pTs P (p_ts P ++ [(m, n)])) L (k + 1) (b + 1) := by
  obtain ⟨⟨g1, g2, g3, g4, g5, g6, g7, g8, g9⟩, h2, h3, h4, h5, h6, h7⟩ := h
  refine ⟨⟨g1, g2, g3, g4, g5, ?_, fun x hx => ?_, g8, g9⟩, h2, ?_, ?_, h5, h6, h7⟩
  · show (p_ts P ++ [(m, n)]).length ≤ 2
    rw [List.length_append, List.length_singleton]; omega
  · rcases List.mem_append.mp hx with q | q
    · exact g7 x q
    · rw [List.mem_singleton.mp q]; exact ⟨hm, hn⟩
  · show (((p_ts P ++ [(m, n)]).length : Nat) : Int) = b + 1
    rw [List.length_append, List.length_singleton]; omega
  · show p_nb P ≤ k + 1 + 1
    omega
theorem pgd_pop {P : PS} {L k : Nat} {b : Int} (h : pgd P L k b) (hb : 1 ≤ b) : pgd (pTs P (p_ts P).dropLast) L (k + 1) (b - 1) := by
  obtain ⟨⟨g1, g2, g3, g4, g5, g6, g7, g8, g9⟩, h2, h3, h4, h5, h6, h7⟩ := h
  refine ⟨⟨g1, g2, g3, g4, g5, ?_, fun x hx => g7 x (List.dropLast_subset _ hx), g8, g9⟩, h2, ?_, ?_, h5, h6, h7⟩
  · show (p_ts P).dropLast.length ≤ 2
    rw [List.length_dropLast]; omega
  · show (((p_ts P).dropLast.length : Nat) : Int) = b - 1
    rw [List.length_dropLast]; omega
  · show p_nb P ≤ k + 1 + 1
    omega
theorem bl_adv {f : Nat → Int} {n : Nat} {T x : Int} (h : ∀ j, j < n → 0 ≤ f j ∧ f j ≤ T) (hx : 0 ≤ x) (hn : 1 ≤ n) : ∀ j, j < n → 0 ≤ va_up f (n - 1) (f (n - 1) + x) j ∧ va_up f (n - 1) (f (n - 1) + x) j ≤ T + x := by
  intro j hj
  have h1 := h j hj
  by_cases hq : j = n - 1
  · subst hq; rw [va_upe]; omega
  · rw [va_upn hq]; omega
theorem pgd_rest {P : PS} {L k : Nat} {b x : Int} (h : pgd P L k b) (hL : L + 1 ≤ 300) (hx : 0 < x ∧ x ≤ 460886630400) : pgd (pAdv P x 0) (L + 1) (k + 1) b := by
  obtain ⟨⟨g1, g2, g3, g4, g5, g6, g7, g8, g9⟩, h2, h3, h4, h5, h6, h7, h8⟩ := h
  refine ⟨⟨g1, g2, ?_, Or.inl rfl, fun q => absurd (show (0 : Int) = 1 from q) (by decide), g6, g7, fun i hi => ?_, bl_adv g9 (by omega) g2.1⟩, ?_, h3, ?_, ?_, fun i hi => ?_, h7, h8⟩
  · show 0 ≤ p_tot P + x ∧ p_tot P + x ≤ 140000000000000
    omega
  · have := g8 i hi
    show (0 ≤ p_B P i ∧ p_B P i ≤ p_tot P + x) ∧ (p_B P i ≤ p_E P i ∧ p_E P i ≤ p_tot P + x) ∧ (1 ≤ p_NC P i ∧ p_NC P i ≤ 300) ∧ (0 ≤ p_BN P i ∧ p_BN P i ≤ 900) ∧ (p_AC P i = 0 ∨ p_AC P i = 1)
    omega
  · show p_cnt P ≤ L + 1
    omega
  · show p_nb P ≤ k + 1 + 1
    omega
  · show p_tot P + x ≤ 460886630400 * ((L + 1 : Nat) : Int)
    omega
  · have := h6 i hi
    show p_NC P i ≤ ((L + 1 : Nat) : Int)
    omega
theorem pgd_join {P : PS} {L k : Nat} {b x td : Int} (h : pgd P L k b) (hL : L + 1 ≤ 300) (hx : 0 < x ∧ x ≤ 460886630400) (ht : p_td P = 1) (htd : td = 0 ∨ td = 1) : pgd (pAdv (pJoin P x) x td) (L + 1) (k + 1) b := by
  obtain ⟨⟨g1, g2, g3, g4, g5, g6, g7, g8, g9⟩, h2, h3, h4, h5, h6, h7, h8⟩ := h
  have hc := g5 ht
  refine ⟨⟨g1, g2, ?_, htd, fun _ => hc, g6, g7, fun i hi => ?_, bl_adv g9 (by omega) g2.1⟩, ?_, h3, ?_, ?_, fun i hi => ?_, fun i hi => ?_, h8⟩
  · show 0 ≤ p_tot P + x ∧ p_tot P + x ≤ 140000000000000
    omega
  · have q1 := g8 i hi
    have q2 := h6 i hi
    show (0 ≤ p_B P i ∧ p_B P i ≤ p_tot P + x) ∧ (p_B P i ≤ va_up (p_E P) (p_cnt P - 1) (p_E P (p_cnt P - 1) + x) i ∧ va_up (p_E P) (p_cnt P - 1) (p_E P (p_cnt P - 1) + x) i ≤ p_tot P + x) ∧ (1 ≤ va_up (p_NC P) (p_cnt P - 1) (p_NC P (p_cnt P - 1) + 1) i ∧ va_up (p_NC P) (p_cnt P - 1) (p_NC P (p_cnt P - 1) + 1) i ≤ 300) ∧ (0 ≤ p_BN P i ∧ p_BN P i ≤ 900) ∧ (p_AC P i = 0 ∨ p_AC P i = 1)
    by_cases hq : i = p_cnt P - 1
    · subst hq; rw [va_upe, va_upe]; omega
    · rw [va_upn hq, va_upn hq]; omega
  · show p_cnt P ≤ L + 1
    omega
  · show p_nb P ≤ k + 1 + 1
    omega
  · show p_tot P + x ≤ 460886630400 * ((L + 1 : Nat) : Int)
    omega
  · have q2 := h6 i hi
    show va_up (p_NC P) (p_cnt P - 1) (p_NC P (p_cnt P - 1) + 1) i ≤ ((L + 1 : Nat) : Int)
    by_cases hq : i = p_cnt P - 1
    · subst hq; rw [va_upe]; omega
    · rw [va_upn hq]; omega
  · have q2 := h7 i hi
    show p_B P i < va_up (p_E P) (p_cnt P - 1) (p_E P (p_cnt P - 1) + x) i
    by_cases hq : i = p_cnt P - 1
    · subst hq; rw [va_upe]; omega
    · rw [va_upn hq]; omega
theorem pgd_ev {P : PS} {L k : Nat} {b x ac td : Int} (h : pgd P L k b) (hL : L + 1 ≤ 300) (hk : k < 900) (hx : 0 < x ∧ x ≤ 460886630400) (hac : ac = 0 ∨ ac = 1) (htd : td = 0 ∨ td = 1) : pgd (pAdv (pEv P x ac) x td) (L + 1) (k + 1) b := by
  obtain ⟨⟨g1, g2, g3, g4, g5, g6, g7, g8, g9⟩, h2, h3, h4, h5, h6, h7, h8⟩ := h
  refine ⟨⟨?_, g2, ?_, htd, fun _ => Nat.succ_pos _, g6, g7, fun i hi => ?_, bl_adv g9 (by omega) g2.1⟩, ?_, h3, ?_, ?_, fun i hi => ?_, fun i hi => ?_, fun i j hij hj => ?_⟩
  · show p_cnt P + 1 ≤ 300
    omega
  · show 0 ≤ p_tot P + x ∧ p_tot P + x ≤ 140000000000000
    omega
  · show (0 ≤ va_up (p_B P) (p_cnt P) (p_tot P) i ∧ va_up (p_B P) (p_cnt P) (p_tot P) i ≤ p_tot P + x) ∧ (va_up (p_B P) (p_cnt P) (p_tot P) i ≤ va_up (p_E P) (p_cnt P) (p_tot P + x) i ∧ va_up (p_E P) (p_cnt P) (p_tot P + x) i ≤ p_tot P + x) ∧ (1 ≤ va_up (p_NC P) (p_cnt P) 1 i ∧ va_up (p_NC P) (p_cnt P) 1 i ≤ 300) ∧ (0 ≤ va_up (p_BN P) (p_cnt P) ((p_nb P : Int) - 1) i ∧ va_up (p_BN P) (p_cnt P) ((p_nb P : Int) - 1) i ≤ 900) ∧ (va_up (p_AC P) (p_cnt P) ac i = 0 ∨ va_up (p_AC P) (p_cnt P) ac i = 1)
    by_cases hq : i = p_cnt P
    · subst hq; rw [va_upe, va_upe, va_upe, va_upe, va_upe]; omega
    · rw [va_upn hq, va_upn hq, va_upn hq, va_upn hq, va_upn hq]
      have := g8 i (by have : i < p_cnt P + 1 := hi; omega)
      omega
  · show p_cnt P + 1 ≤ L + 1
    omega
  · show p_nb P ≤ k + 1 + 1
    omega
  · show p_tot P + x ≤ 460886630400 * ((L + 1 : Nat) : Int)
    omega
  · show va_up (p_NC P) (p_cnt P) 1 i ≤ ((L + 1 : Nat) : Int)
    by_cases hq : i = p_cnt P
    · subst hq; rw [va_upe]; omega
    · rw [va_upn hq]
      have := h6 i (by have : i < p_cnt P + 1 := hi; omega)
      omega
  · show va_up (p_B P) (p_cnt P) (p_tot P) i < va_up (p_E P) (p_cnt P) (p_tot P + x) i
    by_cases hq : i = p_cnt P
    · subst hq; rw [va_upe, va_upe]; omega
    · rw [va_upn hq, va_upn hq]
      exact h7 i (by have : i < p_cnt P + 1 := hi; omega)
  · show va_up (p_B P) (p_cnt P) (p_tot P) i < va_up (p_B P) (p_cnt P) (p_tot P) j
    have hj2 : j < p_cnt P + 1 := hj
    rw [va_upn (show i ≠ p_cnt P by omega)]
    by_cases hq : j = p_cnt P
    · subst hq; rw [va_upe]
      have q1 := g8 i (by omega)
      have q2 := h7 i (by omega)
      omega
    · rw [va_upn hq]; exact h8 i j hij (by omega)
theorem tk_pos {h : Int} {d : Nat} {ts : List (Int × Int)} (hh : 0 ≤ h ∧ h ≤ 5) (hl : ts.length ≤ 2) (ht : ∀ x ∈ ts, (2 ≤ x.1 ∧ x.1 ≤ 9) ∧ 2 ≤ x.2 ∧ x.2 ≤ 9) : 0 < tk h d ts := by
  obtain ⟨⟨q1, q2⟩, q3, q4⟩ := pnm_r hl ht
  unfold tk
  have hd : 4 ≤ dqn d := by unfold dqn; (repeat' split) <;> omega
  have h2 : (1 : Int) ≤ 2 ^ h.toNat ∧ (2 : Int) ^ h.toNat ≤ 32 := by
    rcases (show h = 0 ∨ h = 1 ∨ h = 2 ∨ h = 3 ∨ h = 4 ∨ h = 5 by omega) with rfl | rfl | rfl | rfl | rfl | rfl <;> decide
  generalize (2 : Int) ^ h.toNat = e at *
  have hb1 : 4 * e * pm ts ≤ 4 * 32 * 81 := by
    have : e * pm ts ≤ 32 * 81 := Int.mul_le_mul h2.2 q4 (by omega) (by omega)
    rw [Int.mul_assoc, Int.mul_assoc]; omega
  have hb0 : 0 < 4 * e * pm ts := Int.mul_pos (by omega) (by omega)
  have hn1 : 812851200 * 4 * 1 ≤ 812851200 * dqn d * pn ts := by
    have : 4 * 1 ≤ dqn d * pn ts := Int.mul_le_mul hd q1 (by omega) (by omega)
    rw [Int.mul_assoc, Int.mul_assoc]; omega
  have : 1 ≤ (812851200 * dqn d * pn ts) / (4 * e * pm ts) := by
    rw [Int.le_ediv_iff_mul_le hb0]; omega
  omega
theorem lets_take {us : List Int} {k : Nat} (h : k < us.length) : lets (us.take (k + 1)) = lets (us.take k) + (if 0 ≤ hv (us.getD k 0) then 1 else 0) := by
  have hq : us.take (k + 1) = us.take k ++ [us.getD k 0] := by
    rw [List.take_succ, List.getD_eq_getElem?_getD, List.getElem?_eq_getElem h]; rfl
  unfold lets
  rw [hq, List.filter_append, List.length_append]
  congr 1
  by_cases hh : 0 ≤ hv (us.getD k 0)
  · rw [if_pos hh, List.filter_cons_of_pos (by simpa using hh)]; rfl
  · rw [if_neg hh, List.filter_cons_of_neg (by simpa using hh)]; rfl
theorem acc_pgd {us : List Int} {A : Nat → GS} (h : acc us A) (hl : us.length ≤ 900) : ∀ k, k ≤ us.length → lets (us.take k) ≤ 300 → pgd (sp us k) (lets (us.take k)) k (A k).2.1 := by
  intro k
  induction k with
  | zero => intro _ _; rw [h.1]; exact pgd_0
  | succ k ih =>
    intro hk hL
    have hlt : k < us.length := by omega
    have hs := lets_take hlt
    have hb := acc_b h hlt
    have hih := ih (by omega) (by omega)
    show pgd (stp us k (sp us k)) _ _ _
    generalize hPk : sp us k = P at hih
    unfold stp
    by_cases c1 : us.getD k 0 = 124
    · rw [if_pos c1]
      rw [if_neg (by rw [c1]; decide)] at hs
      rw [hs, hb.1, if_neg (by omega), if_neg (by omega)]
      exact pgd_bar hih (by omega)
    rw [if_neg c1]
    by_cases c2 : us.getD k 0 = 123
    · rw [if_pos c2]
      rw [if_neg (by rw [c2]; decide)] at hs
      rw [hs, hb.1, if_pos c2]
      obtain ⟨t1, t2, t3, t4, t5, t6, t7⟩ := acc_tup h hlt c2
      rw [tat_lt (k := k + 1) (by omega) (by omega), tat_lt (k := k + 3) (by omega) (by omega)]
      have r1 := dg_r (us.getD (k + 1) 0)
      have r2 := dg_r (us.getD (k + 3) 0)
      exact pgd_push hih t7 (by omega) (by omega)
    rw [if_neg c2]
    by_cases c3 : us.getD k 0 = 125
    · rw [if_pos c3]
      rw [if_neg (by rw [c3]; decide)] at hs
      rw [hs, hb.1, if_neg c2, if_pos c3]
      exact pgd_pop hih (hb.2 c3)
    rw [if_neg c3]
    rw [hb.1, if_neg c2, if_neg c3]
    by_cases c4 : 0 ≤ hv (us.getD k 0)
    · rw [if_pos c4]
      rw [if_pos c4] at hs
      rw [hs]
      have r := hv_r (us.getD k 0)
      have q := hih.1
      have hx1 := tk_pos (d := dts us k) ⟨c4, by omega⟩ q.2.2.2.2.2.1 q.2.2.2.2.2.2.1
      have hx2 := (tk_r (d := dts us k) ⟨c4, by omega⟩ q.2.2.2.2.2.1 q.2.2.2.2.2.2.1).2
      unfold pSnd
      split
      · exact pgd_rest hih (by omega) ⟨hx1, hx2⟩
      · unfold pNote
        split
        · exact pgd_join hih (by omega) ⟨hx1, hx2⟩ ‹_› (by split <;> omega)
        · exact pgd_ev hih (by omega) (by omega) ⟨hx1, hx2⟩ (by split <;> omega) (by split <;> omega)
    · rw [if_neg c4]
      rw [if_neg c4] at hs
      rw [hs]
      exact pgd_id hih
theorem lets_mono {us : List Int} : ∀ (n j k : Nat), k - j ≤ n → j ≤ k → k ≤ us.length → lets (us.take j) ≤ lets (us.take k) := by
  intro n
  induction n with
  | zero => intro j k h1 h2 _; rw [show j = k by omega]; exact Nat.le_refl _
  | succ n ih =>
    intro j k h1 h2 h3
    by_cases hjk : j = k
    · rw [hjk]; exact Nat.le_refl _
    · have := lets_take (show j < us.length by omega)
      have := ih (j + 1) k (by omega) (by omega) h3
      omega
theorem acc_bok {us : List Int} {A : Nat → GS} (h : acc us A) (hl : us.length ≤ 900) (hL : lets us ≤ 300) : bok us := by
  intro k hk
  have hm := lets_mono (us := us) _ k us.length (Nat.le_refl _) hk (Nat.le_refl _)
  rw [List.take_length] at hm
  have hg := acc_pgd h hl k hk (by omega)
  refine ⟨hg.1, fun hlt => ⟨fun _ => ?_, fun c => ?_, fun c => ?_, fun c => ?_⟩⟩
  · have := hg.2.2.2.1; omega
  · have := (acc_tup h hlt c).2.2.2.2.2.2
    have := hg.2.2.1
    omega
  · have := (acc_b h hlt).2 c
    have := hg.2.2.1
    omega
  · have h1 := lets_take hlt
    rw [if_pos c] at h1
    have h2 := lets_mono (us := us) _ (k + 1) us.length (Nat.le_refl _) hlt (Nat.le_refl _)
    rw [List.take_length] at h2
    have := hg.2.1
    omega
