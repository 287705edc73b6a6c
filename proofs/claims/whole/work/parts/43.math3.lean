theorem gst_fw {a b w u q y ch : Int} {s : GS} (h : g_alt a b w u q y ch s) : gst a b w u q y ch = some s := by
  rcases h with ⟨ka, kc, rfl⟩ | ⟨ka, kc, rfl⟩ | ⟨ka, kc, rfl⟩ | ⟨ka, kc, rfl⟩ | ⟨ka, kc, rfl⟩ | ⟨ka, kc, rfl⟩ | ⟨ka, kc, rfl⟩ | ⟨ka, kc, rfl⟩ | ⟨ka, kc, rfl⟩ | ⟨ka, kc, rfl⟩ | ⟨ka, kc, rfl⟩ | ⟨ka, kc, rfl⟩ | ⟨ka, kc, rfl⟩ | ⟨ka, kc, rfl⟩ | ⟨ka, kc, rfl⟩ | ⟨ka, kc, rfl⟩ | ⟨ka, kc, rfl⟩ | ⟨ka, kc, rfl⟩ | ⟨ka, kc, rfl⟩ | ⟨ka, kc, rfl⟩
  · subst ka; simp [gst, gsI, kc]
  · subst ka; simp [gst, gsI, kc]
  · subst ka; simp [gst, gsI, kc]
  · subst ka; simp [gst, gsI, kc]
  · subst ka; simp [gst, gsI, kc]
  · subst ka; simp [gst, gsI, kc]
  · subst ka; simp [gst, gsI, kc]
  · subst ka; simp [gst, gsI, kc]
  · subst ka; simp [gst, gsI, kc]
  · subst ka; simp [gst, gsI, kc]
  · subst ka; rcases hv_c kc with rfl | rfl | rfl | rfl | rfl | rfl <;> simp [gst, gsI, hv]
  · subst ka; simp [gst, kc]
  · subst ka; simp [gst, kc]
  · subst ka; simp [gst, kc]
  · subst ka; simp [gst, kc]
  · subst ka; simp [gst, kc]
  · subst ka; simp [gst, kc]
  · subst ka; simp [gst, kc]
  · subst ka; subst kc; simp [gst, dg]
  · subst ka; simp [gst, kc]
/-- a run over a text -/
def rnA (xs : List Int) (k : Nat) : GS := match k with
  | 0 => (0, 0, 0, 0, 0, 0)
  | k + 1 => (gsS (rnA xs k) (xs.getD k 0)).getD (0, 0, 0, 0, 0, 0)
def racc (xs : List Int) (A : Nat → GS) : Prop := A 0 = (0, 0, 0, 0, 0, 0) ∧ (∀ k, k < xs.length → gsS (A k) (xs.getD k 0) = some (A (k + 1))) ∧ (A xs.length).1 = 0 ∧ (A xs.length).2.1 = 0 ∧ (A xs.length).2.2.2.1 = 0
theorem racc_of {xs : List Int} (h : gwb xs = -9) : racc xs (rnA xs) := by
  have hk : ∀ k, k ≤ xs.length → gw (rnA xs k) (xs.drop k) (k : Int) = -9 ∧ ∀ j, j < k → gsS (rnA xs j) (xs.getD j 0) = some (rnA xs (j + 1)) := by
    intro k
    induction k with
    | zero => intro _; exact ⟨h, fun j hj => absurd hj (Nat.not_lt_zero j)⟩
    | succ k ih =>
      intro hk
      obtain ⟨h1, h2⟩ := ih (by omega)
      have hlt : k < xs.length := by omega
      rw [List.drop_eq_getElem_cons hlt, show xs[k] = xs.getD k 0 by simp [List.getD_eq_getElem?_getD, List.getElem?_eq_getElem hlt], gw] at h1
      have hg : gsS (rnA xs k) (xs.getD k 0) = gst (rnA xs k).1 (rnA xs k).2.1 (rnA xs k).2.2.1 (rnA xs k).2.2.2.1 (rnA xs k).2.2.2.2.1 (rnA xs k).2.2.2.2.2 (xs.getD k 0) := rfl
      rw [← hg] at h1
      cases hs : gsS (rnA xs k) (xs.getD k 0) with
      | none => rw [hs] at h1; dsimp only at h1; omega
      | some s2 =>
        rw [hs] at h1
        have e1 : rnA xs (k + 1) = s2 := by show (gsS (rnA xs k) (xs.getD k 0)).getD _ = s2; rw [hs]; rfl
        rw [e1]
        refine ⟨h1, fun j hj => ?_⟩
        by_cases hjk : j = k
        · subst hjk; rw [hs, e1]
        · exact h2 j (by omega)
  obtain ⟨h1, h2⟩ := hk xs.length (Nat.le_refl _)
  rw [List.drop_length, gw] at h1
  by_cases hc : (rnA xs xs.length).1 = 0 ∧ (rnA xs xs.length).2.1 = 0 ∧ (rnA xs xs.length).2.2.2.1 = 0
  · exact ⟨rfl, h2, hc⟩
  · rw [if_neg hc] at h1; omega
theorem racc_ok {xs : List Int} {A : Nat → GS} (h : racc xs A) : ∀ k, k ≤ xs.length → gokS (A k) := by
  intro k
  induction k with
  | zero => intro _; rw [h.1]; exact ⟨by decide, by decide, by decide, by decide, by decide, by decide⟩
  | succ k ih => intro hk; exact gst_ok (h.2.1 k (by omega)) (ih (by omega))
theorem racc_inv {xs : List Int} {A : Nat → GS} (h : racc xs A) {k : Nat} (hk : k < xs.length) : g_alt (A k).1 (A k).2.1 (A k).2.2.1 (A k).2.2.2.1 (A k).2.2.2.2.1 (A k).2.2.2.2.2 (xs.getD k 0) (A (k + 1)) :=
  gst_inv (racc_ok h k (by omega)).1 (h.2.1 k hk)
/-- the states behind a slash or a bracket are plain ones -/
theorem racc_z {xs : List Int} {A : Nat → GS} (h : racc xs A) : ∀ k, k ≤ xs.length → (6 ≤ (A k).1 → (A k).2.1 = 0 ∧ (A k).2.2.2.2.1 = 0 ∧ (A k).2.2.2.2.2 = 0) ∧ ((A k).1 ≠ 0 → (A k).2.2.2.2.1 = 0 ∧ (A k).2.2.2.2.2 = 0) := by
  intro k
  induction k with
  | zero => intro _; rw [h.1]; exact ⟨fun q => absurd q (by decide), fun q => absurd rfl q⟩
  | succ k ih =>
    intro hk
    obtain ⟨i1, i2⟩ := ih (by omega)
    have hok := racc_ok h k (by omega)
    have hi := racc_inv h (show k < xs.length by omega)
    rcases hi with ⟨ka, kc, ks⟩ | ⟨ka, kc, ks⟩ | ⟨ka, kc, ks⟩ | ⟨ka, kc, ks⟩ | ⟨ka, kc, ks⟩ | ⟨ka, kc, ks⟩ | ⟨ka, kc, ks⟩ | ⟨ka, kc, ks⟩ | ⟨ka, kc, ks⟩ | ⟨ka, kc, ks⟩ | ⟨ka, kc, ks⟩ | ⟨ka, kc, ks⟩ | ⟨ka, kc, ks⟩ | ⟨ka, kc, ks⟩ | ⟨ka, kc, ks⟩ | ⟨ka, kc, ks⟩ | ⟨ka, kc, ks⟩ | ⟨ka, kc, ks⟩ | ⟨ka, kc, ks⟩ | ⟨ka, kc, ks⟩ <;> rw [ks] <;> dsimp only <;> first | (refine ⟨fun q => ?_, fun q => ?_⟩ <;> first | omega | exact ⟨rfl, rfl⟩ | exact ⟨i1 (by omega), rfl, rfl⟩ | exact i2 (by omega) | exact i1 (by omega) | exact ⟨by have := hok.2.1; omega, rfl, rfl⟩ | exact ⟨kc.2.2, rfl, rfl⟩)
theorem racc_u {xs : List Int} {A : Nat → GS} (h : racc xs A) {k : Nat} (hk : k < xs.length) : (xs.getD k 0 = 91 → (A k).1 = 0 ∧ (A k).2.1 = 0 ∧ (A k).2.2.2.1 = 0 ∧ (A (k + 1)).1 = 0 ∧ (A (k + 1)).2.1 = 0 ∧ (A (k + 1)).2.2.2.1 = 1 ∧ (A (k + 1)).2.2.2.2.1 = 0 ∧ (A (k + 1)).2.2.2.2.2 = 0) ∧ (xs.getD k 0 = 93 → (A k).1 = 0 ∧ (A k).2.1 = 0 ∧ (A k).2.2.2.1 = 1 ∧ (A (k + 1)).1 = 8 ∧ (A (k + 1)).2.2.2.1 = 0) ∧ (xs.getD k 0 = 47 → (A k).1 = 0 ∧ (A k).2.1 = 0 ∧ (A k).2.2.2.1 = 1 ∧ (A (k + 1)).1 = 6 ∧ (A (k + 1)).2.2.2.1 = 1) ∧ (xs.getD k 0 ≠ 91 → xs.getD k 0 ≠ 93 → (A (k + 1)).2.2.2.1 = (A k).2.2.2.1) := by
  have hok := racc_ok h k (by omega)
  have hb := hok.2.1
  have hi := racc_inv h hk
  rcases hi with ⟨ka, kc, ks⟩ | ⟨ka, kc, ks⟩ | ⟨ka, kc, ks⟩ | ⟨ka, kc, ks⟩ | ⟨ka, kc, ks⟩ | ⟨ka, kc, ks⟩ | ⟨ka, kc, ks⟩ | ⟨ka, kc, ks⟩ | ⟨ka, kc, ks⟩ | ⟨ka, kc, ks⟩ | ⟨ka, kc, ks⟩ | ⟨ka, kc, ks⟩ | ⟨ka, kc, ks⟩ | ⟨ka, kc, ks⟩ | ⟨ka, kc, ks⟩ | ⟨ka, kc, ks⟩ | ⟨ka, kc, ks⟩ | ⟨ka, kc, ks⟩ | ⟨ka, kc, ks⟩ | ⟨ka, kc, ks⟩ <;> rw [ks] <;> dsimp only <;> first | (refine ⟨fun q => ?_, fun q => ?_, fun q => ?_, fun q q2 => ?_⟩ <;> first | omega | rfl) | (have hq := hv_c kc; refine ⟨fun q => ?_, fun q => ?_, fun q => ?_, fun q q2 => ?_⟩ <;> first | omega | rfl) | (have hq := dg_c (show 1 ≤ dg (xs.getD k 0) by omega); refine ⟨fun q => ?_, fun q => ?_, fun q => ?_, fun q q2 => ?_⟩ <;> first | omega | rfl)
theorem racc_lt {xs : List Int} {A : Nat → GS} (h : racc xs A) {k : Nat} (hk : k ≤ xs.length) (hq : (A k).1 ≠ 0 ∨ (A k).2.2.2.1 ≠ 0) : k < xs.length := by
  rcases Nat.lt_or_ge k xs.length with q | q
  · exact q
  · have e : k = xs.length := by omega
    rw [e] at hq
    have h1 := h.2.2.1
    have h2 := h.2.2.2.2
    omega
theorem racc_8 {xs : List Int} {A : Nat → GS} (h : racc xs A) {k : Nat} (hk : k ≤ xs.length) (h8 : (A k).1 = 8) : k < xs.length ∧ 2 ≤ dg (xs.getD k 0) ∧ (A (k + 1)).1 = 0 ∧ (A (k + 1)).2.1 = 0 ∧ (A (k + 1)).2.2.2.2.1 = 0 ∧ (A (k + 1)).2.2.2.2.2 = 0 ∧ (A (k + 1)).2.2.2.1 = (A k).2.2.2.1 := by
  have hlt := racc_lt h hk (by omega)
  obtain ⟨z1, z2, z3⟩ := (racc_z h k hk).1 (by omega)
  have hi := racc_inv h hlt
  rcases hi with ⟨ka, kc, ks⟩ | ⟨ka, kc, ks⟩ | ⟨ka, kc, ks⟩ | ⟨ka, kc, ks⟩ | ⟨ka, kc, ks⟩ | ⟨ka, kc, ks⟩ | ⟨ka, kc, ks⟩ | ⟨ka, kc, ks⟩ | ⟨ka, kc, ks⟩ | ⟨ka, kc, ks⟩ | ⟨ka, kc, ks⟩ | ⟨ka, kc, ks⟩ | ⟨ka, kc, ks⟩ | ⟨ka, kc, ks⟩ | ⟨ka, kc, ks⟩ | ⟨ka, kc, ks⟩ | ⟨ka, kc, ks⟩ | ⟨ka, kc, ks⟩ | ⟨ka, kc, ks⟩ | ⟨ka, kc, ks⟩ <;> first | omega | (rw [ks]; dsimp only; exact ⟨hlt, kc, rfl, z1, z2, z3, rfl⟩)
theorem racc_67 {xs : List Int} {A : Nat → GS} (h : racc xs A) {k : Nat} (hk : k ≤ xs.length) (h8 : (A k).1 = 6 ∨ (A k).1 = 7) : k < xs.length ∧ ((1 ≤ dg (xs.getD k 0) ∧ (A (k + 1)).1 = 7 ∧ (A (k + 1)).2.2.2.1 = (A k).2.2.2.1) ∨ (xs.getD k 0 = 58 ∧ (A (k + 1)).1 = 0 ∧ (A (k + 1)).2.1 = 0 ∧ (A (k + 1)).2.2.2.2.1 = 0 ∧ (A (k + 1)).2.2.2.2.2 = 0 ∧ (A (k + 1)).2.2.2.1 = (A k).2.2.2.1)) := by
  have hlt := racc_lt h hk (by omega)
  obtain ⟨z1, z2, z3⟩ := (racc_z h k hk).1 (by omega)
  have hi := racc_inv h hlt
  rcases hi with ⟨ka, kc, ks⟩ | ⟨ka, kc, ks⟩ | ⟨ka, kc, ks⟩ | ⟨ka, kc, ks⟩ | ⟨ka, kc, ks⟩ | ⟨ka, kc, ks⟩ | ⟨ka, kc, ks⟩ | ⟨ka, kc, ks⟩ | ⟨ka, kc, ks⟩ | ⟨ka, kc, ks⟩ | ⟨ka, kc, ks⟩ | ⟨ka, kc, ks⟩ | ⟨ka, kc, ks⟩ | ⟨ka, kc, ks⟩ | ⟨ka, kc, ks⟩ | ⟨ka, kc, ks⟩ | ⟨ka, kc, ks⟩ | ⟨ka, kc, ks⟩ | ⟨ka, kc, ks⟩ | ⟨ka, kc, ks⟩ <;> first | omega | (rw [ks]; dsimp only; exact ⟨hlt, Or.inl ⟨kc, rfl, rfl⟩⟩) | (rw [ks]; dsimp only; exact ⟨hlt, Or.inr ⟨kc, rfl, z1, z2, z3, rfl⟩⟩)
theorem racc_close {xs : List Int} {A : Nat → GS} (h : racc xs A) : ∀ (n k : Nat), xs.length - k ≤ n → k ≤ xs.length → (A k).2.2.2.1 = 1 → sk xs 93 93 k + 1 < xs.length ∧ 2 ≤ dg (xs.getD (sk xs 93 93 k + 1) 0) ∧ ∀ j, k ≤ j → j ≤ sk xs 93 93 k → (A j).2.2.2.1 = 1 := by
  intro n
  induction n with
  | zero => intro k h1 h2 h3; have := racc_lt h h2 (by omega); omega
  | succ n ih =>
    intro k h1 h2 h3
    have hlt := racc_lt h h2 (by omega)
    obtain ⟨u1, u2, u3, u4⟩ := racc_u h hlt
    by_cases hc : xs.getD k 0 = 93
    · rw [sk_hit hlt (Or.inl hc)]
      obtain ⟨e1, e2, -⟩ := racc_8 h (k := k + 1) (by omega) (u2 hc).2.2.2.1
      exact ⟨e1, e2, fun j hj1 hj2 => by rw [show j = k by omega]; exact h3⟩
    · have hne : xs.getD k 0 ≠ 91 := fun q => by have := (u1 q).2.2.1; omega
      have h4 := u4 hne hc
      rw [sk_nx hlt (by omega)]
      obtain ⟨e1, e2, e3⟩ := ih (k + 1) (by omega) (by omega) (by omega)
      refine ⟨e1, e2, fun j hj1 hj2 => ?_⟩
      by_cases hjk : j = k
      · rw [hjk]; exact h3
      · exact e3 j (by omega) hj2
theorem racc_bwf {xs : List Int} {A : Nat → GS} (h : racc xs A) : bwf xs := by
  intro k hk hc
  obtain ⟨u1, -⟩ := racc_u h hk
  obtain ⟨e1, e2, -⟩ := racc_close h _ (k + 1) (Nat.le_refl _) (by omega) (u1 hc).2.2.2.2.2.1
  rw [sk_nx hk (by omega)]
  exact ⟨e1, e2⟩
theorem racc_col {xs : List Int} {A : Nat → GS} (h : racc xs A) : ∀ (n k : Nat), xs.length - k ≤ n → k ≤ xs.length → ((A k).1 = 6 ∨ (A k).1 = 7) → (A k).2.2.2.1 = 1 → sk xs 58 58 k < sk xs 47 93 k ∧ sk xs 47 93 k < xs.length ∧ (A (sk xs 58 58 k + 1)).1 = 0 ∧ (A (sk xs 58 58 k + 1)).2.1 = 0 ∧ (A (sk xs 58 58 k + 1)).2.2.2.2.1 = 0 ∧ (A (sk xs 58 58 k + 1)).2.2.2.2.2 = 0 ∧ (A (sk xs 58 58 k + 1)).2.2.2.1 = 1 := by
  intro n
  induction n with
  | zero => intro k h1 h2 h3 h4; have := racc_lt h h2 (by omega); omega
  | succ n ih =>
    intro k h1 h2 h3 h4
    obtain ⟨hlt, hd⟩ := racc_67 h h2 h3
    rcases hd with ⟨d1, d2, d3⟩ | ⟨d1, d2, d3, d4, d5, d6⟩
    · have hq := dg_c d1
      rw [sk_nx (c := 58) (d := 58) hlt (by omega), sk_nx (c := 47) (d := 93) hlt (by omega)]
      exact ih (k + 1) (by omega) (by omega) (Or.inr d2) (by omega)
    · rw [sk_hit (c := 58) (d := 58) hlt (Or.inl d1), sk_nx (c := 47) (d := 93) hlt (by omega)]
      have h5 := sk_ge xs 47 93 (k + 1) (by omega)
      obtain ⟨e1, -⟩ := racc_close h _ (k + 1) (Nat.le_refl _) (by omega) (by omega)
      have h6 := sk_sub (xs := xs) _ (k + 1) (Nat.le_refl _)
      exact ⟨by omega, by omega, d2, d3, d4, d5, by omega⟩
theorem racc_swf {xs : List Int} {A : Nat → GS} (h : racc xs A) : swf xs := by
  intro k hk hc
  obtain ⟨-, -, u3, -⟩ := racc_u h hk
  obtain ⟨e1, e2, -⟩ := racc_col h _ (k + 1) (Nat.le_refl _) (by omega) (Or.inl (u3 hc).2.2.2.1) (u3 hc).2.2.2.2
  exact ⟨e1, e2⟩
/-- lengths of unfoldings -/
theorem endg_len {xs : List Int} (hs : swf xs) {ps : Int} {cl : Nat} (hcl : cl < xs.length) (hc : xs.getD cl 0 = 93) : ∀ (n k : Nat), cl - k ≤ n → sk xs 93 93 k = cl → (endg xs ps cl k).length ≤ cl - k := by
  intro n
  induction n with
  | zero => intro k h1 h2; rw [endg_end (by omega)]; simp
  | succ n ih =>
    intro k h1 h2
    rw [endg]
    by_cases hk : k < cl
    · rw [if_pos hk]
      have hne : xs.getD k 0 ≠ 93 := fun q => by rw [sk_hit (by omega) (Or.inl q)] at h2; omega
      have h2' : sk xs 93 93 (k + 1) = cl := by rw [sk_nx (by omega) (by omega)] at h2; exact h2
      split
      · rename_i hq
        obtain ⟨s1, s2⟩ := hs k (by omega) hq.1
        have e5 : sk xs 58 58 k = sk xs 58 58 (k + 1) := sk_nx (by omega) (by omega)
        have g1 := sk_ge xs 58 58 (k + 1) (by omega)
        have e4 : sk xs 47 93 (sk xs 58 58 (k + 1)) = sk xs 47 93 (k + 1) := sk_hop _ _ _ (Nat.le_refl _) (by omega) (by omega)
        have e6 := sk_sub (xs := xs) _ (k + 1) (Nat.le_refl _)
        rw [e5, e4, piece_len]
        omega
      · have := ih (k + 1) (by omega) h2'
        omega
    · rw [if_neg hk]; simp
theorem psn_len {xs : List Int} {op be cl B : Nat} (h : ∀ ps : Int, (piece xs (op + 1) be ++ endg xs ps cl be).length ≤ B) : ∀ j, (psn xs op be cl j).length ≤ j * B := by
  intro j
  induction j with
  | zero => simp [psn]
  | succ j ih =>
    rw [psn, List.length_append, Nat.succ_mul]
    have := h ((j : Int) + 1)
    omega
theorem uf_len {xs : List Int} (hb : bwf xs) (hs : swf xs) : ∀ (n k : Nat), xs.length - k ≤ n → (uf xs k).length ≤ 9 * (xs.length - k) := by
  intro n
  induction n with
  | zero => intro k h; rw [uf, dif_neg (by omega)]; simp
  | succ n ih =>
    intro k h
    by_cases hk : k < xs.length
    · rw [uf, dif_pos hk]
      by_cases hc : xs.getD k 0 = 91
      · rw [if_pos hc, List.length_append]
        obtain ⟨b1, b2⟩ := hb k hk hc
        have g1 := sk_ge xs 93 93 (k + 1) (by omega)
        have e1 : sk xs 93 93 k = sk xs 93 93 (k + 1) := sk_nx hk (by omega)
        have e2 : sk xs 47 93 k = sk xs 47 93 (k + 1) := sk_nx hk (by omega)
        have g2 := sk_ge xs 47 93 (k + 1) (by omega)
        have g3 := sk_sub (xs := xs) _ (k + 1) (Nat.le_refl _)
        have hcl : xs.getD (sk xs 93 93 k) 0 = 93 := by
          rcases sk_at (xs := xs) (c := 93) (d := 93) _ k (Nat.le_refl _) (by omega) with q | q <;> exact q
        have hR : sk xs 93 93 (sk xs 47 93 k) = sk xs 93 93 k := by
          rw [e1, e2]; exact sk_hop _ _ _ (Nat.le_refl _) (by omega) (by omega)
        have h1 := psn_len (xs := xs) (op := k) (be := sk xs 47 93 k) (cl := sk xs 93 93 k) (B := sk xs 93 93 k - (k + 1)) (fun ps => by
          rw [List.length_append, piece_len]
          have := endg_len hs (ps := ps) (show sk xs 93 93 k < xs.length by omega) hcl _ (sk xs 47 93 k) (Nat.le_refl _) hR
          omega) (dg (tat xs ((sk xs 93 93 k : Int) + 1))).toNat
        have h2 := dg_r (tat xs ((sk xs 93 93 k : Int) + 1))
        have h3 : (dg (tat xs ((sk xs 93 93 k : Int) + 1))).toNat * (sk xs 93 93 k - (k + 1)) ≤ 9 * (sk xs 93 93 k - (k + 1)) := Nat.mul_le_mul_right _ (by omega)
        have h4 := ih (max k (sk xs 93 93 k + 1) + 1) (by omega)
        omega
      · rw [if_neg hc, List.length_cons]
        have := ih (k + 1) (by omega)
        omega
    · rw [uf, dif_neg hk]; simp
theorem endg_mem {xs : List Int} {ps : Int} {cl : Nat} {c : Int} : ∀ (n k : Nat), cl - k ≤ n → c ∈ endg xs ps cl k → c ∈ xs := by
  intro n
  induction n with
  | zero => intro k h1 h2; rw [endg_end (by omega)] at h2; cases h2
  | succ n ih =>
    intro k h1 h2
    rw [endg] at h2
    split at h2
    · split at h2
      · exact piece_mem h2
      · exact ih (k + 1) (by omega) h2
    · cases h2
theorem psn_mem {xs : List Int} {op be cl : Nat} {c : Int} : ∀ j, c ∈ psn xs op be cl j → c ∈ xs := by
  intro j
  induction j with
  | zero => intro h; cases h
  | succ j ih =>
    intro h
    rw [psn] at h
    rcases List.mem_append.mp h with q | q
    · exact ih q
    · rcases List.mem_append.mp q with q | q
      · exact piece_mem q
      · exact endg_mem _ _ (Nat.le_refl _) q
theorem uf_mem {xs : List Int} {c : Int} : ∀ (n k : Nat), xs.length - k ≤ n → c ∈ uf xs k → c ∈ xs := by
  intro n
  induction n with
  | zero => intro k h1 h2; rw [uf, dif_neg (by omega)] at h2; cases h2
  | succ n ih =>
    intro k h1 h2
    rw [uf] at h2
    split at h2
    · rename_i hk
      split at h2
      · rcases List.mem_append.mp h2 with q | q
        · exact psn_mem _ q
        · exact ih _ (by omega) q
      · rcases List.mem_cons.mp h2 with q | q
        · rw [q]; exact am_gd hk
        · exact ih _ (by omega) q
    · cases h2
/-! the unfolding goes through the automaton too -/
def gsZ (t : GS) (c : Int) : Option GS := match gsS t c with
  | none => none
  | some t2 => if t2.2.2.2.1 = 0 then some t2 else none
def rl (t : GS) (us : List Int) : Option GS := match us with
  | [] => some t
  | c :: r => match gsZ t c with
    | none => none
    | some t2 => rl t2 r
theorem rl_app {t t2 : GS} {us vs : List Int} (h : rl t us = some t2) : rl t (us ++ vs) = rl t2 vs := by
  induction us generalizing t with
  | nil => cases h; rfl
  | cons c r ih =>
    show (match gsZ t c with | none => none | some t2 => rl t2 (r ++ vs)) = _
    have h' : (match gsZ t c with | none => none | some t2 => rl t2 r) = some t2 := h
    cases hg : gsZ t c with
    | none => rw [hg] at h'; cases h'
    | some t3 => rw [hg] at h'; exact ih h'
def sim (s t : GS) : Prop := t.1 = s.1 ∧ t.2.1 = s.2.1 ∧ (1 ≤ s.2.1 → t.2.2.1 = s.2.2.1) ∧ t.2.2.2.1 = 0 ∧ s.2.2.2.2.1 ≤ t.2.2.2.2.1 ∧ s.2.2.2.2.2 ≤ t.2.2.2.2.2 ∧ t.2.2.2.2.2 ≤ 1
theorem sim_step {s t s2 : GS} {c : Int} (hb : 0 ≤ s.2.1) (ha : g_alt s.1 s.2.1 s.2.2.1 s.2.2.2.1 s.2.2.2.2.1 s.2.2.2.2.2 c s2) (hs : sim s t) (h1 : c ≠ 91) (h2 : c ≠ 47) (h3 : c ≠ 93) : ∃ t2, gsZ t c = some t2 ∧ sim s2 t2 := by
  obtain ⟨a, b, w, u, q, y⟩ := s
  obtain ⟨a2, b2, w2, u2, q2, y2⟩ := t
  obtain ⟨e1, e2, e3, e4, e5, e6, e7⟩ := hs
  dsimp only at hb ha e1 e2 e3 e4 e5 e6 e7
  subst e1 e2 e4
  have hz : ∀ t2 : GS, g_alt a2 b2 w2 0 q2 y2 c t2 → t2.2.2.2.1 = 0 → gsZ (a2, b2, w2, 0, q2, y2) c = some t2 := fun t2 h5 h6 => by
    have h7 : gsS (a2, b2, w2, 0, q2, y2) c = some t2 := gst_fw h5
    unfold gsZ
    rw [h7]
    exact if_pos h6
  rcases ha with ⟨ka, kc, rfl⟩ | ⟨ka, kc, rfl⟩ | ⟨ka, kc, rfl⟩ | ⟨ka, kc, rfl⟩ | ⟨ka, kc, rfl⟩ | ⟨ka, kc, rfl⟩ | ⟨ka, kc, rfl⟩ | ⟨ka, kc, rfl⟩ | ⟨ka, kc, rfl⟩ | ⟨ka, kc, rfl⟩ | ⟨ka, kc, rfl⟩ | ⟨ka, kc, rfl⟩ | ⟨ka, kc, rfl⟩ | ⟨ka, kc, rfl⟩ | ⟨ka, kc, rfl⟩ | ⟨ka, kc, rfl⟩ | ⟨ka, kc, rfl⟩ | ⟨ka, kc, rfl⟩ | ⟨ka, kc, rfl⟩ | ⟨ka, kc, rfl⟩
  · exact ⟨(0, b2, w2, 0, q2 - 1, y2), hz _ (Or.inl ⟨ka, ⟨kc.1, by omega⟩, rfl⟩) rfl, ⟨rfl, rfl, by first | (intro _; rfl) | (intro q9; exact e3 (by omega)) | exact e3, rfl, by first | omega | (dsimp only; omega), by first | omega | (dsimp only; omega), by first | omega | (dsimp only; omega)⟩⟩
  · exact ⟨(0, b2, w2, 0, 0, 0), hz _ (Or.inr (Or.inl ⟨ka, ⟨kc.1, by omega⟩, rfl⟩)) rfl, ⟨rfl, rfl, by first | (intro _; rfl) | (intro q9; exact e3 (by omega)) | exact e3, rfl, by first | omega | (dsimp only; omega), by first | omega | (dsimp only; omega), by first | omega | (dsimp only; omega)⟩⟩
  · exact ⟨(1, b2, w2, 0, 0, 0), hz _ (Or.inr (Or.inr (Or.inl ⟨ka, kc, rfl⟩))) rfl, ⟨rfl, rfl, by first | (intro _; rfl) | (intro q9; exact e3 (by omega)) | exact e3, rfl, by first | omega | (dsimp only; omega), by first | omega | (dsimp only; omega), by first | omega | (dsimp only; omega)⟩⟩
  · exact ⟨(2, b2, w2, 0, 0, 0), hz _ (Or.inr (Or.inr (Or.inr (Or.inl ⟨ka, kc, rfl⟩)))) rfl, ⟨rfl, rfl, by first | (intro _; rfl) | (intro q9; exact e3 (by omega)) | exact e3, rfl, by first | omega | (dsimp only; omega), by first | omega | (dsimp only; omega), by first | omega | (dsimp only; omega)⟩⟩
  · exact ⟨(3, b2 + 1, 0, 0, 0, 0), hz _ (Or.inr (Or.inr (Or.inr (Or.inr (Or.inl ⟨ka, kc, rfl⟩))))) rfl, ⟨rfl, rfl, by first | (intro _; rfl) | (intro q9; exact e3 (by omega)) | exact e3, rfl, by first | omega | (dsimp only; omega), by first | omega | (dsimp only; omega), by first | omega | (dsimp only; omega)⟩⟩
  · exact ⟨(0, b2 - 1, w2, 0, 0, 0), hz _ (Or.inr (Or.inr (Or.inr (Or.inr (Or.inr (Or.inl ⟨ka, ⟨kc.1, kc.2.1, by have := e3 (by omega); have := kc.2.2; omega⟩, rfl⟩)))))) rfl, ⟨rfl, rfl, by first | (intro _; rfl) | (intro q9; exact e3 (by omega)) | exact e3, rfl, by first | omega | (dsimp only; omega), by first | omega | (dsimp only; omega), by first | omega | (dsimp only; omega)⟩⟩
  · exact ⟨(0, b2, w2, 0, 0, 0), hz _ (Or.inr (Or.inr (Or.inr (Or.inr (Or.inr (Or.inr (Or.inl ⟨ka, kc, rfl⟩))))))) rfl, ⟨rfl, rfl, by first | (intro _; rfl) | (intro q9; exact e3 (by omega)) | exact e3, rfl, by first | omega | (dsimp only; omega), by first | omega | (dsimp only; omega), by first | omega | (dsimp only; omega)⟩⟩
  · exact absurd kc.1 h1
  · exact absurd kc.1 h2
  · exact absurd kc.1 h3
  · exact ⟨(0, b2, 1, 0, 2, 1), hz _ (Or.inr (Or.inr (Or.inr (Or.inr (Or.inr (Or.inr (Or.inr (Or.inr (Or.inr (Or.inr (Or.inl ⟨ka, kc, rfl⟩))))))))))) rfl, ⟨rfl, rfl, by first | (intro _; rfl) | (intro q9; exact e3 (by omega)) | exact e3, rfl, by first | omega | (dsimp only; omega), by first | omega | (dsimp only; omega), by first | omega | (dsimp only; omega)⟩⟩
  · exact ⟨(0, b2, 1, 0, 2, 1), hz _ (Or.inr (Or.inr (Or.inr (Or.inr (Or.inr (Or.inr (Or.inr (Or.inr (Or.inr (Or.inr (Or.inr (Or.inl ⟨ka, kc, rfl⟩)))))))))))) rfl, ⟨rfl, rfl, by first | (intro _; rfl) | (intro q9; exact e3 (by omega)) | exact e3, rfl, by first | omega | (dsimp only; omega), by first | omega | (dsimp only; omega), by first | omega | (dsimp only; omega)⟩⟩
  · exact ⟨(0, b2, 1, 0, 2, 0), hz _ (Or.inr (Or.inr (Or.inr (Or.inr (Or.inr (Or.inr (Or.inr (Or.inr (Or.inr (Or.inr (Or.inr (Or.inr (Or.inl ⟨ka, kc, rfl⟩))))))))))))) rfl, ⟨rfl, rfl, by first | (intro _; rfl) | (intro q9; exact e3 (by omega)) | exact e3, rfl, by first | omega | (dsimp only; omega), by first | omega | (dsimp only; omega), by first | omega | (dsimp only; omega)⟩⟩
  · exact ⟨(4, b2, w2, 0, q2, y2), hz _ (Or.inr (Or.inr (Or.inr (Or.inr (Or.inr (Or.inr (Or.inr (Or.inr (Or.inr (Or.inr (Or.inr (Or.inr (Or.inr (Or.inl ⟨ka, kc, rfl⟩)))))))))))))) rfl, ⟨rfl, rfl, by first | (intro _; rfl) | (intro q9; exact e3 (by omega)) | exact e3, rfl, by first | omega | (dsimp only; omega), by first | omega | (dsimp only; omega), by first | omega | (dsimp only; omega)⟩⟩
  · exact ⟨(5, b2, w2, 0, q2, y2), hz _ (Or.inr (Or.inr (Or.inr (Or.inr (Or.inr (Or.inr (Or.inr (Or.inr (Or.inr (Or.inr (Or.inr (Or.inr (Or.inr (Or.inr (Or.inl ⟨ka, kc, rfl⟩))))))))))))))) rfl, ⟨rfl, rfl, by first | (intro _; rfl) | (intro q9; exact e3 (by omega)) | exact e3, rfl, by first | omega | (dsimp only; omega), by first | omega | (dsimp only; omega), by first | omega | (dsimp only; omega)⟩⟩
  · exact ⟨(0, b2, w2, 0, q2, y2), hz _ (Or.inr (Or.inr (Or.inr (Or.inr (Or.inr (Or.inr (Or.inr (Or.inr (Or.inr (Or.inr (Or.inr (Or.inr (Or.inr (Or.inr (Or.inr (Or.inl ⟨ka, kc, rfl⟩)))))))))))))))) rfl, ⟨rfl, rfl, by first | (intro _; rfl) | (intro q9; exact e3 (by omega)) | exact e3, rfl, by first | omega | (dsimp only; omega), by first | omega | (dsimp only; omega), by first | omega | (dsimp only; omega)⟩⟩
  · exact ⟨(7, b2, w2, 0, q2, y2), hz _ (Or.inr (Or.inr (Or.inr (Or.inr (Or.inr (Or.inr (Or.inr (Or.inr (Or.inr (Or.inr (Or.inr (Or.inr (Or.inr (Or.inr (Or.inr (Or.inr (Or.inl ⟨ka, kc, rfl⟩))))))))))))))))) rfl, ⟨rfl, rfl, by first | (intro _; rfl) | (intro q9; exact e3 (by omega)) | exact e3, rfl, by first | omega | (dsimp only; omega), by first | omega | (dsimp only; omega), by first | omega | (dsimp only; omega)⟩⟩
  · exact ⟨(7, b2, w2, 0, q2, y2), hz _ (Or.inr (Or.inr (Or.inr (Or.inr (Or.inr (Or.inr (Or.inr (Or.inr (Or.inr (Or.inr (Or.inr (Or.inr (Or.inr (Or.inr (Or.inr (Or.inr (Or.inr (Or.inl ⟨ka, kc, rfl⟩)))))))))))))))))) rfl, ⟨rfl, rfl, by first | (intro _; rfl) | (intro q9; exact e3 (by omega)) | exact e3, rfl, by first | omega | (dsimp only; omega), by first | omega | (dsimp only; omega), by first | omega | (dsimp only; omega)⟩⟩
  · exact ⟨(0, b2, w2, 0, q2, y2), hz _ (Or.inr (Or.inr (Or.inr (Or.inr (Or.inr (Or.inr (Or.inr (Or.inr (Or.inr (Or.inr (Or.inr (Or.inr (Or.inr (Or.inr (Or.inr (Or.inr (Or.inr (Or.inr (Or.inl ⟨ka, kc, rfl⟩))))))))))))))))))) rfl, ⟨rfl, rfl, by first | (intro _; rfl) | (intro q9; exact e3 (by omega)) | exact e3, rfl, by first | omega | (dsimp only; omega), by first | omega | (dsimp only; omega), by first | omega | (dsimp only; omega)⟩⟩
  · exact ⟨(0, b2, w2, 0, q2, y2), hz _ (Or.inr (Or.inr (Or.inr (Or.inr (Or.inr (Or.inr (Or.inr (Or.inr (Or.inr (Or.inr (Or.inr (Or.inr (Or.inr (Or.inr (Or.inr (Or.inr (Or.inr (Or.inr (Or.inr (⟨ka, kc, rfl⟩)))))))))))))))))))) rfl, ⟨rfl, rfl, by first | (intro _; rfl) | (intro q9; exact e3 (by omega)) | exact e3, rfl, by first | omega | (dsimp only; omega), by first | omega | (dsimp only; omega), by first | omega | (dsimp only; omega)⟩⟩
theorem sim_run {xs : List Int} {A : Nat → GS} (h : racc xs A) {j : Nat} (hj : j ≤ xs.length) : ∀ (n i : Nat) (t : GS), j - i ≤ n → i ≤ j → (∀ k, i ≤ k → k < j → xs.getD k 0 ≠ 91 ∧ xs.getD k 0 ≠ 47 ∧ xs.getD k 0 ≠ 93) → sim (A i) t → ∃ t2, rl t (piece xs i j) = some t2 ∧ sim (A j) t2 := by
  intro n
  induction n with
  | zero => intro i t h1 h2 _ h4; rw [show i = j by omega, piece_nil]; exact ⟨t, rfl, by rw [show j = i by omega]; exact h4⟩
  | succ n ih =>
    intro i t h1 h2 h3 h4
    by_cases hij : i = j
    · subst hij; rw [piece_nil]; exact ⟨t, rfl, h4⟩
    · obtain ⟨c1, c2, c3⟩ := h3 i (Nat.le_refl _) (by omega)
      obtain ⟨t1, g1, g2⟩ := sim_step (racc_ok h i (by omega)).2.1.1 (racc_inv h (show i < xs.length by omega)) h4 c1 c2 c3
      obtain ⟨t2, g3, g4⟩ := ih (i + 1) t1 (by omega) (by omega) (fun k hk1 hk2 => h3 k (by omega) hk2) g2
      refine ⟨t2, ?_, g4⟩
      rw [piece_cons (by omega) hj]
      show (match gsZ t _ with | none => none | some t2 => rl t2 _) = _
      rw [g1]
      exact g3
def gdt (t : GS) : Prop := t.1 = 0 ∧ t.2.1 = 0 ∧ t.2.2.2.1 = 0 ∧ 0 ≤ t.2.2.2.2.1 ∧ 0 ≤ t.2.2.2.2.2 ∧ t.2.2.2.2.2 ≤ 1
theorem gdt_sim {s t : GS} (h : gdt t) (h1 : s.1 = 0) (h2 : s.2.1 = 0) (h3 : s.2.2.2.2.1 = 0) (h4 : s.2.2.2.2.2 = 0) : sim s t := by
  obtain ⟨g1, g2, g3, g4, g5, g6⟩ := h
  exact ⟨by omega, by omega, fun q => by omega, g3, by omega, by omega, g6⟩
theorem sim_gdt {s t : GS} (h : sim s t) (hs : gokS s) (h1 : s.1 = 0) (h2 : s.2.1 = 0) : gdt t := by
  obtain ⟨g1, g2, g3, g4, g5, g6, g7⟩ := h
  have k5 := hs.2.2.2.2.1
  have k6 := hs.2.2.2.2.2
  exact ⟨by omega, by omega, g4, by omega, by omega, g7⟩
/-- a piece between two places at which the automaton is outside all -/
theorem run_piece {xs : List Int} {A : Nat → GS} (h : racc xs A) {i j : Nat} (hij : i ≤ j) (hj : j ≤ xs.length) (hn : ∀ k, i ≤ k → k < j → xs.getD k 0 ≠ 91 ∧ xs.getD k 0 ≠ 47 ∧ xs.getD k 0 ≠ 93) (hi : (A i).1 = 0 ∧ (A i).2.1 = 0 ∧ (A i).2.2.2.2.1 = 0 ∧ (A i).2.2.2.2.2 = 0) (he : (A j).1 = 0 ∧ (A j).2.1 = 0) {t : GS} (ht : gdt t) : ∃ t2, rl t (piece xs i j) = some t2 ∧ gdt t2 := by
  obtain ⟨t2, h1, h2⟩ := sim_run h hj _ i t (Nat.le_refl _) hij hn (gdt_sim ht hi.1 hi.2.1 hi.2.2.1 hi.2.2.2)
  exact ⟨t2, h1, sim_gdt h2 (racc_ok h j hj) he.1 he.2⟩
theorem sk_bef {xs : List Int} {c d : Int} : ∀ (n i k : Nat), xs.length - i ≤ n → i ≤ k → k < sk xs c d i → xs.getD k 0 ≠ c ∧ xs.getD k 0 ≠ d := by
  intro n
  induction n with
  | zero => intro i k h1 h2 h3; have := sk_le xs c d i; omega
  | succ n ih =>
    intro i k h1 h2 h3
    have hl := sk_le xs c d i
    have hi : i < xs.length := by omega
    by_cases hh : xs.getD i 0 = c ∨ xs.getD i 0 = d
    · rw [sk_hit hi hh] at h3; omega
    · by_cases hik : i = k
      · subst hik; exact ⟨fun q => hh (Or.inl q), fun q => hh (Or.inr q)⟩
      · rw [sk_nx hi hh] at h3
        exact ih (i + 1) k (by omega) (by omega) h3
theorem run_end {xs : List Int} {A : Nat → GS} (h : racc xs A) {ps : Int} {cl : Nat} (hcl : cl < xs.length) : ∀ (n k : Nat), cl - k ≤ n → k ≤ cl → sk xs 93 93 k = cl → (∀ j, k ≤ j → j ≤ cl → (A j).2.2.2.1 = 1) → ∀ t, gdt t → ∃ t2, rl t (endg xs ps cl k) = some t2 ∧ gdt t2 := by
  intro n
  induction n with
  | zero => intro k h1 _ h2 _ t ht; rw [endg_end (by omega)]; exact ⟨t, rfl, ht⟩
  | succ n ih =>
    intro k h1 hkc h2 h3 t ht
    rw [endg]
    by_cases hk : k < cl
    · rw [if_pos hk]
      have hne : xs.getD k 0 ≠ 93 := fun q => by rw [sk_hit (by omega) (Or.inl q)] at h2; omega
      have h2' : sk xs 93 93 (k + 1) = cl := by rw [sk_nx (by omega) (by omega)] at h2; exact h2
      split
      · rename_i hq
        obtain ⟨-, -, u3, -⟩ := racc_u h (show k < xs.length by omega)
        obtain ⟨e1, e2, e3, e4, e5, e6, e7⟩ := racc_col h _ (k + 1) (Nat.le_refl _) (by omega) (Or.inl (u3 hq.1).2.2.2.1) (u3 hq.1).2.2.2.2
        have d5 : sk xs 58 58 k = sk xs 58 58 (k + 1) := sk_nx (by omega) (by omega)
        have g1 := sk_ge xs 58 58 (k + 1) (by omega)
        have d4 : sk xs 47 93 (sk xs 58 58 (k + 1)) = sk xs 47 93 (k + 1) := sk_hop _ _ _ (Nat.le_refl _) (by omega) (by omega)
        have d6 := sk_sub (xs := xs) _ (k + 1) (Nat.le_refl _)
        rw [d5, d4]
        have hat := sk_at (xs := xs) (c := 47) (d := 93) _ (k + 1) (Nat.le_refl _) e2
        obtain ⟨-, w2, w3, -⟩ := racc_u h e2
        refine run_piece h (by omega) (by omega) (fun j j1 j2 => ?_) ⟨e3, e4, e5, e6⟩ ?_ ht
        · have hb := sk_bef _ (k + 1) j (Nat.le_refl _) (by omega) j2
          obtain ⟨v1, -⟩ := racc_u h (show j < xs.length by omega)
          exact ⟨fun q => by have := (v1 q).2.2.1; have := h3 j (by omega) (by omega); omega, hb.1, hb.2⟩
        · rcases hat with q | q
          · exact ⟨(w3 q).1, (w3 q).2.1⟩
          · exact ⟨(w2 q).1, (w2 q).2.1⟩
      · exact ih (k + 1) (by omega) (by omega) h2' (fun j j1 j2 => h3 j (by omega) j2) t ht
    · rw [if_neg hk]; exact ⟨t, rfl, ht⟩
theorem run_psn {xs : List Int} {op be cl : Nat} (h : ∀ (ps : Int) (t : GS), gdt t → ∃ t2, rl t (piece xs (op + 1) be ++ endg xs ps cl be) = some t2 ∧ gdt t2) : ∀ j, ∀ t, gdt t → ∃ t2, rl t (psn xs op be cl j) = some t2 ∧ gdt t2 := by
  intro j
  induction j with
  | zero => intro t ht; exact ⟨t, rfl, ht⟩
  | succ j ih =>
    intro t ht
    obtain ⟨t2, g1, g2⟩ := ih t ht
    obtain ⟨t3, g3, g4⟩ := h ((j : Int) + 1) t2 g2
    exact ⟨t3, by rw [psn, rl_app g1]; exact g3, g4⟩
theorem run_uf {xs : List Int} {A : Nat → GS} (h : racc xs A) : ∀ (n k : Nat), xs.length - k ≤ n → k ≤ xs.length → (A k).2.2.2.1 = 0 → ∀ t, sim (A k) t → ∃ t2, rl t (uf xs k) = some t2 ∧ gdt t2 := by
  intro n
  induction n with
  | zero =>
    intro k h1 h2 h3 t ht
    have e : k = xs.length := by omega
    rw [uf, dif_neg (by omega)]
    exact ⟨t, rfl, sim_gdt ht (racc_ok h k h2) (by rw [e]; exact h.2.2.1) (by rw [e]; exact h.2.2.2.1)⟩
  | succ n ih =>
    intro k h1 h2 h3 t ht
    by_cases hk : k < xs.length
    · obtain ⟨u1, u2, u3, u4⟩ := racc_u h hk
      rw [uf, dif_pos hk]
      by_cases hc : xs.getD k 0 = 91
      · rw [if_pos hc]
        obtain ⟨a1, a2, a3, a4, a5, a6, a7, a8⟩ := u1 hc
        obtain ⟨c1, c2, c3⟩ := racc_close h _ (k + 1) (Nat.le_refl _) (by omega) a6
        have e1 : sk xs 93 93 k = sk xs 93 93 (k + 1) := sk_nx hk (by omega)
        have e2 : sk xs 47 93 k = sk xs 47 93 (k + 1) := sk_nx hk (by omega)
        have g1 := sk_ge xs 93 93 (k + 1) (by omega)
        have g2 := sk_ge xs 47 93 (k + 1) (by omega)
        have g3 := sk_sub (xs := xs) _ (k + 1) (Nat.le_refl _)
        have hR : sk xs 93 93 (sk xs 47 93 (k + 1)) = sk xs 93 93 (k + 1) := sk_hop _ _ _ (Nat.le_refl _) (by omega) (by omega)
        have hat := sk_at (xs := xs) (c := 47) (d := 93) _ (k + 1) (Nat.le_refl _) (by omega)
        obtain ⟨-, w2, w3, -⟩ := racc_u h (show sk xs 47 93 (k + 1) < xs.length by omega)
        have hcl : xs.getD (sk xs 93 93 (k + 1)) 0 = 93 := by
          rcases sk_at (xs := xs) (c := 93) (d := 93) _ (k + 1) (Nat.le_refl _) (by omega) with q | q <;> exact q
        obtain ⟨-, x2, -⟩ := racc_u h (show sk xs 93 93 (k + 1) < xs.length by omega)
        obtain ⟨y1, y2, y3, y4, y5, y6, y7⟩ := racc_8 h (k := sk xs 93 93 (k + 1) + 1) (by omega) (x2 hcl).2.2.2.1
        rw [e1, e2]
        obtain ⟨t2, p1, p2⟩ := run_psn (xs := xs) (op := k) (be := sk xs 47 93 (k + 1)) (cl := sk xs 93 93 (k + 1)) (fun ps t0 ht0 => by
          obtain ⟨t3, q1, q2⟩ := run_piece h g2 (by omega) (fun j j1 j2 => by
            have hb := sk_bef _ (k + 1) j (Nat.le_refl _) j1 j2
            obtain ⟨v1, -⟩ := racc_u h (show j < xs.length by omega)
            exact ⟨fun q => by have := (v1 q).2.2.1; have := c3 j j1 (by omega); omega, hb.1, hb.2⟩) ⟨a4, a5, a7, a8⟩ (by
            rcases hat with q | q
            · exact ⟨(w3 q).1, (w3 q).2.1⟩
            · exact ⟨(w2 q).1, (w2 q).2.1⟩) ht0
          obtain ⟨t4, q3, q4⟩ := run_end h (ps := ps) (show sk xs 93 93 (k + 1) < xs.length by omega) _ (sk xs 47 93 (k + 1)) (Nat.le_refl _) g3 hR (fun j j1 j2 => c3 j (by omega) j2) t3 q2
          exact ⟨t4, by rw [rl_app q1]; exact q3, q4⟩) (dg (tat xs ((sk xs 93 93 (k + 1) : Int) + 1))).toNat t (sim_gdt ht (racc_ok h k h2) a1 a2)
        rw [rl_app p1, show max k (sk xs 93 93 (k + 1) + 1) + 1 = sk xs 93 93 (k + 1) + 1 + 1 by omega]
        exact ih _ (by omega) (by omega) (by rw [y7]; exact (x2 hcl).2.2.2.2) t2 (gdt_sim p2 y3 y4 y5 y6)
      · rw [if_neg hc]
        have n2 : xs.getD k 0 ≠ 47 := fun q => by have := (u3 q).2.2.1; omega
        have n3 : xs.getD k 0 ≠ 93 := fun q => by have := (u2 q).2.2.1; omega
        obtain ⟨t1, g1, g2⟩ := sim_step (racc_ok h k h2).2.1.1 (racc_inv h hk) ht hc n2 n3
        obtain ⟨t2, g3, g4⟩ := ih (k + 1) (by omega) (by omega) (by rw [u4 hc n3]; exact h3) t1 g2
        refine ⟨t2, ?_, g4⟩
        show (match gsZ t _ with | none => none | some t2 => rl t2 _) = _
        rw [g1]
        exact g3
    · have e : k = xs.length := by omega
      rw [uf, dif_neg (by omega)]
      exact ⟨t, rfl, sim_gdt ht (racc_ok h k h2) (by rw [e]; exact h.2.2.1) (by rw [e]; exact h.2.2.2.1)⟩
theorem rl_acc : ∀ (us : List Int) (t t2 : GS), rl t us = some t2 → t.2.2.2.1 = 0 → ∃ A : Nat → GS, A 0 = t ∧ (∀ k, k < us.length → gsS (A k) (us.getD k 0) = some (A (k + 1))) ∧ A us.length = t2 ∧ ∀ k, k ≤ us.length → (A k).2.2.2.1 = 0 := by
  intro us
  induction us with
  | nil => intro t t2 h h0; cases h; exact ⟨fun _ => t, rfl, fun k hk => absurd hk (Nat.not_lt_zero k), rfl, fun _ _ => h0⟩
  | cons c r ih =>
    intro t t2 h h0
    have h' : (match gsZ t c with | none => none | some t2 => rl t2 r) = some t2 := h
    cases hg : gsZ t c with
    | none => rw [hg] at h'; cases h'
    | some t3 =>
      rw [hg] at h'
      have hS : gsS t c = some t3 ∧ t3.2.2.2.1 = 0 := by
        unfold gsZ at hg
        cases hq : gsS t c with
        | none => rw [hq] at hg; cases hg
        | some t4 =>
          rw [hq] at hg
          dsimp only at hg
          split at hg
          · cases hg; exact ⟨rfl, ‹_›⟩
          · cases hg
      obtain ⟨A, a1, a2, a3, a4⟩ := ih t3 t2 h' hS.2
      refine ⟨fun k => match k with | 0 => t | k + 1 => A k, rfl, fun k hk => ?_, a3, fun k hk => ?_⟩
      · cases k with
        | zero => show gsS t c = some (A 0); rw [a1]; exact hS.1
        | succ k => exact a2 k (by simpa using hk)
      · cases k with
        | zero => exact h0
        | succ k => exact a4 k (by simpa using hk)
/-- what the grammar takes is good -/
theorem gtu_of {xs : List Int} (h : gwb xs = -9) (hl : xs.length ≤ 100) (hc : ∀ c ∈ xs, 0 ≤ c ∧ c ≤ 126) : gtu xs := by
  have hr := racc_of h
  have hb := racc_bwf hr
  have hs := racc_swf hr
  have hu := uf_len hb hs _ 0 (Nat.le_refl _)
  refine ⟨hl, hb, hs, by omega, ?_, fun c q => hc c (uf_mem _ 0 (Nat.le_refl _) q)⟩
  obtain ⟨t2, r1, r2⟩ := run_uf hr _ 0 (Nat.le_refl _) (Nat.zero_le _) (by rw [hr.1]) (0, 0, 0, 0, 0, 0) (by rw [hr.1]; exact ⟨rfl, rfl, fun _ => rfl, rfl, by decide, by decide, by decide⟩)
  obtain ⟨A, a1, a2, a3, a4⟩ := rl_acc _ _ _ r1 rfl
  exact ⟨A, a1, a2, by rw [a3]; exact r2.1, a4⟩
theorem gtu_wfr {xs : List Int} (h : gtu xs) : wfr xs := by
  intro k hk hc
  obtain ⟨b1, b2⟩ := h.2.1 k hk hc
  rw [tat_lt (k := sk xs 93 93 k + 1) (by omega) b1]
  omega
theorem gtx_okx {xs : List Int} (h : gtx xs) : okx xs := by
  obtain ⟨A, hA⟩ := h.1.2.2.2.2.1
  exact ⟨h.1.1, gtu_wfr h.1, h.1.2.2.2.1, acc_bok hA h.1.2.2.2.1 h.2⟩
theorem gtu_tgood {xs : List Int} (hl : xs.length ≤ 100) (hc : ∀ c ∈ xs, 0 ≤ c ∧ c ≤ 126) : tgood xs := by
  intro h
  have hg := gtu_of h hl hc
  obtain ⟨A, hA⟩ := hg.2.2.2.2.1
  exact ⟨gtu_wfr hg, hg.2.2.2.1, fun q => acc_bok hA hg.2.2.2.1 q⟩
/-- what spread writes -/
theorem uf_plain {xs : List Int} (h : ∀ c ∈ xs, c ≠ 91) : ∀ (n k : Nat), xs.length - k ≤ n → k ≤ xs.length → uf xs k = xs.drop k := by
  intro n
  induction n with
  | zero => intro k h1 h2; rw [uf, dif_neg (by omega), List.drop_eq_nil_of_le (by omega)]
  | succ n ih =>
    intro k h1 h2
    by_cases hk : k < xs.length
    · rw [uf, dif_pos hk, if_neg (h _ (am_gd hk)), ih (k + 1) (by omega) (by omega), List.drop_eq_getElem_cons hk]
      congr 1
      simp [List.getD_eq_getElem?_getD, List.getElem?_eq_getElem hk]
    · rw [uf, dif_neg hk, List.drop_eq_nil_of_le (by omega)]
theorem gw_let {l : Int} (hl : 0 ≤ hv l) {w q y : Int} {vs : List Int} {k : Int} : gw (0, 0, w, 0, q, y) (l :: vs) k = gw (0, 0, 1, 0, 2, 1) vs (k + 1) ∧ gw (2, 0, w, 0, q, y) (l :: vs) k = gw (0, 0, 1, 0, 2, 0) vs (k + 1) ∧ gw (0, 0, w, 0, q, y) (114 :: vs) k = gw (2, 0, w, 0, 0, 0) vs (k + 1) := by
  refine ⟨?_, ?_, ?_⟩
  · rcases hv_c hl with rfl | rfl | rfl | rfl | rfl | rfl <;> simp [gw, gst, gsI, hv]
  · rcases hv_c hl with rfl | rfl | rfl | rfl | rfl | rfl <;> simp [gw, gst, hv]
  · simp [gw, gst, gsI]
def sprb (h st l : Nat) (i n : Nat) : List Int := match n with
  | 0 => []
  | n + 1 => ((if h ≤ i * h % st then [114] else []) ++ [(l : Int)]) ++ sprb h st l (i + 1) n
theorem sprb_snoc (h st l : Nat) : ∀ n i, sprb h st l i (n + 1) = sprb h st l i n ++ ((if h ≤ (i + n) * h % st then [114] else []) ++ [(l : Int)]) := by
  intro n
  induction n with
  | zero => intro i; simp [sprb]
  | succ n ih =>
    intro i
    rw [sprb, ih (i + 1), sprb, show i + 1 + n = i + (n + 1) by omega]
    simp only [List.append_assoc]
theorem sprd_sprb (h st l : Nat) : ∀ n, sprd h st l n = sprb h st l 0 n := by
  intro n
  induction n with
  | zero => rfl
  | succ n ih => rw [sprd, ih, sprb_snoc, Nat.zero_add]
theorem gw_sprb {h st l : Nat} (hl : 0 ≤ hv (l : Int)) : ∀ n i (w q y k : Int), gw (0, 0, w, 0, q, y) (sprb h st l i n) k = -9 := by
  intro n
  induction n with
  | zero => intro i w q y k; rw [sprb, gw_nil]; simp
  | succ n ih =>
    intro i w q y k
    rw [sprb]
    split
    · show gw _ (114 :: (l : Int) :: sprb h st l (i + 1) n) k = -9
      rw [(gw_let hl).2.2, (gw_let hl).2.1]; exact ih _ _ _ _ _
    · show gw _ ((l : Int) :: sprb h st l (i + 1) n) k = -9
      rw [(gw_let hl).1]; exact ih _ _ _ _ _
theorem sprd_ne {h st l : Nat} (hl : 0 ≤ hv (l : Int)) : ∀ i, ∀ c ∈ sprd h st l i, c ≠ 91 := by
  intro i
  induction i with
  | zero => intro c hc; cases hc
  | succ i ih =>
    intro c hc
    rcases List.mem_append.mp hc with q | q
    · exact ih c q
    · rcases List.mem_append.mp q with q | q
      · split at q
        · rw [List.mem_singleton.mp q]; decide
        · cases q
      · rw [List.mem_singleton.mp q]
        have := hv_c hl; omega
theorem gtx_sprd {h st l : Nat} (hst : st ≤ 32) (hl : 0 ≤ hv (l : Int)) (h126 : l ≤ 126) : gtx (sprd h st l st) := by
  have h1 := sprd_len h st l st
  refine ⟨gtu_of (by unfold gwb; rw [sprd_sprb]; exact gw_sprb hl _ _ _ _ _ _) (by omega) (sprd_c h126), ?_⟩
  rw [uf_plain (sprd_ne hl st) _ 0 (Nat.le_refl _) (Nat.zero_le _), List.drop_zero]
  have := lets_le (sprd h st l st)
  omega
