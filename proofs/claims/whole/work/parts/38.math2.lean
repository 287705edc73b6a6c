/-! sums; the Chinese remainder; merging two rising rows -/
def sumN (f : Nat → Int) (n : Nat) : Int := match n with
  | 0 => 0
  | n + 1 => sumN f n + f n
theorem sumN_congr {f g : Nat → Int} : ∀ n, (∀ k, k < n → f k = g k) → sumN f n = sumN g n := by
  intro n
  induction n with
  | zero => intro _; rfl
  | succ n ih =>
    intro h
    show sumN f n + f n = sumN g n + g n
    rw [ih (fun k hk => h k (by omega)), h n (by omega)]
theorem sumN_zero {f : Nat → Int} : ∀ n, (∀ k, k < n → f k = 0) → sumN f n = 0 := by
  intro n
  induction n with
  | zero => intro _; rfl
  | succ n ih =>
    intro h
    show sumN f n + f n = 0
    rw [ih (fun k hk => h k (by omega)), h n (by omega)]; rfl
theorem sumN_add (f g : Nat → Int) (n : Nat) : sumN (fun k => f k + g k) n = sumN f n + sumN g n := by
  induction n with
  | zero => rfl
  | succ n ih =>
    show sumN (fun k => f k + g k) n + (f n + g n) = (sumN f n + f n) + (sumN g n + g n)
    rw [ih]; omega
theorem sumN_swap (f : Nat → Nat → Int) (n m : Nat) : sumN (fun i => sumN (f i) m) n = sumN (fun j => sumN (fun i => f i j) n) m := by
  induction n with
  | zero => exact (sumN_zero m (fun k _ => rfl)).symm
  | succ n ih =>
    show sumN (fun i => sumN (f i) m) n + sumN (f n) m = sumN (fun j => sumN (fun i => f i j) n + f n j) m
    rw [sumN_add, ih]
theorem sumN_flat {f : Nat → Int} {a : Nat} : ∀ b, a ≤ b → (∀ t, a ≤ t → t < b → f t = 0) → sumN f b = sumN f a := by
  intro b
  induction b with
  | zero => intro h _; rw [show a = 0 by omega]
  | succ b ih =>
    intro h h2
    by_cases hq : a = b + 1
    · rw [hq]
    · show sumN f b + f b = _
      rw [ih (by omega) (fun t h3 h4 => h2 t h3 (by omega)), h2 b (by omega) (by omega)]; omega
theorem sumN_one {f : Nat → Int} {n t0 : Nat} (h0 : t0 < n) (h1 : f t0 = 1) (h2 : ∀ t, t < n → t ≠ t0 → f t = 0) : sumN f n = 1 := by
  rw [sumN_flat (a := t0 + 1) n (by omega) (fun t h3 h4 => h2 t h4 (by omega))]
  show sumN f t0 + f t0 = 1
  rw [sumN_zero t0 (fun k hk => h2 k (by omega) (by omega)), h1]; rfl
theorem bezout (m n : Nat) : ∃ x y : Int, x * m + y * n = (Nat.gcd m n : Int) := by
  induction m, n using Nat.gcd.induction with
  | H0 n => exact ⟨0, 1, by simp⟩
  | H1 m n hm ih =>
    obtain ⟨x, y, h⟩ := ih
    refine ⟨y - x * (n / m : Nat), x, ?_⟩
    rw [Nat.gcd_rec m n, ← h]
    have hd : (n : Int) = (m : Int) * (n / m : Nat) + (n % m : Nat) := by
      have := Nat.div_add_mod n m
      rw [← Int.natCast_mul, ← Int.natCast_add, this]
    generalize ((n / m : Nat) : Int) = e at *
    generalize ((n % m : Nat) : Int) = r at *
    rw [hd, Int.sub_mul, Int.mul_add]
    have : x * e * (m : Int) = x * ((m : Int) * e) := by ac_rfl
    omega
theorem crt_ex {p q a b : Nat} (hp : a < p) (hq : b < q) (hd : ((a : Int) - b).tmod (Nat.gcd p q) = 0) : ∃ t, t < p / Nat.gcd p q * q ∧ a = t % p ∧ b = t % q := by
  obtain ⟨x, y, hxy⟩ := bezout p q
  have hg : 0 < Nat.gcd p q := Nat.gcd_pos_of_pos_left _ (by omega)
  obtain ⟨k, hk⟩ := Int.dvd_of_tmod_eq_zero hd
  obtain ⟨p1, hp1⟩ := Nat.gcd_dvd_left p q
  obtain ⟨q1, hq1⟩ := Nat.gcd_dvd_right p q
  have hdiv : p / Nat.gcd p q = p1 := by
    conv => lhs; lhs; rw [hp1]
    exact Nat.mul_div_cancel_left _ hg
  rw [hdiv]
  have hp10 : 0 < p1 := by
    rcases Nat.eq_zero_or_pos p1 with h | h
    · rw [h, Nat.mul_zero] at hp1; omega
    · exact h
  have hL0 : (0 : Int) < ((p1 * q : Nat) : Int) := by
    have : 0 < p1 * q := Nat.mul_pos hp10 (by omega)
    omega
  -- t0 = a - p x k = b + q y k
  have e1 : (a : Int) - p * (x * k) = b + q * (y * k) := by
    have h1 : (x * p + y * q) * k = (a : Int) - b := by rw [hxy]; exact hk.symm
    rw [Int.add_mul] at h1
    have h2 : x * (p : Int) * k = p * (x * k) := by ac_rfl
    have h3 : y * (q : Int) * k = q * (y * k) := by ac_rfl
    omega
  have ep : ((p1 * q : Nat) : Int) = (p : Int) * q1 := by
    rw [Int.natCast_mul]
    have h1 : (p : Int) = (Nat.gcd p q : Int) * p1 := by rw [← Int.natCast_mul, ← hp1]
    have h2 : (q : Int) = (Nat.gcd p q : Int) * q1 := by rw [← Int.natCast_mul, ← hq1]
    conv => lhs; rw [h2]
    conv => rhs; rw [h1]
    ac_rfl
  have hr0 := Int.emod_nonneg ((a : Int) - p * (x * k)) (show ((p1 * q : Nat) : Int) ≠ 0 by omega)
  have hr1 := Int.emod_lt_of_pos ((a : Int) - p * (x * k)) hL0
  have hdm := Int.emod_add_mul_ediv ((a : Int) - p * (x * k)) ((p1 * q : Nat) : Int)
  generalize ((a : Int) - p * (x * k)) / ((p1 * q : Nat) : Int) = w at hdm
  generalize hT : ((a : Int) - p * (x * k)) % ((p1 * q : Nat) : Int) = T at hr0 hr1 hdm
  have eT : (T.toNat : Int) = T := by omega
  refine ⟨T.toNat, by omega, ?_, ?_⟩
  · have h1 : T = (a : Int) + (p : Int) * (-(x * k) - q1 * w) := by
      rw [ep] at hdm
      have h2 : (p : Int) * q1 * w = p * (q1 * w) := by ac_rfl
      have h3 : (p : Int) * (-(x * k) - q1 * w) = -(p * (x * k)) - p * (q1 * w) := by rw [Int.mul_sub, Int.mul_neg]
      omega
    have h4 : ((T.toNat % p : Nat) : Int) = (a : Int) := by
      rw [Int.natCast_emod, eT, h1, Int.add_mul_emod_self_left]
      exact Int.emod_eq_of_lt (by omega) (by omega)
    omega
  · have h1 : T = (b : Int) + (q : Int) * (y * k - p1 * w) := by
      rw [e1, Int.natCast_mul] at hdm
      have h2 : (p1 : Int) * q * w = q * (p1 * w) := by ac_rfl
      have h3 : (q : Int) * (y * k - p1 * w) = q * (y * k) - q * (p1 * w) := by rw [Int.mul_sub]
      omega
    have h4 : ((T.toNat % q : Nat) : Int) = (b : Int) := by
      rw [Int.natCast_emod, eT, h1, Int.add_mul_emod_self_left]
      exact Int.emod_eq_of_lt (by omega) (by omega)
    omega
theorem md_dvd {p t t2 : Nat} (e : t % p = t2 % p) (h : t ≤ t2) : p ∣ t2 - t := by
  refine ⟨t2 / p - t / p, ?_⟩
  have h1 := Nat.div_add_mod t p
  have h2 := Nat.div_add_mod t2 p
  rw [Nat.mul_sub]
  omega
theorem crt_un {p q t t2 : Nat} (hp : 0 < p) (hq : 0 < q) (h1 : t < p / Nat.gcd p q * q) (h2 : t2 < p / Nat.gcd p q * q) (e1 : t % p = t2 % p) (e2 : t % q = t2 % q) (hle : t ≤ t2) : t = t2 := by
  have d1 : p ∣ t2 - t := md_dvd e1 hle
  have d2 : q ∣ t2 - t := md_dvd e2 hle
  have d3 := Nat.lcm_dvd d1 d2
  have hl : Nat.lcm p q = p / Nat.gcd p q * q := by
    unfold Nat.lcm
    exact (Nat.div_mul_right_comm (Nat.gcd_dvd_left p q) q).symm
  rw [hl] at d3
  rcases Nat.eq_zero_or_pos (t2 - t) with h | h
  · omega
  · have := Nat.le_of_dvd h d3
    omega
theorem crt_cnt {p q a b : Nat} (hp : a < p) (hq : b < q) : sumN (fun t => if a = t % p ∧ b = t % q then 1 else 0) (p / Nat.gcd p q * q) = (if ((a : Int) - b).tmod (Nat.gcd p q) = 0 then 1 else 0) := by
  by_cases hd : ((a : Int) - b).tmod (Nat.gcd p q) = 0
  · rw [if_pos hd]
    obtain ⟨t, ht, e1, e2⟩ := crt_ex hp hq hd
    refine sumN_one ht (if_pos ⟨e1, e2⟩) (fun t2 ht2 hne => if_neg (fun q2 => hne ?_))
    rcases Nat.le_total t t2 with h | h
    · exact (crt_un (by omega) (by omega) ht ht2 (by omega) (by omega) h).symm
    · exact crt_un (by omega) (by omega) ht2 ht (by omega) (by omega) h
  · rw [if_neg hd]
    refine sumN_zero _ (fun t ht => if_neg (fun q2 => hd ?_))
    apply Int.tmod_eq_zero_of_dvd
    have f1 : (Nat.gcd p q : Int) ∣ (t : Int) - a := by
      have h1 := Nat.div_add_mod t p
      obtain ⟨c, hc⟩ := Nat.gcd_dvd_left p q
      refine ⟨(c : Int) * (t / p : Nat), ?_⟩
      rw [← Int.mul_assoc, ← Int.natCast_mul, ← hc, ← Int.natCast_mul]
      rw [← q2.1] at h1
      omega
    have f2 : (Nat.gcd p q : Int) ∣ (t : Int) - b := by
      have h1 := Nat.div_add_mod t q
      obtain ⟨c, hc⟩ := Nat.gcd_dvd_right p q
      refine ⟨(c : Int) * (t / q : Nat), ?_⟩
      rw [← Int.mul_assoc, ← Int.natCast_mul, ← hc, ← Int.natCast_mul]
      rw [← q2.2] at h1
      omega
    have := Int.dvd_sub f2 f1
    rw [show (t : Int) - b - (t - a) = a - b by omega] at this
    exact this
abbrev Bn (P : PS) (i : Nat) : Nat := (p_B P i).toNat
def hit (P Q : PS) (p q t : Nat) : Int := sumN (fun i => sumN (fun j => if Bn P i = t % p ∧ Bn Q j = t % q then 1 else 0) (p_cnt Q)) (p_cnt P)
def noh (P : PS) (p t : Nat) : Prop := ∀ i, i < p_cnt P → Bn P i ≠ t % p
def pmn (P : PS) (p : Nat) : Prop := (∀ i, i < p_cnt P → Bn P i < p) ∧ (∀ i j, i < j → j < p_cnt P → Bn P i < Bn P j) ∧ ∀ i, i < p_cnt P → 0 ≤ p_B P i
theorem msum_sum (P Q : PS) (d : Int) : ∀ i, msum P Q d i = sumN (fun i => sumN (fun j => if (p_B P i - p_B Q j).tmod d = 0 then 1 else 0) (p_cnt Q)) i := by
  have hr : ∀ i j, mrow P Q d i j = sumN (fun j => if (p_B P i - p_B Q j).tmod d = 0 then 1 else 0) j := by
    intro i j
    induction j with
    | zero => rfl
    | succ j ih => show mrow P Q d i j + _ = sumN _ j + _; rw [ih]
  intro i
  induction i with
  | zero => rfl
  | succ i ih => show msum P Q d i + _ = sumN _ i + _; rw [ih, hr]
theorem hit_sum {P Q : PS} {p q : Nat} (hP : pmn P p) (hQ : pmn Q q) : sumN (hit P Q p q) (p / Nat.gcd p q * q) = msum P Q (Nat.gcd p q) (p_cnt P) := by
  rw [msum_sum]
  unfold hit
  rw [sumN_swap (fun t i => sumN (fun j => if Bn P i = t % p ∧ Bn Q j = t % q then 1 else 0) (p_cnt Q))]
  refine sumN_congr _ (fun i hi => ?_)
  rw [sumN_swap (fun t j => if Bn P i = t % p ∧ Bn Q j = t % q then 1 else 0)]
  refine sumN_congr _ (fun j hj => ?_)
  rw [crt_cnt (hP.1 i hi) (hQ.1 j hj)]
  have h1 := hP.2.2 i hi
  have h2 := hQ.2.2 j hj
  rw [show ((Bn P i : Nat) : Int) = p_B P i by unfold Bn; omega, show ((Bn Q j : Nat) : Int) = p_B Q j by unfold Bn; omega]
theorem hit_nx {P Q : PS} {p q t : Nat} (h : noh P p t) : hit P Q p q t = 0 :=
  sumN_zero _ (fun i hi => sumN_zero _ (fun j _ => if_neg (fun q => h i hi q.1)))
theorem hit_ny {P Q : PS} {p q t : Nat} (h : noh Q q t) : hit P Q p q t = 0 :=
  sumN_zero _ (fun _ _ => sumN_zero _ (fun j hj => if_neg (fun q => h j hj q.2)))
theorem pmn_in {P : PS} {p : Nat} (h : pmn P p) {i j : Nat} (hi : i < p_cnt P) (hj : j < p_cnt P) (he : Bn P i = Bn P j) : i = j := by
  rcases Nat.lt_trichotomy i j with q | q | q
  · have := h.2.1 i j q hj; omega
  · exact q
  · have := h.2.1 j i q hi; omega
theorem pmn_le {P : PS} {p : Nat} (h : pmn P p) {i j : Nat} (hij : i ≤ j) (hj : j < p_cnt P) : Bn P i ≤ Bn P j := by
  by_cases q : i = j
  · rw [q]; exact Nat.le_refl _
  · have := h.2.1 i j (by omega) hj; omega
theorem hit_1 {P Q : PS} {p q t i j : Nat} (hP : pmn P p) (hQ : pmn Q q) (hi : i < p_cnt P) (hj : j < p_cnt Q) (e1 : Bn P i = t % p) (e2 : Bn Q j = t % q) : hit P Q p q t = 1 := by
  refine sumN_one hi (sumN_one hj (if_pos ⟨e1, e2⟩) (fun j2 hj2 hne => if_neg (fun q2 => hne (pmn_in hQ hj2 hj (by omega))))) (fun i2 hi2 hne => sumN_zero _ (fun j2 _ => if_neg (fun q2 => hne (pmn_in hP hi2 hi (by omega)))))
theorem mod_off {p a r : Nat} (ha : p ∣ a) (hr : r < p) : (a + r) % p = r := by
  obtain ⟨c, rfl⟩ := ha
  rw [Nat.mul_add_mod, Nat.mod_eq_of_lt hr]
def ni (c i : Nat) : Nat := if i + 1 = c then 0 else i + 1
def na (c i a p : Nat) : Nat := if i + 1 = c then a + p else a
/-- the next place of a row -/
theorem nx_ok {P : PS} {p a i : Nat} (hP : pmn P p) (hi : i < p_cnt P) (ha : p ∣ a) : ni (p_cnt P) i < p_cnt P ∧ p ∣ na (p_cnt P) i a p ∧ a + Bn P i < na (p_cnt P) i a p + Bn P (ni (p_cnt P) i) ∧ ∀ t, a + Bn P i < t → t < na (p_cnt P) i a p + Bn P (ni (p_cnt P) i) → noh P p t := by
  have hb := hP.1 i hi
  unfold ni na
  by_cases hq : i + 1 = p_cnt P
  · rw [if_pos hq, if_pos hq]
    refine ⟨by omega, Nat.dvd_add ha (Nat.dvd_refl p), by omega, fun t h1 h2 k hk => ?_⟩
    have hb0 := hP.1 0 (by omega)
    have hki := pmn_le hP (show k ≤ i by omega) hi
    have hk0 := pmn_le hP (Nat.zero_le k) hk
    by_cases hta : t < a + p
    · have := mod_off ha (show t - a < p by omega)
      rw [show a + (t - a) = t by omega] at this
      omega
    · have := mod_off (Nat.dvd_add ha (Nat.dvd_refl p)) (show t - (a + p) < p by omega)
      rw [show a + p + (t - (a + p)) = t by omega] at this
      omega
  · rw [if_neg hq, if_neg hq]
    have hb1 := hP.1 (i + 1) (by omega)
    have hm := hP.2.1 i (i + 1) (by omega) (by omega)
    refine ⟨by omega, ha, by omega, fun t h1 h2 k hk => ?_⟩
    have := mod_off ha (show t - a < p by omega)
    rw [show a + (t - a) = t by omega] at this
    rcases Nat.lt_or_ge i k with q | q
    · have := pmn_le hP (show i + 1 ≤ k from q) hk; omega
    · have := pmn_le hP q hi; omega
theorem na_le {p L a c i : Nat} (hp : p ∣ L) (ha : p ∣ a) (hL : a < L) : na c i a p ≤ L ∧ (na c i a p = L → ni c i = 0) := by
  unfold na ni
  by_cases hq : i + 1 = c
  · rw [if_pos hq, if_pos hq]
    obtain ⟨u, rfl⟩ := hp
    obtain ⟨v, rfl⟩ := ha
    refine ⟨?_, fun _ => rfl⟩
    have : v < u := Nat.lt_of_mul_lt_mul_left hL
    have := Nat.mul_le_mul_left p (show v + 1 ≤ u from this)
    rw [Nat.mul_add, Nat.mul_one] at this
    exact this
  · rw [if_neg hq, if_neg hq]
    exact ⟨by omega, fun h => by omega⟩
def mgi (P Q : PS) (p q L i a j b : Nat) (n : Int) : Prop := (i < p_cnt P ∧ p ∣ a ∧ a ≤ L ∧ (a = L → i = 0)) ∧ (j < p_cnt Q ∧ q ∣ b ∧ b ≤ L ∧ (b = L → j = 0)) ∧ n = sumN (hit P Q p q) (min (a + Bn P i) (b + Bn Q j)) ∧ (∀ t, min (a + Bn P i) (b + Bn Q j) ≤ t → t < a + Bn P i → noh P p t) ∧ ∀ t, min (a + Bn P i) (b + Bn Q j) ≤ t → t < b + Bn Q j → noh Q q t
theorem mgi_0 {P Q : PS} {p q L : Nat} (hP : pmn P p) (hQ : pmn Q q) (hi : 0 < p_cnt P) (hj : 0 < p_cnt Q) : mgi P Q p q L 0 0 0 0 0 := by
  have h0 : ∀ t, t < 0 + Bn P 0 → noh P p t := fun t ht k hk => by
    have h1 := hP.1 0 hi
    have h2 := pmn_le hP (Nat.zero_le k) hk
    rw [Nat.mod_eq_of_lt (show t < p by omega)]; omega
  have h1 : ∀ t, t < 0 + Bn Q 0 → noh Q q t := fun t ht k hk => by
    have h1 := hQ.1 0 hj
    have h2 := pmn_le hQ (Nat.zero_le k) hk
    rw [Nat.mod_eq_of_lt (show t < q by omega)]; omega
  exact ⟨⟨hi, Nat.dvd_zero p, Nat.zero_le _, fun _ => rfl⟩, ⟨hj, Nat.dvd_zero q, Nat.zero_le _, fun _ => rfl⟩, (sumN_zero _ (fun t ht => hit_nx (h0 t (by omega)))).symm, fun t _ ht => h0 t ht, fun t _ ht => h1 t ht⟩
theorem mgi_lt {P Q : PS} {p q L i a j b : Nat} {n : Int} (hP : pmn P p) (h : mgi P Q p q L i a j b n) (hpL : p ∣ L) (haL : a < L) (hlt : a + Bn P i < b + Bn Q j) : mgi P Q p q L (ni (p_cnt P) i) (na (p_cnt P) i a p) j b n := by
  obtain ⟨⟨h1, h2, h3, h4⟩, h5, h6, h7, h8⟩ := h
  obtain ⟨n1, n2, n3, n4⟩ := nx_ok hP h1 h2
  rw [Nat.min_eq_left (by omega)] at h6 h7 h8
  refine ⟨⟨n1, n2, na_le hpL h2 haL⟩, h5, ?_, fun t h9 h10 => n4 t (by omega) h10, fun t h9 h10 => h8 t (by omega) h10⟩
  rw [h6]
  exact (sumN_flat _ (by omega) (fun t h9 h10 => hit_ny (h8 t h9 (by omega)))).symm
theorem mgi_gt {P Q : PS} {p q L i a j b : Nat} {n : Int} (hQ : pmn Q q) (h : mgi P Q p q L i a j b n) (hqL : q ∣ L) (hbL : b < L) (hlt : b + Bn Q j < a + Bn P i) : mgi P Q p q L i a (ni (p_cnt Q) j) (na (p_cnt Q) j b q) n := by
  obtain ⟨h5, ⟨h1, h2, h3, h4⟩, h6, h7, h8⟩ := h
  obtain ⟨n1, n2, n3, n4⟩ := nx_ok hQ h1 h2
  rw [Nat.min_eq_right (by omega)] at h6 h7 h8
  refine ⟨h5, ⟨n1, n2, na_le hqL h2 hbL⟩, ?_, fun t h9 h10 => h7 t (by omega) h10, fun t h9 h10 => n4 t (by omega) h10⟩
  rw [h6]
  exact (sumN_flat _ (by omega) (fun t h9 h10 => hit_nx (h7 t h9 (by omega)))).symm
theorem mgi_eq {P Q : PS} {p q L i a j b : Nat} {n : Int} (hP : pmn P p) (hQ : pmn Q q) (h : mgi P Q p q L i a j b n) (hpL : p ∣ L) (haL : a < L) (hqL : q ∣ L) (hbL : b < L) (he : a + Bn P i = b + Bn Q j) : mgi P Q p q L (ni (p_cnt P) i) (na (p_cnt P) i a p) (ni (p_cnt Q) j) (na (p_cnt Q) j b q) (n + 1) := by
  obtain ⟨⟨h1, h2, h3, h4⟩, ⟨j1, j2, j3, j4⟩, h6, h7, h8⟩ := h
  obtain ⟨n1, n2, n3, n4⟩ := nx_ok hP h1 h2
  obtain ⟨m1, m2, m3, m4⟩ := nx_ok hQ j1 j2
  rw [Nat.min_eq_left (by omega)] at h6
  refine ⟨⟨n1, n2, na_le hpL h2 haL⟩, ⟨m1, m2, na_le hqL j2 hbL⟩, ?_, fun t h9 h10 => n4 t (by omega) h10, fun t h9 h10 => m4 t (by omega) h10⟩
  have h11 : hit P Q p q (a + Bn P i) = 1 := hit_1 hP hQ h1 j1 (mod_off h2 (hP.1 i h1)).symm (by rw [he]; exact (mod_off j2 (hQ.1 j j1)).symm)
  have h12 : sumN (hit P Q p q) (a + Bn P i + 1) = n + 1 := by
    show sumN (hit P Q p q) (a + Bn P i) + _ = _
    rw [h11, ← h6]
  rw [← h12]
  exact (sumN_flat _ (by omega) (fun t h9 h10 => hit_nx (n4 t (by omega) (by omega)))).symm
theorem mgi_end {P Q : PS} {p q L i a j b : Nat} {n : Int} (hP : pmn P p) (hQ : pmn Q q) (h : mgi P Q p q L i a j b n) (he : L ≤ a ∨ L ≤ b) : n = sumN (hit P Q p q) L := by
  obtain ⟨⟨h1, h2, h3, h4⟩, ⟨j1, j2, j3, j4⟩, h6, h7, h8⟩ := h
  rw [h6]
  rcases he with he | he
  · have haL : a = L := by omega
    have hi := h4 haL
    rcases Nat.le_total (min (a + Bn P i) (b + Bn Q j)) L with q | q
    · exact (sumN_flat _ q (fun t h9 h10 => hit_nx (h7 t h9 (by omega)))).symm
    · refine sumN_flat _ q (fun t h9 h10 => hit_nx (fun k hk => ?_))
      have hb := hP.1 i h1
      have hk0 := pmn_le hP (show i ≤ k by omega) hk
      have := mod_off h2 (show t - a < p by omega)
      rw [show a + (t - a) = t by omega] at this
      omega
  · have haL : b = L := by omega
    have hi := j4 haL
    rcases Nat.le_total (min (a + Bn P i) (b + Bn Q j)) L with q1 | q1
    · exact (sumN_flat _ q1 (fun t h9 h10 => hit_ny (h8 t h9 (by omega)))).symm
    · refine sumN_flat _ q1 (fun t h9 h10 => hit_ny (fun k hk => ?_))
      have hb := hQ.1 j j1
      have hk0 := pmn_le hQ (show j ≤ k by omega) hk
      have := mod_off j2 (show t - b < q by omega)
      rw [show b + (t - b) = t by omega] at this
      omega
theorem gtx_pmn {xs : List Int} (h : gtx xs) {P : PS} (hPe : psc xs = P) : pmn P (p_tot P).toNat := by
  obtain ⟨L, k, b, hg⟩ := gtx_pgd h
  rw [hPe] at hg
  obtain ⟨⟨g1, g2, g3, g4, g5, g6, g7, g8, g9⟩, -, -, -, -, -, q7, q8⟩ := hg
  refine ⟨fun i hi => ?_, fun i j hij hj => ?_, fun i hi => (g8 i hi).1.1⟩
  · have := g8 i hi
    have := q7 i hi
    unfold Bn; omega
  · have := q8 i j hij hj
    have := g8 i (by omega)
    unfold Bn; omega
