theorem am_lt3 {a b : Int} (h : (-2147483648 ≤ a ∧ a ≤ 2147483647) ∧ (-2147483648 ≤ b ∧ b ≤ 2147483647)) : Int32.ofInt a < Int32.ofInt b ↔ a < b := Int32.ofInt_lt_iff_lt h.1.1 h.1.2 h.2.1 h.2.2
theorem am_le3 {a b : Int} (h : (-2147483648 ≤ a ∧ a ≤ 2147483647) ∧ (-2147483648 ≤ b ∧ b ≤ 2147483647)) : Int32.ofInt a ≤ Int32.ofInt b ↔ a ≤ b := Int32.ofInt_le_iff_le h.1.1 h.1.2 h.2.1 h.2.2
theorem am_to3 {a : Int} (h : (-2147483648 ≤ a ∧ a ≤ 2147483647)) : (Int32.ofInt a).toInt = a := Int32.toInt_ofInt_of_le h.1 (by have := h.2; omega)
theorem am_eq3 {a b : Int} (h : (-2147483648 ≤ a ∧ a ≤ 2147483647) ∧ (-2147483648 ≤ b ∧ b ≤ 2147483647)) : Int32.ofInt a = Int32.ofInt b ↔ a = b := ⟨fun e => by rw [← am_to3 h.1, e, am_to3 h.2], fun e => by rw [e]⟩
theorem am_lt6 {a b : Int} (h : (-9223372036854775808 ≤ a ∧ a ≤ 9223372036854775807) ∧ (-9223372036854775808 ≤ b ∧ b ≤ 9223372036854775807)) : Int64.ofInt a < Int64.ofInt b ↔ a < b := Int64.ofInt_lt_iff_lt h.1.1 h.1.2 h.2.1 h.2.2
theorem am_le6 {a b : Int} (h : (-9223372036854775808 ≤ a ∧ a ≤ 9223372036854775807) ∧ (-9223372036854775808 ≤ b ∧ b ≤ 9223372036854775807)) : Int64.ofInt a ≤ Int64.ofInt b ↔ a ≤ b := Int64.ofInt_le_iff_le h.1.1 h.1.2 h.2.1 h.2.2
theorem am_to6 {a : Int} (h : (-9223372036854775808 ≤ a ∧ a ≤ 9223372036854775807)) : (Int64.ofInt a).toInt = a := Int64.toInt_ofInt_of_le h.1 (by have := h.2; omega)
theorem am_eq6 {a b : Int} (h : (-9223372036854775808 ≤ a ∧ a ≤ 9223372036854775807) ∧ (-9223372036854775808 ≤ b ∧ b ≤ 9223372036854775807)) : Int64.ofInt a = Int64.ofInt b ↔ a = b := ⟨fun e => by rw [← am_to6 h.1, e, am_to6 h.2], fun e => by rw [e]⟩
theorem am_tn3 {j : Nat} (h : j < 2147483648) : (Int32.ofInt (j : Int)).toNatClampNeg = j := by rw [Int32.ofInt_eq_ofNat]; exact nI_clamp h
theorem am_in3 {z : Int} {j n : Nat} (hz : z = (j : Int)) (hj : j < n) (hn : n < 2147483648) : vp_in (Int32.ofInt z) n := by subst hz; rw [Int32.ofInt_eq_ofNat]; exact vp_in_nI hj hn
theorem am_c3 {a : Int} (h : 0 ≤ a ∧ a ≤ 65535) : (Int32.ofInt a).toUInt32.toUInt16.toUInt32.toInt32 = Int32.ofInt a := by
  obtain ⟨k, rfl⟩ := Int.eq_ofNat_of_zero_le h.1
  have hk : k < 65536 := by omega
  have e : Int32.ofInt (k : Int) = Int32.ofNat k := Int32.ofInt_eq_ofNat
  rw [e]
  apply Int32.toBitVec.inj
  simp
  apply BitVec.eq_of_toNat_eq
  simp
  omega
theorem am_c3b {a : Int} (h : 0 ≤ a ∧ a ≤ 65535) : ((Int32.ofInt a).toUInt32 % 65536).toInt32 = Int32.ofInt a := by
  obtain ⟨k, rfl⟩ := Int.eq_ofNat_of_zero_le h.1
  have hk : k < 65536 := by omega
  have e : Int32.ofInt (k : Int) = Int32.ofNat k := Int32.ofInt_eq_ofNat
  rw [e]
  apply Int32.toBitVec.inj
  simp
  apply BitVec.eq_of_toNat_eq
  simp
  omega
theorem am_b8 {z : Int} (h : -128 ≤ z ∧ z ≤ 127) : (Int8.ofInt z).toInt32 = Int32.ofInt z := by
  apply Int32.toInt_inj.mp
  rw [am_to3 (by omega), Int8.toInt_toInt32, Int8.toInt_ofInt_of_le h.1 (by omega)]
theorem am_b16 {z : Int} (h : -32768 ≤ z ∧ z ≤ 32767) : (Int16.ofInt z).toInt32 = Int32.ofInt z := by
  apply Int32.toInt_inj.mp
  rw [am_to3 (by omega), Int16.toInt_toInt32, Int16.toInt_ofInt_of_le h.1 (by omega)]
theorem am_i2l {a : Int} (h : (-2147483648 ≤ a ∧ a ≤ 2147483647)) : (Int32.ofInt a).toInt64 = Int64.ofInt a := Int32.toInt64_ofInt h.1 h.2
theorem am_ldiv {a b : Int} (h : (0 ≤ a ∧ a ≤ 9223372036854775807) ∧ (0 < b ∧ b ≤ 9223372036854775807)) : Int64.ofInt a / Int64.ofInt b = Int64.ofInt (a / b) := by
  rw [← Int64.ofInt_tdiv (by have : Int64.minValue.toInt = -9223372036854775808 := rfl
                             omega) h.1.2 (by have : Int64.minValue.toInt = -9223372036854775808 := rfl
                                              omega) h.2.2, Int.tdiv_eq_ediv_of_nonneg h.1.1]
theorem am_idiv {a b : Int} (h : (0 ≤ a ∧ a ≤ 2147483647) ∧ (0 < b ∧ b ≤ 2147483647)) : Int32.ofInt a / Int32.ofInt b = Int32.ofInt (a / b) := by
  rw [← Int32.ofInt_tdiv (by have : Int32.minValue.toInt = -2147483648 := rfl
                             omega) h.1.2 (by have : Int32.minValue.toInt = -2147483648 := rfl
                                              omega) h.2.2, Int.tdiv_eq_ediv_of_nonneg h.1.1]
theorem am_irem {a b : Int} (h : (0 ≤ a ∧ a ≤ 2147483647) ∧ (0 < b ∧ b ≤ 2147483647)) : Int32.ofInt a - Int32.ofInt a / Int32.ofInt b * Int32.ofInt b = Int32.ofInt (a % b) := by
  rw [am_idiv h, ← Int32.ofInt_mul, ← Int32.ofInt_sub]
  congr 1
  have := Int.mul_ediv_add_emod a b
  rw [Int.mul_comm (a / b) b]
  omega
theorem am_lrem {a b : Int} (h : (0 ≤ a ∧ a ≤ 9223372036854775807) ∧ (0 < b ∧ b ≤ 9223372036854775807)) : Int64.ofInt a - Int64.ofInt a / Int64.ofInt b * Int64.ofInt b = Int64.ofInt (a % b) := by
  rw [am_ldiv h, ← Int64.ofInt_mul, ← Int64.ofInt_sub]
  congr 1
  have := Int.mul_ediv_add_emod a b
  rw [Int.mul_comm (a / b) b]
  omega
theorem am_lremS {a b : Int} (h : (-9223372036854775808 ≤ a ∧ a ≤ 9223372036854775807) ∧ (0 < b ∧ b ≤ 9223372036854775807)) : Int64.ofInt a - Int64.ofInt a / Int64.ofInt b * Int64.ofInt b = Int64.ofInt (a.tmod b) := by
  rw [← Int64.ofInt_tdiv h.1.1 h.1.2 (by have : Int64.minValue.toInt = -9223372036854775808 := rfl
                                         omega) h.2.2, ← Int64.ofInt_mul, ← Int64.ofInt_sub]
  congr 1
  have := Int.mul_tdiv_add_tmod a b
  rw [Int.mul_comm (a.tdiv b) b]
  omega
section
variable {Y : am_Y} {Q : Option Value → Nat → am_M → Prop} {k n pc N : Nat} {lv : List (Nat × Value)} {st : List Value} {μ : am_M}
theorem ap_iconst {z : Int} (hd : decode (am_c Y) pc = .ok (.iconst z, 1)) (kk : am_W Y Q k n (pc + 1) lv (am_i z :: st) N μ) : am_W Y Q k n pc lv st N μ := by
  intro p l e s m args below meth c bs D dA S H locs ls hP hz hS hl
  exact lv_iconst S.1 S.2.1 hd rfl (kk p l e s m args below meth c bs D dA S H locs ls hP hz hS hl)
theorem ap_bipush {z : Int} (hd : decode (am_c Y) pc = .ok (.bipush z, 2)) (h : -128 ≤ z ∧ z ≤ 127) (kk : am_W Y Q k n (pc + 2) lv (am_i z :: st) N μ) : am_W Y Q k n pc lv st N μ := by
  intro p l e s m args below meth c bs D dA S H locs ls hP hz hS hl
  exact lv_bipush S.1 S.2.1 hd (am_b8 h) (kk p l e s m args below meth c bs D dA S H locs ls hP hz hS hl)
theorem ap_sipush {z : Int} (hd : decode (am_c Y) pc = .ok (.sipush z, 3)) (h : -32768 ≤ z ∧ z ≤ 32767) (kk : am_W Y Q k n (pc + 3) lv (am_i z :: st) N μ) : am_W Y Q k n pc lv st N μ := by
  intro p l e s m args below meth c bs D dA S H locs ls hP hz hS hl
  exact lv_sipush S.1 S.2.1 hd (am_b16 h) (kk p l e s m args below meth c bs D dA S H locs ls hP hz hS hl)
theorem ap_lconst {z : Fin 2} {v : Int} (hd : decode (am_c Y) pc = .ok (.lconst z, 1)) (hv : Int64.ofNat (z : Nat) = Int64.ofInt v) (kk : am_W Y Q k n (pc + 1) lv (am_l v :: st) N μ) : am_W Y Q k n pc lv st N μ := by
  intro p l e s m args below meth c bs D dA S H locs ls hP hz hS hl
  exact lv_lconst S.1 S.2.1 hd hv (kk p l e s m args below meth c bs D dA S H locs ls hP hz hS hl)
theorem ap_null  (hd : decode (am_c Y) pc = .ok (.aconst_null, 1)) (kk : am_W Y Q k n (pc + 1) lv (.null :: st) N μ) : am_W Y Q k n pc lv st N μ := by
  intro p l e s m args below meth c bs D dA S H locs ls hP hz hS hl
  exact lv_null S.1 S.2.1 hd (kk p l e s m args below meth c bs D dA S H locs ls hP hz hS hl)
theorem ap_ldc2 {i : Nat} {z : Int} (hd : decode (am_c Y) pc = .ok (.ldc2_w i, 3)) (hw : Cond.constantLong Y.1.cls i (Int64.ofInt z) ∈ am_tb) (kk : am_W Y Q k n (pc + 3) lv (am_l z :: st) N μ) : am_W Y Q k n pc lv st N μ := by
  intro p l e s m args below meth c bs D dA S H locs ls hP hz hS hl
  exact lv_ldc2 S.1 S.2.1 S.2.2.2.2.2.1 (S.2.2.2.2.2.2.1 _ hw) hd (kk p l e s m args below meth c bs D dA S H locs ls hP hz hS hl)
theorem ap_iload_n {j : Fin 4} {i : Nat} {z : Int} (hd : decode (am_c Y) pc = .ok (.iload_n j, 1)) (hi : (j : Nat) = i) (h : am_lk lv i = some (am_i z)) (kk : am_W Y Q k n (pc + 1) lv (am_i z :: st) N μ) : am_W Y Q k n pc lv st N μ := by
  intro p l e s m args below meth c bs D dA S H locs ls hP hz hS hl
  exact lv_iload_n S.1 S.2.1 hd hi (am_at hl h) (kk p l e s m args below meth c bs D dA S H locs ls hP hz hS hl)
theorem ap_iload {i : Nat} {z : Int} (hd : decode (am_c Y) pc = .ok (.iload i, 2)) (h : am_lk lv i = some (am_i z)) (kk : am_W Y Q k n (pc + 2) lv (am_i z :: st) N μ) : am_W Y Q k n pc lv st N μ := by
  intro p l e s m args below meth c bs D dA S H locs ls hP hz hS hl
  exact lv_iload S.1 S.2.1 hd (am_at hl h) (kk p l e s m args below meth c bs D dA S H locs ls hP hz hS hl)
theorem ap_lload_n {j : Fin 4} {i : Nat} {z : Int} (hd : decode (am_c Y) pc = .ok (.lload_n j, 1)) (hi : (j : Nat) = i) (h : am_lk lv i = some (am_l z)) (kk : am_W Y Q k n (pc + 1) lv (am_l z :: st) N μ) : am_W Y Q k n pc lv st N μ := by
  intro p l e s m args below meth c bs D dA S H locs ls hP hz hS hl
  exact lv_lload_n S.1 S.2.1 hd hi (am_at hl h) (kk p l e s m args below meth c bs D dA S H locs ls hP hz hS hl)
theorem ap_lload {i : Nat} {z : Int} (hd : decode (am_c Y) pc = .ok (.lload i, 2)) (h : am_lk lv i = some (am_l z)) (kk : am_W Y Q k n (pc + 2) lv (am_l z :: st) N μ) : am_W Y Q k n pc lv st N μ := by
  intro p l e s m args below meth c bs D dA S H locs ls hP hz hS hl
  exact lv_lload S.1 S.2.1 hd (am_at hl h) (kk p l e s m args below meth c bs D dA S H locs ls hP hz hS hl)
theorem ap_aload_n {j : Fin 4} {i : Nat} {a : Nat} (hd : decode (am_c Y) pc = .ok (.aload_n j, 1)) (hi : (j : Nat) = i) (h : am_lk lv i = some ((.ref a))) (kk : am_W Y Q k n (pc + 1) lv ((.ref a) :: st) N μ) : am_W Y Q k n pc lv st N μ := by
  intro p l e s m args below meth c bs D dA S H locs ls hP hz hS hl
  exact lv_aload_n S.1 S.2.1 hd hi (am_at hl h) (kk p l e s m args below meth c bs D dA S H locs ls hP hz hS hl)
theorem ap_aload {i : Nat} {a : Nat} (hd : decode (am_c Y) pc = .ok (.aload i, 2)) (h : am_lk lv i = some ((.ref a))) (kk : am_W Y Q k n (pc + 2) lv ((.ref a) :: st) N μ) : am_W Y Q k n pc lv st N μ := by
  intro p l e s m args below meth c bs D dA S H locs ls hP hz hS hl
  exact lv_aload S.1 S.2.1 hd (am_at hl h) (kk p l e s m args below meth c bs D dA S H locs ls hP hz hS hl)
theorem ap_aloadN_n {j : Fin 4} {i : Nat}  (hd : decode (am_c Y) pc = .ok (.aload_n j, 1)) (hi : (j : Nat) = i) (h : am_lk lv i = some (.null)) (kk : am_W Y Q k n (pc + 1) lv (.null :: st) N μ) : am_W Y Q k n pc lv st N μ := by
  intro p l e s m args below meth c bs D dA S H locs ls hP hz hS hl
  exact lv_aload_nN S.1 S.2.1 hd hi (am_at hl h) (kk p l e s m args below meth c bs D dA S H locs ls hP hz hS hl)
theorem ap_aloadN {i : Nat}  (hd : decode (am_c Y) pc = .ok (.aload i, 2)) (h : am_lk lv i = some (.null)) (kk : am_W Y Q k n (pc + 2) lv (.null :: st) N μ) : am_W Y Q k n pc lv st N μ := by
  intro p l e s m args below meth c bs D dA S H locs ls hP hz hS hl
  exact lv_aloadN S.1 S.2.1 hd (am_at hl h) (kk p l e s m args below meth c bs D dA S H locs ls hP hz hS hl)
theorem ap_istore_n {j : Fin 4} {i : Nat} {z : Int} {lv2 : List (Nat × Value)} (hd : decode (am_c Y) pc = .ok (.istore_n j, 1)) (hi : (j : Nat) = i) (hb : i < am_n Y) (h : am_s1 lv i (am_i z) = lv2) (kk : am_W Y Q k n (pc + 1) lv2 st N μ) : am_W Y Q k n pc lv (am_i z :: st) N μ := by
  intro p l e s m args below meth c bs D dA S H locs ls hP hz hS hl
  exact lv_istore_n S.1 S.2.1 hd hi hl hb (by subst h; rw [am_filter]; rfl) (fun ls2 hl2 => kk p l e s m args below meth c bs D dA S H locs ls2 hP hz hS hl2)
theorem ap_istore {i : Nat} {z : Int} {lv2 : List (Nat × Value)} (hd : decode (am_c Y) pc = .ok (.istore i, 2)) (hb : i < am_n Y) (h : am_s1 lv i (am_i z) = lv2) (kk : am_W Y Q k n (pc + 2) lv2 st N μ) : am_W Y Q k n pc lv (am_i z :: st) N μ := by
  intro p l e s m args below meth c bs D dA S H locs ls hP hz hS hl
  exact lv_istore S.1 S.2.1 hd hl hb (by subst h; rw [am_filter]; rfl) (fun ls2 hl2 => kk p l e s m args below meth c bs D dA S H locs ls2 hP hz hS hl2)
theorem ap_lstore_n {j : Fin 4} {i : Nat} {z : Int} {lv2 : List (Nat × Value)} (hd : decode (am_c Y) pc = .ok (.lstore_n j, 1)) (hi : (j : Nat) = i) (hb : i + 1 < am_n Y) (h : am_s2 lv i (am_l z) = lv2) (kk : am_W Y Q k n (pc + 1) lv2 st N μ) : am_W Y Q k n pc lv (am_l z :: st) N μ := by
  intro p l e s m args below meth c bs D dA S H locs ls hP hz hS hl
  exact lv_lstore_n S.1 S.2.1 hd hi hl hb (by subst h; rw [am_filter2]; rfl) (fun ls2 hl2 => kk p l e s m args below meth c bs D dA S H locs ls2 hP hz hS hl2)
theorem ap_lstore {i : Nat} {z : Int} {lv2 : List (Nat × Value)} (hd : decode (am_c Y) pc = .ok (.lstore i, 2)) (hb : i + 1 < am_n Y) (h : am_s2 lv i (am_l z) = lv2) (kk : am_W Y Q k n (pc + 2) lv2 st N μ) : am_W Y Q k n pc lv (am_l z :: st) N μ := by
  intro p l e s m args below meth c bs D dA S H locs ls hP hz hS hl
  exact lv_lstore S.1 S.2.1 hd hl hb (by subst h; rw [am_filter2]; rfl) (fun ls2 hl2 => kk p l e s m args below meth c bs D dA S H locs ls2 hP hz hS hl2)
theorem ap_astore_n {j : Fin 4} {i a : Nat} {lv2 : List (Nat × Value)} (hd : decode (am_c Y) pc = .ok (.astore_n j, 1)) (hi : (j : Nat) = i) (hb : i < am_n Y) (h : am_s1 lv i (.ref a) = lv2) (kk : am_W Y Q k n (pc + 1) lv2 st N μ) : am_W Y Q k n pc lv (.ref a :: st) N μ := by
  intro p l e s m args below meth c bs D dA S H locs ls hP hz hS hl
  exact lv_astore_n S.1 S.2.1 hd hi hl hb (by subst h; rw [am_filter]; rfl) (fun ls2 hl2 => kk p l e s m args below meth c bs D dA S H locs ls2 hP hz hS hl2)
theorem ap_astore {i a : Nat} {lv2 : List (Nat × Value)} (hd : decode (am_c Y) pc = .ok (.astore i, 2)) (hb : i < am_n Y) (h : am_s1 lv i (.ref a) = lv2) (kk : am_W Y Q k n (pc + 2) lv2 st N μ) : am_W Y Q k n pc lv (.ref a :: st) N μ := by
  intro p l e s m args below meth c bs D dA S H locs ls hP hz hS hl
  exact lv_astore S.1 S.2.1 hd hl hb (by subst h; rw [am_filter]; rfl) (fun ls2 hl2 => kk p l e s m args below meth c bs D dA S H locs ls2 hP hz hS hl2)
theorem ap_astore_nN {j : Fin 4} {i : Nat} {lv2 : List (Nat × Value)} (hd : decode (am_c Y) pc = .ok (.astore_n j, 1)) (hi : (j : Nat) = i) (hb : i < am_n Y) (h : am_s1 lv i (.null) = lv2) (kk : am_W Y Q k n (pc + 1) lv2 st N μ) : am_W Y Q k n pc lv (.null :: st) N μ := by
  intro p l e s m args below meth c bs D dA S H locs ls hP hz hS hl
  exact lv_astore_nN S.1 S.2.1 hd hi hl hb (by subst h; rw [am_filter]; rfl) (fun ls2 hl2 => kk p l e s m args below meth c bs D dA S H locs ls2 hP hz hS hl2)
theorem ap_astoreN {i : Nat} {lv2 : List (Nat × Value)} (hd : decode (am_c Y) pc = .ok (.astore i, 2)) (hb : i < am_n Y) (h : am_s1 lv i (.null) = lv2) (kk : am_W Y Q k n (pc + 2) lv2 st N μ) : am_W Y Q k n pc lv (.null :: st) N μ := by
  intro p l e s m args below meth c bs D dA S H locs ls hP hz hS hl
  exact lv_astoreN S.1 S.2.1 hd hl hb (by subst h; rw [am_filter]; rfl) (fun ls2 hl2 => kk p l e s m args below meth c bs D dA S H locs ls2 hP hz hS hl2)
theorem ap_iinc {i : Nat} {d z : Int} {lv2 : List (Nat × Value)} (hd : decode (am_c Y) pc = .ok (.iinc i d, 3)) (hk : am_lk lv i = some (am_i z)) (hb : i < am_n Y) (h : am_s1 lv i (am_i (z + d)) = lv2) (kk : am_W Y Q k n (pc + 3) lv2 st N μ) : am_W Y Q k n pc lv st N μ := by
  intro p l e s m args below meth c bs D dA S H locs ls hP hz hS hl
  obtain ⟨q, hq⟩ := List.getElem?_of_mem (List.mem_map.mpr ⟨_, am_lk_of hk, rfl⟩ : (am_q bs (i, am_i z)) ∈ lv.map (am_q bs))
  exact lv_iinc S.1 S.2.1 hd hl hq (by rw [← Int32.ofInt_add]) hb (by subst h; rw [am_filter]; rfl) (fun ls2 hl2 => kk p l e s m args below meth c bs D dA S H locs ls2 hP hz hS hl2)
theorem ap_iadd {a b : Int} (hd : decode (am_c Y) pc = .ok (.iadd, 1)) (kk : am_W Y Q k n (pc + 1) lv (am_i (a + b) :: st) N μ) : am_W Y Q k n pc lv (am_i b :: am_i a :: st) N μ := by
  intro p l e s m args below meth c bs D dA S H locs ls hP hz hS hl
  refine lv_iadd S.1 S.2.1 hd ?_
  rw [← Int32.ofInt_add]
  exact kk p l e s m args below meth c bs D dA S H locs ls hP hz hS hl
theorem ap_isub {a b : Int} (hd : decode (am_c Y) pc = .ok (.isub, 1)) (kk : am_W Y Q k n (pc + 1) lv (am_i (a - b) :: st) N μ) : am_W Y Q k n pc lv (am_i b :: am_i a :: st) N μ := by
  intro p l e s m args below meth c bs D dA S H locs ls hP hz hS hl
  refine lv_isub S.1 S.2.1 hd ?_
  rw [← Int32.ofInt_sub]
  exact kk p l e s m args below meth c bs D dA S H locs ls hP hz hS hl
theorem ap_imul {a b : Int} (hd : decode (am_c Y) pc = .ok (.imul, 1)) (kk : am_W Y Q k n (pc + 1) lv (am_i (a * b) :: st) N μ) : am_W Y Q k n pc lv (am_i b :: am_i a :: st) N μ := by
  intro p l e s m args below meth c bs D dA S H locs ls hP hz hS hl
  refine lv_imul S.1 S.2.1 hd ?_
  rw [← Int32.ofInt_mul]
  exact kk p l e s m args below meth c bs D dA S H locs ls hP hz hS hl
theorem ap_ladd {a b : Int} (hd : decode (am_c Y) pc = .ok (.ladd, 1)) (kk : am_W Y Q k n (pc + 1) lv (am_l (a + b) :: st) N μ) : am_W Y Q k n pc lv (am_l b :: am_l a :: st) N μ := by
  intro p l e s m args below meth c bs D dA S H locs ls hP hz hS hl
  refine lv_ladd S.1 S.2.1 hd ?_
  rw [← Int64.ofInt_add]
  exact kk p l e s m args below meth c bs D dA S H locs ls hP hz hS hl
theorem ap_lsub {a b : Int} (hd : decode (am_c Y) pc = .ok (.lsub, 1)) (kk : am_W Y Q k n (pc + 1) lv (am_l (a - b) :: st) N μ) : am_W Y Q k n pc lv (am_l b :: am_l a :: st) N μ := by
  intro p l e s m args below meth c bs D dA S H locs ls hP hz hS hl
  refine lv_lsub S.1 S.2.1 hd ?_
  rw [← Int64.ofInt_sub]
  exact kk p l e s m args below meth c bs D dA S H locs ls hP hz hS hl
theorem ap_lmul {a b : Int} (hd : decode (am_c Y) pc = .ok (.lmul, 1)) (kk : am_W Y Q k n (pc + 1) lv (am_l (a * b) :: st) N μ) : am_W Y Q k n pc lv (am_l b :: am_l a :: st) N μ := by
  intro p l e s m args below meth c bs D dA S H locs ls hP hz hS hl
  refine lv_lmul S.1 S.2.1 hd ?_
  rw [← Int64.ofInt_mul]
  exact kk p l e s m args below meth c bs D dA S H locs ls hP hz hS hl
theorem ap_ldiv {a b : Int} (hd : decode (am_c Y) pc = .ok (.ldiv, 1)) (h : (0 ≤ a ∧ a ≤ 9223372036854775807) ∧ (0 < b ∧ b ≤ 9223372036854775807)) (kk : am_W Y Q k n (pc + 1) lv (am_l (a / b) :: st) N μ) : am_W Y Q k n pc lv (am_l b :: am_l a :: st) N μ := by
  intro p l e s m args below meth c bs D dA S H locs ls hP hz hS hl
  refine lv_ldiv S.1 S.2.1 hd (fun q => ?_) ?_
  · have hq := congrArg Int64.toInt q
    rw [am_to6 (by have := h.2; omega)] at hq
    have h0 : (0 : Int64).toInt = 0 := rfl
    have := h.2
    omega
  · rw [am_ldiv h]
    exact kk p l e s m args below meth c bs D dA S H locs ls hP hz hS hl
theorem ap_lrem {a b : Int} (hd : decode (am_c Y) pc = .ok (.lrem, 1)) (h : (0 ≤ a ∧ a ≤ 9223372036854775807) ∧ (0 < b ∧ b ≤ 9223372036854775807)) (kk : am_W Y Q k n (pc + 1) lv (am_l (a % b) :: st) N μ) : am_W Y Q k n pc lv (am_l b :: am_l a :: st) N μ := by
  intro p l e s m args below meth c bs D dA S H locs ls hP hz hS hl
  refine lv_lrem S.1 S.2.1 hd (fun q => ?_) ?_
  · have hq := congrArg Int64.toInt q
    rw [am_to6 (by have := h.2; omega)] at hq
    have h0 : (0 : Int64).toInt = 0 := rfl
    have := h.2
    omega
  · rw [am_lrem h]
    exact kk p l e s m args below meth c bs D dA S H locs ls hP hz hS hl
theorem ap_lremS {a b : Int} (hd : decode (am_c Y) pc = .ok (.lrem, 1)) (h : (-9223372036854775808 ≤ a ∧ a ≤ 9223372036854775807) ∧ (0 < b ∧ b ≤ 9223372036854775807)) (kk : am_W Y Q k n (pc + 1) lv (am_l (a.tmod b) :: st) N μ) : am_W Y Q k n pc lv (am_l b :: am_l a :: st) N μ := by
  intro p l e s m args below meth c bs D dA S H locs ls hP hz hS hl
  refine lv_lrem S.1 S.2.1 hd (fun q => ?_) ?_
  · have hq := congrArg Int64.toInt q
    rw [am_to6 (by have := h.2; omega)] at hq
    have h0 : (0 : Int64).toInt = 0 := rfl
    have := h.2
    omega
  · rw [am_lremS h]
    exact kk p l e s m args below meth c bs D dA S H locs ls hP hz hS hl
theorem ap_irem {a b : Int} (hd : decode (am_c Y) pc = .ok (.irem, 1)) (h : (0 ≤ a ∧ a ≤ 2147483647) ∧ (0 < b ∧ b ≤ 2147483647)) (kk : am_W Y Q k n (pc + 1) lv (am_i (a % b) :: st) N μ) : am_W Y Q k n pc lv (am_i b :: am_i a :: st) N μ := by
  intro p l e s m args below meth c bs D dA S H locs ls hP hz hS hl
  refine lv_irem S.1 S.2.1 hd (fun q => ?_) ?_
  · have hq := congrArg Int32.toInt q
    rw [am_to3 (by have := h.2; omega)] at hq
    have h0 : (0 : Int32).toInt = 0 := rfl
    have := h.2
    omega
  · rw [am_irem h]
    exact kk p l e s m args below meth c bs D dA S H locs ls hP hz hS hl
theorem ap_i2l {a : Int} (hd : decode (am_c Y) pc = .ok (.i2l, 1)) (h : (-2147483648 ≤ a ∧ a ≤ 2147483647)) (kk : am_W Y Q k n (pc + 1) lv (am_l a :: st) N μ) : am_W Y Q k n pc lv (am_i a :: st) N μ := by
  intro p l e s m args below meth c bs D dA S H locs ls hP hz hS hl
  exact lv_i2l S.1 S.2.1 hd (am_i2l h) (kk p l e s m args below meth c bs D dA S H locs ls hP hz hS hl)
theorem ap_l2i {a : Int} (hd : decode (am_c Y) pc = .ok (.l2i, 1)) (kk : am_W Y Q k n (pc + 1) lv (am_i a :: st) N μ) : am_W Y Q k n pc lv (am_l a :: st) N μ := by
  intro p l e s m args below meth c bs D dA S H locs ls hP hz hS hl
  exact lv_l2i S.1 S.2.1 hd Int64.toInt32_ofInt (kk p l e s m args below meth c bs D dA S H locs ls hP hz hS hl)
theorem ap_i2c {a : Int} (hd : decode (am_c Y) pc = .ok (.i2c, 1)) (h : 0 ≤ a ∧ a ≤ 65535) (kk : am_W Y Q k n (pc + 1) lv (am_i a :: st) N μ) : am_W Y Q k n pc lv (am_i a :: st) N μ := by
  intro p l e s m args below meth c bs D dA S H locs ls hP hz hS hl
  exact lv_i2c S.1 S.2.1 hd (am_c3b h) (kk p l e s m args below meth c bs D dA S H locs ls hP hz hS hl)
theorem ap_iand {a b r : Int} (hd : decode (am_c Y) pc = .ok (.iand, 1)) (h : Int32.ofInt a &&& Int32.ofInt b = Int32.ofInt r) (kk : am_W Y Q k n (pc + 1) lv (am_i r :: st) N μ) : am_W Y Q k n pc lv (am_i b :: am_i a :: st) N μ := by
  intro p l e s m args below meth c bs D dA S H locs ls hP hz hS hl
  refine lv_iand S.1 S.2.1 hd ?_
  rw [h]
  exact kk p l e s m args below meth c bs D dA S H locs ls hP hz hS hl
theorem ap_ior {a b r : Int} (hd : decode (am_c Y) pc = .ok (.ior, 1)) (h : Int32.ofInt a ||| Int32.ofInt b = Int32.ofInt r) (kk : am_W Y Q k n (pc + 1) lv (am_i r :: st) N μ) : am_W Y Q k n pc lv (am_i b :: am_i a :: st) N μ := by
  intro p l e s m args below meth c bs D dA S H locs ls hP hz hS hl
  refine lv_ior S.1 S.2.1 hd ?_
  rw [h]
  exact kk p l e s m args below meth c bs D dA S H locs ls hP hz hS hl
theorem ap_ishl {a b r : Int} (hd : decode (am_c Y) pc = .ok (.ishl, 1)) (h : Int32.ofInt a <<< (Int32.ofInt b &&& 31) = Int32.ofInt r) (kk : am_W Y Q k n (pc + 1) lv (am_i r :: st) N μ) : am_W Y Q k n pc lv (am_i b :: am_i a :: st) N μ := by
  intro p l e s m args below meth c bs D dA S H locs ls hP hz hS hl
  refine lv_ishl S.1 S.2.1 hd ?_
  rw [h]
  exact kk p l e s m args below meth c bs D dA S H locs ls hP hz hS hl
theorem ap_ishr {a b r : Int} (hd : decode (am_c Y) pc = .ok (.ishr, 1)) (h : Int32.ofInt a >>> (Int32.ofInt b &&& 31) = Int32.ofInt r) (kk : am_W Y Q k n (pc + 1) lv (am_i r :: st) N μ) : am_W Y Q k n pc lv (am_i b :: am_i a :: st) N μ := by
  intro p l e s m args below meth c bs D dA S H locs ls hP hz hS hl
  refine lv_ishr S.1 S.2.1 hd ?_
  rw [h]
  exact kk p l e s m args below meth c bs D dA S H locs ls hP hz hS hl
theorem ap_lshl {a b r : Int} (hd : decode (am_c Y) pc = .ok (.lshl, 1)) (h : Int64.ofInt a <<< ((Int32.ofInt b).toInt64 &&& 63) = Int64.ofInt r) (kk : am_W Y Q k n (pc + 1) lv (am_l r :: st) N μ) : am_W Y Q k n pc lv (am_i b :: am_l a :: st) N μ := by
  intro p l e s m args below meth c bs D dA S H locs ls hP hz hS hl
  exact lv_lshl S.1 S.2.1 hd h (kk p l e s m args below meth c bs D dA S H locs ls hP hz hS hl)
theorem ap_lshr {a b r : Int} (hd : decode (am_c Y) pc = .ok (.lshr, 1)) (h : Int64.ofInt a >>> ((Int32.ofInt b).toInt64 &&& 63) = Int64.ofInt r) (kk : am_W Y Q k n (pc + 1) lv (am_l r :: st) N μ) : am_W Y Q k n pc lv (am_i b :: am_l a :: st) N μ := by
  intro p l e s m args below meth c bs D dA S H locs ls hP hz hS hl
  exact lv_lshr S.1 S.2.1 hd h (kk p l e s m args below meth c bs D dA S H locs ls hP hz hS hl)
theorem ap_dup {v : Value} (hd : decode (am_c Y) pc = .ok (.dup, 1)) (h : v.category = 1) (kk : am_W Y Q k n (pc + 1) lv (v :: v :: st) N μ) : am_W Y Q k n pc lv (v :: st) N μ := by
  intro p l e s m args below meth c bs D dA S H locs ls hP hz hS hl
  exact lv_dup S.1 S.2.1 hd (by rw [am_v_cat]; exact h) (kk p l e s m args below meth c bs D dA S H locs ls hP hz hS hl)
theorem ap_dup2 {v w : Value} (hd : decode (am_c Y) pc = .ok (.dup2, 1)) (h : v.category = 1) (h2 : w.category = 1) (kk : am_W Y Q k n (pc + 1) lv (v :: w :: v :: w :: st) N μ) : am_W Y Q k n pc lv (v :: w :: st) N μ := by
  intro p l e s m args below meth c bs D dA S H locs ls hP hz hS hl
  exact lv_dup2_11 S.1 S.2.1 hd (by rw [am_v_cat]; exact h) (by rw [am_v_cat]; exact h2) (kk p l e s m args below meth c bs D dA S H locs ls hP hz hS hl)
theorem ap_pop {v : Value} (hd : decode (am_c Y) pc = .ok (.pop, 1)) (h : v.category = 1) (kk : am_W Y Q k n (pc + 1) lv st N μ) : am_W Y Q k n pc lv (v :: st) N μ := by
  intro p l e s m args below meth c bs D dA S H locs ls hP hz hS hl
  exact lv_pop S.1 S.2.1 hd (by rw [am_v_cat]; exact h) (kk p l e s m args below meth c bs D dA S H locs ls hP hz hS hl)
theorem ap_icmp_eq {a b : Int} {off : Int} {tgt : Nat} (hd : decode (am_c Y) pc = .ok (.if_icmp .eq off, 3)) (ht : (pc : Int) + off = (tgt : Int)) (h : (-2147483648 ≤ a ∧ a ≤ 2147483647) ∧ (-2147483648 ≤ b ∧ b ≤ 2147483647)) (kt : (a = b) → am_W Y Q k n tgt lv st N μ) (kf : ¬ (a = b) → am_W Y Q k n (pc + 3) lv st N μ) : am_W Y Q k n pc lv (am_i b :: am_i a :: st) N μ := by
  intro p l e s m args below meth c bs D dA S H locs ls hP hz hS hl
  exact lv_icmp_eq S.1 S.2.1 hd ht (fun q => kt ((am_eq3 h).mp q) p l e s m args below meth c bs D dA S H locs ls hP hz hS hl) (fun q => kf (fun z => q ((am_eq3 h).mpr z)) p l e s m args below meth c bs D dA S H locs ls hP hz hS hl)
theorem ap_icmp_lt {a b : Int} {off : Int} {tgt : Nat} (hd : decode (am_c Y) pc = .ok (.if_icmp .lt off, 3)) (ht : (pc : Int) + off = (tgt : Int)) (h : (-2147483648 ≤ a ∧ a ≤ 2147483647) ∧ (-2147483648 ≤ b ∧ b ≤ 2147483647)) (kt : (a < b) → am_W Y Q k n tgt lv st N μ) (kf : ¬ (a < b) → am_W Y Q k n (pc + 3) lv st N μ) : am_W Y Q k n pc lv (am_i b :: am_i a :: st) N μ := by
  intro p l e s m args below meth c bs D dA S H locs ls hP hz hS hl
  exact lv_icmp_lt S.1 S.2.1 hd ht (fun q => kt ((am_lt3 h).mp q) p l e s m args below meth c bs D dA S H locs ls hP hz hS hl) (fun q => kf (fun z => q ((am_lt3 h).mpr z)) p l e s m args below meth c bs D dA S H locs ls hP hz hS hl)
theorem ap_icmp_le {a b : Int} {off : Int} {tgt : Nat} (hd : decode (am_c Y) pc = .ok (.if_icmp .le off, 3)) (ht : (pc : Int) + off = (tgt : Int)) (h : (-2147483648 ≤ a ∧ a ≤ 2147483647) ∧ (-2147483648 ≤ b ∧ b ≤ 2147483647)) (kt : (a ≤ b) → am_W Y Q k n tgt lv st N μ) (kf : ¬ (a ≤ b) → am_W Y Q k n (pc + 3) lv st N μ) : am_W Y Q k n pc lv (am_i b :: am_i a :: st) N μ := by
  intro p l e s m args below meth c bs D dA S H locs ls hP hz hS hl
  exact lv_icmp_le S.1 S.2.1 hd ht (fun q => kt ((am_le3 h).mp q) p l e s m args below meth c bs D dA S H locs ls hP hz hS hl) (fun q => kf (fun z => q ((am_le3 h).mpr z)) p l e s m args below meth c bs D dA S H locs ls hP hz hS hl)
theorem ap_icmp_ne {a b : Int} {off : Int} {tgt : Nat} (hd : decode (am_c Y) pc = .ok (.if_icmp .ne off, 3)) (ht : (pc : Int) + off = (tgt : Int)) (h : (-2147483648 ≤ a ∧ a ≤ 2147483647) ∧ (-2147483648 ≤ b ∧ b ≤ 2147483647)) (kt : ¬ (a = b) → am_W Y Q k n tgt lv st N μ) (kf : (a = b) → am_W Y Q k n (pc + 3) lv st N μ) : am_W Y Q k n pc lv (am_i b :: am_i a :: st) N μ := by
  intro p l e s m args below meth c bs D dA S H locs ls hP hz hS hl
  exact lv_icmp_ne S.1 S.2.1 hd ht (fun q => kt (fun z => q ((am_eq3 h).mpr z)) p l e s m args below meth c bs D dA S H locs ls hP hz hS hl) (fun q => kf ((am_eq3 h).mp q) p l e s m args below meth c bs D dA S H locs ls hP hz hS hl)
theorem ap_icmp_gt {a b : Int} {off : Int} {tgt : Nat} (hd : decode (am_c Y) pc = .ok (.if_icmp .gt off, 3)) (ht : (pc : Int) + off = (tgt : Int)) (h : (-2147483648 ≤ a ∧ a ≤ 2147483647) ∧ (-2147483648 ≤ b ∧ b ≤ 2147483647)) (kt : (b < a) → am_W Y Q k n tgt lv st N μ) (kf : ¬ (b < a) → am_W Y Q k n (pc + 3) lv st N μ) : am_W Y Q k n pc lv (am_i b :: am_i a :: st) N μ := by
  intro p l e s m args below meth c bs D dA S H locs ls hP hz hS hl
  exact lv_icmp_gt S.1 S.2.1 hd ht (fun q => kt ((am_lt3 ⟨h.2, h.1⟩).mp q) p l e s m args below meth c bs D dA S H locs ls hP hz hS hl) (fun q => kf (fun z => q ((am_lt3 ⟨h.2, h.1⟩).mpr z)) p l e s m args below meth c bs D dA S H locs ls hP hz hS hl)
theorem ap_icmp_ge {a b : Int} {off : Int} {tgt : Nat} (hd : decode (am_c Y) pc = .ok (.if_icmp .ge off, 3)) (ht : (pc : Int) + off = (tgt : Int)) (h : (-2147483648 ≤ a ∧ a ≤ 2147483647) ∧ (-2147483648 ≤ b ∧ b ≤ 2147483647)) (kt : (b ≤ a) → am_W Y Q k n tgt lv st N μ) (kf : ¬ (b ≤ a) → am_W Y Q k n (pc + 3) lv st N μ) : am_W Y Q k n pc lv (am_i b :: am_i a :: st) N μ := by
  intro p l e s m args below meth c bs D dA S H locs ls hP hz hS hl
  exact lv_icmp_ge S.1 S.2.1 hd ht (fun q => kt ((am_le3 ⟨h.2, h.1⟩).mp q) p l e s m args below meth c bs D dA S H locs ls hP hz hS hl) (fun q => kf (fun z => q ((am_le3 ⟨h.2, h.1⟩).mpr z)) p l e s m args below meth c bs D dA S H locs ls hP hz hS hl)
theorem ap_if_eq {a : Int} {off : Int} {tgt : Nat} (hd : decode (am_c Y) pc = .ok (.ifCond .eq off, 3)) (ht : (pc : Int) + off = (tgt : Int)) (h : (-2147483648 ≤ a ∧ a ≤ 2147483647)) (kt : (a = 0) → am_W Y Q k n tgt lv st N μ) (kf : ¬ (a = 0) → am_W Y Q k n (pc + 3) lv st N μ) : am_W Y Q k n pc lv (am_i a :: st) N μ := by
  intro p l e s m args below meth c bs D dA S H locs ls hP hz hS hl
  exact lv_if_eq S.1 S.2.1 hd ht (fun q => kt ((am_eq3 (b := 0) ⟨h, by decide, by decide⟩).mp q) p l e s m args below meth c bs D dA S H locs ls hP hz hS hl) (fun q => kf (fun z => q ((am_eq3 (b := 0) ⟨h, by decide, by decide⟩).mpr z)) p l e s m args below meth c bs D dA S H locs ls hP hz hS hl)
theorem ap_if_lt {a : Int} {off : Int} {tgt : Nat} (hd : decode (am_c Y) pc = .ok (.ifCond .lt off, 3)) (ht : (pc : Int) + off = (tgt : Int)) (h : (-2147483648 ≤ a ∧ a ≤ 2147483647)) (kt : (a < 0) → am_W Y Q k n tgt lv st N μ) (kf : ¬ (a < 0) → am_W Y Q k n (pc + 3) lv st N μ) : am_W Y Q k n pc lv (am_i a :: st) N μ := by
  intro p l e s m args below meth c bs D dA S H locs ls hP hz hS hl
  exact lv_if_lt S.1 S.2.1 hd ht (fun q => kt ((am_lt3 (b := 0) ⟨h, by decide, by decide⟩).mp q) p l e s m args below meth c bs D dA S H locs ls hP hz hS hl) (fun q => kf (fun z => q ((am_lt3 (b := 0) ⟨h, by decide, by decide⟩).mpr z)) p l e s m args below meth c bs D dA S H locs ls hP hz hS hl)
theorem ap_if_le {a : Int} {off : Int} {tgt : Nat} (hd : decode (am_c Y) pc = .ok (.ifCond .le off, 3)) (ht : (pc : Int) + off = (tgt : Int)) (h : (-2147483648 ≤ a ∧ a ≤ 2147483647)) (kt : (a ≤ 0) → am_W Y Q k n tgt lv st N μ) (kf : ¬ (a ≤ 0) → am_W Y Q k n (pc + 3) lv st N μ) : am_W Y Q k n pc lv (am_i a :: st) N μ := by
  intro p l e s m args below meth c bs D dA S H locs ls hP hz hS hl
  exact lv_if_le S.1 S.2.1 hd ht (fun q => kt ((am_le3 (b := 0) ⟨h, by decide, by decide⟩).mp q) p l e s m args below meth c bs D dA S H locs ls hP hz hS hl) (fun q => kf (fun z => q ((am_le3 (b := 0) ⟨h, by decide, by decide⟩).mpr z)) p l e s m args below meth c bs D dA S H locs ls hP hz hS hl)
theorem ap_if_ne {a : Int} {off : Int} {tgt : Nat} (hd : decode (am_c Y) pc = .ok (.ifCond .ne off, 3)) (ht : (pc : Int) + off = (tgt : Int)) (h : (-2147483648 ≤ a ∧ a ≤ 2147483647)) (kt : ¬ (a = 0) → am_W Y Q k n tgt lv st N μ) (kf : (a = 0) → am_W Y Q k n (pc + 3) lv st N μ) : am_W Y Q k n pc lv (am_i a :: st) N μ := by
  intro p l e s m args below meth c bs D dA S H locs ls hP hz hS hl
  exact lv_if_ne S.1 S.2.1 hd ht (fun q => kt (fun z => q ((am_eq3 (b := 0) ⟨h, by decide, by decide⟩).mpr z)) p l e s m args below meth c bs D dA S H locs ls hP hz hS hl) (fun q => kf ((am_eq3 (b := 0) ⟨h, by decide, by decide⟩).mp q) p l e s m args below meth c bs D dA S H locs ls hP hz hS hl)
theorem ap_if_gt {a : Int} {off : Int} {tgt : Nat} (hd : decode (am_c Y) pc = .ok (.ifCond .gt off, 3)) (ht : (pc : Int) + off = (tgt : Int)) (h : (-2147483648 ≤ a ∧ a ≤ 2147483647)) (kt : (0 < a) → am_W Y Q k n tgt lv st N μ) (kf : ¬ (0 < a) → am_W Y Q k n (pc + 3) lv st N μ) : am_W Y Q k n pc lv (am_i a :: st) N μ := by
  intro p l e s m args below meth c bs D dA S H locs ls hP hz hS hl
  exact lv_if_gt S.1 S.2.1 hd ht (fun q => kt ((am_lt3 (a := 0) ⟨⟨by decide, by decide⟩, h⟩).mp q) p l e s m args below meth c bs D dA S H locs ls hP hz hS hl) (fun q => kf (fun z => q ((am_lt3 (a := 0) ⟨⟨by decide, by decide⟩, h⟩).mpr z)) p l e s m args below meth c bs D dA S H locs ls hP hz hS hl)
theorem ap_if_ge {a : Int} {off : Int} {tgt : Nat} (hd : decode (am_c Y) pc = .ok (.ifCond .ge off, 3)) (ht : (pc : Int) + off = (tgt : Int)) (h : (-2147483648 ≤ a ∧ a ≤ 2147483647)) (kt : (0 ≤ a) → am_W Y Q k n tgt lv st N μ) (kf : ¬ (0 ≤ a) → am_W Y Q k n (pc + 3) lv st N μ) : am_W Y Q k n pc lv (am_i a :: st) N μ := by
  intro p l e s m args below meth c bs D dA S H locs ls hP hz hS hl
  exact lv_if_ge S.1 S.2.1 hd ht (fun q => kt ((am_le3 (a := 0) ⟨⟨by decide, by decide⟩, h⟩).mp q) p l e s m args below meth c bs D dA S H locs ls hP hz hS hl) (fun q => kf (fun z => q ((am_le3 (a := 0) ⟨⟨by decide, by decide⟩, h⟩).mpr z)) p l e s m args below meth c bs D dA S H locs ls hP hz hS hl)
theorem ap_lcmp_ne {a b : Int} {off : Int} {tgt : Nat} (hd : decode (am_c Y) pc = .ok (.lcmp, 1)) (hd2 : decode (am_c Y) (pc + 1) = .ok (.ifCond .ne off, 3)) (ht : ((pc + 1 : Nat) : Int) + off = (tgt : Int)) (h : (-9223372036854775808 ≤ a ∧ a ≤ 9223372036854775807) ∧ (-9223372036854775808 ≤ b ∧ b ≤ 9223372036854775807)) (kt : ¬ a = b → am_W Y Q k n tgt lv st N μ) (kf : a = b → am_W Y Q k n (pc + 4) lv st N μ) : am_W Y Q k n pc lv (am_l b :: am_l a :: st) N μ := by
  intro p l e s m args below meth c bs D dA S H locs ls hP hz hS hl
  refine W.lcmp S.1 S.2.1 hd ?_
  refine lv_if_ne S.1 S.2.1 hd2 ht (fun q => kt (fun z => q ?_) p l e s m args below meth c bs D dA S H locs ls hP hz hS hl) (fun q => kf ?_ p l e s m args below meth c bs D dA S H locs ls hP hz hS hl)
  · simp only [lg_cmp, gt_iff_lt, am_lt6 ⟨h.2, h.1⟩, am_eq6 h]; split <;> (try split) <;> first | omega | decide
  · revert q; simp only [lg_cmp, gt_iff_lt, am_lt6 ⟨h.2, h.1⟩, am_eq6 h]; split <;> (try split) <;> (intro q; first | omega | (exact absurd q (by decide)))
theorem ap_lcmp_eq {a b : Int} {off : Int} {tgt : Nat} (hd : decode (am_c Y) pc = .ok (.lcmp, 1)) (hd2 : decode (am_c Y) (pc + 1) = .ok (.ifCond .eq off, 3)) (ht : ((pc + 1 : Nat) : Int) + off = (tgt : Int)) (h : (-9223372036854775808 ≤ a ∧ a ≤ 9223372036854775807) ∧ (-9223372036854775808 ≤ b ∧ b ≤ 9223372036854775807)) (kt : (a = b) → am_W Y Q k n tgt lv st N μ) (kf : ¬ (a = b) → am_W Y Q k n (pc + 4) lv st N μ) : am_W Y Q k n pc lv (am_l b :: am_l a :: st) N μ := by
  intro p l e s m args below meth c bs D dA S H locs ls hP hz hS hl
  refine W.lcmp S.1 S.2.1 hd ?_
  refine lv_if_eq S.1 S.2.1 hd2 ht (fun q => kt ?_ p l e s m args below meth c bs D dA S H locs ls hP hz hS hl) (fun q => kf (fun z => q ?_) p l e s m args below meth c bs D dA S H locs ls hP hz hS hl)
  · revert q; simp only [lg_cmp, gt_iff_lt, am_lt6 ⟨h.2, h.1⟩, am_eq6 h]; split <;> (try split) <;> (intro q; first | omega | (exact absurd q (by decide)))
  · simp only [lg_cmp, gt_iff_lt, am_lt6 ⟨h.2, h.1⟩, am_eq6 h]; split <;> (try split) <;> first | omega | decide
theorem ap_lcmp_lt {a b : Int} {off : Int} {tgt : Nat} (hd : decode (am_c Y) pc = .ok (.lcmp, 1)) (hd2 : decode (am_c Y) (pc + 1) = .ok (.ifCond .lt off, 3)) (ht : ((pc + 1 : Nat) : Int) + off = (tgt : Int)) (h : (-9223372036854775808 ≤ a ∧ a ≤ 9223372036854775807) ∧ (-9223372036854775808 ≤ b ∧ b ≤ 9223372036854775807)) (kt : (a < b) → am_W Y Q k n tgt lv st N μ) (kf : ¬ (a < b) → am_W Y Q k n (pc + 4) lv st N μ) : am_W Y Q k n pc lv (am_l b :: am_l a :: st) N μ := by
  intro p l e s m args below meth c bs D dA S H locs ls hP hz hS hl
  refine W.lcmp S.1 S.2.1 hd ?_
  refine lv_if_lt S.1 S.2.1 hd2 ht (fun q => kt ?_ p l e s m args below meth c bs D dA S H locs ls hP hz hS hl) (fun q => kf (fun z => q ?_) p l e s m args below meth c bs D dA S H locs ls hP hz hS hl)
  · revert q; simp only [lg_cmp, gt_iff_lt, am_lt6 ⟨h.2, h.1⟩, am_eq6 h]; split <;> (try split) <;> (intro q; first | omega | (exact absurd q (by decide)))
  · simp only [lg_cmp, gt_iff_lt, am_lt6 ⟨h.2, h.1⟩, am_eq6 h]; split <;> (try split) <;> first | omega | decide
theorem ap_lcmp_ge {a b : Int} {off : Int} {tgt : Nat} (hd : decode (am_c Y) pc = .ok (.lcmp, 1)) (hd2 : decode (am_c Y) (pc + 1) = .ok (.ifCond .ge off, 3)) (ht : ((pc + 1 : Nat) : Int) + off = (tgt : Int)) (h : (-9223372036854775808 ≤ a ∧ a ≤ 9223372036854775807) ∧ (-9223372036854775808 ≤ b ∧ b ≤ 9223372036854775807)) (kt : (b ≤ a) → am_W Y Q k n tgt lv st N μ) (kf : ¬ (b ≤ a) → am_W Y Q k n (pc + 4) lv st N μ) : am_W Y Q k n pc lv (am_l b :: am_l a :: st) N μ := by
  intro p l e s m args below meth c bs D dA S H locs ls hP hz hS hl
  refine W.lcmp S.1 S.2.1 hd ?_
  refine lv_if_ge S.1 S.2.1 hd2 ht (fun q => kt ?_ p l e s m args below meth c bs D dA S H locs ls hP hz hS hl) (fun q => kf (fun z => q ?_) p l e s m args below meth c bs D dA S H locs ls hP hz hS hl)
  · revert q; simp only [lg_cmp, gt_iff_lt, am_lt6 ⟨h.2, h.1⟩, am_eq6 h]; split <;> (try split) <;> (intro q; first | omega | (exact absurd q (by decide)))
  · simp only [lg_cmp, gt_iff_lt, am_lt6 ⟨h.2, h.1⟩, am_eq6 h]; split <;> (try split) <;> first | omega | decide
theorem ap_lcmp_gt {a b : Int} {off : Int} {tgt : Nat} (hd : decode (am_c Y) pc = .ok (.lcmp, 1)) (hd2 : decode (am_c Y) (pc + 1) = .ok (.ifCond .gt off, 3)) (ht : ((pc + 1 : Nat) : Int) + off = (tgt : Int)) (h : (-9223372036854775808 ≤ a ∧ a ≤ 9223372036854775807) ∧ (-9223372036854775808 ≤ b ∧ b ≤ 9223372036854775807)) (kt : (b < a) → am_W Y Q k n tgt lv st N μ) (kf : ¬ (b < a) → am_W Y Q k n (pc + 4) lv st N μ) : am_W Y Q k n pc lv (am_l b :: am_l a :: st) N μ := by
  intro p l e s m args below meth c bs D dA S H locs ls hP hz hS hl
  refine W.lcmp S.1 S.2.1 hd ?_
  refine lv_if_gt S.1 S.2.1 hd2 ht (fun q => kt ?_ p l e s m args below meth c bs D dA S H locs ls hP hz hS hl) (fun q => kf (fun z => q ?_) p l e s m args below meth c bs D dA S H locs ls hP hz hS hl)
  · revert q; simp only [lg_cmp, gt_iff_lt, am_lt6 ⟨h.2, h.1⟩, am_eq6 h]; split <;> (try split) <;> (intro q; first | omega | (exact absurd q (by decide)))
  · simp only [lg_cmp, gt_iff_lt, am_lt6 ⟨h.2, h.1⟩, am_eq6 h]; split <;> (try split) <;> first | omega | decide
theorem ap_lcmp_le {a b : Int} {off : Int} {tgt : Nat} (hd : decode (am_c Y) pc = .ok (.lcmp, 1)) (hd2 : decode (am_c Y) (pc + 1) = .ok (.ifCond .le off, 3)) (ht : ((pc + 1 : Nat) : Int) + off = (tgt : Int)) (h : (-9223372036854775808 ≤ a ∧ a ≤ 9223372036854775807) ∧ (-9223372036854775808 ≤ b ∧ b ≤ 9223372036854775807)) (kt : (a ≤ b) → am_W Y Q k n tgt lv st N μ) (kf : ¬ (a ≤ b) → am_W Y Q k n (pc + 4) lv st N μ) : am_W Y Q k n pc lv (am_l b :: am_l a :: st) N μ := by
  intro p l e s m args below meth c bs D dA S H locs ls hP hz hS hl
  refine W.lcmp S.1 S.2.1 hd ?_
  refine lv_if_le S.1 S.2.1 hd2 ht (fun q => kt ?_ p l e s m args below meth c bs D dA S H locs ls hP hz hS hl) (fun q => kf (fun z => q ?_) p l e s m args below meth c bs D dA S H locs ls hP hz hS hl)
  · revert q; simp only [lg_cmp, gt_iff_lt, am_lt6 ⟨h.2, h.1⟩, am_eq6 h]; split <;> (try split) <;> (intro q; first | omega | (exact absurd q (by decide)))
  · simp only [lg_cmp, gt_iff_lt, am_lt6 ⟨h.2, h.1⟩, am_eq6 h]; split <;> (try split) <;> first | omega | decide
theorem ap_goto {off : Int} {tgt : Nat} (hd : decode (am_c Y) pc = .ok (.goto off, 3)) (ht : (pc : Int) + off = (tgt : Int)) (kk : am_W Y Q k n tgt lv st N μ) : am_W Y Q k n pc lv st N μ := by
  intro p l e s m args below meth c bs D dA S H locs ls hP hz hS hl
  exact lv_goto S.1 S.2.1 hd ht (kk p l e s m args below meth c bs D dA S H locs ls hP hz hS hl)
theorem ap_ifnonnull {off : Int} {tgt a : Nat} (hd : decode (am_c Y) pc = .ok (.ifnonnull off, 3)) (ht : (pc : Int) + off = (tgt : Int)) (kk : am_W Y Q k n tgt lv st N μ) : am_W Y Q k n pc lv (.ref a :: st) N μ := by
  intro p l e s m args below meth c bs D dA S H locs ls hP hz hS hl
  exact lv_ifnonnull S.1 S.2.1 hd ht (kk p l e s m args below meth c bs D dA S H locs ls hP hz hS hl)
theorem ap_ifnonnullN {off : Int} (hd : decode (am_c Y) pc = .ok (.ifnonnull off, 3)) (kk : am_W Y Q k n (pc + 3) lv st N μ) : am_W Y Q k n pc lv (.null :: st) N μ := by
  intro p l e s m args below meth c bs D dA S H locs ls hP hz hS hl
  exact lv_ifnonnullN S.1 S.2.1 hd (kk p l e s m args below meth c bs D dA S H locs ls hP hz hS hl)
theorem ap_ifnull {off : Int} {a : Nat} (hd : decode (am_c Y) pc = .ok (.ifnull off, 3)) (kk : am_W Y Q k n (pc + 3) lv st N μ) : am_W Y Q k n pc lv (.ref a :: st) N μ := by
  intro p l e s m args below meth c bs D dA S H locs ls hP hz hS hl
  exact lv_ifnull S.1 S.2.1 hd (kk p l e s m args below meth c bs D dA S H locs ls hP hz hS hl)
theorem ap_ifnullN {off : Int} {tgt : Nat} (hd : decode (am_c Y) pc = .ok (.ifnull off, 3)) (ht : (pc : Int) + off = (tgt : Int)) (kk : am_W Y Q k n tgt lv st N μ) : am_W Y Q k n pc lv (.null :: st) N μ := by
  intro p l e s m args below meth c bs D dA S H locs ls hP hz hS hl
  exact lv_ifnullN S.1 S.2.1 hd ht (kk p l e s m args below meth c bs D dA S H locs ls hP hz hS hl)
theorem ap_widen {k2 n2 : Nat} (h1 : k ≤ k2) (h2 : n ≤ n2) (kk : am_W Y Q k2 n2 pc lv st N μ) : am_W Y Q k n pc lv st N μ := by
  intro p l e s m args below meth c bs D dA S H locs ls hP hz hS hl
  exact W.widen h1 h2 (kk p l e s m args below meth c bs D dA S H locs ls hP hz hS hl)
theorem ap_lvs {lv2 : List (Nat × Value)} (h : ∀ q ∈ lv2, q ∈ lv) (kk : am_W Y Q k n pc lv2 st N μ) : am_W Y Q k n pc lv st N μ := by
  intro p l e s m args below meth c bs D dA S H locs ls hP hz hS hl
  refine kk p l e s m args below meth c bs D dA S H locs ls hP hz hS ⟨hl.1, hl.2.1, fun q hq => ?_⟩
  obtain ⟨x, hx, rfl⟩ := List.mem_map.mp hq
  exact hl.2.2 _ (List.mem_map.mpr ⟨x, h x hx, rfl⟩)
theorem ap_iret {a : Int} {ty : FieldType} (hd : decode (am_c Y) pc = .ok (.ireturn, 1)) (hr : am_t Y = some ty) (hn : narrow ty (.int (Int32.ofInt a)) = .int (Int32.ofInt a)) (hk : k ≤ (am_r Y).cells) (hs : n ≤ (am_r Y).slots) (hq : Q (some (am_i a)) N μ) : am_W Y Q k n pc lv [am_i a] N μ := by
  intro p l e s m args below meth c bs D dA S H locs ls hP hz hS hl
  refine W.widen hk hs ?_
  have hlocks : meth.locks = false := S.2.2.2.2.1
  exact W.zret S.1 S.2.1 (S.2.2.2.1.trans hr) hn (fun t ht hW => ⟨⟨some (am_i a), N, μ, rfl, hq, by rw [ht]; exact hP, by rw [ht]; exact hz⟩, hS.F ht⟩) hS.2.2 hd
theorem ap_lret {a : Int} (hd : decode (am_c Y) pc = .ok (.lreturn, 1)) (hr : am_t Y = some .long) (hk : k ≤ (am_r Y).cells) (hs : n ≤ (am_r Y).slots) (hq : Q (some (am_l a)) N μ) : am_W Y Q k n pc lv [am_l a] N μ := by
  intro p l e s m args below meth c bs D dA S H locs ls hP hz hS hl
  refine W.widen hk hs ?_
  have hlocks : meth.locks = false := S.2.2.2.2.1
  exact W.lret S.1 S.2.1 (S.2.2.2.1.trans hr) (fun t ht hW => ⟨⟨some (am_l a), N, μ, rfl, hq, by rw [ht]; exact hP, by rw [ht]; exact hz⟩, hS.F ht⟩) hS.2.2 hd
theorem ap_vret (hd : decode (am_c Y) pc = .ok (.return_, 1)) (hr : am_t Y = none) (hk : k ≤ (am_r Y).cells) (hs : n ≤ (am_r Y).slots) (hq : Q none N μ) : am_W Y Q k n pc lv [] N μ := by
  intro p l e s m args below meth c bs D dA S H locs ls hP hz hS hl
  refine W.widen hk hs ?_
  have hlocks : meth.locks = false := S.2.2.2.2.1
  exact W.vret S.1 S.2.1 (S.2.2.2.1.trans hr) (fun t ht hW => ⟨⟨none, N, μ, rfl, hq, by rw [ht]; exact hP, by rw [ht]; exact hz⟩, hS.F ht⟩) hS.2.2 hd
theorem ap_aret {v : Value} {rt : FieldType} (hd : decode (am_c Y) pc = .ok (.areturn, 1)) (hr : am_t Y = some rt) (hrt : (∃ n, rt = .object n) ∨ ∃ t, rt = .array t) (hv : v = .null ∨ ∃ a, v = .ref a) (hk : k ≤ (am_r Y).cells) (hs : n ≤ (am_r Y).slots) (hq : Q (some v) N μ) : am_W Y Q k n pc lv [v] N μ := by
  intro p l e s m args below meth c bs D dA S H locs ls hP hz hS hl
  refine W.widen hk hs ?_
  have hlocks : meth.locks = false := S.2.2.2.2.1
  refine W.aret S.1 S.2.1 (S.2.2.2.1.trans hr) hrt ?_ (fun t ht hW => ⟨⟨some v, N, μ, rfl, hq, by rw [ht]; exact hP, by rw [ht]; exact hz⟩, hS.F ht⟩) hS.2.2 hd
  rcases hv with rfl | ⟨a, rfl⟩
  · exact Or.inl rfl
  · exact Or.inr ⟨_, rfl⟩
theorem ap_tableOut {dflt lo hi : Int} {offs : Array Int} {len : Nat} {a : Int} {tgt : Nat} (hd : decode (am_c Y) pc = .ok (.tableswitch dflt lo hi offs, len)) (hr : (-2147483648 ≤ a ∧ a ≤ 2147483647)) (h : a < lo ∨ hi < a) (ht : (pc : Int) + dflt = (tgt : Int)) (kk : am_W Y Q k n tgt lv st N μ) : am_W Y Q k n pc lv (am_i a :: st) N μ := by
  intro p l e s m args below meth c bs D dA S H locs ls hP hz hS hl
  exact lv_tableOut S.1 S.2.1 hd (by rw [am_to3 hr]; exact h) ht (kk p l e s m args below meth c bs D dA S H locs ls hP hz hS hl)
theorem ap_tableIn {dflt lo hi : Int} {offs : Array Int} {len : Nat} {a off : Int} {tgt : Nat} (hd : decode (am_c Y) pc = .ok (.tableswitch dflt lo hi offs, len)) (hr : (-2147483648 ≤ a ∧ a ≤ 2147483647)) (h1 : lo ≤ a ∧ a ≤ hi) (ho : offs[(a - lo).toNat]? = some off) (ht : (pc : Int) + off = (tgt : Int)) (kk : am_W Y Q k n tgt lv st N μ) : am_W Y Q k n pc lv (am_i a :: st) N μ := by
  intro p l e s m args below meth c bs D dA S H locs ls hP hz hS hl
  exact lv_tableIn S.1 S.2.1 hd (by rw [am_to3 hr]; omega) (by rw [am_to3 hr]; omega) (by rw [am_to3 hr]; exact ho) ht (kk p l e s m args below meth c bs D dA S H locs ls hP hz hS hl)
theorem ap_lookup {dflt : Int} {ps : Array (Int × Int)} {len : Nat} {a off : Int} {tgt : Nat} (hd : decode (am_c Y) pc = .ok (.lookupswitch dflt ps, len)) (hr : (-2147483648 ≤ a ∧ a ≤ 2147483647)) (hp : (ps.toList.zip (ps.toList.drop 1)).all (fun (a, next) => a.1 < next.1) = true) (ho : Op.lookupswitch.offset ps.toList dflt a = off) (ht : (pc : Int) + off = (tgt : Int)) (kk : am_W Y Q k n tgt lv st N μ) : am_W Y Q k n pc lv (am_i a :: st) N μ := by
  intro p l e s m args below meth c bs D dA S H locs ls hP hz hS hl
  exact lv_lookup S.1 S.2.1 hd hp (by rw [am_to3 hr]; exact ho) ht (kk p l e s m args below meth c bs D dA S H locs ls hP hz hS hl)
end
