theorem uf_nil : uf [] 0 = [] := by rw [uf, dif_neg (by simp)]
theorem pok0 : pok p0 := ⟨by decide, by decide, ⟨by decide, by decide⟩, Or.inl rfl, fun h => absurd h (by decide), by decide, fun x hx => (by cases hx), fun i hi => absurd hi (Nat.not_lt_zero _), fun j hj => ⟨by show (0 : Int) ≤ 0; omega, by show (0 : Int) ≤ 0; omega⟩⟩
theorem okx_nil : okx [] := ⟨by decide, fun k hk => absurd hk (Nat.not_lt_zero _), by rw [uf_nil]; decide, by rw [uf_nil]; intro k hk; obtain rfl : k = 0 := Nat.le_zero.mp hk; exact ⟨pok0, fun h => absurd h (Nat.not_lt_zero _)⟩⟩
set_option maxHeartbeats 4000000 in
set_option maxRecDepth 100000 in
theorem ct_Score_init {μ : am_M} {s : Nat} (h1 : μ s = am_O 4 [.null, .null, .null, .null, .null, .null, .null, am_i 0, am_i 0, am_l 0, am_i 0]) : am_Met YX4_init [.ref s] (s + 1) μ (fun r N2 μ2 => r = none ∧ N2 = s + 10 ∧ Sco μ2 s p0 ∧ ∀ b, b < s → μ2 b = μ b) := by
  refine am_met (by first | decide | rfl) (Nat.le_of_ble_eq_true rfl) (fun h => by first | rfl | cases h) ?_
  show am_W YX4_init _ 0 0 0 [(0, .ref s)] [] _ _
  refine ap_aload_n dX4_init_0 rfl rfl ?_
  refine ap_obj dX4_init_1 lk_X4_3 ⟨Nat.le_of_ble_eq_true rfl, Nat.le_of_ble_eq_true rfl⟩ ?_
  refine ap_aload_n dX4_init_4 rfl rfl ?_
  refine ap_sipush dX4_init_5 (by decide) ?_
  refine ap_newl (L := 300) dX4_init_8 ac_long (rfl) (by omega) (Nat.le_of_ble_eq_true rfl) (Nat.le_of_ble_eq_true rfl) (fun μ1 xe2 xf3 => ?_)
  have xm4 : μ1 s = am_O 4 [.null, .null, .null, .null, .null, .null, .null, am_i 0, am_i 0, am_l 0, am_i 0] := (xf3 _ (by omega)).trans h1
  refine ap_putF (fs2 := [.ref (s + 1), .null, .null, .null, .null, .null, .null, am_i 0, am_i 0, am_l 0, am_i 0]) ff_X4_9 fc_X4_0 dX4_init_10 (by omega) xm4 (fun _ => ⟨rfl, rfl⟩) (Nat.le_of_ble_eq_true rfl) rfl rfl (fun _ _ _ h => by cases h; rfl) (fun μ5 xe6 xf7 => ?_)
  refine ap_aload_n dX4_init_13 rfl rfl ?_
  refine ap_sipush dX4_init_14 (by decide) ?_
  refine ap_newl (L := 300) dX4_init_17 ac_long (rfl) (by omega) (Nat.le_of_ble_eq_true rfl) (Nat.le_of_ble_eq_true rfl) (fun μ8 xe9 xf10 => ?_)
  have xm11 : μ8 s = am_O 4 [.ref (s + 1), .null, .null, .null, .null, .null, .null, am_i 0, am_i 0, am_l 0, am_i 0] := (xf10 _ (by omega)).trans xe6
  refine ap_putF (fs2 := [.ref (s + 1), .ref (s + 2), .null, .null, .null, .null, .null, am_i 0, am_i 0, am_l 0, am_i 0]) ff_X4_15 fc_X4_1 dX4_init_19 (by omega) xm11 (fun _ => ⟨rfl, rfl⟩) (Nat.le_of_ble_eq_true rfl) rfl rfl (fun _ _ _ h => by cases h; rfl) (fun μ12 xe13 xf14 => ?_)
  refine ap_aload_n dX4_init_22 rfl rfl ?_
  refine ap_sipush dX4_init_23 (by decide) ?_
  refine ap_newi (L := 300) dX4_init_26 ac_int (rfl) (by omega) (Nat.le_of_ble_eq_true rfl) (Nat.le_of_ble_eq_true rfl) (fun μ15 xe16 xf17 => ?_)
  have xm18 : μ15 s = am_O 4 [.ref (s + 1), .ref (s + 2), .null, .null, .null, .null, .null, am_i 0, am_i 0, am_l 0, am_i 0] := (xf17 _ (by omega)).trans xe13
  refine ap_putF (fs2 := [.ref (s + 1), .ref (s + 2), .ref (s + 3), .null, .null, .null, .null, am_i 0, am_i 0, am_l 0, am_i 0]) ff_X4_18 fc_X4_2 dX4_init_28 (by omega) xm18 (fun _ => ⟨rfl, rfl⟩) (Nat.le_of_ble_eq_true rfl) rfl rfl (fun _ _ _ h => by cases h; rfl) (fun μ19 xe20 xf21 => ?_)
  refine ap_aload_n dX4_init_31 rfl rfl ?_
  refine ap_sipush dX4_init_32 (by decide) ?_
  refine ap_newi (L := 300) dX4_init_35 ac_int (rfl) (by omega) (Nat.le_of_ble_eq_true rfl) (Nat.le_of_ble_eq_true rfl) (fun μ22 xe23 xf24 => ?_)
  have xm25 : μ22 s = am_O 4 [.ref (s + 1), .ref (s + 2), .ref (s + 3), .null, .null, .null, .null, am_i 0, am_i 0, am_l 0, am_i 0] := (xf24 _ (by omega)).trans xe20
  refine ap_putF (fs2 := [.ref (s + 1), .ref (s + 2), .ref (s + 3), .ref (s + 4), .null, .null, .null, am_i 0, am_i 0, am_l 0, am_i 0]) ff_X4_22 fc_X4_3 dX4_init_37 (by omega) xm25 (fun _ => ⟨rfl, rfl⟩) (Nat.le_of_ble_eq_true rfl) rfl rfl (fun _ _ _ h => by cases h; rfl) (fun μ26 xe27 xf28 => ?_)
  refine ap_aload_n dX4_init_40 rfl rfl ?_
  refine ap_sipush dX4_init_41 (by decide) ?_
  refine ap_newz (L := 300) dX4_init_44 ac_boolean (rfl) (by omega) (Nat.le_of_ble_eq_true rfl) (Nat.le_of_ble_eq_true rfl) (fun μ29 xe30 xf31 => ?_)
  have xm32 : μ29 s = am_O 4 [.ref (s + 1), .ref (s + 2), .ref (s + 3), .ref (s + 4), .null, .null, .null, am_i 0, am_i 0, am_l 0, am_i 0] := (xf31 _ (by omega)).trans xe27
  refine ap_putF (fs2 := [.ref (s + 1), .ref (s + 2), .ref (s + 3), .ref (s + 4), .ref (s + 5), .null, .null, am_i 0, am_i 0, am_l 0, am_i 0]) ff_X4_25 fc_X4_4 dX4_init_46 (by omega) xm32 (fun _ => ⟨rfl, rfl⟩) (Nat.le_of_ble_eq_true rfl) rfl rfl (fun _ _ _ h => by cases h; rfl) (fun μ33 xe34 xf35 => ?_)
  refine ap_aload_n dX4_init_49 rfl rfl ?_
  refine ap_sipush dX4_init_50 (by decide) ?_
  refine ap_newl (L := 901) dX4_init_53 ac_long (rfl) (by omega) (Nat.le_of_ble_eq_true rfl) (Nat.le_of_ble_eq_true rfl) (fun μ36 xe37 xf38 => ?_)
  have xm39 : μ36 s = am_O 4 [.ref (s + 1), .ref (s + 2), .ref (s + 3), .ref (s + 4), .ref (s + 5), .null, .null, am_i 0, am_i 0, am_l 0, am_i 0] := (xf38 _ (by omega)).trans xe34
  refine ap_putF (fs2 := [.ref (s + 1), .ref (s + 2), .ref (s + 3), .ref (s + 4), .ref (s + 5), .ref (s + 6), .null, am_i 0, am_i 0, am_l 0, am_i 0]) ff_X4_29 fc_X4_5 dX4_init_55 (by omega) xm39 (fun _ => ⟨rfl, rfl⟩) (Nat.le_of_ble_eq_true rfl) rfl rfl (fun _ _ _ h => by cases h; rfl) (fun μ40 xe41 xf42 => ?_)
  refine ap_aload_n dX4_init_58 rfl rfl ?_
  refine ap_new nc_X4_32 dX4_init_59 (Nat.le_of_ble_eq_true rfl) (Nat.le_of_ble_eq_true rfl) (fun μ43 xe44 xf45 => ?_)
  refine ap_dup dX4_init_62 rfl ?_
  refine ap_callI (As := []) (rest := [.ref (s + 7), .ref s]) (ct_Tup_init (s := s + 7) xe44) dX4_init_63 lk_X4_34 rfl rfl hy_X7_init rfl (Nat.le_of_ble_eq_true rfl) ⟨Nat.le_of_ble_eq_true rfl, Nat.le_of_ble_eq_true rfl⟩ ⟨Nat.le_of_ble_eq_true rfl, Nat.le_of_ble_eq_true rfl⟩ (fun xr46 xN47 μz xq48 => ?_)
  obtain ⟨rfl, rfl, hz1, hz2⟩ := xq48
  have hz3 : ∀ b, b < s + 7 → μz b = _ := hz2
  have xm49 : μz s = am_O 4 [.ref (s + 1), .ref (s + 2), .ref (s + 3), .ref (s + 4), .ref (s + 5), .ref (s + 6), .null, am_i 0, am_i 0, am_l 0, am_i 0] := (hz3 _ (by omega)).trans ((xf45 _ (by omega)).trans xe41)
  refine ap_putF (fs2 := [.ref (s + 1), .ref (s + 2), .ref (s + 3), .ref (s + 4), .ref (s + 5), .ref (s + 6), .ref (s + 7), am_i 0, am_i 0, am_l 0, am_i 0]) ff_X4_35 fc_X4_6 dX4_init_66 (by omega) xm49 (fun _ => ⟨rfl, rfl⟩) (Nat.le_of_ble_eq_true rfl) rfl rfl (fun _ _ _ h => by cases h; rfl) (fun μ50 xe51 xf52 => ?_)
  refine ap_aload_n dX4_init_69 rfl rfl ?_
  have xm53 : μ50 (s + 1) = am_L 300 (fun _ => 0) := (xf52 _ (by omega)).trans ((hz3 _ (by omega)).trans ((xf45 _ (by omega)).trans ((xf42 _ (by omega)).trans ((xf38 _ (by omega)).trans ((xf35 _ (by omega)).trans ((xf31 _ (by omega)).trans ((xf28 _ (by omega)).trans ((xf24 _ (by omega)).trans ((xf21 _ (by omega)).trans ((xf17 _ (by omega)).trans ((xf14 _ (by omega)).trans ((xf10 _ (by omega)).trans ((xf7 _ (by omega)).trans xe2)))))))))))))
  have xm54 : μ50 (s + 2) = am_L 300 (fun _ => 0) := (xf52 _ (by omega)).trans ((hz3 _ (by omega)).trans ((xf45 _ (by omega)).trans ((xf42 _ (by omega)).trans ((xf38 _ (by omega)).trans ((xf35 _ (by omega)).trans ((xf31 _ (by omega)).trans ((xf28 _ (by omega)).trans ((xf24 _ (by omega)).trans ((xf21 _ (by omega)).trans ((xf17 _ (by omega)).trans ((xf14 _ (by omega)).trans xe9)))))))))))
  have xm55 : μ50 (s + 3) = am_I 0 300 (fun _ => 0) := (xf52 _ (by omega)).trans ((hz3 _ (by omega)).trans ((xf45 _ (by omega)).trans ((xf42 _ (by omega)).trans ((xf38 _ (by omega)).trans ((xf35 _ (by omega)).trans ((xf31 _ (by omega)).trans ((xf28 _ (by omega)).trans ((xf24 _ (by omega)).trans ((xf21 _ (by omega)).trans xe16)))))))))
  have xm56 : μ50 (s + 4) = am_I 0 300 (fun _ => 0) := (xf52 _ (by omega)).trans ((hz3 _ (by omega)).trans ((xf45 _ (by omega)).trans ((xf42 _ (by omega)).trans ((xf38 _ (by omega)).trans ((xf35 _ (by omega)).trans ((xf31 _ (by omega)).trans ((xf28 _ (by omega)).trans xe23)))))))
  have xm57 : μ50 (s + 5) = am_I 3 300 (fun _ => 0) := (xf52 _ (by omega)).trans ((hz3 _ (by omega)).trans ((xf45 _ (by omega)).trans ((xf42 _ (by omega)).trans ((xf38 _ (by omega)).trans ((xf35 _ (by omega)).trans xe30)))))
  have xm58 : μ50 (s + 6) = am_L 901 (fun _ => 0) := (xf52 _ (by omega)).trans ((hz3 _ (by omega)).trans ((xf45 _ (by omega)).trans ((xf42 _ (by omega)).trans xe37)))
  refine ap_cV (As := []) (rest := []) (ct_scstart (s := s) (fb := fun _ => 0) (fe := fun _ => 0) (fn := fun _ => 0) (fm := fun _ => 0) (fa := fun _ => 0) (fl := fun _ => 0) (zc := 0) (zb := 0) (zd := 0) (zt := 0) (ts := []) ⟨xe51, xm53, xm54, xm55, xm56, xm57, xm58, hz1.fr (lo := s) (hi := s + 1) (fun b hb => (xf52 b (by omega))) (by omega)⟩ (by omega)) dX4_init_70 lk_X4_39 hy_X4_start rfl (by omega) xe51 ⟨_, _, rfl⟩ (Nat.le_of_ble_eq_true rfl) ⟨Nat.le_of_ble_eq_true rfl, Nat.le_of_ble_eq_true rfl⟩ ⟨rfl, rfl⟩ ⟨Nat.le_of_ble_eq_true rfl, Nat.le_of_ble_eq_true rfl⟩ (fun xr59 xN60 μy xq61 => ?_)
  obtain ⟨rfl, rfl, hy1, hy2⟩ := xq61
  exact ap_vret dX4_init_73 rfl (Nat.le_of_ble_eq_true rfl) (Nat.le_of_ble_eq_true rfl) (⟨rfl, rfl, hy1, fun b hb => (hy2 b (by omega)).trans ((xf52 b (by omega)).trans ((hz3 b (by omega)).trans ((xf45 b (by omega)).trans ((xf42 b (by omega)).trans ((xf38 b (by omega)).trans ((xf35 b (by omega)).trans ((xf31 b (by omega)).trans ((xf28 b (by omega)).trans ((xf24 b (by omega)).trans ((xf21 b (by omega)).trans ((xf17 b (by omega)).trans ((xf14 b (by omega)).trans ((xf10 b (by omega)).trans ((xf7 b (by omega)).trans ((xf3 b (by omega)))))))))))))))))⟩)

set_option maxHeartbeats 4000000 in
set_option maxRecDepth 100000 in
theorem ct_Part_init {μ : am_M} {p : Nat} (h1 : μ p = am_O 3 [.null, .null, .null]) : am_Met YX3_init [.ref p] (p + 1) μ (fun r N2 μ2 => r = none ∧ N2 = p + 15 ∧ Prt μ2 p [] ∧ ∀ b, b < p → μ2 b = μ b) := by
  refine am_met (by first | decide | rfl) (Nat.le_of_ble_eq_true rfl) (fun h => by first | rfl | cases h) ?_
  show am_W YX3_init _ 0 0 0 [(0, .ref p)] [] _ _
  refine ap_aload_n dX3_init_0 rfl rfl ?_
  refine ap_obj dX3_init_1 lk_X3_3 ⟨Nat.le_of_ble_eq_true rfl, Nat.le_of_ble_eq_true rfl⟩ ?_
  refine ap_aload_n dX3_init_4 rfl rfl ?_
  refine ap_new nc_X3_9 dX3_init_5 (Nat.le_of_ble_eq_true rfl) (Nat.le_of_ble_eq_true rfl) (fun μ1 xe2 xf3 => ?_)
  refine ap_dup dX3_init_8 rfl ?_
  refine ap_bipush dX3_init_9 (by decide) ?_
  refine ap_callI (As := [am_i 100]) (rest := [.ref (p + 1), .ref p]) (ct_Text_init (t := p + 1) (L := 100) (by omega) xe2) dX3_init_11 lk_X3_11 rfl rfl hy_X6_init rfl (Nat.le_of_ble_eq_true rfl) ⟨Nat.le_of_ble_eq_true rfl, Nat.le_of_ble_eq_true rfl⟩ ⟨Nat.le_of_ble_eq_true rfl, Nat.le_of_ble_eq_true rfl⟩ (fun xr4 xN5 μa xq6 => ?_)
  obtain ⟨rfl, rfl, ha1, ha2⟩ := xq6
  have ha3 : ∀ b, b < p + 1 → μa b = _ := fun b q => ha2 b (by omega) (by omega)
  have xm7 : μa p = am_O 3 [.null, .null, .null] := (ha3 _ (by omega)).trans ((xf3 _ (by omega)).trans h1)
  refine ap_putF (fs2 := [.ref (p + 1), .null, .null]) ff_X3_14 fc_X3_0 dX3_init_14 (by omega) xm7 (fun _ => ⟨rfl, rfl⟩) (Nat.le_of_ble_eq_true rfl) rfl rfl (fun _ _ _ h => by cases h; rfl) (fun μ8 xe9 xf10 => ?_)
  refine ap_aload_n dX3_init_17 rfl rfl ?_
  refine ap_new nc_X3_9 dX3_init_18 (Nat.le_of_ble_eq_true rfl) (Nat.le_of_ble_eq_true rfl) (fun μ11 xe12 xf13 => ?_)
  refine ap_dup dX3_init_21 rfl ?_
  refine ap_sipush dX3_init_22 (by decide) ?_
  refine ap_callI (As := [am_i 900]) (rest := [.ref (p + 3), .ref p]) (ct_Text_init (t := p + 3) (L := 900) (by omega) xe12) dX3_init_25 lk_X3_11 rfl rfl hy_X6_init rfl (Nat.le_of_ble_eq_true rfl) ⟨Nat.le_of_ble_eq_true rfl, Nat.le_of_ble_eq_true rfl⟩ ⟨Nat.le_of_ble_eq_true rfl, Nat.le_of_ble_eq_true rfl⟩ (fun xr14 xN15 μb xq16 => ?_)
  obtain ⟨rfl, rfl, hb1, hb2⟩ := xq16
  have hb3 : ∀ b, b < p + 3 → μb b = _ := fun b q => hb2 b (by omega) (by omega)
  have xm17 : μb p = am_O 3 [.ref (p + 1), .null, .null] := (hb3 _ (by omega)).trans ((xf13 _ (by omega)).trans xe9)
  refine ap_putF (fs2 := [.ref (p + 1), .ref (p + 3), .null]) ff_X3_20 fc_X3_1 dX3_init_28 (by omega) xm17 (fun _ => ⟨rfl, rfl⟩) (Nat.le_of_ble_eq_true rfl) rfl rfl (fun _ _ _ h => by cases h; rfl) (fun μ18 xe19 xf20 => ?_)
  refine ap_aload_n dX3_init_31 rfl rfl ?_
  refine ap_new nc_X3_23 dX3_init_32 (Nat.le_of_ble_eq_true rfl) (Nat.le_of_ble_eq_true rfl) (fun μ21 xe22 xf23 => ?_)
  refine ap_dup dX3_init_35 rfl ?_
  refine ap_callI (As := []) (rest := [.ref (p + 5), .ref p]) (ct_Score_init (s := p + 5) xe22) dX3_init_36 lk_X3_25 rfl rfl hy_X4_init rfl (Nat.le_of_ble_eq_true rfl) ⟨Nat.le_of_ble_eq_true rfl, Nat.le_of_ble_eq_true rfl⟩ ⟨Nat.le_of_ble_eq_true rfl, Nat.le_of_ble_eq_true rfl⟩ (fun xr24 xN25 μc xq26 => ?_)
  obtain ⟨rfl, rfl, hc1, hc2⟩ := xq26
  have hc3 : ∀ b, b < p + 5 → μc b = _ := hc2
  have xm27 : μc p = am_O 3 [.ref (p + 1), .ref (p + 3), .null] := (hc3 _ (by omega)).trans ((xf23 _ (by omega)).trans xe19)
  refine ap_putF (fs2 := [.ref (p + 1), .ref (p + 3), .ref (p + 5)]) ff_X3_26 fc_X3_2 dX3_init_39 (by omega) xm27 (fun _ => ⟨rfl, rfl⟩) (Nat.le_of_ble_eq_true rfl) rfl rfl (fun _ _ _ h => by cases h; rfl) (fun μ28 xe29 xf30 => ?_)
  exact ap_vret dX3_init_42 rfl (Nat.le_of_ble_eq_true rfl) (Nat.le_of_ble_eq_true rfl) (⟨rfl, rfl, ⟨xe29, ha1.kept ((xf30 (p + 1) (by omega)).trans ((hc3 (p + 1) (by omega)).trans ((xf23 (p + 1) (by omega)).trans ((xf20 (p + 1) (by omega)).trans ((hb3 (p + 1) (by omega)).trans ((xf13 (p + 1) (by omega)).trans ((xf10 (p + 1) (by omega))))))))) ((xf30 (p + 1 + 1) (by omega)).trans ((hc3 (p + 1 + 1) (by omega)).trans ((xf23 (p + 1 + 1) (by omega)).trans ((xf20 (p + 1 + 1) (by omega)).trans ((hb3 (p + 1 + 1) (by omega)).trans ((xf13 (p + 1 + 1) (by omega)).trans ((xf10 (p + 1 + 1) (by omega))))))))), by rw [uf_nil]; exact hb1.kept ((xf30 (p + 3) (by omega)).trans ((hc3 (p + 3) (by omega)).trans ((xf23 (p + 3) (by omega)).trans ((xf20 (p + 3) (by omega)))))) ((xf30 (p + 3 + 1) (by omega)).trans ((hc3 (p + 3 + 1) (by omega)).trans ((xf23 (p + 3 + 1) (by omega)).trans ((xf20 (p + 3 + 1) (by omega)))))), by rw [uf_nil]; exact hc1.fr (lo := p) (hi := p + 1) (fun b hb => (xf30 b (by omega))) (by omega), okx_nil⟩, fun b hb => (xf30 b (by omega)).trans ((hc3 b (by omega)).trans ((xf23 b (by omega)).trans ((xf20 b (by omega)).trans ((hb3 b (by omega)).trans ((xf13 b (by omega)).trans ((xf10 b (by omega)).trans ((ha3 b (by omega)).trans ((xf3 b (by omega))))))))))⟩)

set_option maxHeartbeats 4000000 in
set_option maxRecDepth 100000 in
theorem ct_Over_init {μ : am_M} {v : Nat} (h1 : μ v = am_O 2 [.null, am_l 0, am_i 0]) : am_Met YX2_init [.ref v] (v + 1) μ (fun r N2 μ2 => r = none ∧ N2 = v + 2 ∧ μ2 v = am_O 2 [.ref (v + 1), am_l 0, am_i 0] ∧ (∃ f : Nat → Int, μ2 (v + 1) = am_I 0 4 f) ∧ ∀ b, b < v → μ2 b = μ b) := by
  refine am_met (by first | decide | rfl) (Nat.le_of_ble_eq_true rfl) (fun h => by first | rfl | cases h) ?_
  show am_W YX2_init _ 0 0 0 [(0, .ref v)] [] _ _
  refine ap_aload_n dX2_init_0 rfl rfl ?_
  refine ap_obj dX2_init_1 lk_X2_3 ⟨Nat.le_of_ble_eq_true rfl, Nat.le_of_ble_eq_true rfl⟩ ?_
  refine ap_aload_n dX2_init_4 rfl rfl ?_
  refine ap_iconst dX2_init_5 ?_
  refine ap_newi (L := 4) dX2_init_6 ac_int (rfl) (by omega) (Nat.le_of_ble_eq_true rfl) (Nat.le_of_ble_eq_true rfl) (fun μ1 xe2 xf3 => ?_)
  have xm4 : μ1 v = am_O 2 [.null, am_l 0, am_i 0] := (xf3 _ (by omega)).trans h1
  refine ap_putF (fs2 := [.ref (v + 1), am_l 0, am_i 0]) ff_X2_9 fc_X2_0 dX2_init_8 (by omega) xm4 (fun _ => ⟨rfl, rfl⟩) (Nat.le_of_ble_eq_true rfl) rfl rfl (fun _ _ _ h => by cases h; rfl) (fun μ5 xe6 xf7 => ?_)
  have xm8 : μ5 (v + 1) = am_I 0 4 (fun _ => 0) := (xf7 _ (by omega)).trans xe2
  exact ap_vret dX2_init_11 rfl (Nat.le_of_ble_eq_true rfl) (Nat.le_of_ble_eq_true rfl) (⟨rfl, rfl, xe6, ⟨_, xm8⟩, fun b hb => (xf7 b (by omega)).trans ((xf3 b (by omega)))⟩)

set_option maxHeartbeats 4000000 in
set_option maxRecDepth 100000 in
theorem ct_Gram_init {N : Nat} {μ : am_M} {g : Nat} : am_Met YX0_init [.ref g] N μ (fun r N2 μ2 => r = none ∧ N = N2 ∧ μ = μ2) := by
  refine am_met (by first | decide | rfl) (Nat.le_of_ble_eq_true rfl) (fun h => by first | rfl | cases h) ?_
  show am_W YX0_init _ 0 0 0 [(0, .ref g)] [] _ _
  refine ap_aload_n dX0_init_0 rfl rfl ?_
  refine ap_obj dX0_init_1 lk_X0_3 ⟨Nat.le_of_ble_eq_true rfl, Nat.le_of_ble_eq_true rfl⟩ ?_
  exact ap_vret dX0_init_4 rfl (Nat.le_of_ble_eq_true rfl) (Nat.le_of_ble_eq_true rfl) (⟨rfl, rfl, rfl⟩)

set_option maxHeartbeats 4000000 in
set_option maxRecDepth 100000 in
theorem ct_State_init {μ : am_M} {q : Nat} (h1 : μ q = am_O 5 [.null, am_i 0, am_i 0, am_i 0, am_i 0]) : am_Met YX5_init [.ref q] (q + 1) μ (fun r N2 μ2 => r = none ∧ N2 = q + 10 ∧ StO μ2 q (fun _ => [], 0, 0, 0, 0) ∧ ∀ b, b < q → μ2 b = μ b) := by
  refine am_met (by first | decide | rfl) (Nat.le_of_ble_eq_true rfl) (fun h => by first | rfl | cases h) ?_
  show am_W YX5_init _ 0 0 0 [(0, .ref q)] [] _ _
  refine ap_aload_n dX5_init_0 rfl rfl ?_
  refine ap_obj dX5_init_1 lk_X5_3 ⟨Nat.le_of_ble_eq_true rfl, Nat.le_of_ble_eq_true rfl⟩ ?_
  refine ap_aload_n dX5_init_4 rfl rfl ?_
  refine ap_iconst dX5_init_5 ?_
  refine ap_anew (t := 6) (L := 4) (fun _ _ _ h => h.2.1.2.2) (fun _ => rfl) tw_214 dX5_init_6 rfl (by omega) (Nat.le_of_ble_eq_true rfl) (Nat.le_of_ble_eq_true rfl) (fun μ1 xe2 xf3 => ?_)
  have xm4 : μ1 q = am_O 5 [.null, am_i 0, am_i 0, am_i 0, am_i 0] := (xf3 _ (by omega)).trans h1
  refine ap_putF (fs2 := [.ref (q + 1), am_i 0, am_i 0, am_i 0, am_i 0]) ff_X5_11 fc_X5_0 dX5_init_9 (by omega) xm4 (fun _ => ⟨rfl, rfl⟩) (Nat.le_of_ble_eq_true rfl) rfl rfl (fun _ _ _ h => by cases h; rfl) (fun μ5 xe6 xf7 => ?_)
  refine ap_iconst dX5_init_12 ?_
  refine ap_Istore_n (lv2 := [(0, .ref q), (1, am_i 0)]) dX5_init_13 rfl (by decide) rfl ?_
  refine ap_iload_n dX5_init_14 rfl rfl ?_
  refine ap_iconst dX5_init_15 ?_
  refine ap_icmp_ge (tgt := 40) dX5_init_16 (by decide) (by omega) (fun c16 => (by exfalso; omega)) (fun c16 => ?_)
  refine ap_aload_n dX5_init_19 rfl rfl ?_
  refine ap_get ff_X5_11 dX5_init_20 (by omega) xe6 rfl ?_
  refine ap_iload_n dX5_init_23 rfl rfl ?_
  refine ap_new nc_X5_9 dX5_init_24 (Nat.le_of_ble_eq_true rfl) (Nat.le_of_ble_eq_true rfl) (fun μ8 xe9 xf10 => ?_)
  refine ap_dup dX5_init_27 rfl ?_
  refine ap_bipush dX5_init_28 (by decide) ?_
  refine ap_callI (As := [am_i 100]) (rest := [.ref (q + 2), am_i 0, .ref (q + 1)]) (ct_Text_init (t := q + 2) (L := 100) (by omega) xe9) dX5_init_30 lk_X5_17 rfl rfl hy_X6_init rfl (Nat.le_of_ble_eq_true rfl) ⟨Nat.le_of_ble_eq_true rfl, Nat.le_of_ble_eq_true rfl⟩ ⟨Nat.le_of_ble_eq_true rfl, Nat.le_of_ble_eq_true rfl⟩ (fun xr11 xN12 μa xq13 => ?_)
  obtain ⟨rfl, rfl, ha1, ha2⟩ := xq13
  have ha3 : ∀ b, b < q + 2 → μa b = _ := fun b q => ha2 b (by omega) (by omega)
  have xm14 : μa (q + 1) = am_R 6 4 (fun _ => none) := (ha3 _ (by omega)).trans ((xf10 _ (by omega)).trans ((xf7 _ (by omega)).trans xe2))
  refine ap_aast6 (j := 0) dX5_init_33 (by omega) xm14 (by omega) (by omega) (by omega) ha1.1 (fun μ15 xe16 xf17 => ?_)
  refine ap_Iinc (lv2 := [(0, .ref q), (1, am_i (0 + 1))]) dX5_init_34 rfl (by decide) rfl ?_
  refine ap_goto (tgt := 14) dX5_init_37 (by decide) ?_
  refine ap_iload_n dX5_init_14 rfl rfl ?_
  refine ap_iconst dX5_init_15 ?_
  refine ap_icmp_ge (tgt := 40) dX5_init_16 (by decide) (by omega) (fun c16 => (by exfalso; omega)) (fun c16 => ?_)
  refine ap_aload_n dX5_init_19 rfl rfl ?_
  have xm18 : μ15 q = am_O 5 [.ref (q + 1), am_i 0, am_i 0, am_i 0, am_i 0] := (xf17 _ (by omega)).trans ((ha3 _ (by omega)).trans ((xf10 _ (by omega)).trans xe6))
  refine ap_get ff_X5_11 dX5_init_20 (by omega) xm18 rfl ?_
  refine ap_iload_n dX5_init_23 rfl rfl ?_
  refine ap_new nc_X5_9 dX5_init_24 (Nat.le_of_ble_eq_true rfl) (Nat.le_of_ble_eq_true rfl) (fun μ19 xe20 xf21 => ?_)
  refine ap_dup dX5_init_27 rfl ?_
  refine ap_bipush dX5_init_28 (by decide) ?_
  refine ap_callI (As := [am_i 100]) (rest := [.ref (q + 4), am_i (0 + 1), .ref (q + 1)]) (ct_Text_init (t := q + 4) (L := 100) (by omega) xe20) dX5_init_30 lk_X5_17 rfl rfl hy_X6_init rfl (Nat.le_of_ble_eq_true rfl) ⟨Nat.le_of_ble_eq_true rfl, Nat.le_of_ble_eq_true rfl⟩ ⟨Nat.le_of_ble_eq_true rfl, Nat.le_of_ble_eq_true rfl⟩ (fun xr22 xN23 μb xq24 => ?_)
  obtain ⟨rfl, rfl, hb1, hb2⟩ := xq24
  have hb3 : ∀ b, b < q + 4 → μb b = _ := fun b q => hb2 b (by omega) (by omega)
  have xm25 : μb (q + 1) = am_R 6 4 (va_up (fun _ => none) 0 (some (q + 2))) := (hb3 _ (by omega)).trans ((xf21 _ (by omega)).trans xe16)
  refine ap_aast6 (j := 1) dX5_init_33 (by omega) xm25 (by omega) (by omega) (by omega) hb1.1 (fun μ26 xe27 xf28 => ?_)
  refine ap_Iinc (lv2 := [(0, .ref q), (1, am_i ((0 + 1) + 1))]) dX5_init_34 rfl (by decide) rfl ?_
  refine ap_goto (tgt := 14) dX5_init_37 (by decide) ?_
  refine ap_iload_n dX5_init_14 rfl rfl ?_
  refine ap_iconst dX5_init_15 ?_
  refine ap_icmp_ge (tgt := 40) dX5_init_16 (by decide) (by omega) (fun c16 => (by exfalso; omega)) (fun c16 => ?_)
  refine ap_aload_n dX5_init_19 rfl rfl ?_
  have xm29 : μ26 q = am_O 5 [.ref (q + 1), am_i 0, am_i 0, am_i 0, am_i 0] := (xf28 _ (by omega)).trans ((hb3 _ (by omega)).trans ((xf21 _ (by omega)).trans xm18))
  refine ap_get ff_X5_11 dX5_init_20 (by omega) xm29 rfl ?_
  refine ap_iload_n dX5_init_23 rfl rfl ?_
  refine ap_new nc_X5_9 dX5_init_24 (Nat.le_of_ble_eq_true rfl) (Nat.le_of_ble_eq_true rfl) (fun μ30 xe31 xf32 => ?_)
  refine ap_dup dX5_init_27 rfl ?_
  refine ap_bipush dX5_init_28 (by decide) ?_
  refine ap_callI (As := [am_i 100]) (rest := [.ref (q + 6), am_i ((0 + 1) + 1), .ref (q + 1)]) (ct_Text_init (t := q + 6) (L := 100) (by omega) xe31) dX5_init_30 lk_X5_17 rfl rfl hy_X6_init rfl (Nat.le_of_ble_eq_true rfl) ⟨Nat.le_of_ble_eq_true rfl, Nat.le_of_ble_eq_true rfl⟩ ⟨Nat.le_of_ble_eq_true rfl, Nat.le_of_ble_eq_true rfl⟩ (fun xr33 xN34 μc xq35 => ?_)
  obtain ⟨rfl, rfl, hc1, hc2⟩ := xq35
  have hc3 : ∀ b, b < q + 6 → μc b = _ := fun b q => hc2 b (by omega) (by omega)
  have xm36 : μc (q + 1) = am_R 6 4 (va_up (va_up (fun _ => none) 0 (some (q + 2))) 1 (some (q + 4))) := (hc3 _ (by omega)).trans ((xf32 _ (by omega)).trans xe27)
  refine ap_aast6 (j := 2) dX5_init_33 (by omega) xm36 (by omega) (by omega) (by omega) hc1.1 (fun μ37 xe38 xf39 => ?_)
  refine ap_Iinc (lv2 := [(0, .ref q), (1, am_i (((0 + 1) + 1) + 1))]) dX5_init_34 rfl (by decide) rfl ?_
  refine ap_goto (tgt := 14) dX5_init_37 (by decide) ?_
  refine ap_iload_n dX5_init_14 rfl rfl ?_
  refine ap_iconst dX5_init_15 ?_
  refine ap_icmp_ge (tgt := 40) dX5_init_16 (by decide) (by omega) (fun c16 => (by exfalso; omega)) (fun c16 => ?_)
  refine ap_aload_n dX5_init_19 rfl rfl ?_
  have xm40 : μ37 q = am_O 5 [.ref (q + 1), am_i 0, am_i 0, am_i 0, am_i 0] := (xf39 _ (by omega)).trans ((hc3 _ (by omega)).trans ((xf32 _ (by omega)).trans xm29))
  refine ap_get ff_X5_11 dX5_init_20 (by omega) xm40 rfl ?_
  refine ap_iload_n dX5_init_23 rfl rfl ?_
  refine ap_new nc_X5_9 dX5_init_24 (Nat.le_of_ble_eq_true rfl) (Nat.le_of_ble_eq_true rfl) (fun μ41 xe42 xf43 => ?_)
  refine ap_dup dX5_init_27 rfl ?_
  refine ap_bipush dX5_init_28 (by decide) ?_
  refine ap_callI (As := [am_i 100]) (rest := [.ref (q + 8), am_i (((0 + 1) + 1) + 1), .ref (q + 1)]) (ct_Text_init (t := q + 8) (L := 100) (by omega) xe42) dX5_init_30 lk_X5_17 rfl rfl hy_X6_init rfl (Nat.le_of_ble_eq_true rfl) ⟨Nat.le_of_ble_eq_true rfl, Nat.le_of_ble_eq_true rfl⟩ ⟨Nat.le_of_ble_eq_true rfl, Nat.le_of_ble_eq_true rfl⟩ (fun xr44 xN45 μd xq46 => ?_)
  obtain ⟨rfl, rfl, hd1, hd2⟩ := xq46
  have hd3 : ∀ b, b < q + 8 → μd b = _ := fun b q => hd2 b (by omega) (by omega)
  have xm47 : μd (q + 1) = am_R 6 4 (va_up (va_up (va_up (fun _ => none) 0 (some (q + 2))) 1 (some (q + 4))) 2 (some (q + 6))) := (hd3 _ (by omega)).trans ((xf43 _ (by omega)).trans xe38)
  refine ap_aast6 (j := 3) dX5_init_33 (by omega) xm47 (by omega) (by omega) (by omega) hd1.1 (fun μ48 xe49 xf50 => ?_)
  refine ap_Iinc (lv2 := [(0, .ref q), (1, am_i ((((0 + 1) + 1) + 1) + 1))]) dX5_init_34 rfl (by decide) rfl ?_
  refine ap_goto (tgt := 14) dX5_init_37 (by decide) ?_
  refine ap_iload_n dX5_init_14 rfl rfl ?_
  refine ap_iconst dX5_init_15 ?_
  refine ap_icmp_ge (tgt := 40) dX5_init_16 (by decide) (by omega) (fun c16 => ?_) (fun c16 => (by exfalso; omega))
  have xm51 : μ48 q = am_O 5 [.ref (q + 1), am_i 0, am_i 0, am_i 0, am_i 0] := (xf50 _ (by omega)).trans ((hd3 _ (by omega)).trans ((xf43 _ (by omega)).trans xm40))
  exact ap_vret dX5_init_40 rfl (Nat.le_of_ble_eq_true rfl) (Nat.le_of_ble_eq_true rfl) (⟨rfl, rfl, ⟨xm51, ⟨_, xe49, fun k hk => by rcases (show k = 0 ∨ k = 1 ∨ k = 2 ∨ k = 3 by omega) with rfl | rfl | rfl | rfl <;> simp [va_up]⟩, fun k hk => by
    rcases (show k = 0 ∨ k = 1 ∨ k = 2 ∨ k = 3 by omega) with rfl | rfl | rfl | rfl
    · exact ha1.kept ((xf50 (q + 2) (by omega)).trans ((hd3 (q + 2) (by omega)).trans ((xf43 (q + 2) (by omega)).trans ((xf39 (q + 2) (by omega)).trans ((hc3 (q + 2) (by omega)).trans ((xf32 (q + 2) (by omega)).trans ((xf28 (q + 2) (by omega)).trans ((hb3 (q + 2) (by omega)).trans ((xf21 (q + 2) (by omega)).trans ((xf17 (q + 2) (by omega)))))))))))) ((xf50 (q + 2 + 1) (by omega)).trans ((hd3 (q + 2 + 1) (by omega)).trans ((xf43 (q + 2 + 1) (by omega)).trans ((xf39 (q + 2 + 1) (by omega)).trans ((hc3 (q + 2 + 1) (by omega)).trans ((xf32 (q + 2 + 1) (by omega)).trans ((xf28 (q + 2 + 1) (by omega)).trans ((hb3 (q + 2 + 1) (by omega)).trans ((xf21 (q + 2 + 1) (by omega)).trans ((xf17 (q + 2 + 1) (by omega))))))))))))
    · exact hb1.kept ((xf50 (q + 4) (by omega)).trans ((hd3 (q + 4) (by omega)).trans ((xf43 (q + 4) (by omega)).trans ((xf39 (q + 4) (by omega)).trans ((hc3 (q + 4) (by omega)).trans ((xf32 (q + 4) (by omega)).trans ((xf28 (q + 4) (by omega))))))))) ((xf50 (q + 4 + 1) (by omega)).trans ((hd3 (q + 4 + 1) (by omega)).trans ((xf43 (q + 4 + 1) (by omega)).trans ((xf39 (q + 4 + 1) (by omega)).trans ((hc3 (q + 4 + 1) (by omega)).trans ((xf32 (q + 4 + 1) (by omega)).trans ((xf28 (q + 4 + 1) (by omega)))))))))
    · exact hc1.kept ((xf50 (q + 6) (by omega)).trans ((hd3 (q + 6) (by omega)).trans ((xf43 (q + 6) (by omega)).trans ((xf39 (q + 6) (by omega)))))) ((xf50 (q + 6 + 1) (by omega)).trans ((hd3 (q + 6 + 1) (by omega)).trans ((xf43 (q + 6 + 1) (by omega)).trans ((xf39 (q + 6 + 1) (by omega))))))
    · exact hd1.kept ((xf50 (q + 8) (by omega))) ((xf50 (q + 8 + 1) (by omega)))⟩, fun b hb => (xf50 b (by omega)).trans ((hd3 b (by omega)).trans ((xf43 b (by omega)).trans ((xf39 b (by omega)).trans ((hc3 b (by omega)).trans ((xf32 b (by omega)).trans ((xf28 b (by omega)).trans ((hb3 b (by omega)).trans ((xf21 b (by omega)).trans ((xf17 b (by omega)).trans ((ha3 b (by omega)).trans ((xf10 b (by omega)).trans ((xf7 b (by omega)).trans ((xf3 b (by omega)))))))))))))))⟩)

def C0 : Snap := (fun _ => [], 4, 4, 1, 1)
def hs0 : Nat → Snap := fun _ => (fun _ => [], 0, 0, 0, 0)
def YB_init : am_Y := (yX9_init, cX9_init, 2, none, true, am_rm 4 81 119 16823)
set_option maxHeartbeats 16000000 in
set_option maxRecDepth 100000 in
theorem cx_init {μ : am_M} (h1 : μ 0 = am_O 9 [.null, .null, .null, .null, .null, .null, am_i 0, am_i 0, am_i 0, am_i 0, am_i 0]) : am_Met YB_init [.ref 0] 1 μ (fun r N2 μ2 => r = none ∧ N2 = 120 ∧ Bx μ2 [] C0 0 hs0) := by
  refine am_met (by first | decide | rfl) (Nat.le_of_ble_eq_true rfl) (fun h => by first | rfl | cases h) ?_
  show am_W YB_init _ 0 0 0 [(0, .ref 0)] [] _ _
  refine ap_aload_n dX9_init_0 rfl rfl ?_
  refine ap_obj dX9_init_1 lk_X9_3 ⟨Nat.le_of_ble_eq_true rfl, Nat.le_of_ble_eq_true rfl⟩ ?_
  refine ap_aload_n dX9_init_4 rfl rfl ?_
  refine ap_new nc_X9_9 dX9_init_5 (Nat.le_of_ble_eq_true rfl) (Nat.le_of_ble_eq_true rfl) (fun μ1 xe2 xf3 => ?_)
  refine ap_dup dX9_init_8 rfl ?_
  refine ap_bipush dX9_init_9 (by decide) ?_
  refine ap_callI (As := [am_i 100]) (rest := [.ref 1, .ref 0]) (ct_Text_init (t := 1) (L := 100) (by omega) xe2) dX9_init_11 lk_X9_11 rfl rfl hy_X6_init rfl (Nat.le_of_ble_eq_true rfl) ⟨Nat.le_of_ble_eq_true rfl, Nat.le_of_ble_eq_true rfl⟩ ⟨Nat.le_of_ble_eq_true rfl, Nat.le_of_ble_eq_true rfl⟩ (fun xr4 xN5 μa xq6 => ?_)
  obtain ⟨rfl, rfl, ha1, ha2⟩ := xq6
  have ha3 : ∀ b, b < 1 → μa b = _ := fun b q => ha2 b (by omega) (by omega)
  have xm7 : μa 0 = am_O 9 [.null, .null, .null, .null, .null, .null, am_i 0, am_i 0, am_i 0, am_i 0, am_i 0] := (ha3 _ (by omega)).trans ((xf3 _ (by omega)).trans h1)
  refine ap_putF (fs2 := [.ref 1, .null, .null, .null, .null, .null, am_i 0, am_i 0, am_i 0, am_i 0, am_i 0]) ff_X9_14 fc_X9_0 dX9_init_14 (by omega) xm7 (fun _ => ⟨rfl, rfl⟩) (Nat.le_of_ble_eq_true rfl) rfl rfl (fun _ _ _ h => by cases h; rfl) (fun μ8 xe9 xf10 => ?_)
  refine ap_aload_n dX9_init_17 rfl rfl ?_
  refine ap_new nc_X9_9 dX9_init_18 (Nat.le_of_ble_eq_true rfl) (Nat.le_of_ble_eq_true rfl) (fun μ11 xe12 xf13 => ?_)
  refine ap_dup dX9_init_21 rfl ?_
  refine ap_sipush dX9_init_22 (by decide) ?_
  refine ap_callI (As := [am_i 900]) (rest := [.ref 3, .ref 0]) (ct_Text_init (t := 3) (L := 900) (by omega) xe12) dX9_init_25 lk_X9_11 rfl rfl hy_X6_init rfl (Nat.le_of_ble_eq_true rfl) ⟨Nat.le_of_ble_eq_true rfl, Nat.le_of_ble_eq_true rfl⟩ ⟨Nat.le_of_ble_eq_true rfl, Nat.le_of_ble_eq_true rfl⟩ (fun xr14 xN15 μb xq16 => ?_)
  obtain ⟨rfl, rfl, hb1, hb2⟩ := xq16
  have hb3 : ∀ b, b < 3 → μb b = _ := fun b q => hb2 b (by omega) (by omega)
  have xm17 : μb 0 = am_O 9 [.ref 1, .null, .null, .null, .null, .null, am_i 0, am_i 0, am_i 0, am_i 0, am_i 0] := (hb3 _ (by omega)).trans ((xf13 _ (by omega)).trans xe9)
  refine ap_putF (fs2 := [.ref 1, .ref 3, .null, .null, .null, .null, am_i 0, am_i 0, am_i 0, am_i 0, am_i 0]) ff_X9_18 fc_X9_1 dX9_init_28 (by omega) xm17 (fun _ => ⟨rfl, rfl⟩) (Nat.le_of_ble_eq_true rfl) rfl rfl (fun _ _ _ h => by cases h; rfl) (fun μ18 xe19 xf20 => ?_)
  refine ap_aload_n dX9_init_31 rfl rfl ?_
  refine ap_new nc_X9_21 dX9_init_32 (Nat.le_of_ble_eq_true rfl) (Nat.le_of_ble_eq_true rfl) (fun μ21 xe22 xf23 => ?_)
  refine ap_dup dX9_init_35 rfl ?_
  refine ap_callIN (As := []) (rest := [.ref 5, .ref 0]) (ct_Gram_init (g := 5)) dX9_init_36 lk_X9_23 rfl rfl hy_X0_init rfl (Nat.le_of_ble_eq_true rfl) ⟨Nat.le_of_ble_eq_true rfl, Nat.le_of_ble_eq_true rfl⟩ ⟨Nat.le_of_ble_eq_true rfl, Nat.le_of_ble_eq_true rfl⟩ (fun xr24 xN25 μ26 xq27 => ?_)
  obtain ⟨rfl, rfl, rfl⟩ := xq27
  have xm28 : μ21 0 = am_O 9 [.ref 1, .ref 3, .null, .null, .null, .null, am_i 0, am_i 0, am_i 0, am_i 0, am_i 0] := (xf23 _ (by omega)).trans xe19
  refine ap_putF (fs2 := [.ref 1, .ref 3, .ref 5, .null, .null, .null, am_i 0, am_i 0, am_i 0, am_i 0, am_i 0]) ff_X9_24 fc_X9_2 dX9_init_39 (by omega) xm28 (fun _ => ⟨rfl, rfl⟩) (Nat.le_of_ble_eq_true rfl) rfl rfl (fun _ _ _ h => by cases h; rfl) (fun μ29 xe30 xf31 => ?_)
  refine ap_aload_n dX9_init_42 rfl rfl ?_
  refine ap_iconst dX9_init_43 ?_
  refine ap_anew (t := 4) (L := 4) (fun _ _ _ h => h.2.1.1) (fun _ => rfl) tw_117 dX9_init_44 rfl (by omega) (Nat.le_of_ble_eq_true rfl) (Nat.le_of_ble_eq_true rfl) (fun μ32 xe33 xf34 => ?_)
  have xm35 : μ32 0 = am_O 9 [.ref 1, .ref 3, .ref 5, .null, .null, .null, am_i 0, am_i 0, am_i 0, am_i 0, am_i 0] := (xf34 _ (by omega)).trans xe30
  refine ap_putF (fs2 := [.ref 1, .ref 3, .ref 5, .ref 6, .null, .null, am_i 0, am_i 0, am_i 0, am_i 0, am_i 0]) ff_X9_30 fc_X9_3 dX9_init_47 (by omega) xm35 (fun _ => ⟨rfl, rfl⟩) (Nat.le_of_ble_eq_true rfl) rfl rfl (fun _ _ _ h => by cases h; rfl) (fun μ36 xe37 xf38 => ?_)
  refine ap_iconst dX9_init_50 ?_
  refine ap_Istore_n (lv2 := [(0, .ref 0), (1, am_i 0)]) dX9_init_51 rfl (by decide) rfl ?_
  refine ap_iload_n dX9_init_52 rfl rfl ?_
  refine ap_iconst dX9_init_53 ?_
  refine ap_icmp_ge (tgt := 76) dX9_init_54 (by decide) (by omega) (fun c54 => (by exfalso; omega)) (fun c54 => ?_)
  refine ap_aload_n dX9_init_57 rfl rfl ?_
  refine ap_get ff_X9_30 dX9_init_58 (by omega) xe37 rfl ?_
  refine ap_iload_n dX9_init_61 rfl rfl ?_
  refine ap_new nc_X9_28 dX9_init_62 (Nat.le_of_ble_eq_true rfl) (Nat.le_of_ble_eq_true rfl) (fun μ39 xe40 xf41 => ?_)
  refine ap_dup dX9_init_65 rfl ?_
  refine ap_callIN (As := []) (rest := [.ref 7, am_i 0, .ref 6]) (ct_Part_init (p := 7) xe40) dX9_init_66 lk_X9_34 rfl rfl hy_X3_init rfl (Nat.le_of_ble_eq_true rfl) ⟨Nat.le_of_ble_eq_true rfl, Nat.le_of_ble_eq_true rfl⟩ ⟨Nat.le_of_ble_eq_true rfl, Nat.le_of_ble_eq_true rfl⟩ (fun xr42 xN43 μpa xq44 => ?_)
  obtain ⟨rfl, rfl, hpa1, hpa2⟩ := xq44
  have hpa3 : ∀ b, b < 7 → μpa b = _ := hpa2
  have xm45 : μpa 6 = am_R 4 4 (fun _ => none) := (hpa3 _ (by omega)).trans ((xf41 _ (by omega)).trans ((xf38 _ (by omega)).trans xe33))
  refine ap_aast4 (j := 0) dX9_init_69 (by omega) xm45 (by omega) (by omega) (by omega) hpa1.1 (fun μ46 xe47 xf48 => ?_)
  refine ap_Iinc (lv2 := [(0, .ref 0), (1, am_i (0 + 1))]) dX9_init_70 rfl (by decide) rfl ?_
  refine ap_goto (tgt := 52) dX9_init_73 (by decide) ?_
  refine ap_iload_n dX9_init_52 rfl rfl ?_
  refine ap_iconst dX9_init_53 ?_
  refine ap_icmp_ge (tgt := 76) dX9_init_54 (by decide) (by omega) (fun c54 => (by exfalso; omega)) (fun c54 => ?_)
  refine ap_aload_n dX9_init_57 rfl rfl ?_
  have xm49 : μ46 0 = am_O 9 [.ref 1, .ref 3, .ref 5, .ref 6, .null, .null, am_i 0, am_i 0, am_i 0, am_i 0, am_i 0] := (xf48 _ (by omega)).trans ((hpa3 _ (by omega)).trans ((xf41 _ (by omega)).trans xe37))
  refine ap_get ff_X9_30 dX9_init_58 (by omega) xm49 rfl ?_
  refine ap_iload_n dX9_init_61 rfl rfl ?_
  refine ap_new nc_X9_28 dX9_init_62 (Nat.le_of_ble_eq_true rfl) (Nat.le_of_ble_eq_true rfl) (fun μ50 xe51 xf52 => ?_)
  refine ap_dup dX9_init_65 rfl ?_
  refine ap_callIN (As := []) (rest := [.ref 22, am_i (0 + 1), .ref 6]) (ct_Part_init (p := 22) xe51) dX9_init_66 lk_X9_34 rfl rfl hy_X3_init rfl (Nat.le_of_ble_eq_true rfl) ⟨Nat.le_of_ble_eq_true rfl, Nat.le_of_ble_eq_true rfl⟩ ⟨Nat.le_of_ble_eq_true rfl, Nat.le_of_ble_eq_true rfl⟩ (fun xr53 xN54 μpb xq55 => ?_)
  obtain ⟨rfl, rfl, hpb1, hpb2⟩ := xq55
  have hpb3 : ∀ b, b < 22 → μpb b = _ := hpb2
  have xm56 : μpb 6 = am_R 4 4 (va_up (fun _ => none) 0 (some 7)) := (hpb3 _ (by omega)).trans ((xf52 _ (by omega)).trans xe47)
  refine ap_aast4 (j := 1) dX9_init_69 (by omega) xm56 (by omega) (by omega) (by omega) hpb1.1 (fun μ57 xe58 xf59 => ?_)
  refine ap_Iinc (lv2 := [(0, .ref 0), (1, am_i ((0 + 1) + 1))]) dX9_init_70 rfl (by decide) rfl ?_
  refine ap_goto (tgt := 52) dX9_init_73 (by decide) ?_
  refine ap_iload_n dX9_init_52 rfl rfl ?_
  refine ap_iconst dX9_init_53 ?_
  refine ap_icmp_ge (tgt := 76) dX9_init_54 (by decide) (by omega) (fun c54 => (by exfalso; omega)) (fun c54 => ?_)
  refine ap_aload_n dX9_init_57 rfl rfl ?_
  have xm60 : μ57 0 = am_O 9 [.ref 1, .ref 3, .ref 5, .ref 6, .null, .null, am_i 0, am_i 0, am_i 0, am_i 0, am_i 0] := (xf59 _ (by omega)).trans ((hpb3 _ (by omega)).trans ((xf52 _ (by omega)).trans xm49))
  refine ap_get ff_X9_30 dX9_init_58 (by omega) xm60 rfl ?_
  refine ap_iload_n dX9_init_61 rfl rfl ?_
  refine ap_new nc_X9_28 dX9_init_62 (Nat.le_of_ble_eq_true rfl) (Nat.le_of_ble_eq_true rfl) (fun μ61 xe62 xf63 => ?_)
  refine ap_dup dX9_init_65 rfl ?_
  refine ap_callIN (As := []) (rest := [.ref 37, am_i ((0 + 1) + 1), .ref 6]) (ct_Part_init (p := 37) xe62) dX9_init_66 lk_X9_34 rfl rfl hy_X3_init rfl (Nat.le_of_ble_eq_true rfl) ⟨Nat.le_of_ble_eq_true rfl, Nat.le_of_ble_eq_true rfl⟩ ⟨Nat.le_of_ble_eq_true rfl, Nat.le_of_ble_eq_true rfl⟩ (fun xr64 xN65 μpc xq66 => ?_)
  obtain ⟨rfl, rfl, hpc1, hpc2⟩ := xq66
  have hpc3 : ∀ b, b < 37 → μpc b = _ := hpc2
  have xm67 : μpc 6 = am_R 4 4 (va_up (va_up (fun _ => none) 0 (some 7)) 1 (some 22)) := (hpc3 _ (by omega)).trans ((xf63 _ (by omega)).trans xe58)
  refine ap_aast4 (j := 2) dX9_init_69 (by omega) xm67 (by omega) (by omega) (by omega) hpc1.1 (fun μ68 xe69 xf70 => ?_)
  refine ap_Iinc (lv2 := [(0, .ref 0), (1, am_i (((0 + 1) + 1) + 1))]) dX9_init_70 rfl (by decide) rfl ?_
  refine ap_goto (tgt := 52) dX9_init_73 (by decide) ?_
  refine ap_iload_n dX9_init_52 rfl rfl ?_
  refine ap_iconst dX9_init_53 ?_
  refine ap_icmp_ge (tgt := 76) dX9_init_54 (by decide) (by omega) (fun c54 => (by exfalso; omega)) (fun c54 => ?_)
  refine ap_aload_n dX9_init_57 rfl rfl ?_
  have xm71 : μ68 0 = am_O 9 [.ref 1, .ref 3, .ref 5, .ref 6, .null, .null, am_i 0, am_i 0, am_i 0, am_i 0, am_i 0] := (xf70 _ (by omega)).trans ((hpc3 _ (by omega)).trans ((xf63 _ (by omega)).trans xm60))
  refine ap_get ff_X9_30 dX9_init_58 (by omega) xm71 rfl ?_
  refine ap_iload_n dX9_init_61 rfl rfl ?_
  refine ap_new nc_X9_28 dX9_init_62 (Nat.le_of_ble_eq_true rfl) (Nat.le_of_ble_eq_true rfl) (fun μ72 xe73 xf74 => ?_)
  refine ap_dup dX9_init_65 rfl ?_
  refine ap_callIN (As := []) (rest := [.ref 52, am_i (((0 + 1) + 1) + 1), .ref 6]) (ct_Part_init (p := 52) xe73) dX9_init_66 lk_X9_34 rfl rfl hy_X3_init rfl (Nat.le_of_ble_eq_true rfl) ⟨Nat.le_of_ble_eq_true rfl, Nat.le_of_ble_eq_true rfl⟩ ⟨Nat.le_of_ble_eq_true rfl, Nat.le_of_ble_eq_true rfl⟩ (fun xr75 xN76 μpd xq77 => ?_)
  obtain ⟨rfl, rfl, hpd1, hpd2⟩ := xq77
  have hpd3 : ∀ b, b < 52 → μpd b = _ := hpd2
  have xm78 : μpd 6 = am_R 4 4 (va_up (va_up (va_up (fun _ => none) 0 (some 7)) 1 (some 22)) 2 (some 37)) := (hpd3 _ (by omega)).trans ((xf74 _ (by omega)).trans xe69)
  refine ap_aast4 (j := 3) dX9_init_69 (by omega) xm78 (by omega) (by omega) (by omega) hpd1.1 (fun μ79 xe80 xf81 => ?_)
  refine ap_Iinc (lv2 := [(0, .ref 0), (1, am_i ((((0 + 1) + 1) + 1) + 1))]) dX9_init_70 rfl (by decide) rfl ?_
  refine ap_goto (tgt := 52) dX9_init_73 (by decide) ?_
  refine ap_iload_n dX9_init_52 rfl rfl ?_
  refine ap_iconst dX9_init_53 ?_
  refine ap_icmp_ge (tgt := 76) dX9_init_54 (by decide) (by omega) (fun c54 => ?_) (fun c54 => (by exfalso; omega))
  refine ap_aload_n dX9_init_76 rfl rfl ?_
  refine ap_iconst dX9_init_77 ?_
  refine ap_anew (t := 5) (L := 5) (fun _ _ _ h => h.2.1.2.1) (fun _ => rfl) tw_207 dX9_init_78 rfl (by omega) (Nat.le_of_ble_eq_true rfl) (Nat.le_of_ble_eq_true rfl) (fun μ82 xe83 xf84 => ?_)
  have xm85 : μ82 0 = am_O 9 [.ref 1, .ref 3, .ref 5, .ref 6, .null, .null, am_i 0, am_i 0, am_i 0, am_i 0, am_i 0] := (xf84 _ (by omega)).trans ((xf81 _ (by omega)).trans ((hpd3 _ (by omega)).trans ((xf74 _ (by omega)).trans xm71)))
  refine ap_putF (fs2 := [.ref 1, .ref 3, .ref 5, .ref 6, .ref 67, .null, am_i 0, am_i 0, am_i 0, am_i 0, am_i 0]) ff_X9_37 fc_X9_4 dX9_init_81 (by omega) xm85 (fun _ => ⟨rfl, rfl⟩) (Nat.le_of_ble_eq_true rfl) rfl rfl (fun _ _ _ h => by cases h; rfl) (fun μ86 xe87 xf88 => ?_)
  refine ap_iconst dX9_init_84 ?_
  refine ap_Istore_n (lv2 := [(0, .ref 0), (1, am_i 0)]) dX9_init_85 rfl (by decide) rfl ?_
  refine ap_iload_n dX9_init_86 rfl rfl ?_
  refine ap_iconst dX9_init_87 ?_
  refine ap_icmp_ge (tgt := 110) dX9_init_88 (by decide) (by omega) (fun c88 => (by exfalso; omega)) (fun c88 => ?_)
  refine ap_aload_n dX9_init_91 rfl rfl ?_
  refine ap_get ff_X9_37 dX9_init_92 (by omega) xe87 rfl ?_
  refine ap_iload_n dX9_init_95 rfl rfl ?_
  refine ap_new nc_X9_35 dX9_init_96 (Nat.le_of_ble_eq_true rfl) (Nat.le_of_ble_eq_true rfl) (fun μ89 xe90 xf91 => ?_)
  refine ap_dup dX9_init_99 rfl ?_
  refine ap_callI (As := []) (rest := [.ref 68, am_i 0, .ref 67]) (ct_State_init (q := 68) xe90) dX9_init_100 lk_X9_41 rfl rfl hy_X5_init rfl (Nat.le_of_ble_eq_true rfl) ⟨Nat.le_of_ble_eq_true rfl, Nat.le_of_ble_eq_true rfl⟩ ⟨Nat.le_of_ble_eq_true rfl, Nat.le_of_ble_eq_true rfl⟩ (fun xr92 xN93 μse xq94 => ?_)
  obtain ⟨rfl, rfl, hse1, hse2⟩ := xq94
  have hse3 : ∀ b, b < 68 → μse b = _ := hse2
  have xm95 : μse 67 = am_R 5 5 (fun _ => none) := (hse3 _ (by omega)).trans ((xf91 _ (by omega)).trans ((xf88 _ (by omega)).trans xe83))
  refine ap_aast5 (j := 0) dX9_init_103 (by omega) xm95 (by omega) (by omega) (by omega) hse1.1 (fun μ96 xe97 xf98 => ?_)
  refine ap_Iinc (lv2 := [(0, .ref 0), (1, am_i (0 + 1))]) dX9_init_104 rfl (by decide) rfl ?_
  refine ap_goto (tgt := 86) dX9_init_107 (by decide) ?_
  refine ap_iload_n dX9_init_86 rfl rfl ?_
  refine ap_iconst dX9_init_87 ?_
  refine ap_icmp_ge (tgt := 110) dX9_init_88 (by decide) (by omega) (fun c88 => (by exfalso; omega)) (fun c88 => ?_)
  refine ap_aload_n dX9_init_91 rfl rfl ?_
  have xm99 : μ96 0 = am_O 9 [.ref 1, .ref 3, .ref 5, .ref 6, .ref 67, .null, am_i 0, am_i 0, am_i 0, am_i 0, am_i 0] := (xf98 _ (by omega)).trans ((hse3 _ (by omega)).trans ((xf91 _ (by omega)).trans xe87))
  refine ap_get ff_X9_37 dX9_init_92 (by omega) xm99 rfl ?_
  refine ap_iload_n dX9_init_95 rfl rfl ?_
  refine ap_new nc_X9_35 dX9_init_96 (Nat.le_of_ble_eq_true rfl) (Nat.le_of_ble_eq_true rfl) (fun μ100 xe101 xf102 => ?_)
  refine ap_dup dX9_init_99 rfl ?_
  refine ap_callI (As := []) (rest := [.ref 78, am_i (0 + 1), .ref 67]) (ct_State_init (q := 78) xe101) dX9_init_100 lk_X9_41 rfl rfl hy_X5_init rfl (Nat.le_of_ble_eq_true rfl) ⟨Nat.le_of_ble_eq_true rfl, Nat.le_of_ble_eq_true rfl⟩ ⟨Nat.le_of_ble_eq_true rfl, Nat.le_of_ble_eq_true rfl⟩ (fun xr103 xN104 μsf xq105 => ?_)
  obtain ⟨rfl, rfl, hsf1, hsf2⟩ := xq105
  have hsf3 : ∀ b, b < 78 → μsf b = _ := hsf2
  have xm106 : μsf 67 = am_R 5 5 (va_up (fun _ => none) 0 (some 68)) := (hsf3 _ (by omega)).trans ((xf102 _ (by omega)).trans xe97)
  refine ap_aast5 (j := 1) dX9_init_103 (by omega) xm106 (by omega) (by omega) (by omega) hsf1.1 (fun μ107 xe108 xf109 => ?_)
  refine ap_Iinc (lv2 := [(0, .ref 0), (1, am_i ((0 + 1) + 1))]) dX9_init_104 rfl (by decide) rfl ?_
  refine ap_goto (tgt := 86) dX9_init_107 (by decide) ?_
  refine ap_iload_n dX9_init_86 rfl rfl ?_
  refine ap_iconst dX9_init_87 ?_
  refine ap_icmp_ge (tgt := 110) dX9_init_88 (by decide) (by omega) (fun c88 => (by exfalso; omega)) (fun c88 => ?_)
  refine ap_aload_n dX9_init_91 rfl rfl ?_
  have xm110 : μ107 0 = am_O 9 [.ref 1, .ref 3, .ref 5, .ref 6, .ref 67, .null, am_i 0, am_i 0, am_i 0, am_i 0, am_i 0] := (xf109 _ (by omega)).trans ((hsf3 _ (by omega)).trans ((xf102 _ (by omega)).trans xm99))
  refine ap_get ff_X9_37 dX9_init_92 (by omega) xm110 rfl ?_
  refine ap_iload_n dX9_init_95 rfl rfl ?_
  refine ap_new nc_X9_35 dX9_init_96 (Nat.le_of_ble_eq_true rfl) (Nat.le_of_ble_eq_true rfl) (fun μ111 xe112 xf113 => ?_)
  refine ap_dup dX9_init_99 rfl ?_
  refine ap_callI (As := []) (rest := [.ref 88, am_i ((0 + 1) + 1), .ref 67]) (ct_State_init (q := 88) xe112) dX9_init_100 lk_X9_41 rfl rfl hy_X5_init rfl (Nat.le_of_ble_eq_true rfl) ⟨Nat.le_of_ble_eq_true rfl, Nat.le_of_ble_eq_true rfl⟩ ⟨Nat.le_of_ble_eq_true rfl, Nat.le_of_ble_eq_true rfl⟩ (fun xr114 xN115 μsg xq116 => ?_)
  obtain ⟨rfl, rfl, hsg1, hsg2⟩ := xq116
  have hsg3 : ∀ b, b < 88 → μsg b = _ := hsg2
  have xm117 : μsg 67 = am_R 5 5 (va_up (va_up (fun _ => none) 0 (some 68)) 1 (some 78)) := (hsg3 _ (by omega)).trans ((xf113 _ (by omega)).trans xe108)
  refine ap_aast5 (j := 2) dX9_init_103 (by omega) xm117 (by omega) (by omega) (by omega) hsg1.1 (fun μ118 xe119 xf120 => ?_)
  refine ap_Iinc (lv2 := [(0, .ref 0), (1, am_i (((0 + 1) + 1) + 1))]) dX9_init_104 rfl (by decide) rfl ?_
  refine ap_goto (tgt := 86) dX9_init_107 (by decide) ?_
  refine ap_iload_n dX9_init_86 rfl rfl ?_
  refine ap_iconst dX9_init_87 ?_
  refine ap_icmp_ge (tgt := 110) dX9_init_88 (by decide) (by omega) (fun c88 => (by exfalso; omega)) (fun c88 => ?_)
  refine ap_aload_n dX9_init_91 rfl rfl ?_
  have xm121 : μ118 0 = am_O 9 [.ref 1, .ref 3, .ref 5, .ref 6, .ref 67, .null, am_i 0, am_i 0, am_i 0, am_i 0, am_i 0] := (xf120 _ (by omega)).trans ((hsg3 _ (by omega)).trans ((xf113 _ (by omega)).trans xm110))
  refine ap_get ff_X9_37 dX9_init_92 (by omega) xm121 rfl ?_
  refine ap_iload_n dX9_init_95 rfl rfl ?_
  refine ap_new nc_X9_35 dX9_init_96 (Nat.le_of_ble_eq_true rfl) (Nat.le_of_ble_eq_true rfl) (fun μ122 xe123 xf124 => ?_)
  refine ap_dup dX9_init_99 rfl ?_
  refine ap_callI (As := []) (rest := [.ref 98, am_i (((0 + 1) + 1) + 1), .ref 67]) (ct_State_init (q := 98) xe123) dX9_init_100 lk_X9_41 rfl rfl hy_X5_init rfl (Nat.le_of_ble_eq_true rfl) ⟨Nat.le_of_ble_eq_true rfl, Nat.le_of_ble_eq_true rfl⟩ ⟨Nat.le_of_ble_eq_true rfl, Nat.le_of_ble_eq_true rfl⟩ (fun xr125 xN126 μsh xq127 => ?_)
  obtain ⟨rfl, rfl, hsh1, hsh2⟩ := xq127
  have hsh3 : ∀ b, b < 98 → μsh b = _ := hsh2
  have xm128 : μsh 67 = am_R 5 5 (va_up (va_up (va_up (fun _ => none) 0 (some 68)) 1 (some 78)) 2 (some 88)) := (hsh3 _ (by omega)).trans ((xf124 _ (by omega)).trans xe119)
  refine ap_aast5 (j := 3) dX9_init_103 (by omega) xm128 (by omega) (by omega) (by omega) hsh1.1 (fun μ129 xe130 xf131 => ?_)
  refine ap_Iinc (lv2 := [(0, .ref 0), (1, am_i ((((0 + 1) + 1) + 1) + 1))]) dX9_init_104 rfl (by decide) rfl ?_
  refine ap_goto (tgt := 86) dX9_init_107 (by decide) ?_
  refine ap_iload_n dX9_init_86 rfl rfl ?_
  refine ap_iconst dX9_init_87 ?_
  refine ap_icmp_ge (tgt := 110) dX9_init_88 (by decide) (by omega) (fun c88 => (by exfalso; omega)) (fun c88 => ?_)
  refine ap_aload_n dX9_init_91 rfl rfl ?_
  have xm132 : μ129 0 = am_O 9 [.ref 1, .ref 3, .ref 5, .ref 6, .ref 67, .null, am_i 0, am_i 0, am_i 0, am_i 0, am_i 0] := (xf131 _ (by omega)).trans ((hsh3 _ (by omega)).trans ((xf124 _ (by omega)).trans xm121))
  refine ap_get ff_X9_37 dX9_init_92 (by omega) xm132 rfl ?_
  refine ap_iload_n dX9_init_95 rfl rfl ?_
  refine ap_new nc_X9_35 dX9_init_96 (Nat.le_of_ble_eq_true rfl) (Nat.le_of_ble_eq_true rfl) (fun μ133 xe134 xf135 => ?_)
  refine ap_dup dX9_init_99 rfl ?_
  refine ap_callI (As := []) (rest := [.ref 108, am_i ((((0 + 1) + 1) + 1) + 1), .ref 67]) (ct_State_init (q := 108) xe134) dX9_init_100 lk_X9_41 rfl rfl hy_X5_init rfl (Nat.le_of_ble_eq_true rfl) ⟨Nat.le_of_ble_eq_true rfl, Nat.le_of_ble_eq_true rfl⟩ ⟨Nat.le_of_ble_eq_true rfl, Nat.le_of_ble_eq_true rfl⟩ (fun xr136 xN137 μsi xq138 => ?_)
  obtain ⟨rfl, rfl, hsi1, hsi2⟩ := xq138
  have hsi3 : ∀ b, b < 108 → μsi b = _ := hsi2
  have xm139 : μsi 67 = am_R 5 5 (va_up (va_up (va_up (va_up (fun _ => none) 0 (some 68)) 1 (some 78)) 2 (some 88)) 3 (some 98)) := (hsi3 _ (by omega)).trans ((xf135 _ (by omega)).trans xe130)
  refine ap_aast5 (j := 4) dX9_init_103 (by omega) xm139 (by omega) (by omega) (by omega) hsi1.1 (fun μ140 xe141 xf142 => ?_)
  refine ap_Iinc (lv2 := [(0, .ref 0), (1, am_i (((((0 + 1) + 1) + 1) + 1) + 1))]) dX9_init_104 rfl (by decide) rfl ?_
  refine ap_goto (tgt := 86) dX9_init_107 (by decide) ?_
  refine ap_iload_n dX9_init_86 rfl rfl ?_
  refine ap_iconst dX9_init_87 ?_
  refine ap_icmp_ge (tgt := 110) dX9_init_88 (by decide) (by omega) (fun c88 => ?_) (fun c88 => (by exfalso; omega))
  refine ap_aload_n dX9_init_110 rfl rfl ?_
  refine ap_new nc_X9_42 dX9_init_111 (Nat.le_of_ble_eq_true rfl) (Nat.le_of_ble_eq_true rfl) (fun μ143 xe144 xf145 => ?_)
  refine ap_dup dX9_init_114 rfl ?_
  refine ap_callIN (As := []) (rest := [.ref 118, .ref 0]) (ct_Over_init (v := 118) xe144) dX9_init_115 lk_X9_44 rfl rfl hy_X2_init rfl (Nat.le_of_ble_eq_true rfl) ⟨Nat.le_of_ble_eq_true rfl, Nat.le_of_ble_eq_true rfl⟩ ⟨Nat.le_of_ble_eq_true rfl, Nat.le_of_ble_eq_true rfl⟩ (fun xr146 xN147 μo xq148 => ?_)
  obtain ⟨rfl, rfl, ho1, ⟨fo, ho2⟩, ho3⟩ := xq148
  have ho4 : ∀ b, b < 118 → μo b = _ := ho3
  have xm149 : μo 0 = am_O 9 [.ref 1, .ref 3, .ref 5, .ref 6, .ref 67, .null, am_i 0, am_i 0, am_i 0, am_i 0, am_i 0] := (ho4 _ (by omega)).trans ((xf145 _ (by omega)).trans ((xf142 _ (by omega)).trans ((hsi3 _ (by omega)).trans ((xf135 _ (by omega)).trans xm132))))
  refine ap_putF (fs2 := [.ref 1, .ref 3, .ref 5, .ref 6, .ref 67, .ref 118, am_i 0, am_i 0, am_i 0, am_i 0, am_i 0]) ff_X9_45 fc_X9_5 dX9_init_118 (by omega) xm149 (fun _ => ⟨rfl, rfl⟩) (Nat.le_of_ble_eq_true rfl) rfl rfl (fun _ _ _ h => by cases h; rfl) (fun μ150 xe151 xf152 => ?_)
  refine ap_aload_n dX9_init_121 rfl rfl ?_
  refine ap_iconst dX9_init_122 ?_
  refine ap_put (fs2 := [.ref 1, .ref 3, .ref 5, .ref 6, .ref 67, .ref 118, am_i 0, am_i 4, am_i 0, am_i 0, am_i 0]) ff_X9_49 fc_X9_7 dX9_init_123 (by omega) xe151 (fun _ => ⟨rfl, rfl⟩) (Nat.le_of_ble_eq_true rfl) rfl (fun μ153 xe154 xf155 => ?_)
  refine ap_aload_n dX9_init_126 rfl rfl ?_
  refine ap_iconst dX9_init_127 ?_
  refine ap_put (fs2 := [.ref 1, .ref 3, .ref 5, .ref 6, .ref 67, .ref 118, am_i 0, am_i 4, am_i 4, am_i 0, am_i 0]) ff_X9_53 fc_X9_8 dX9_init_128 (by omega) xe154 (fun _ => ⟨rfl, rfl⟩) (Nat.le_of_ble_eq_true rfl) rfl (fun μ156 xe157 xf158 => ?_)
  refine ap_aload_n dX9_init_131 rfl rfl ?_
  refine ap_iconst dX9_init_132 ?_
  refine ap_put (fs2 := [.ref 1, .ref 3, .ref 5, .ref 6, .ref 67, .ref 118, am_i 0, am_i 4, am_i 4, am_i 1, am_i 0]) ff_X9_56 fc_X9_9 dX9_init_133 (by omega) xe157 (fun _ => ⟨rfl, rfl⟩) (Nat.le_of_ble_eq_true rfl) rfl (fun μ159 xe160 xf161 => ?_)
  refine ap_aload_n dX9_init_136 rfl rfl ?_
  refine ap_iconst dX9_init_137 ?_
  refine ap_put (fs2 := [.ref 1, .ref 3, .ref 5, .ref 6, .ref 67, .ref 118, am_i 0, am_i 4, am_i 4, am_i 1, am_i 1]) ff_X9_59 fc_X9_10 dX9_init_138 (by omega) xe160 (fun _ => ⟨rfl, rfl⟩) (Nat.le_of_ble_eq_true rfl) rfl (fun μ162 xe163 xf164 => ?_)
  have xm165 : μ162 5 = am_O 0 [am_i 0, am_i 0, am_i 0, am_i 0, am_i 0, am_i 0] := (xf164 _ (by omega)).trans ((xf161 _ (by omega)).trans ((xf158 _ (by omega)).trans ((xf155 _ (by omega)).trans ((xf152 _ (by omega)).trans ((ho4 _ (by omega)).trans ((xf145 _ (by omega)).trans ((xf142 _ (by omega)).trans ((hsi3 _ (by omega)).trans ((xf135 _ (by omega)).trans ((xf131 _ (by omega)).trans ((hsh3 _ (by omega)).trans ((xf124 _ (by omega)).trans ((xf120 _ (by omega)).trans ((hsg3 _ (by omega)).trans ((xf113 _ (by omega)).trans ((xf109 _ (by omega)).trans ((hsf3 _ (by omega)).trans ((xf102 _ (by omega)).trans ((xf98 _ (by omega)).trans ((hse3 _ (by omega)).trans ((xf91 _ (by omega)).trans ((xf88 _ (by omega)).trans ((xf84 _ (by omega)).trans ((xf81 _ (by omega)).trans ((hpd3 _ (by omega)).trans ((xf74 _ (by omega)).trans ((xf70 _ (by omega)).trans ((hpc3 _ (by omega)).trans ((xf63 _ (by omega)).trans ((xf59 _ (by omega)).trans ((hpb3 _ (by omega)).trans ((xf52 _ (by omega)).trans ((xf48 _ (by omega)).trans ((hpa3 _ (by omega)).trans ((xf41 _ (by omega)).trans ((xf38 _ (by omega)).trans ((xf34 _ (by omega)).trans ((xf31 _ (by omega)).trans xe22))))))))))))))))))))))))))))))))))))))
  have xm166 : μ162 118 = am_O 2 [.ref (118 + 1), am_l 0, am_i 0] := (xf164 _ (by omega)).trans ((xf161 _ (by omega)).trans ((xf158 _ (by omega)).trans ((xf155 _ (by omega)).trans ((xf152 _ (by omega)).trans ho1))))
  have xm167 : μ162 119 = am_I 0 4 fo := (xf164 _ (by omega)).trans ((xf161 _ (by omega)).trans ((xf158 _ (by omega)).trans ((xf155 _ (by omega)).trans ((xf152 _ (by omega)).trans ho2))))
  have xm168 : μ162 6 = am_R 4 4 (va_up (va_up (va_up (va_up (fun _ => none) 0 (some 7)) 1 (some 22)) 2 (some 37)) 3 (some 52)) := (xf164 _ (by omega)).trans ((xf161 _ (by omega)).trans ((xf158 _ (by omega)).trans ((xf155 _ (by omega)).trans ((xf152 _ (by omega)).trans ((ho4 _ (by omega)).trans ((xf145 _ (by omega)).trans ((xf142 _ (by omega)).trans ((hsi3 _ (by omega)).trans ((xf135 _ (by omega)).trans ((xf131 _ (by omega)).trans ((hsh3 _ (by omega)).trans ((xf124 _ (by omega)).trans ((xf120 _ (by omega)).trans ((hsg3 _ (by omega)).trans ((xf113 _ (by omega)).trans ((xf109 _ (by omega)).trans ((hsf3 _ (by omega)).trans ((xf102 _ (by omega)).trans ((xf98 _ (by omega)).trans ((hse3 _ (by omega)).trans ((xf91 _ (by omega)).trans ((xf88 _ (by omega)).trans ((xf84 _ (by omega)).trans xe80)))))))))))))))))))))))
  have xm169 : μ162 67 = am_R 5 5 (va_up (va_up (va_up (va_up (va_up (fun _ => none) 0 (some 68)) 1 (some 78)) 2 (some 88)) 3 (some 98)) 4 (some 108)) := (xf164 _ (by omega)).trans ((xf161 _ (by omega)).trans ((xf158 _ (by omega)).trans ((xf155 _ (by omega)).trans ((xf152 _ (by omega)).trans ((ho4 _ (by omega)).trans ((xf145 _ (by omega)).trans xe141))))))
  exact ap_vret dX9_init_141 rfl (Nat.le_of_ble_eq_true rfl) (Nat.le_of_ble_eq_true rfl) (⟨rfl, rfl, ⟨xe163, ha1.kept ((xf164 1 (by omega)).trans ((xf161 1 (by omega)).trans ((xf158 1 (by omega)).trans ((xf155 1 (by omega)).trans ((xf152 1 (by omega)).trans ((ho4 1 (by omega)).trans ((xf145 1 (by omega)).trans ((xf142 1 (by omega)).trans ((hsi3 1 (by omega)).trans ((xf135 1 (by omega)).trans ((xf131 1 (by omega)).trans ((hsh3 1 (by omega)).trans ((xf124 1 (by omega)).trans ((xf120 1 (by omega)).trans ((hsg3 1 (by omega)).trans ((xf113 1 (by omega)).trans ((xf109 1 (by omega)).trans ((hsf3 1 (by omega)).trans ((xf102 1 (by omega)).trans ((xf98 1 (by omega)).trans ((hse3 1 (by omega)).trans ((xf91 1 (by omega)).trans ((xf88 1 (by omega)).trans ((xf84 1 (by omega)).trans ((xf81 1 (by omega)).trans ((hpd3 1 (by omega)).trans ((xf74 1 (by omega)).trans ((xf70 1 (by omega)).trans ((hpc3 1 (by omega)).trans ((xf63 1 (by omega)).trans ((xf59 1 (by omega)).trans ((hpb3 1 (by omega)).trans ((xf52 1 (by omega)).trans ((xf48 1 (by omega)).trans ((hpa3 1 (by omega)).trans ((xf41 1 (by omega)).trans ((xf38 1 (by omega)).trans ((xf34 1 (by omega)).trans ((xf31 1 (by omega)).trans ((xf23 1 (by omega)).trans ((xf20 1 (by omega)).trans ((hb3 1 (by omega)).trans ((xf13 1 (by omega)).trans ((xf10 1 (by omega)))))))))))))))))))))))))))))))))))))))))))))) ((xf164 (1 + 1) (by omega)).trans ((xf161 (1 + 1) (by omega)).trans ((xf158 (1 + 1) (by omega)).trans ((xf155 (1 + 1) (by omega)).trans ((xf152 (1 + 1) (by omega)).trans ((ho4 (1 + 1) (by omega)).trans ((xf145 (1 + 1) (by omega)).trans ((xf142 (1 + 1) (by omega)).trans ((hsi3 (1 + 1) (by omega)).trans ((xf135 (1 + 1) (by omega)).trans ((xf131 (1 + 1) (by omega)).trans ((hsh3 (1 + 1) (by omega)).trans ((xf124 (1 + 1) (by omega)).trans ((xf120 (1 + 1) (by omega)).trans ((hsg3 (1 + 1) (by omega)).trans ((xf113 (1 + 1) (by omega)).trans ((xf109 (1 + 1) (by omega)).trans ((hsf3 (1 + 1) (by omega)).trans ((xf102 (1 + 1) (by omega)).trans ((xf98 (1 + 1) (by omega)).trans ((hse3 (1 + 1) (by omega)).trans ((xf91 (1 + 1) (by omega)).trans ((xf88 (1 + 1) (by omega)).trans ((xf84 (1 + 1) (by omega)).trans ((xf81 (1 + 1) (by omega)).trans ((hpd3 (1 + 1) (by omega)).trans ((xf74 (1 + 1) (by omega)).trans ((xf70 (1 + 1) (by omega)).trans ((hpc3 (1 + 1) (by omega)).trans ((xf63 (1 + 1) (by omega)).trans ((xf59 (1 + 1) (by omega)).trans ((hpb3 (1 + 1) (by omega)).trans ((xf52 (1 + 1) (by omega)).trans ((xf48 (1 + 1) (by omega)).trans ((hpa3 (1 + 1) (by omega)).trans ((xf41 (1 + 1) (by omega)).trans ((xf38 (1 + 1) (by omega)).trans ((xf34 (1 + 1) (by omega)).trans ((xf31 (1 + 1) (by omega)).trans ((xf23 (1 + 1) (by omega)).trans ((xf20 (1 + 1) (by omega)).trans ((hb3 (1 + 1) (by omega)).trans ((xf13 (1 + 1) (by omega)).trans ((xf10 (1 + 1) (by omega)))))))))))))))))))))))))))))))))))))))))))))), ⟨⟨_, hb1.kept ((xf164 3 (by omega)).trans ((xf161 3 (by omega)).trans ((xf158 3 (by omega)).trans ((xf155 3 (by omega)).trans ((xf152 3 (by omega)).trans ((ho4 3 (by omega)).trans ((xf145 3 (by omega)).trans ((xf142 3 (by omega)).trans ((hsi3 3 (by omega)).trans ((xf135 3 (by omega)).trans ((xf131 3 (by omega)).trans ((hsh3 3 (by omega)).trans ((xf124 3 (by omega)).trans ((xf120 3 (by omega)).trans ((hsg3 3 (by omega)).trans ((xf113 3 (by omega)).trans ((xf109 3 (by omega)).trans ((hsf3 3 (by omega)).trans ((xf102 3 (by omega)).trans ((xf98 3 (by omega)).trans ((hse3 3 (by omega)).trans ((xf91 3 (by omega)).trans ((xf88 3 (by omega)).trans ((xf84 3 (by omega)).trans ((xf81 3 (by omega)).trans ((hpd3 3 (by omega)).trans ((xf74 3 (by omega)).trans ((xf70 3 (by omega)).trans ((hpc3 3 (by omega)).trans ((xf63 3 (by omega)).trans ((xf59 3 (by omega)).trans ((hpb3 3 (by omega)).trans ((xf52 3 (by omega)).trans ((xf48 3 (by omega)).trans ((hpa3 3 (by omega)).trans ((xf41 3 (by omega)).trans ((xf38 3 (by omega)).trans ((xf34 3 (by omega)).trans ((xf31 3 (by omega)).trans ((xf23 3 (by omega)).trans ((xf20 3 (by omega))))))))))))))))))))))))))))))))))))))))))) ((xf164 (3 + 1) (by omega)).trans ((xf161 (3 + 1) (by omega)).trans ((xf158 (3 + 1) (by omega)).trans ((xf155 (3 + 1) (by omega)).trans ((xf152 (3 + 1) (by omega)).trans ((ho4 (3 + 1) (by omega)).trans ((xf145 (3 + 1) (by omega)).trans ((xf142 (3 + 1) (by omega)).trans ((hsi3 (3 + 1) (by omega)).trans ((xf135 (3 + 1) (by omega)).trans ((xf131 (3 + 1) (by omega)).trans ((hsh3 (3 + 1) (by omega)).trans ((xf124 (3 + 1) (by omega)).trans ((xf120 (3 + 1) (by omega)).trans ((hsg3 (3 + 1) (by omega)).trans ((xf113 (3 + 1) (by omega)).trans ((xf109 (3 + 1) (by omega)).trans ((hsf3 (3 + 1) (by omega)).trans ((xf102 (3 + 1) (by omega)).trans ((xf98 (3 + 1) (by omega)).trans ((hse3 (3 + 1) (by omega)).trans ((xf91 (3 + 1) (by omega)).trans ((xf88 (3 + 1) (by omega)).trans ((xf84 (3 + 1) (by omega)).trans ((xf81 (3 + 1) (by omega)).trans ((hpd3 (3 + 1) (by omega)).trans ((xf74 (3 + 1) (by omega)).trans ((xf70 (3 + 1) (by omega)).trans ((hpc3 (3 + 1) (by omega)).trans ((xf63 (3 + 1) (by omega)).trans ((xf59 (3 + 1) (by omega)).trans ((hpb3 (3 + 1) (by omega)).trans ((xf52 (3 + 1) (by omega)).trans ((xf48 (3 + 1) (by omega)).trans ((hpa3 (3 + 1) (by omega)).trans ((xf41 (3 + 1) (by omega)).trans ((xf38 (3 + 1) (by omega)).trans ((xf34 (3 + 1) (by omega)).trans ((xf31 (3 + 1) (by omega)).trans ((xf23 (3 + 1) (by omega)).trans ((xf20 (3 + 1) (by omega)))))))))))))))))))))))))))))))))))))))))))⟩, ⟨_, _, _, _, _, _, xm165⟩, _, _, fo, xm166, xm167⟩, ⟨⟨_, xm168, fun k hk => by
      rcases (show k = 0 ∨ k = 1 ∨ k = 2 ∨ k = 3 by omega) with rfl | rfl | rfl | rfl <;> simp [va_up]⟩, fun k hk => by
      rcases (show k = 0 ∨ k = 1 ∨ k = 2 ∨ k = 3 by omega) with rfl | rfl | rfl | rfl
      · exact hpa1.kept (fun b q1 q2 => (xf164 b (by omega)).trans ((xf161 b (by omega)).trans ((xf158 b (by omega)).trans ((xf155 b (by omega)).trans ((xf152 b (by omega)).trans ((ho4 b (by omega)).trans ((xf145 b (by omega)).trans ((xf142 b (by omega)).trans ((hsi3 b (by omega)).trans ((xf135 b (by omega)).trans ((xf131 b (by omega)).trans ((hsh3 b (by omega)).trans ((xf124 b (by omega)).trans ((xf120 b (by omega)).trans ((hsg3 b (by omega)).trans ((xf113 b (by omega)).trans ((xf109 b (by omega)).trans ((hsf3 b (by omega)).trans ((xf102 b (by omega)).trans ((xf98 b (by omega)).trans ((hse3 b (by omega)).trans ((xf91 b (by omega)).trans ((xf88 b (by omega)).trans ((xf84 b (by omega)).trans ((xf81 b (by omega)).trans ((hpd3 b (by omega)).trans ((xf74 b (by omega)).trans ((xf70 b (by omega)).trans ((hpc3 b (by omega)).trans ((xf63 b (by omega)).trans ((xf59 b (by omega)).trans ((hpb3 b (by omega)).trans ((xf52 b (by omega)).trans ((xf48 b (by omega))))))))))))))))))))))))))))))))))))
      · exact hpb1.kept (fun b q1 q2 => (xf164 b (by omega)).trans ((xf161 b (by omega)).trans ((xf158 b (by omega)).trans ((xf155 b (by omega)).trans ((xf152 b (by omega)).trans ((ho4 b (by omega)).trans ((xf145 b (by omega)).trans ((xf142 b (by omega)).trans ((hsi3 b (by omega)).trans ((xf135 b (by omega)).trans ((xf131 b (by omega)).trans ((hsh3 b (by omega)).trans ((xf124 b (by omega)).trans ((xf120 b (by omega)).trans ((hsg3 b (by omega)).trans ((xf113 b (by omega)).trans ((xf109 b (by omega)).trans ((hsf3 b (by omega)).trans ((xf102 b (by omega)).trans ((xf98 b (by omega)).trans ((hse3 b (by omega)).trans ((xf91 b (by omega)).trans ((xf88 b (by omega)).trans ((xf84 b (by omega)).trans ((xf81 b (by omega)).trans ((hpd3 b (by omega)).trans ((xf74 b (by omega)).trans ((xf70 b (by omega)).trans ((hpc3 b (by omega)).trans ((xf63 b (by omega)).trans ((xf59 b (by omega)))))))))))))))))))))))))))))))))
      · exact hpc1.kept (fun b q1 q2 => (xf164 b (by omega)).trans ((xf161 b (by omega)).trans ((xf158 b (by omega)).trans ((xf155 b (by omega)).trans ((xf152 b (by omega)).trans ((ho4 b (by omega)).trans ((xf145 b (by omega)).trans ((xf142 b (by omega)).trans ((hsi3 b (by omega)).trans ((xf135 b (by omega)).trans ((xf131 b (by omega)).trans ((hsh3 b (by omega)).trans ((xf124 b (by omega)).trans ((xf120 b (by omega)).trans ((hsg3 b (by omega)).trans ((xf113 b (by omega)).trans ((xf109 b (by omega)).trans ((hsf3 b (by omega)).trans ((xf102 b (by omega)).trans ((xf98 b (by omega)).trans ((hse3 b (by omega)).trans ((xf91 b (by omega)).trans ((xf88 b (by omega)).trans ((xf84 b (by omega)).trans ((xf81 b (by omega)).trans ((hpd3 b (by omega)).trans ((xf74 b (by omega)).trans ((xf70 b (by omega))))))))))))))))))))))))))))))
      · exact hpd1.kept (fun b q1 q2 => (xf164 b (by omega)).trans ((xf161 b (by omega)).trans ((xf158 b (by omega)).trans ((xf155 b (by omega)).trans ((xf152 b (by omega)).trans ((ho4 b (by omega)).trans ((xf145 b (by omega)).trans ((xf142 b (by omega)).trans ((hsi3 b (by omega)).trans ((xf135 b (by omega)).trans ((xf131 b (by omega)).trans ((hsh3 b (by omega)).trans ((xf124 b (by omega)).trans ((xf120 b (by omega)).trans ((hsg3 b (by omega)).trans ((xf113 b (by omega)).trans ((xf109 b (by omega)).trans ((hsf3 b (by omega)).trans ((xf102 b (by omega)).trans ((xf98 b (by omega)).trans ((hse3 b (by omega)).trans ((xf91 b (by omega)).trans ((xf88 b (by omega)).trans ((xf84 b (by omega)).trans ((xf81 b (by omega)))))))))))))))))))))))))))⟩, ⟨_, 0, xm169, fun k hk => by
      rcases (show k = 0 ∨ k = 1 ∨ k = 2 ∨ k = 3 ∨ k = 4 by omega) with rfl | rfl | rfl | rfl | rfl <;> simp [va_up], fun k hk => by
      rcases (show k = 0 ∨ k = 1 ∨ k = 2 ∨ k = 3 ∨ k = 4 by omega) with rfl | rfl | rfl | rfl | rfl
      · exact hse1.kept (fun b q1 q2 => (xf164 b (by omega)).trans ((xf161 b (by omega)).trans ((xf158 b (by omega)).trans ((xf155 b (by omega)).trans ((xf152 b (by omega)).trans ((ho4 b (by omega)).trans ((xf145 b (by omega)).trans ((xf142 b (by omega)).trans ((hsi3 b (by omega)).trans ((xf135 b (by omega)).trans ((xf131 b (by omega)).trans ((hsh3 b (by omega)).trans ((xf124 b (by omega)).trans ((xf120 b (by omega)).trans ((hsg3 b (by omega)).trans ((xf113 b (by omega)).trans ((xf109 b (by omega)).trans ((hsf3 b (by omega)).trans ((xf102 b (by omega)).trans ((xf98 b (by omega))))))))))))))))))))))
      · exact hsf1.kept (fun b q1 q2 => (xf164 b (by omega)).trans ((xf161 b (by omega)).trans ((xf158 b (by omega)).trans ((xf155 b (by omega)).trans ((xf152 b (by omega)).trans ((ho4 b (by omega)).trans ((xf145 b (by omega)).trans ((xf142 b (by omega)).trans ((hsi3 b (by omega)).trans ((xf135 b (by omega)).trans ((xf131 b (by omega)).trans ((hsh3 b (by omega)).trans ((xf124 b (by omega)).trans ((xf120 b (by omega)).trans ((hsg3 b (by omega)).trans ((xf113 b (by omega)).trans ((xf109 b (by omega)))))))))))))))))))
      · exact hsg1.kept (fun b q1 q2 => (xf164 b (by omega)).trans ((xf161 b (by omega)).trans ((xf158 b (by omega)).trans ((xf155 b (by omega)).trans ((xf152 b (by omega)).trans ((ho4 b (by omega)).trans ((xf145 b (by omega)).trans ((xf142 b (by omega)).trans ((hsi3 b (by omega)).trans ((xf135 b (by omega)).trans ((xf131 b (by omega)).trans ((hsh3 b (by omega)).trans ((xf124 b (by omega)).trans ((xf120 b (by omega))))))))))))))))
      · exact hsh1.kept (fun b q1 q2 => (xf164 b (by omega)).trans ((xf161 b (by omega)).trans ((xf158 b (by omega)).trans ((xf155 b (by omega)).trans ((xf152 b (by omega)).trans ((ho4 b (by omega)).trans ((xf145 b (by omega)).trans ((xf142 b (by omega)).trans ((hsi3 b (by omega)).trans ((xf135 b (by omega)).trans ((xf131 b (by omega)))))))))))))
      · exact hsi1.kept (fun b q1 q2 => (xf164 b (by omega)).trans ((xf161 b (by omega)).trans ((xf158 b (by omega)).trans ((xf155 b (by omega)).trans ((xf152 b (by omega)).trans ((ho4 b (by omega)).trans ((xf145 b (by omega)).trans ((xf142 b (by omega))))))))))⟩, by omega, ⟨by decide, by decide, by decide, by decide⟩, fun k hk => absurd hk (Nat.not_lt_zero _)⟩⟩)

