theorem tq_dots : Cond.fieldLink "RhythmBench$Score" 99 "RhythmBench$Score" "DOTTED_QUARTERS" "[I" ∈ am_tb := am_tb_in (List.mem_of_getElem? (i := 539) (by decide +kernel)) (by decide +kernel)
theorem ap_dq {Y : am_Y} {Q : Option Value → Nat → am_M → Prop} {k n pc N : Nat} {lv : List (Nat × Value)} {st : List Value} {μ : am_M} {idx i d : Nat} {j : Fin 4} {z : Int} (hw : Cond.fieldLink Y.1.cls idx "RhythmBench$Score" "DOTTED_QUARTERS" "[I" ∈ am_tb) (hd : decode (am_c Y) pc = .ok (.getstatic idx, 3)) (hd2 : decode (am_c Y) (pc + 3) = .ok (.iload_n j, 1)) (hd3 : decode (am_c Y) (pc + 3 + 1) = .ok (.iaload, 1)) (hi : (j : Nat) = i) (h : am_lk lv i = some (am_i z)) (hz : z = (d : Int) ∧ d < 3) (kk : am_W Y Q k n (pc + 3 + 1 + 1) lv (am_i (dqn d) :: st) N μ) : am_W Y Q k n pc lv st N μ := by
  intro p l e s m args below meth c bs D dA S H locs ls hP hz' hS hl
  obtain ⟨hz1, hz2⟩ := hz
  obtain ⟨-, -, ⟨t, hZ, hT⟩, -, -⟩ := S.2.2.2.2.2.2.2.2.2.2
  refine va_gets S.1 S.2.1 hZ hS S.2.2.2.2.2.1 (S.2.2.2.2.2.2.1 _ hw) (fun _ h => h) hd ?_
  refine lv_iload_n S.1 S.2.1 hd2 hi (am_at hl h) ?_
  refine va_ti S.1 S.2.1 hT hS (i := Int32.ofInt z) (am_in3 hz1 hz2 (by decide)) (v := am_i (dqn d)) ?_ hd3 (kk p l e s m args below meth c bs D dA S H locs ls hP hz' hS hl)
  rw [hz1, am_tn3 (by omega)]
  match d, hz2 with
  | 0, _ => rfl
  | 1, _ => rfl
  | 2, _ => rfl
  | d + 3, h => omega
def Sraw (μ : am_M) (s : Nat) (f1 f2 f3 f4 f5 f6 : Nat → Int) (c n td : Int) (t : Int) (ts : List (Int × Int)) : Prop := μ s = am_O 4 [.ref (s + 1), .ref (s + 2), .ref (s + 3), .ref (s + 4), .ref (s + 5), .ref (s + 6), .ref (s + 7), am_i c, am_i n, am_l t, am_i td] ∧ μ (s + 1) = am_L 300 f1 ∧ μ (s + 2) = am_L 300 f2 ∧ μ (s + 3) = am_I 0 300 f3 ∧ μ (s + 4) = am_I 0 300 f4 ∧ μ (s + 5) = am_I 3 300 f5 ∧ μ (s + 6) = am_L 901 f6 ∧ Sc7 μ (s + 7) ts
set_option maxHeartbeats 4000000 in
set_option maxRecDepth 100000 in
theorem ct_scstart {N s : Nat} {μ : am_M} {fb fe fn fm fa fl : Nat → Int} {zc zb zt zd : Int} {ts : List (Int × Int)} (hS : Sraw μ s fb fe fn fm fa fl zc zb zd zt ts) (hN : s + 9 < N) : am_Met YX4_start [.ref s] N μ (fun r N2 μ2 => r = none ∧ N = N2 ∧ Sco μ2 s p0 ∧ am_fr s (s + 10) μ μ2) := by
  obtain ⟨h1, a1, a2, a3, a4, a5, a6, h7⟩ := id hS
  refine am_met (by first | decide | rfl) (Nat.le_of_ble_eq_true rfl) (fun h => by first | rfl | cases h) ?_
  show am_W YX4_start _ 0 0 0 [(0, .ref s)] [] _ _
  refine ap_aload_n dX4_start_0 rfl rfl ?_
  refine ap_iconst dX4_start_1 ?_
  refine ap_put (fs2 := [.ref (s + 1), .ref (s + 2), .ref (s + 3), .ref (s + 4), .ref (s + 5), .ref (s + 6), .ref (s + 7), am_i 0, am_i zb, am_l zt, am_i zd]) ff_X4_42 fc_X4_7 dX4_start_2 (by omega) h1 (fun _ => ⟨rfl, rfl⟩) (Nat.le_of_ble_eq_true rfl) rfl (fun μ1 xe2 xf3 => ?_)
  refine ap_aload_n dX4_start_5 rfl rfl ?_
  refine ap_iconst dX4_start_6 ?_
  refine ap_put (fs2 := [.ref (s + 1), .ref (s + 2), .ref (s + 3), .ref (s + 4), .ref (s + 5), .ref (s + 6), .ref (s + 7), am_i 0, am_i 1, am_l zt, am_i zd]) ff_X4_46 fc_X4_8 dX4_start_7 (by omega) xe2 (fun _ => ⟨rfl, rfl⟩) (Nat.le_of_ble_eq_true rfl) rfl (fun μ4 xe5 xf6 => ?_)
  refine ap_aload_n dX4_start_10 rfl rfl ?_
  refine ap_get ff_X4_29 dX4_start_11 (by omega) xe5 rfl ?_
  refine ap_iconst dX4_start_14 ?_
  refine ap_lconst (v := 0) dX4_start_15 rfl ?_
  have xm7 : μ4 (s + 6) = am_L 901 fl := (xf6 _ (by omega)).trans ((xf3 _ (by omega)).trans a6)
  refine ap_last (j := 0) dX4_start_16 (by omega) xm7 (by omega) (by omega) (fun μ8 xe9 xf10 => ?_)
  refine ap_aload_n dX4_start_17 rfl rfl ?_
  refine ap_lconst (v := 0) dX4_start_18 rfl ?_
  have xm11 : μ8 s = am_O 4 [.ref (s + 1), .ref (s + 2), .ref (s + 3), .ref (s + 4), .ref (s + 5), .ref (s + 6), .ref (s + 7), am_i 0, am_i 1, am_l zt, am_i zd] := (xf10 _ (by omega)).trans xe5
  refine ap_put (fs2 := [.ref (s + 1), .ref (s + 2), .ref (s + 3), .ref (s + 4), .ref (s + 5), .ref (s + 6), .ref (s + 7), am_i 0, am_i 1, am_l 0, am_i zd]) ff_X4_49 fc_X4_9 dX4_start_19 (by omega) xm11 (fun _ => ⟨rfl, rfl⟩) (Nat.le_of_ble_eq_true rfl) rfl (fun μ12 xe13 xf14 => ?_)
  refine ap_aload_n dX4_start_22 rfl rfl ?_
  refine ap_iconst dX4_start_23 ?_
  refine ap_put (fs2 := [.ref (s + 1), .ref (s + 2), .ref (s + 3), .ref (s + 4), .ref (s + 5), .ref (s + 6), .ref (s + 7), am_i 0, am_i 1, am_l 0, am_i 0]) ff_X4_92 fc_X4_10 dX4_start_24 (by omega) xe13 (am_bool (Or.inl rfl)) (Nat.le_of_ble_eq_true rfl) rfl (fun μ15 xe16 xf17 => ?_)
  refine ap_aload_n dX4_start_27 rfl rfl ?_
  refine ap_get ff_X4_35 dX4_start_28 (by omega) xe16 rfl ?_
  have xm21 : μ15 (s + 7) = am_O 7 [.ref (s + 7 + 1), .ref (s + 7 + 2), am_i (ts.length : Int)] := (xf17 _ (by omega)).trans ((xf14 _ (by omega)).trans ((xf10 _ (by omega)).trans ((xf6 _ (by omega)).trans ((xf3 _ (by omega)).trans h7.1))))
  refine ap_cV (As := []) (rest := []) (ct_sstart (s := s + 7) (ts := ts) (h7.fr (lo := s) (hi := s + 7) (fun b hb => (xf17 b (by omega)).trans ((xf14 b (by omega)).trans ((xf10 b (by omega)).trans ((xf6 b (by omega)).trans ((xf3 b (by omega))))))) (by omega)) (by omega)) dX4_start_31 lk_X4_96 hy_X7_start rfl (by omega) xm21 ⟨_, _, rfl⟩ (Nat.le_of_ble_eq_true rfl) ⟨Nat.le_of_ble_eq_true rfl, Nat.le_of_ble_eq_true rfl⟩ ⟨rfl, rfl⟩ ⟨Nat.le_of_ble_eq_true rfl, Nat.le_of_ble_eq_true rfl⟩ (fun xr18 xN19 μz xq20 => ?_)
  obtain ⟨rfl, rfl, hz1, hz2⟩ := xq20
  have xm22 : μz s = am_O 4 [.ref (s + 1), .ref (s + 2), .ref (s + 3), .ref (s + 4), .ref (s + 5), .ref (s + 6), .ref (s + 7), am_i 0, am_i 1, am_l 0, am_i 0] := (hz2 _ (by omega)).trans xe16
  have xm23 : μz (s + 1) = am_L 300 fb := (hz2 _ (by omega)).trans ((xf17 _ (by omega)).trans ((xf14 _ (by omega)).trans ((xf10 _ (by omega)).trans ((xf6 _ (by omega)).trans ((xf3 _ (by omega)).trans a1)))))
  have xm24 : μz (s + 2) = am_L 300 fe := (hz2 _ (by omega)).trans ((xf17 _ (by omega)).trans ((xf14 _ (by omega)).trans ((xf10 _ (by omega)).trans ((xf6 _ (by omega)).trans ((xf3 _ (by omega)).trans a2)))))
  have xm25 : μz (s + 3) = am_I 0 300 fn := (hz2 _ (by omega)).trans ((xf17 _ (by omega)).trans ((xf14 _ (by omega)).trans ((xf10 _ (by omega)).trans ((xf6 _ (by omega)).trans ((xf3 _ (by omega)).trans a3)))))
  have xm26 : μz (s + 4) = am_I 0 300 fm := (hz2 _ (by omega)).trans ((xf17 _ (by omega)).trans ((xf14 _ (by omega)).trans ((xf10 _ (by omega)).trans ((xf6 _ (by omega)).trans ((xf3 _ (by omega)).trans a4)))))
  have xm27 : μz (s + 5) = am_I 3 300 fa := (hz2 _ (by omega)).trans ((xf17 _ (by omega)).trans ((xf14 _ (by omega)).trans ((xf10 _ (by omega)).trans ((xf6 _ (by omega)).trans ((xf3 _ (by omega)).trans a5)))))
  have xm28 : μz (s + 6) = am_L 901 (va_up fl 0 0) := (hz2 _ (by omega)).trans ((xf17 _ (by omega)).trans ((xf14 _ (by omega)).trans xe9))
  exact ap_vret dX4_start_34 rfl (Nat.le_of_ble_eq_true rfl) (Nat.le_of_ble_eq_true rfl) (⟨rfl, rfl, ⟨xm22, ⟨fb, xm23, fun i hi => absurd hi (Nat.not_lt_zero _)⟩, ⟨fe, xm24, fun i hi => absurd hi (Nat.not_lt_zero _)⟩, ⟨fn, xm25, fun i hi => absurd hi (Nat.not_lt_zero _)⟩, ⟨fm, xm26, fun i hi => absurd hi (Nat.not_lt_zero _)⟩, ⟨fa, xm27, fun i hi => absurd hi (Nat.not_lt_zero _)⟩, ⟨_, xm28, fun i hi => by obtain rfl : i = 0 := Nat.lt_one_iff.mp hi; rfl⟩, hz1⟩, fun b hb => (hz2 b (by omega)).trans ((xf17 b (by omega)).trans ((xf14 b (by omega)).trans ((xf10 b (by omega)).trans ((xf6 b (by omega)).trans ((xf3 b (by omega)))))))⟩)

theorem Sco.raw {μ : am_M} {s : Nat} {P : PS} (h : Sco μ s P) : ∃ f1 f2 f3 f4 f5 f6, Sraw μ s f1 f2 f3 f4 f5 f6 (p_cnt P) (p_nb P) (p_td P) (p_tot P) (p_ts P) := by
  obtain ⟨h1, ⟨f1, a1, b1⟩, ⟨f2, a2, b2⟩, ⟨f3, a3, b3⟩, ⟨f4, a4, b4⟩, ⟨f5, a5, b5⟩, ⟨f6, a6, b6⟩, h7⟩ := h
  exact ⟨f1, f2, f3, f4, f5, f6, h1, a1, a2, a3, a4, a5, a6, h7⟩
theorem va_upe {α : Type} {f : Nat → α} {k : Nat} {v : α} : va_up f k v k = v := by simp [va_up]
theorem va_upn {α : Type} {f : Nat → α} {k j : Nat} {v : α} (h : j ≠ k) : va_up f k v j = f j := by simp [va_up, h]
set_option maxHeartbeats 4000000 in
set_option maxRecDepth 100000 in
theorem ct_beginBar {N s : Nat} {μ : am_M} {P : PS} (hS : Sco μ s P) (hN : s + 9 < N) (hp : pok P) (hb : p_nb P ≤ 900) : am_Met YX4_beginBar [.ref s] N μ (fun r N2 μ2 => r = none ∧ N = N2 ∧ Sco μ2 s (pBar P) ∧ am_fr s (s + 10) μ μ2) := by
  obtain ⟨h1, ⟨fb, a1, b1⟩, ⟨fe, a2, b2⟩, ⟨fn, a3, b3⟩, ⟨fm, a4, b4⟩, ⟨fa, a5, b5⟩, ⟨fl, a6, b6⟩, h7⟩ := id hS
  obtain ⟨g1, g2, g3, g4, g5, g6, g7, g8, g9⟩ := id hp
  refine am_met (by first | decide | rfl) (Nat.le_of_ble_eq_true rfl) (fun h => by first | rfl | cases h) ?_
  show am_W YX4_beginBar _ 0 0 0 [(0, .ref s)] [] _ _
  refine ap_aload_n dX4_beginBar_0 rfl rfl ?_
  refine ap_get ff_X4_46 dX4_beginBar_1 (by omega) h1 rfl ?_
  refine ap_aload_n dX4_beginBar_4 rfl rfl ?_
  refine ap_get ff_X4_29 dX4_beginBar_5 (by omega) h1 rfl ?_
  refine ap_alen (L := 901) dX4_beginBar_8 (by omega) a6 (by decide) ?_
  refine ap_icmp_ge (tgt := 32) dX4_beginBar_9 (by decide) (by omega) (fun c9 => (by exfalso; omega)) (fun c9 => ?_)
  refine ap_aload_n dX4_beginBar_12 rfl rfl ?_
  refine ap_get ff_X4_29 dX4_beginBar_13 (by omega) h1 rfl ?_
  refine ap_aload_n dX4_beginBar_16 rfl rfl ?_
  refine ap_get ff_X4_46 dX4_beginBar_17 (by omega) h1 rfl ?_
  refine ap_lconst (v := 0) dX4_beginBar_20 rfl ?_
  refine ap_last (j := p_nb P) dX4_beginBar_21 (by omega) a6 (by omega) (by omega) (fun μ1 xe2 xf3 => ?_)
  refine ap_aload_n dX4_beginBar_22 rfl rfl ?_
  refine ap_dup dX4_beginBar_23 rfl ?_
  have xm4 : μ1 s = am_O 4 [.ref (s + 1), .ref (s + 2), .ref (s + 3), .ref (s + 4), .ref (s + 5), .ref (s + 6), .ref (s + 7), am_i (p_cnt P : Int), am_i (p_nb P : Int), am_l (p_tot P), am_i (p_td P)] := (xf3 _ (by omega)).trans h1
  refine ap_get ff_X4_46 dX4_beginBar_24 (by omega) xm4 rfl ?_
  refine ap_iconst dX4_beginBar_27 ?_
  refine ap_iadd dX4_beginBar_28 ?_
  refine ap_put (fs2 := [.ref (s + 1), .ref (s + 2), .ref (s + 3), .ref (s + 4), .ref (s + 5), .ref (s + 6), .ref (s + 7), am_i (p_cnt P : Int), am_i ((p_nb P : Int) + 1), am_l (p_tot P), am_i (p_td P)]) ff_X4_46 fc_X4_8 dX4_beginBar_29 (by omega) xm4 (fun _ => ⟨rfl, rfl⟩) (Nat.le_of_ble_eq_true rfl) rfl (fun μ5 xe6 xf7 => ?_)
  have xm8 : μ5 (s + 1) = am_L 300 fb := (xf7 _ (by omega)).trans ((xf3 _ (by omega)).trans a1)
  have xm9 : μ5 (s + 2) = am_L 300 fe := (xf7 _ (by omega)).trans ((xf3 _ (by omega)).trans a2)
  have xm10 : μ5 (s + 3) = am_I 0 300 fn := (xf7 _ (by omega)).trans ((xf3 _ (by omega)).trans a3)
  have xm11 : μ5 (s + 4) = am_I 0 300 fm := (xf7 _ (by omega)).trans ((xf3 _ (by omega)).trans a4)
  have xm12 : μ5 (s + 5) = am_I 3 300 fa := (xf7 _ (by omega)).trans ((xf3 _ (by omega)).trans a5)
  have xm13 : μ5 (s + 6) = am_L 901 (va_up fl (p_nb P) 0) := (xf7 _ (by omega)).trans xe2
  exact ap_vret dX4_beginBar_32 rfl (Nat.le_of_ble_eq_true rfl) (Nat.le_of_ble_eq_true rfl) (⟨rfl, rfl, ⟨xe6, ⟨fb, xm8, b1⟩, ⟨fe, xm9, b2⟩, ⟨fn, xm10, b3⟩, ⟨fm, xm11, b4⟩, ⟨fa, xm12, b5⟩, ⟨_, xm13, fun i hi => by
    have hi : i < p_nb P + 1 := hi
    show va_up fl (p_nb P) 0 i = va_up (p_BL P) (p_nb P) 0 i
    by_cases hi2 : i = p_nb P
    · subst hi2; rw [va_upe, va_upe]
    · rw [va_upn hi2, va_upn hi2]; exact b6 i (by omega)⟩, h7.fr (lo := s) (hi := s + 7) (fun b hb => (xf7 b (by omega)).trans ((xf3 b (by omega)))) (by omega)⟩, fun b hb => (xf7 b (by omega)).trans ((xf3 b (by omega)))⟩)

set_option maxHeartbeats 4000000 in
set_option maxRecDepth 100000 in
theorem ct_addNote {N s : Nat} {μ : am_M} {P : PS} (hS : Sco μ s P) (hN : s + 9 < N) (hp : pok P) {x ac : Int} (hx : 0 ≤ x ∧ x ≤ 1000000000000) (ha : ac = 0 ∨ ac = 1) (hc : p_cnt P < 300) : am_Met YX4_addNote [.ref s, am_l x, am_i ac] N μ (fun r N2 μ2 => r = none ∧ N = N2 ∧ Sco μ2 s (pNote P x ac) ∧ am_fr s (s + 10) μ μ2) := by
  obtain ⟨h1, ⟨fb, a1, b1⟩, ⟨fe, a2, b2⟩, ⟨fn, a3, b3⟩, ⟨fm, a4, b4⟩, ⟨fa, a5, b5⟩, ⟨fl, a6, b6⟩, h7⟩ := id hS
  obtain ⟨g1, g2, g3, g4, g5, g6, g7, g8, g9⟩ := id hp
  refine am_met (by first | decide | rfl) (Nat.le_of_ble_eq_true rfl) (fun h => by first | rfl | cases h) ?_
  show am_W YX4_addNote _ 0 0 0 [(0, .ref s), (1, am_l x), (3, am_i ac)] [] _ _
  refine ap_aload_n dX4_addNote_0 rfl rfl ?_
  refine ap_get ff_X4_92 dX4_addNote_1 (by omega) h1 rfl ?_
  refine ap_if_eq (tgt := 53) dX4_addNote_4 (by decide) (by omega) (fun c4 => ?_) (fun c4 => ?_)
  · refine ap_aload_n dX4_addNote_53 rfl rfl ?_
    refine ap_get ff_X4_42 dX4_addNote_54 (by omega) h1 rfl ?_
    refine ap_sipush dX4_addNote_57 (by decide) ?_
    refine ap_icmp_ge (tgt := 136) dX4_addNote_60 (by decide) (by omega) (fun c60 => (by exfalso; omega)) (fun c60 => ?_)
    refine ap_aload_n dX4_addNote_63 rfl rfl ?_
    refine ap_get ff_X4_9 dX4_addNote_64 (by omega) h1 rfl ?_
    refine ap_aload_n dX4_addNote_67 rfl rfl ?_
    refine ap_get ff_X4_42 dX4_addNote_68 (by omega) h1 rfl ?_
    refine ap_aload_n dX4_addNote_71 rfl rfl ?_
    refine ap_get ff_X4_49 dX4_addNote_72 (by omega) h1 rfl ?_
    refine ap_last (j := p_cnt P) dX4_addNote_75 (by omega) a1 (by omega) (by omega) (fun μ1 xe2 xf3 => ?_)
    refine ap_aload_n dX4_addNote_76 rfl rfl ?_
    have xm4 : μ1 s = am_O 4 [.ref (s + 1), .ref (s + 2), .ref (s + 3), .ref (s + 4), .ref (s + 5), .ref (s + 6), .ref (s + 7), am_i (p_cnt P : Int), am_i (p_nb P : Int), am_l (p_tot P), am_i (p_td P)] := (xf3 _ (by omega)).trans h1
    refine ap_get ff_X4_15 dX4_addNote_77 (by omega) xm4 rfl ?_
    refine ap_aload_n dX4_addNote_80 rfl rfl ?_
    refine ap_get ff_X4_42 dX4_addNote_81 (by omega) xm4 rfl ?_
    refine ap_aload_n dX4_addNote_84 rfl rfl ?_
    refine ap_get ff_X4_49 dX4_addNote_85 (by omega) xm4 rfl ?_
    refine ap_lload_n dX4_addNote_88 rfl rfl ?_
    refine ap_ladd dX4_addNote_89 ?_
    have xm5 : μ1 (s + 2) = am_L 300 fe := (xf3 _ (by omega)).trans a2
    refine ap_last (j := p_cnt P) dX4_addNote_90 (by omega) xm5 (by omega) (by omega) (fun μ6 xe7 xf8 => ?_)
    refine ap_aload_n dX4_addNote_91 rfl rfl ?_
    have xm9 : μ6 s = am_O 4 [.ref (s + 1), .ref (s + 2), .ref (s + 3), .ref (s + 4), .ref (s + 5), .ref (s + 6), .ref (s + 7), am_i (p_cnt P : Int), am_i (p_nb P : Int), am_l (p_tot P), am_i (p_td P)] := (xf8 _ (by omega)).trans xm4
    refine ap_get ff_X4_18 dX4_addNote_92 (by omega) xm9 rfl ?_
    refine ap_aload_n dX4_addNote_95 rfl rfl ?_
    refine ap_get ff_X4_42 dX4_addNote_96 (by omega) xm9 rfl ?_
    refine ap_iconst dX4_addNote_99 ?_
    have xm10 : μ6 (s + 3) = am_I 0 300 fn := (xf8 _ (by omega)).trans ((xf3 _ (by omega)).trans a3)
    refine ap_iast (j := p_cnt P) dX4_addNote_100 (by omega) xm10 (by omega) (by omega) (fun μ11 xe12 xf13 => ?_)
    refine ap_aload_n dX4_addNote_101 rfl rfl ?_
    have xm14 : μ11 s = am_O 4 [.ref (s + 1), .ref (s + 2), .ref (s + 3), .ref (s + 4), .ref (s + 5), .ref (s + 6), .ref (s + 7), am_i (p_cnt P : Int), am_i (p_nb P : Int), am_l (p_tot P), am_i (p_td P)] := (xf13 _ (by omega)).trans xm9
    refine ap_get ff_X4_22 dX4_addNote_102 (by omega) xm14 rfl ?_
    refine ap_aload_n dX4_addNote_105 rfl rfl ?_
    refine ap_get ff_X4_42 dX4_addNote_106 (by omega) xm14 rfl ?_
    refine ap_aload_n dX4_addNote_109 rfl rfl ?_
    refine ap_get ff_X4_46 dX4_addNote_110 (by omega) xm14 rfl ?_
    refine ap_iconst dX4_addNote_113 ?_
    refine ap_isub dX4_addNote_114 ?_
    have xm15 : μ11 (s + 4) = am_I 0 300 fm := (xf13 _ (by omega)).trans ((xf8 _ (by omega)).trans ((xf3 _ (by omega)).trans a4))
    refine ap_iast (j := p_cnt P) dX4_addNote_115 (by omega) xm15 (by omega) (by omega) (fun μ16 xe17 xf18 => ?_)
    refine ap_aload_n dX4_addNote_116 rfl rfl ?_
    have xm19 : μ16 s = am_O 4 [.ref (s + 1), .ref (s + 2), .ref (s + 3), .ref (s + 4), .ref (s + 5), .ref (s + 6), .ref (s + 7), am_i (p_cnt P : Int), am_i (p_nb P : Int), am_l (p_tot P), am_i (p_td P)] := (xf18 _ (by omega)).trans xm14
    refine ap_get ff_X4_25 dX4_addNote_117 (by omega) xm19 rfl ?_
    refine ap_aload_n dX4_addNote_120 rfl rfl ?_
    refine ap_get ff_X4_42 dX4_addNote_121 (by omega) xm19 rfl ?_
    refine ap_iload_n dX4_addNote_124 rfl rfl ?_
    have xm20 : μ16 (s + 5) = am_I 3 300 fa := (xf18 _ (by omega)).trans ((xf13 _ (by omega)).trans ((xf8 _ (by omega)).trans ((xf3 _ (by omega)).trans a5)))
    refine ap_zast (j := p_cnt P) dX4_addNote_125 (by omega) xm20 (by omega) (by omega) (ha) (fun μ21 xe22 xf23 => ?_)
    refine ap_aload_n dX4_addNote_126 rfl rfl ?_
    refine ap_dup dX4_addNote_127 rfl ?_
    have xm24 : μ21 s = am_O 4 [.ref (s + 1), .ref (s + 2), .ref (s + 3), .ref (s + 4), .ref (s + 5), .ref (s + 6), .ref (s + 7), am_i (p_cnt P : Int), am_i (p_nb P : Int), am_l (p_tot P), am_i (p_td P)] := (xf23 _ (by omega)).trans xm19
    refine ap_get ff_X4_42 dX4_addNote_128 (by omega) xm24 rfl ?_
    refine ap_iconst dX4_addNote_131 ?_
    refine ap_iadd dX4_addNote_132 ?_
    refine ap_put (fs2 := [.ref (s + 1), .ref (s + 2), .ref (s + 3), .ref (s + 4), .ref (s + 5), .ref (s + 6), .ref (s + 7), am_i ((p_cnt P : Int) + 1), am_i (p_nb P : Int), am_l (p_tot P), am_i (p_td P)]) ff_X4_42 fc_X4_7 dX4_addNote_133 (by omega) xm24 (fun _ => ⟨rfl, rfl⟩) (Nat.le_of_ble_eq_true rfl) rfl (fun μ25 xe26 xf27 => ?_)
    have xm28 : μ25 (s + 1) = am_L 300 (va_up fb (p_cnt P) (p_tot P)) := (xf27 _ (by omega)).trans ((xf23 _ (by omega)).trans ((xf18 _ (by omega)).trans ((xf13 _ (by omega)).trans ((xf8 _ (by omega)).trans xe2))))
    have xm29 : μ25 (s + 2) = am_L 300 (va_up fe (p_cnt P) ((p_tot P) + x)) := (xf27 _ (by omega)).trans ((xf23 _ (by omega)).trans ((xf18 _ (by omega)).trans ((xf13 _ (by omega)).trans xe7)))
    have xm30 : μ25 (s + 3) = am_I 0 300 (va_up fn (p_cnt P) 1) := (xf27 _ (by omega)).trans ((xf23 _ (by omega)).trans ((xf18 _ (by omega)).trans xe12))
    have xm31 : μ25 (s + 4) = am_I 0 300 (va_up fm (p_cnt P) ((p_nb P : Int) - 1)) := (xf27 _ (by omega)).trans ((xf23 _ (by omega)).trans xe17)
    have xm32 : μ25 (s + 5) = am_I 3 300 (va_up fa (p_cnt P) ac) := (xf27 _ (by omega)).trans xe22
    have xm33 : μ25 (s + 6) = am_L 901 fl := (xf27 _ (by omega)).trans ((xf23 _ (by omega)).trans ((xf18 _ (by omega)).trans ((xf13 _ (by omega)).trans ((xf8 _ (by omega)).trans ((xf3 _ (by omega)).trans a6)))))
    exact ap_vret dX4_addNote_136 rfl (Nat.le_of_ble_eq_true rfl) (Nat.le_of_ble_eq_true rfl) (⟨rfl, rfl, (by rw [pNote, if_neg (by omega)]; exact ⟨xe26, ⟨_, xm28, fun i hi => by
    have hi : i < p_cnt P + 1 := hi
    show va_up fb (p_cnt P) (p_tot P) i = va_up (p_B P) (p_cnt P) (p_tot P) i
    by_cases hi2 : i = p_cnt P
    · subst hi2; rw [va_upe, va_upe]
    · rw [va_upn hi2, va_upn hi2]; exact b1 i (by omega)⟩, ⟨_, xm29, fun i hi => by
    have hi : i < p_cnt P + 1 := hi
    show va_up fe (p_cnt P) (p_tot P + x) i = va_up (p_E P) (p_cnt P) (p_tot P + x) i
    by_cases hi2 : i = p_cnt P
    · subst hi2; rw [va_upe, va_upe]
    · rw [va_upn hi2, va_upn hi2]; exact b2 i (by omega)⟩, ⟨_, xm30, fun i hi => by
    have hi : i < p_cnt P + 1 := hi
    show va_up fn (p_cnt P) 1 i = va_up (p_NC P) (p_cnt P) 1 i
    by_cases hi2 : i = p_cnt P
    · subst hi2; rw [va_upe, va_upe]
    · rw [va_upn hi2, va_upn hi2]; exact b3 i (by omega)⟩, ⟨_, xm31, fun i hi => by
    have hi : i < p_cnt P + 1 := hi
    show va_up fm (p_cnt P) ((p_nb P : Int) - 1) i = va_up (p_BN P) (p_cnt P) ((p_nb P : Int) - 1) i
    by_cases hi2 : i = p_cnt P
    · subst hi2; rw [va_upe, va_upe]
    · rw [va_upn hi2, va_upn hi2]; exact b4 i (by omega)⟩, ⟨_, xm32, fun i hi => by
    have hi : i < p_cnt P + 1 := hi
    show va_up fa (p_cnt P) ac i = va_up (p_AC P) (p_cnt P) ac i
    by_cases hi2 : i = p_cnt P
    · subst hi2; rw [va_upe, va_upe]
    · rw [va_upn hi2, va_upn hi2]; exact b5 i (by omega)⟩, ⟨fl, xm33, b6⟩, h7.fr (lo := s) (hi := s + 7) (fun b hb => (xf27 b (by omega)).trans ((xf23 b (by omega)).trans ((xf18 b (by omega)).trans ((xf13 b (by omega)).trans ((xf8 b (by omega)).trans ((xf3 b (by omega)))))))) (by omega)⟩), fun b hb => (xf27 b (by omega)).trans ((xf23 b (by omega)).trans ((xf18 b (by omega)).trans ((xf13 b (by omega)).trans ((xf8 b (by omega)).trans ((xf3 b (by omega)))))))⟩)
  · refine ap_aload_n dX4_addNote_7 rfl rfl ?_
    refine ap_aload_n dX4_addNote_8 rfl rfl ?_
    refine ap_get ff_X4_42 dX4_addNote_9 (by omega) h1 rfl ?_
    refine ap_iconst dX4_addNote_12 ?_
    refine ap_isub dX4_addNote_13 ?_
    refine ap_cV (As := [am_i ((p_cnt P : Int) - 1)]) (rest := []) (ct_hasEvent hS hN hp (k := (p_cnt P : Int) - 1) (by omega)) dX4_addNote_14 lk_X4_53 hy_X4_hasEvent rfl (by omega) h1 ⟨_, _, rfl⟩ (Nat.le_of_ble_eq_true rfl) ⟨Nat.le_of_ble_eq_true rfl, Nat.le_of_ble_eq_true rfl⟩ ⟨rfl, rfl⟩ ⟨Nat.le_of_ble_eq_true rfl, Nat.le_of_ble_eq_true rfl⟩ (fun xr34 xN35 μ36 xq37 => ?_)
    obtain ⟨rfl, rfl, rfl⟩ := xq37
    refine ap_topi (b := (1 : Int)) (show (if 0 ≤ (p_cnt P : Int) - 1 ∧ (p_cnt P : Int) - 1 < p_cnt P then 1 else 0) = (1 : Int) from if_pos (by omega)) ?_
    refine ap_if_eq (tgt := 53) dX4_addNote_17 (by decide) (by omega) (fun c17 => (by exfalso; omega)) (fun c17 => ?_)
    refine ap_aload_n dX4_addNote_20 rfl rfl ?_
    refine ap_get ff_X4_15 dX4_addNote_21 (by omega) h1 rfl ?_
    refine ap_aload_n dX4_addNote_24 rfl rfl ?_
    refine ap_get ff_X4_42 dX4_addNote_25 (by omega) h1 rfl ?_
    refine ap_iconst dX4_addNote_28 ?_
    refine ap_isub dX4_addNote_29 ?_
    refine ap_dup2 dX4_addNote_30 rfl rfl ?_
    refine ap_lald (j := p_cnt P - 1) dX4_addNote_31 (by omega) a2 (by omega) (by omega) ?_
    refine ap_lload_n dX4_addNote_32 rfl rfl ?_
    refine ap_ladd dX4_addNote_33 ?_
    refine ap_last (j := p_cnt P - 1) dX4_addNote_34 (by omega) a2 (by omega) (by omega) (fun μ38 xe39 xf40 => ?_)
    refine ap_aload_n dX4_addNote_35 rfl rfl ?_
    have xm41 : μ38 s = am_O 4 [.ref (s + 1), .ref (s + 2), .ref (s + 3), .ref (s + 4), .ref (s + 5), .ref (s + 6), .ref (s + 7), am_i (p_cnt P : Int), am_i (p_nb P : Int), am_l (p_tot P), am_i (p_td P)] := (xf40 _ (by omega)).trans h1
    refine ap_get ff_X4_18 dX4_addNote_36 (by omega) xm41 rfl ?_
    refine ap_aload_n dX4_addNote_39 rfl rfl ?_
    refine ap_get ff_X4_42 dX4_addNote_40 (by omega) xm41 rfl ?_
    refine ap_iconst dX4_addNote_43 ?_
    refine ap_isub dX4_addNote_44 ?_
    refine ap_dup2 dX4_addNote_45 rfl rfl ?_
    have xm42 : μ38 (s + 3) = am_I 0 300 fn := (xf40 _ (by omega)).trans a3
    refine ap_iald (j := p_cnt P - 1) dX4_addNote_46 (by omega) xm42 (by omega) (by omega) ?_
    refine ap_iconst dX4_addNote_47 ?_
    refine ap_iadd dX4_addNote_48 ?_
    refine ap_iast (j := p_cnt P - 1) dX4_addNote_49 (by omega) xm42 (by omega) (by omega) (fun μ43 xe44 xf45 => ?_)
    refine ap_goto (tgt := 136) dX4_addNote_50 (by decide) ?_
    have xm46 : μ43 s = am_O 4 [.ref (s + 1), .ref (s + 2), .ref (s + 3), .ref (s + 4), .ref (s + 5), .ref (s + 6), .ref (s + 7), am_i (p_cnt P : Int), am_i (p_nb P : Int), am_l (p_tot P), am_i (p_td P)] := (xf45 _ (by omega)).trans xm41
    have xm47 : μ43 (s + 1) = am_L 300 fb := (xf45 _ (by omega)).trans ((xf40 _ (by omega)).trans a1)
    have xm48 : μ43 (s + 2) = am_L 300 (va_up fe (p_cnt P - 1) ((fe (p_cnt P - 1)) + x)) := (xf45 _ (by omega)).trans xe39
    have xm49 : μ43 (s + 4) = am_I 0 300 fm := (xf45 _ (by omega)).trans ((xf40 _ (by omega)).trans a4)
    have xm50 : μ43 (s + 5) = am_I 3 300 fa := (xf45 _ (by omega)).trans ((xf40 _ (by omega)).trans a5)
    have xm51 : μ43 (s + 6) = am_L 901 fl := (xf45 _ (by omega)).trans ((xf40 _ (by omega)).trans a6)
    exact ap_vret dX4_addNote_136 rfl (Nat.le_of_ble_eq_true rfl) (Nat.le_of_ble_eq_true rfl) (⟨rfl, rfl, (by rw [pNote, if_pos (by omega)]; exact ⟨xm46, ⟨fb, xm47, b1⟩, ⟨_, xm48, fun i hi => by
    have hi : i < p_cnt P := hi
    show va_up fe (p_cnt P - 1) (fe (p_cnt P - 1) + x) i = va_up (p_E P) (p_cnt P - 1) (p_E P (p_cnt P - 1) + x) i
    by_cases hi2 : i = p_cnt P - 1
    · subst hi2; rw [va_upe, va_upe, b2 _ (by omega)]
    · rw [va_upn hi2, va_upn hi2]; exact b2 i (by omega)⟩, ⟨_, xe44, fun i hi => by
    have hi : i < p_cnt P := hi
    show va_up fn (p_cnt P - 1) (fn (p_cnt P - 1) + 1) i = va_up (p_NC P) (p_cnt P - 1) (p_NC P (p_cnt P - 1) + 1) i
    by_cases hi2 : i = p_cnt P - 1
    · subst hi2; rw [va_upe, va_upe, b3 _ (by omega)]
    · rw [va_upn hi2, va_upn hi2]; exact b3 i (by omega)⟩, ⟨fm, xm49, b4⟩, ⟨fa, xm50, b5⟩, ⟨fl, xm51, b6⟩, h7.fr (lo := s) (hi := s + 7) (fun b hb => (xf45 b (by omega)).trans ((xf40 b (by omega)))) (by omega)⟩), fun b hb => (xf45 b (by omega)).trans ((xf40 b (by omega)))⟩)

theorem tat_r {us : List Int} (h : ∀ c ∈ us, 0 ≤ c ∧ c ≤ 126) (k : Int) : -9 ≤ tat us k ∧ tat us k ≤ 126 := by
  unfold tat
  split
  · have := h _ (am_gd (xs := us) (j := k.toNat) (by omega))
    omega
  · omega
theorem tk_r {h : Int} {d : Nat} {ts : List (Int × Int)} (hh : 0 ≤ h ∧ h ≤ 5) (hl : ts.length ≤ 2) (ht : ∀ x ∈ ts, (2 ≤ x.1 ∧ x.1 ≤ 9) ∧ 2 ≤ x.2 ∧ x.2 ≤ 9) : 0 ≤ tk h d ts ∧ tk h d ts ≤ 460886630400 := by
  have hr := pnm_r hl ht
  have hq : 4 ≤ dqn d ∧ dqn d ≤ 7 := by unfold dqn; split <;> (try split) <;> omega
  have b1 : 812851200 * dqn d * pn ts ≤ 812851200 * 7 * 81 := Int.mul_le_mul (by omega) hr.1.2 (by omega) (by omega)
  have b2 : 0 ≤ 812851200 * dqn d * pn ts := Int.mul_nonneg (by omega) (by omega)
  have b3 : (0 : Int) < 2 ^ h.toNat := Int.pow_pos (by omega)
  have b4 : 0 < 4 * 2 ^ h.toNat * pm ts := Int.mul_pos (by omega) (by omega)
  unfold tk
  refine ⟨Int.ediv_nonneg b2 (by omega), ?_⟩
  exact Int.le_trans (Int.ediv_le_self _ b2) (by omega)
set_option maxHeartbeats 4000000 in
set_option maxRecDepth 100000 in
theorem ct_hasBarR {N s : Nat} {μ : am_M} {zc zb zt zd k : Int} (h1 : μ s = am_O 4 [.ref (s + 1), .ref (s + 2), .ref (s + 3), .ref (s + 4), .ref (s + 5), .ref (s + 6), .ref (s + 7), am_i zc, am_i zb, am_l zt, am_i zd]) (hN : s < N) (hb : 0 ≤ zb ∧ zb ≤ 901) (hk : 0 ≤ k ∧ k < zb) : am_Met YX4_hasBar [.ref s, am_i k] N μ (am_pv (am_i 1) N μ) := by
  refine am_met (by first | decide | rfl) (Nat.le_of_ble_eq_true rfl) (fun h => by first | rfl | cases h) ?_
  show am_W YX4_hasBar _ 0 0 0 [(0, .ref s), (1, am_i k)] [] _ _
  refine ap_iload_n dX4_hasBar_0 rfl rfl ?_
  refine ap_if_lt (tgt := 16) dX4_hasBar_1 (by decide) (by omega) (fun c1 => (by exfalso; omega)) (fun c1 => ?_)
  refine ap_iload_n dX4_hasBar_4 rfl rfl ?_
  refine ap_aload_n dX4_hasBar_5 rfl rfl ?_
  refine ap_get ff_X4_46 dX4_hasBar_6 (by omega) h1 rfl ?_
  refine ap_icmp_ge (tgt := 16) dX4_hasBar_9 (by decide) (by omega) (fun c9 => (by exfalso; omega)) (fun c9 => ?_)
  refine ap_iconst dX4_hasBar_12 ?_
  refine ap_goto (tgt := 17) dX4_hasBar_13 (by decide) ?_
  exact ap_iret dX4_hasBar_17 rfl (am_nz (by first | omega | decide)) (Nat.le_of_ble_eq_true rfl) (Nat.le_of_ble_eq_true rfl) (⟨rfl, rfl, rfl⟩)

theorem sh4 {h : Int} (hh : 0 ≤ h ∧ h ≤ 5) : Int64.ofInt 4 <<< ((Int32.ofInt h).toInt64 &&& 63) = Int64.ofInt (4 * 2 ^ h.toNat) := by
  rcases (show h = 0 ∨ h = 1 ∨ h = 2 ∨ h = 3 ∨ h = 4 ∨ h = 5 by omega) with rfl | rfl | rfl | rfl | rfl | rfl <;> decide
theorem pNote_nb (P : PS) (x ac : Int) : p_nb (pNote P x ac) = p_nb P ∧ p_tot (pNote P x ac) = p_tot P ∧ p_td (pNote P x ac) = p_td P ∧ p_BL (pNote P x ac) = p_BL P ∧ p_ts (pNote P x ac) = p_ts P := by
  unfold pNote
  split <;> exact ⟨rfl, rfl, rfl, rfl, rfl⟩
set_option maxHeartbeats 16000000 in
set_option maxRecDepth 100000 in
theorem ct_addSound {N s t cap : Nat} {μ : am_M} {P : PS} {us : List Int} {i : Nat} (hS : Sco μ s P) (hT : Tx μ t cap us) (hN : s + 9 < N) (hN2 : t + 1 < N) (hd : t + 2 ≤ s ∨ s + 10 ≤ t) (hp : pok P) (hi : i < us.length) (hh : 0 ≤ hv (us.getD i 0)) (hc : p_cnt P < 300) : am_Met YX4_addSound [.ref s, .ref t, am_i (i : Int)] N μ (fun r N2 μ2 => r = none ∧ N = N2 ∧ Sco μ2 s (pSnd P (decide (tat us ((i : Int) - 1) = 114)) (tk (hv (us.getD i 0)) (dts us i) (p_ts P)) (if tat us ((i : Int) - 1) = 94 then 1 else 0) (if tat us ((i : Int) + 1 + dts us i) = 126 then 1 else 0)) ∧ am_fr s (s + 10) μ μ2) := by
  obtain ⟨h1, ⟨fb, a1, b1⟩, ⟨fe, a2, b2⟩, ⟨fn, a3, b3⟩, ⟨fm, a4, b4⟩, ⟨fa, a5, b5⟩, ⟨fl, a6, b6⟩, h7⟩ := id hS
  obtain ⟨g1, g2, g3, g4, g5, g6, g7, g8, g9⟩ := id hp
  obtain ⟨t1, ⟨tg, t2, t3⟩, t4, t5, t6⟩ := id hT
  have hcc := t6 _ (am_gd hi)
  have hvv := hv_r (us.getD i 0)
  have hpw : (1 : Int) ≤ 4 * 2 ^ (hv (us.getD i 0)).toNat ∧ 4 * 2 ^ (hv (us.getD i 0)).toNat ≤ (1000 : Int) := by
    rcases (show hv (us.getD i 0) = 0 ∨ hv (us.getD i 0) = 1 ∨ hv (us.getD i 0) = 2 ∨ hv (us.getD i 0) = 3 ∨ hv (us.getD i 0) = 4 ∨ hv (us.getD i 0) = 5 by omega) with q | q | q | q | q | q <;> rw [q] <;> decide
  refine am_met (by first | decide | rfl) (Nat.le_of_ble_eq_true rfl) (fun h => by first | rfl | cases h) ?_
  show am_W YX4_addSound _ 0 0 0 [(0, .ref s), (1, .ref t), (2, am_i (i : Int))] [] _ _
  refine ap_iconst dX4_addSound_0 ?_
  refine ap_Istore_n (lv2 := [(0, .ref s), (1, .ref t), (2, am_i (i : Int)), (3, am_i 0)]) dX4_addSound_1 rfl (by decide) rfl ?_
  refine ap_iload_n dX4_addSound_2 rfl rfl ?_
  refine ap_iconst dX4_addSound_3 ?_
  refine ap_icmp_ge (tgt := 27) dX4_addSound_4 (by decide) (by omega) (fun c4 => (by exfalso; omega)) (fun c4 => ?_)
  refine ap_aload_n dX4_addSound_7 rfl rfl ?_
  refine ap_iload_n dX4_addSound_8 rfl rfl ?_
  refine ap_iconst dX4_addSound_9 ?_
  refine ap_iadd dX4_addSound_10 ?_
  refine ap_iload_n dX4_addSound_11 rfl rfl ?_
  refine ap_iadd dX4_addSound_12 ?_
  refine ap_cV (As := [am_i (((i : Int) + 1) + 0)]) (rest := []) (ct_at (hT.kept (rfl) (rfl)) hN2 (by omega)) dX4_addSound_13 lk_X4_66 hy_X6_at rfl (by omega) t1 ⟨_, _, rfl⟩ (Nat.le_of_ble_eq_true rfl) ⟨Nat.le_of_ble_eq_true rfl, Nat.le_of_ble_eq_true rfl⟩ ⟨rfl, rfl⟩ ⟨Nat.le_of_ble_eq_true rfl, Nat.le_of_ble_eq_true rfl⟩ (fun xr1 xN2 μ3 xq4 => ?_)
  obtain ⟨rfl, rfl, rfl⟩ := xq4
  have htr := tat_r t6
  refine ap_bipush dX4_addSound_16 (by decide) ?_
  have htr := tat_r t6 (((i : Int) + 1) + 0)
  refine ap_icmp_ne (tgt := 27) dX4_addSound_18 (by decide) (by omega) (fun ca => ?_) (fun ca => ?_)
  · rw [show (i : Int) + 1 + 0 = (i : Int) + 1 from by omega] at ca
    have hdt : dts us i = 0 := by unfold dts; rw [if_neg ca]
    refine ap_aload_n dX4_addSound_27 rfl rfl ?_
    refine ap_get ff_X4_35 dX4_addSound_28 (by omega) h1 rfl ?_
    refine ap_ldc2 dX4_addSound_31 kl_X4_97 ?_
    have hdq : 4 ≤ dqn 0 ∧ dqn 0 ≤ 7 := by decide
    refine ap_dq (d := 0) tq_dots dX4_addSound_34 dX4_addSound_37 dX4_addSound_38 rfl rfl (by omega) ?_
    refine ap_i2l dX4_addSound_39 (by omega) ?_
    refine ap_lmul dX4_addSound_40 ?_
    refine ap_ldc2 dX4_addSound_41 kl_X4_102 ?_
    refine ap_aload_n dX4_addSound_44 rfl rfl ?_
    refine ap_iload_n dX4_addSound_45 rfl rfl ?_
    refine ap_cV (As := [am_i (i : Int)]) (rest := [am_l 4, am_l (812851200 * (dqn 0)), .ref (s + 7)]) (ct_at (hT.kept (rfl) (rfl)) hN2 (by omega)) dX4_addSound_46 lk_X4_66 hy_X6_at rfl (by omega) t1 ⟨_, _, rfl⟩ (Nat.le_of_ble_eq_true rfl) ⟨Nat.le_of_ble_eq_true rfl, Nat.le_of_ble_eq_true rfl⟩ ⟨rfl, rfl⟩ ⟨Nat.le_of_ble_eq_true rfl, Nat.le_of_ble_eq_true rfl⟩ (fun xr5 xN6 μ7 xq8 => ?_)
    obtain ⟨rfl, rfl, rfl⟩ := xq8
    refine ap_topi (b := us.getD i 0) (show (tat us (i : Int)) = (us.getD i 0) from by rw [tat, if_pos (by omega)]; rfl) ?_
    refine ap_cS (As := [am_i (us.getD i 0)]) (rest := [am_l 4, am_l (812851200 * (dqn 0)), .ref (s + 7)]) (ct_halvings (ch := us.getD i 0) (by omega)) dX4_addSound_49 lk_X4_85 hy_X1_halvings rfl (Nat.le_of_ble_eq_true rfl) ⟨Nat.le_of_ble_eq_true rfl, Nat.le_of_ble_eq_true rfl⟩ ⟨rfl, rfl⟩ ⟨Nat.le_of_ble_eq_true rfl, Nat.le_of_ble_eq_true rfl⟩ (fun xr9 xN10 μ11 xq12 => ?_)
    obtain ⟨rfl, rfl, rfl⟩ := xq12
    refine ap_lshl (r := 4 * 2 ^ (hv (us.getD i 0)).toNat) dX4_addSound_52 (sh4 ⟨hh, (hv_r _).2⟩) ?_
    refine ap_cV (As := [am_l (812851200 * (dqn 0)), am_l (4 * 2 ^ (hv (us.getD i 0)).toNat)]) (rest := []) (ct_sapply (s := s + 7) h7 (by omega) g6 g7 (by omega) hpw) dX4_addSound_53 lk_X4_104 hy_X7_apply rfl (by omega) h7.1 ⟨_, _, rfl⟩ (Nat.le_of_ble_eq_true rfl) ⟨Nat.le_of_ble_eq_true rfl, Nat.le_of_ble_eq_true rfl⟩ ⟨rfl, rfl⟩ ⟨Nat.le_of_ble_eq_true rfl, Nat.le_of_ble_eq_true rfl⟩ (fun xr13 xN14 μ15 xq16 => ?_)
    obtain ⟨rfl, rfl, rfl⟩ := xq16
    refine ap_topl (b := tk (hv (us.getD i 0)) 0 (p_ts P)) (show (((812851200 * (dqn 0)) * pn (p_ts P)) / ((4 * 2 ^ (hv (us.getD i 0)).toNat) * pm (p_ts P))) = (tk (hv (us.getD i 0)) 0 (p_ts P)) from rfl) ?_
    refine ap_Lstore (lv2 := [(0, .ref s), (1, .ref t), (2, am_i (i : Int)), (3, am_i 0), (4, am_l (tk (hv (us.getD i 0)) 0 (p_ts P)))]) dX4_addSound_56 (by decide) rfl ?_
    have hx := tk_r (h := hv (us.getD i 0)) (d := 0) (ts := p_ts P) ⟨hh, (hv_r _).2⟩ g6 g7
    generalize hxe : tk (hv (us.getD i 0)) 0 (p_ts P) = x at hx ⊢
    refine ap_aload_n dX4_addSound_58 rfl rfl ?_
    refine ap_iload_n dX4_addSound_59 rfl rfl ?_
    refine ap_iconst dX4_addSound_60 ?_
    refine ap_isub dX4_addSound_61 ?_
    refine ap_cV (As := [am_i ((i : Int) - 1)]) (rest := []) (ct_at (hT.kept (rfl) (rfl)) hN2 (by omega)) dX4_addSound_62 lk_X4_66 hy_X6_at rfl (by omega) t1 ⟨_, _, rfl⟩ (Nat.le_of_ble_eq_true rfl) ⟨Nat.le_of_ble_eq_true rfl, Nat.le_of_ble_eq_true rfl⟩ ⟨rfl, rfl⟩ ⟨Nat.le_of_ble_eq_true rfl, Nat.le_of_ble_eq_true rfl⟩ (fun xr17 xN18 μ19 xq20 => ?_)
    obtain ⟨rfl, rfl, rfl⟩ := xq20
    refine ap_bipush dX4_addSound_65 (by decide) ?_
    have htr := tat_r t6 ((i : Int) - 1)
    refine ap_icmp_ne (tgt := 78) dX4_addSound_67 (by decide) (by omega) (fun c67 => ?_) (fun c67 => ?_)
    · refine ap_aload_n dX4_addSound_78 rfl rfl ?_
      refine ap_lload dX4_addSound_79 rfl ?_
      refine ap_aload_n dX4_addSound_81 rfl rfl ?_
      refine ap_iload_n dX4_addSound_82 rfl rfl ?_
      refine ap_iconst dX4_addSound_83 ?_
      refine ap_isub dX4_addSound_84 ?_
      refine ap_cV (As := [am_i ((i : Int) - 1)]) (rest := [am_l x, .ref s]) (ct_at (hT.kept (rfl) (rfl)) hN2 (by omega)) dX4_addSound_85 lk_X4_66 hy_X6_at rfl (by omega) t1 ⟨_, _, rfl⟩ (Nat.le_of_ble_eq_true rfl) ⟨Nat.le_of_ble_eq_true rfl, Nat.le_of_ble_eq_true rfl⟩ ⟨rfl, rfl⟩ ⟨Nat.le_of_ble_eq_true rfl, Nat.le_of_ble_eq_true rfl⟩ (fun xr21 xN22 μ23 xq24 => ?_)
      obtain ⟨rfl, rfl, rfl⟩ := xq24
      refine ap_bipush dX4_addSound_88 (by decide) ?_
      have htr := tat_r t6 ((i : Int) - 1)
      refine ap_icmp_ne (tgt := 97) dX4_addSound_90 (by decide) (by omega) (fun c90 => ?_) (fun c90 => ?_)
      · refine ap_iconst dX4_addSound_97 ?_
        refine ap_cV (As := [am_l x, am_i 0]) (rest := []) (ct_addNote hS hN hp (x := x) (ac := 0) (by omega) (Or.inl rfl) hc) dX4_addSound_98 lk_X4_108 hy_X4_addNote rfl (by omega) h1 ⟨_, _, rfl⟩ (Nat.le_of_ble_eq_true rfl) ⟨Nat.le_of_ble_eq_true rfl, Nat.le_of_ble_eq_true rfl⟩ ⟨rfl, rfl⟩ ⟨Nat.le_of_ble_eq_true rfl, Nat.le_of_ble_eq_true rfl⟩ (fun xr25 xN26 μz xq27 => ?_)
        obtain ⟨rfl, rfl, hzS, hzf⟩ := xq27
        obtain ⟨n1, n2, n3, n4, n5⟩ := pNote_nb P x 0
        generalize hP2 : pNote P x 0 = P2 at hzS n1 n2 n3 n4 n5
        obtain ⟨k1, ⟨gb, q1, r1⟩, ⟨ge, q2, r2⟩, ⟨gn, q3, r3⟩, ⟨gm, q4, r4⟩, ⟨ga, q5, r5⟩, ⟨gl, q6, r6⟩, k7⟩ := id hzS
        refine ap_aload_n dX4_addSound_101 rfl rfl ?_
        refine ap_aload_n dX4_addSound_102 rfl rfl ?_
        refine ap_iload_n dX4_addSound_103 rfl rfl ?_
        refine ap_iconst dX4_addSound_104 ?_
        refine ap_iadd dX4_addSound_105 ?_
        refine ap_iload_n dX4_addSound_106 rfl rfl ?_
        refine ap_iadd dX4_addSound_107 ?_
        have xm32 : μz t = am_O 6 [.ref (t + 1), am_i (us.length : Int)] := (hzf _ (by omega)).trans t1
        refine ap_cV (As := [am_i (((i : Int) + 1) + 0)]) (rest := [.ref s]) (ct_at (hT.kept ((hzf t (by omega))) ((hzf (t + 1) (by omega)))) hN2 (by omega)) dX4_addSound_108 lk_X4_66 hy_X6_at rfl (by omega) xm32 ⟨_, _, rfl⟩ (Nat.le_of_ble_eq_true rfl) ⟨Nat.le_of_ble_eq_true rfl, Nat.le_of_ble_eq_true rfl⟩ ⟨rfl, rfl⟩ ⟨Nat.le_of_ble_eq_true rfl, Nat.le_of_ble_eq_true rfl⟩ (fun xr28 xN29 μ30 xq31 => ?_)
        obtain ⟨rfl, rfl, rfl⟩ := xq31
        refine ap_bipush dX4_addSound_111 (by decide) ?_
        have htr := tat_r t6 (((i : Int) + 1) + 0)
        refine ap_icmp_ne (tgt := 120) dX4_addSound_113 (by decide) (by omega) (fun c113 => ?_) (fun c113 => ?_)
        · refine ap_iconst dX4_addSound_120 ?_
          refine ap_put (fs2 := [.ref (s + 1), .ref (s + 2), .ref (s + 3), .ref (s + 4), .ref (s + 5), .ref (s + 6), .ref (s + 7), am_i (p_cnt P2 : Int), am_i (p_nb P2 : Int), am_l (p_tot P2), am_i 0]) ff_X4_92 fc_X4_10 dX4_addSound_121 (by omega) k1 (am_bool (by omega)) (Nat.le_of_ble_eq_true rfl) rfl (fun μ33 xe34 xf35 => ?_)
          refine ap_aload_n dX4_addSound_124 rfl rfl ?_
          refine ap_dup dX4_addSound_125 rfl ?_
          refine ap_get ff_X4_49 dX4_addSound_126 (by omega) xe34 rfl ?_
          refine ap_lload dX4_addSound_129 rfl ?_
          refine ap_ladd dX4_addSound_131 ?_
          refine ap_put (fs2 := [.ref (s + 1), .ref (s + 2), .ref (s + 3), .ref (s + 4), .ref (s + 5), .ref (s + 6), .ref (s + 7), am_i (p_cnt P2 : Int), am_i (p_nb P2 : Int), am_l ((p_tot P2) + x), am_i 0]) ff_X4_49 fc_X4_9 dX4_addSound_132 (by omega) xe34 (fun _ => ⟨rfl, rfl⟩) (Nat.le_of_ble_eq_true rfl) rfl (fun μ36 xe37 xf38 => ?_)
          refine ap_aload_n dX4_addSound_135 rfl rfl ?_
          refine ap_aload_n dX4_addSound_136 rfl rfl ?_
          refine ap_get ff_X4_46 dX4_addSound_137 (by omega) xe37 rfl ?_
          refine ap_iconst dX4_addSound_140 ?_
          refine ap_isub dX4_addSound_141 ?_
          refine ap_cV (As := [am_i ((p_nb P2 : Int) - 1)]) (rest := []) (ct_hasBarR xe37 (by omega) (by omega) (by omega)) dX4_addSound_142 lk_X4_57 hy_X4_hasBar rfl (by omega) xe37 ⟨_, _, rfl⟩ (Nat.le_of_ble_eq_true rfl) ⟨Nat.le_of_ble_eq_true rfl, Nat.le_of_ble_eq_true rfl⟩ ⟨rfl, rfl⟩ ⟨Nat.le_of_ble_eq_true rfl, Nat.le_of_ble_eq_true rfl⟩ (fun xr39 xN40 μ41 xq42 => ?_)
          obtain ⟨rfl, rfl, rfl⟩ := xq42
          refine ap_if_eq (tgt := 164) dX4_addSound_145 (by decide) (by omega) (fun c145 => (by exfalso; omega)) (fun c145 => ?_)
          refine ap_aload_n dX4_addSound_148 rfl rfl ?_
          refine ap_get ff_X4_29 dX4_addSound_149 (by omega) xe37 rfl ?_
          refine ap_aload_n dX4_addSound_152 rfl rfl ?_
          refine ap_get ff_X4_46 dX4_addSound_153 (by omega) xe37 rfl ?_
          refine ap_iconst dX4_addSound_156 ?_
          refine ap_isub dX4_addSound_157 ?_
          refine ap_dup2 dX4_addSound_158 rfl rfl ?_
          have xm43 : μ36 (s + 6) = am_L 901 gl := (xf38 _ (by omega)).trans ((xf35 _ (by omega)).trans q6)
          refine ap_lald (j := p_nb P2 - 1) dX4_addSound_159 (by omega) xm43 (by omega) (by omega) ?_
          refine ap_lload dX4_addSound_160 rfl ?_
          refine ap_ladd dX4_addSound_162 ?_
          refine ap_last (j := p_nb P2 - 1) dX4_addSound_163 (by omega) xm43 (by omega) (by omega) (fun μ44 xe45 xf46 => ?_)
          have xm47 : μ44 s = am_O 4 [.ref (s + 1), .ref (s + 2), .ref (s + 3), .ref (s + 4), .ref (s + 5), .ref (s + 6), .ref (s + 7), am_i (p_cnt P2 : Int), am_i (p_nb P2 : Int), am_l ((p_tot P2) + x), am_i 0] := (xf46 _ (by omega)).trans xe37
          have xm48 : μ44 (s + 1) = am_L 300 gb := (xf46 _ (by omega)).trans ((xf38 _ (by omega)).trans ((xf35 _ (by omega)).trans q1))
          have xm49 : μ44 (s + 2) = am_L 300 ge := (xf46 _ (by omega)).trans ((xf38 _ (by omega)).trans ((xf35 _ (by omega)).trans q2))
          have xm50 : μ44 (s + 3) = am_I 0 300 gn := (xf46 _ (by omega)).trans ((xf38 _ (by omega)).trans ((xf35 _ (by omega)).trans q3))
          have xm51 : μ44 (s + 4) = am_I 0 300 gm := (xf46 _ (by omega)).trans ((xf38 _ (by omega)).trans ((xf35 _ (by omega)).trans q4))
          have xm52 : μ44 (s + 5) = am_I 3 300 ga := (xf46 _ (by omega)).trans ((xf38 _ (by omega)).trans ((xf35 _ (by omega)).trans q5))
          exact ap_vret dX4_addSound_164 rfl (Nat.le_of_ble_eq_true rfl) (Nat.le_of_ble_eq_true rfl) (⟨rfl, rfl, (by
    rw [hdt, show (i : Int) + 1 + ((0 : Nat) : Int) = (i : Int) + 1 + 0 from by omega, hxe, pSnd, decide_eq_false c67, if_neg (by decide), if_neg c90, if_neg c113, hP2]
    exact ⟨xm47, ⟨gb, xm48, r1⟩, ⟨ge, xm49, r2⟩, ⟨gn, xm50, r3⟩, ⟨gm, xm51, r4⟩, ⟨ga, xm52, r5⟩, ⟨_, xe45, fun j hj => by
      have hj : j < p_nb P2 := hj
      show va_up gl (p_nb P2 - 1) (gl (p_nb P2 - 1) + x) j = va_up (p_BL P2) (p_nb P2 - 1) (p_BL P2 (p_nb P2 - 1) + x) j
      by_cases hj2 : j = p_nb P2 - 1
      · subst hj2; rw [va_upe, va_upe, r6 _ (by omega)]
      · rw [va_upn hj2, va_upn hj2]; exact r6 j (by omega)⟩, k7.fr (lo := s) (hi := s + 7) (fun b hb => (xf46 b (by omega)).trans ((xf38 b (by omega)).trans ((xf35 b (by omega))))) (by omega)⟩), fun b hb => (xf46 b (by omega)).trans ((xf38 b (by omega)).trans ((xf35 b (by omega)).trans ((hzf b (by omega)))))⟩)
        · refine ap_iconst dX4_addSound_116 ?_
          refine ap_goto (tgt := 121) dX4_addSound_117 (by decide) ?_
          refine ap_put (fs2 := [.ref (s + 1), .ref (s + 2), .ref (s + 3), .ref (s + 4), .ref (s + 5), .ref (s + 6), .ref (s + 7), am_i (p_cnt P2 : Int), am_i (p_nb P2 : Int), am_l (p_tot P2), am_i 1]) ff_X4_92 fc_X4_10 dX4_addSound_121 (by omega) k1 (am_bool (by omega)) (Nat.le_of_ble_eq_true rfl) rfl (fun μ53 xe54 xf55 => ?_)
          refine ap_aload_n dX4_addSound_124 rfl rfl ?_
          refine ap_dup dX4_addSound_125 rfl ?_
          refine ap_get ff_X4_49 dX4_addSound_126 (by omega) xe54 rfl ?_
          refine ap_lload dX4_addSound_129 rfl ?_
          refine ap_ladd dX4_addSound_131 ?_
          refine ap_put (fs2 := [.ref (s + 1), .ref (s + 2), .ref (s + 3), .ref (s + 4), .ref (s + 5), .ref (s + 6), .ref (s + 7), am_i (p_cnt P2 : Int), am_i (p_nb P2 : Int), am_l ((p_tot P2) + x), am_i 1]) ff_X4_49 fc_X4_9 dX4_addSound_132 (by omega) xe54 (fun _ => ⟨rfl, rfl⟩) (Nat.le_of_ble_eq_true rfl) rfl (fun μ56 xe57 xf58 => ?_)
          refine ap_aload_n dX4_addSound_135 rfl rfl ?_
          refine ap_aload_n dX4_addSound_136 rfl rfl ?_
          refine ap_get ff_X4_46 dX4_addSound_137 (by omega) xe57 rfl ?_
          refine ap_iconst dX4_addSound_140 ?_
          refine ap_isub dX4_addSound_141 ?_
          refine ap_cV (As := [am_i ((p_nb P2 : Int) - 1)]) (rest := []) (ct_hasBarR xe57 (by omega) (by omega) (by omega)) dX4_addSound_142 lk_X4_57 hy_X4_hasBar rfl (by omega) xe57 ⟨_, _, rfl⟩ (Nat.le_of_ble_eq_true rfl) ⟨Nat.le_of_ble_eq_true rfl, Nat.le_of_ble_eq_true rfl⟩ ⟨rfl, rfl⟩ ⟨Nat.le_of_ble_eq_true rfl, Nat.le_of_ble_eq_true rfl⟩ (fun xr59 xN60 μ61 xq62 => ?_)
          obtain ⟨rfl, rfl, rfl⟩ := xq62
          refine ap_if_eq (tgt := 164) dX4_addSound_145 (by decide) (by omega) (fun c145 => (by exfalso; omega)) (fun c145 => ?_)
          refine ap_aload_n dX4_addSound_148 rfl rfl ?_
          refine ap_get ff_X4_29 dX4_addSound_149 (by omega) xe57 rfl ?_
          refine ap_aload_n dX4_addSound_152 rfl rfl ?_
          refine ap_get ff_X4_46 dX4_addSound_153 (by omega) xe57 rfl ?_
          refine ap_iconst dX4_addSound_156 ?_
          refine ap_isub dX4_addSound_157 ?_
          refine ap_dup2 dX4_addSound_158 rfl rfl ?_
          have xm63 : μ56 (s + 6) = am_L 901 gl := (xf58 _ (by omega)).trans ((xf55 _ (by omega)).trans q6)
          refine ap_lald (j := p_nb P2 - 1) dX4_addSound_159 (by omega) xm63 (by omega) (by omega) ?_
          refine ap_lload dX4_addSound_160 rfl ?_
          refine ap_ladd dX4_addSound_162 ?_
          refine ap_last (j := p_nb P2 - 1) dX4_addSound_163 (by omega) xm63 (by omega) (by omega) (fun μ64 xe65 xf66 => ?_)
          have xm67 : μ64 s = am_O 4 [.ref (s + 1), .ref (s + 2), .ref (s + 3), .ref (s + 4), .ref (s + 5), .ref (s + 6), .ref (s + 7), am_i (p_cnt P2 : Int), am_i (p_nb P2 : Int), am_l ((p_tot P2) + x), am_i 1] := (xf66 _ (by omega)).trans xe57
          have xm68 : μ64 (s + 1) = am_L 300 gb := (xf66 _ (by omega)).trans ((xf58 _ (by omega)).trans ((xf55 _ (by omega)).trans q1))
          have xm69 : μ64 (s + 2) = am_L 300 ge := (xf66 _ (by omega)).trans ((xf58 _ (by omega)).trans ((xf55 _ (by omega)).trans q2))
          have xm70 : μ64 (s + 3) = am_I 0 300 gn := (xf66 _ (by omega)).trans ((xf58 _ (by omega)).trans ((xf55 _ (by omega)).trans q3))
          have xm71 : μ64 (s + 4) = am_I 0 300 gm := (xf66 _ (by omega)).trans ((xf58 _ (by omega)).trans ((xf55 _ (by omega)).trans q4))
          have xm72 : μ64 (s + 5) = am_I 3 300 ga := (xf66 _ (by omega)).trans ((xf58 _ (by omega)).trans ((xf55 _ (by omega)).trans q5))
          exact ap_vret dX4_addSound_164 rfl (Nat.le_of_ble_eq_true rfl) (Nat.le_of_ble_eq_true rfl) (⟨rfl, rfl, (by
    rw [hdt, show (i : Int) + 1 + ((0 : Nat) : Int) = (i : Int) + 1 + 0 from by omega, hxe, pSnd, decide_eq_false c67, if_neg (by decide), if_neg c90, if_pos c113, hP2]
    exact ⟨xm67, ⟨gb, xm68, r1⟩, ⟨ge, xm69, r2⟩, ⟨gn, xm70, r3⟩, ⟨gm, xm71, r4⟩, ⟨ga, xm72, r5⟩, ⟨_, xe65, fun j hj => by
      have hj : j < p_nb P2 := hj
      show va_up gl (p_nb P2 - 1) (gl (p_nb P2 - 1) + x) j = va_up (p_BL P2) (p_nb P2 - 1) (p_BL P2 (p_nb P2 - 1) + x) j
      by_cases hj2 : j = p_nb P2 - 1
      · subst hj2; rw [va_upe, va_upe, r6 _ (by omega)]
      · rw [va_upn hj2, va_upn hj2]; exact r6 j (by omega)⟩, k7.fr (lo := s) (hi := s + 7) (fun b hb => (xf66 b (by omega)).trans ((xf58 b (by omega)).trans ((xf55 b (by omega))))) (by omega)⟩), fun b hb => (xf66 b (by omega)).trans ((xf58 b (by omega)).trans ((xf55 b (by omega)).trans ((hzf b (by omega)))))⟩)
      · refine ap_iconst dX4_addSound_93 ?_
        refine ap_goto (tgt := 98) dX4_addSound_94 (by decide) ?_
        refine ap_cV (As := [am_l x, am_i 1]) (rest := []) (ct_addNote hS hN hp (x := x) (ac := 1) (by omega) (Or.inr rfl) hc) dX4_addSound_98 lk_X4_108 hy_X4_addNote rfl (by omega) h1 ⟨_, _, rfl⟩ (Nat.le_of_ble_eq_true rfl) ⟨Nat.le_of_ble_eq_true rfl, Nat.le_of_ble_eq_true rfl⟩ ⟨rfl, rfl⟩ ⟨Nat.le_of_ble_eq_true rfl, Nat.le_of_ble_eq_true rfl⟩ (fun xr73 xN74 μz xq75 => ?_)
        obtain ⟨rfl, rfl, hzS, hzf⟩ := xq75
        obtain ⟨n1, n2, n3, n4, n5⟩ := pNote_nb P x 1
        generalize hP2 : pNote P x 1 = P2 at hzS n1 n2 n3 n4 n5
        obtain ⟨k1, ⟨gb, q1, r1⟩, ⟨ge, q2, r2⟩, ⟨gn, q3, r3⟩, ⟨gm, q4, r4⟩, ⟨ga, q5, r5⟩, ⟨gl, q6, r6⟩, k7⟩ := id hzS
        refine ap_aload_n dX4_addSound_101 rfl rfl ?_
        refine ap_aload_n dX4_addSound_102 rfl rfl ?_
        refine ap_iload_n dX4_addSound_103 rfl rfl ?_
        refine ap_iconst dX4_addSound_104 ?_
        refine ap_iadd dX4_addSound_105 ?_
        refine ap_iload_n dX4_addSound_106 rfl rfl ?_
        refine ap_iadd dX4_addSound_107 ?_
        have xm80 : μz t = am_O 6 [.ref (t + 1), am_i (us.length : Int)] := (hzf _ (by omega)).trans t1
        refine ap_cV (As := [am_i (((i : Int) + 1) + 0)]) (rest := [.ref s]) (ct_at (hT.kept ((hzf t (by omega))) ((hzf (t + 1) (by omega)))) hN2 (by omega)) dX4_addSound_108 lk_X4_66 hy_X6_at rfl (by omega) xm80 ⟨_, _, rfl⟩ (Nat.le_of_ble_eq_true rfl) ⟨Nat.le_of_ble_eq_true rfl, Nat.le_of_ble_eq_true rfl⟩ ⟨rfl, rfl⟩ ⟨Nat.le_of_ble_eq_true rfl, Nat.le_of_ble_eq_true rfl⟩ (fun xr76 xN77 μ78 xq79 => ?_)
        obtain ⟨rfl, rfl, rfl⟩ := xq79
        refine ap_bipush dX4_addSound_111 (by decide) ?_
        have htr := tat_r t6 (((i : Int) + 1) + 0)
        refine ap_icmp_ne (tgt := 120) dX4_addSound_113 (by decide) (by omega) (fun c113 => ?_) (fun c113 => ?_)
        · refine ap_iconst dX4_addSound_120 ?_
          refine ap_put (fs2 := [.ref (s + 1), .ref (s + 2), .ref (s + 3), .ref (s + 4), .ref (s + 5), .ref (s + 6), .ref (s + 7), am_i (p_cnt P2 : Int), am_i (p_nb P2 : Int), am_l (p_tot P2), am_i 0]) ff_X4_92 fc_X4_10 dX4_addSound_121 (by omega) k1 (am_bool (by omega)) (Nat.le_of_ble_eq_true rfl) rfl (fun μ81 xe82 xf83 => ?_)
          refine ap_aload_n dX4_addSound_124 rfl rfl ?_
          refine ap_dup dX4_addSound_125 rfl ?_
          refine ap_get ff_X4_49 dX4_addSound_126 (by omega) xe82 rfl ?_
          refine ap_lload dX4_addSound_129 rfl ?_
          refine ap_ladd dX4_addSound_131 ?_
          refine ap_put (fs2 := [.ref (s + 1), .ref (s + 2), .ref (s + 3), .ref (s + 4), .ref (s + 5), .ref (s + 6), .ref (s + 7), am_i (p_cnt P2 : Int), am_i (p_nb P2 : Int), am_l ((p_tot P2) + x), am_i 0]) ff_X4_49 fc_X4_9 dX4_addSound_132 (by omega) xe82 (fun _ => ⟨rfl, rfl⟩) (Nat.le_of_ble_eq_true rfl) rfl (fun μ84 xe85 xf86 => ?_)
          refine ap_aload_n dX4_addSound_135 rfl rfl ?_
          refine ap_aload_n dX4_addSound_136 rfl rfl ?_
          refine ap_get ff_X4_46 dX4_addSound_137 (by omega) xe85 rfl ?_
          refine ap_iconst dX4_addSound_140 ?_
          refine ap_isub dX4_addSound_141 ?_
          refine ap_cV (As := [am_i ((p_nb P2 : Int) - 1)]) (rest := []) (ct_hasBarR xe85 (by omega) (by omega) (by omega)) dX4_addSound_142 lk_X4_57 hy_X4_hasBar rfl (by omega) xe85 ⟨_, _, rfl⟩ (Nat.le_of_ble_eq_true rfl) ⟨Nat.le_of_ble_eq_true rfl, Nat.le_of_ble_eq_true rfl⟩ ⟨rfl, rfl⟩ ⟨Nat.le_of_ble_eq_true rfl, Nat.le_of_ble_eq_true rfl⟩ (fun xr87 xN88 μ89 xq90 => ?_)
          obtain ⟨rfl, rfl, rfl⟩ := xq90
          refine ap_if_eq (tgt := 164) dX4_addSound_145 (by decide) (by omega) (fun c145 => (by exfalso; omega)) (fun c145 => ?_)
          refine ap_aload_n dX4_addSound_148 rfl rfl ?_
          refine ap_get ff_X4_29 dX4_addSound_149 (by omega) xe85 rfl ?_
          refine ap_aload_n dX4_addSound_152 rfl rfl ?_
          refine ap_get ff_X4_46 dX4_addSound_153 (by omega) xe85 rfl ?_
          refine ap_iconst dX4_addSound_156 ?_
          refine ap_isub dX4_addSound_157 ?_
          refine ap_dup2 dX4_addSound_158 rfl rfl ?_
          have xm91 : μ84 (s + 6) = am_L 901 gl := (xf86 _ (by omega)).trans ((xf83 _ (by omega)).trans q6)
          refine ap_lald (j := p_nb P2 - 1) dX4_addSound_159 (by omega) xm91 (by omega) (by omega) ?_
          refine ap_lload dX4_addSound_160 rfl ?_
          refine ap_ladd dX4_addSound_162 ?_
          refine ap_last (j := p_nb P2 - 1) dX4_addSound_163 (by omega) xm91 (by omega) (by omega) (fun μ92 xe93 xf94 => ?_)
          have xm95 : μ92 s = am_O 4 [.ref (s + 1), .ref (s + 2), .ref (s + 3), .ref (s + 4), .ref (s + 5), .ref (s + 6), .ref (s + 7), am_i (p_cnt P2 : Int), am_i (p_nb P2 : Int), am_l ((p_tot P2) + x), am_i 0] := (xf94 _ (by omega)).trans xe85
          have xm96 : μ92 (s + 1) = am_L 300 gb := (xf94 _ (by omega)).trans ((xf86 _ (by omega)).trans ((xf83 _ (by omega)).trans q1))
          have xm97 : μ92 (s + 2) = am_L 300 ge := (xf94 _ (by omega)).trans ((xf86 _ (by omega)).trans ((xf83 _ (by omega)).trans q2))
          have xm98 : μ92 (s + 3) = am_I 0 300 gn := (xf94 _ (by omega)).trans ((xf86 _ (by omega)).trans ((xf83 _ (by omega)).trans q3))
          have xm99 : μ92 (s + 4) = am_I 0 300 gm := (xf94 _ (by omega)).trans ((xf86 _ (by omega)).trans ((xf83 _ (by omega)).trans q4))
          have xm100 : μ92 (s + 5) = am_I 3 300 ga := (xf94 _ (by omega)).trans ((xf86 _ (by omega)).trans ((xf83 _ (by omega)).trans q5))
          exact ap_vret dX4_addSound_164 rfl (Nat.le_of_ble_eq_true rfl) (Nat.le_of_ble_eq_true rfl) (⟨rfl, rfl, (by
    rw [hdt, show (i : Int) + 1 + ((0 : Nat) : Int) = (i : Int) + 1 + 0 from by omega, hxe, pSnd, decide_eq_false c67, if_neg (by decide), if_pos c90, if_neg c113, hP2]
    exact ⟨xm95, ⟨gb, xm96, r1⟩, ⟨ge, xm97, r2⟩, ⟨gn, xm98, r3⟩, ⟨gm, xm99, r4⟩, ⟨ga, xm100, r5⟩, ⟨_, xe93, fun j hj => by
      have hj : j < p_nb P2 := hj
      show va_up gl (p_nb P2 - 1) (gl (p_nb P2 - 1) + x) j = va_up (p_BL P2) (p_nb P2 - 1) (p_BL P2 (p_nb P2 - 1) + x) j
      by_cases hj2 : j = p_nb P2 - 1
      · subst hj2; rw [va_upe, va_upe, r6 _ (by omega)]
      · rw [va_upn hj2, va_upn hj2]; exact r6 j (by omega)⟩, k7.fr (lo := s) (hi := s + 7) (fun b hb => (xf94 b (by omega)).trans ((xf86 b (by omega)).trans ((xf83 b (by omega))))) (by omega)⟩), fun b hb => (xf94 b (by omega)).trans ((xf86 b (by omega)).trans ((xf83 b (by omega)).trans ((hzf b (by omega)))))⟩)
        · refine ap_iconst dX4_addSound_116 ?_
          refine ap_goto (tgt := 121) dX4_addSound_117 (by decide) ?_
          refine ap_put (fs2 := [.ref (s + 1), .ref (s + 2), .ref (s + 3), .ref (s + 4), .ref (s + 5), .ref (s + 6), .ref (s + 7), am_i (p_cnt P2 : Int), am_i (p_nb P2 : Int), am_l (p_tot P2), am_i 1]) ff_X4_92 fc_X4_10 dX4_addSound_121 (by omega) k1 (am_bool (by omega)) (Nat.le_of_ble_eq_true rfl) rfl (fun μ101 xe102 xf103 => ?_)
          refine ap_aload_n dX4_addSound_124 rfl rfl ?_
          refine ap_dup dX4_addSound_125 rfl ?_
          refine ap_get ff_X4_49 dX4_addSound_126 (by omega) xe102 rfl ?_
          refine ap_lload dX4_addSound_129 rfl ?_
          refine ap_ladd dX4_addSound_131 ?_
          refine ap_put (fs2 := [.ref (s + 1), .ref (s + 2), .ref (s + 3), .ref (s + 4), .ref (s + 5), .ref (s + 6), .ref (s + 7), am_i (p_cnt P2 : Int), am_i (p_nb P2 : Int), am_l ((p_tot P2) + x), am_i 1]) ff_X4_49 fc_X4_9 dX4_addSound_132 (by omega) xe102 (fun _ => ⟨rfl, rfl⟩) (Nat.le_of_ble_eq_true rfl) rfl (fun μ104 xe105 xf106 => ?_)
          refine ap_aload_n dX4_addSound_135 rfl rfl ?_
          refine ap_aload_n dX4_addSound_136 rfl rfl ?_
          refine ap_get ff_X4_46 dX4_addSound_137 (by omega) xe105 rfl ?_
          refine ap_iconst dX4_addSound_140 ?_
          refine ap_isub dX4_addSound_141 ?_
          refine ap_cV (As := [am_i ((p_nb P2 : Int) - 1)]) (rest := []) (ct_hasBarR xe105 (by omega) (by omega) (by omega)) dX4_addSound_142 lk_X4_57 hy_X4_hasBar rfl (by omega) xe105 ⟨_, _, rfl⟩ (Nat.le_of_ble_eq_true rfl) ⟨Nat.le_of_ble_eq_true rfl, Nat.le_of_ble_eq_true rfl⟩ ⟨rfl, rfl⟩ ⟨Nat.le_of_ble_eq_true rfl, Nat.le_of_ble_eq_true rfl⟩ (fun xr107 xN108 μ109 xq110 => ?_)
          obtain ⟨rfl, rfl, rfl⟩ := xq110
          refine ap_if_eq (tgt := 164) dX4_addSound_145 (by decide) (by omega) (fun c145 => (by exfalso; omega)) (fun c145 => ?_)
          refine ap_aload_n dX4_addSound_148 rfl rfl ?_
          refine ap_get ff_X4_29 dX4_addSound_149 (by omega) xe105 rfl ?_
          refine ap_aload_n dX4_addSound_152 rfl rfl ?_
          refine ap_get ff_X4_46 dX4_addSound_153 (by omega) xe105 rfl ?_
          refine ap_iconst dX4_addSound_156 ?_
          refine ap_isub dX4_addSound_157 ?_
          refine ap_dup2 dX4_addSound_158 rfl rfl ?_
          have xm111 : μ104 (s + 6) = am_L 901 gl := (xf106 _ (by omega)).trans ((xf103 _ (by omega)).trans q6)
          refine ap_lald (j := p_nb P2 - 1) dX4_addSound_159 (by omega) xm111 (by omega) (by omega) ?_
          refine ap_lload dX4_addSound_160 rfl ?_
          refine ap_ladd dX4_addSound_162 ?_
          refine ap_last (j := p_nb P2 - 1) dX4_addSound_163 (by omega) xm111 (by omega) (by omega) (fun μ112 xe113 xf114 => ?_)
          have xm115 : μ112 s = am_O 4 [.ref (s + 1), .ref (s + 2), .ref (s + 3), .ref (s + 4), .ref (s + 5), .ref (s + 6), .ref (s + 7), am_i (p_cnt P2 : Int), am_i (p_nb P2 : Int), am_l ((p_tot P2) + x), am_i 1] := (xf114 _ (by omega)).trans xe105
          have xm116 : μ112 (s + 1) = am_L 300 gb := (xf114 _ (by omega)).trans ((xf106 _ (by omega)).trans ((xf103 _ (by omega)).trans q1))
          have xm117 : μ112 (s + 2) = am_L 300 ge := (xf114 _ (by omega)).trans ((xf106 _ (by omega)).trans ((xf103 _ (by omega)).trans q2))
          have xm118 : μ112 (s + 3) = am_I 0 300 gn := (xf114 _ (by omega)).trans ((xf106 _ (by omega)).trans ((xf103 _ (by omega)).trans q3))
          have xm119 : μ112 (s + 4) = am_I 0 300 gm := (xf114 _ (by omega)).trans ((xf106 _ (by omega)).trans ((xf103 _ (by omega)).trans q4))
          have xm120 : μ112 (s + 5) = am_I 3 300 ga := (xf114 _ (by omega)).trans ((xf106 _ (by omega)).trans ((xf103 _ (by omega)).trans q5))
          exact ap_vret dX4_addSound_164 rfl (Nat.le_of_ble_eq_true rfl) (Nat.le_of_ble_eq_true rfl) (⟨rfl, rfl, (by
    rw [hdt, show (i : Int) + 1 + ((0 : Nat) : Int) = (i : Int) + 1 + 0 from by omega, hxe, pSnd, decide_eq_false c67, if_neg (by decide), if_pos c90, if_pos c113, hP2]
    exact ⟨xm115, ⟨gb, xm116, r1⟩, ⟨ge, xm117, r2⟩, ⟨gn, xm118, r3⟩, ⟨gm, xm119, r4⟩, ⟨ga, xm120, r5⟩, ⟨_, xe113, fun j hj => by
      have hj : j < p_nb P2 := hj
      show va_up gl (p_nb P2 - 1) (gl (p_nb P2 - 1) + x) j = va_up (p_BL P2) (p_nb P2 - 1) (p_BL P2 (p_nb P2 - 1) + x) j
      by_cases hj2 : j = p_nb P2 - 1
      · subst hj2; rw [va_upe, va_upe, r6 _ (by omega)]
      · rw [va_upn hj2, va_upn hj2]; exact r6 j (by omega)⟩, k7.fr (lo := s) (hi := s + 7) (fun b hb => (xf114 b (by omega)).trans ((xf106 b (by omega)).trans ((xf103 b (by omega))))) (by omega)⟩), fun b hb => (xf114 b (by omega)).trans ((xf106 b (by omega)).trans ((xf103 b (by omega)).trans ((hzf b (by omega)))))⟩)
    · refine ap_aload_n dX4_addSound_70 rfl rfl ?_
      refine ap_iconst dX4_addSound_71 ?_
      refine ap_put (fs2 := [.ref (s + 1), .ref (s + 2), .ref (s + 3), .ref (s + 4), .ref (s + 5), .ref (s + 6), .ref (s + 7), am_i (p_cnt P : Int), am_i (p_nb P : Int), am_l (p_tot P), am_i 0]) ff_X4_92 fc_X4_10 dX4_addSound_72 (by omega) h1 (am_bool (Or.inl rfl)) (Nat.le_of_ble_eq_true rfl) rfl (fun μ121 xe122 xf123 => ?_)
      refine ap_goto (tgt := 124) dX4_addSound_75 (by decide) ?_
      refine ap_aload_n dX4_addSound_124 rfl rfl ?_
      refine ap_dup dX4_addSound_125 rfl ?_
      refine ap_get ff_X4_49 dX4_addSound_126 (by omega) xe122 rfl ?_
      refine ap_lload dX4_addSound_129 rfl ?_
      refine ap_ladd dX4_addSound_131 ?_
      refine ap_put (fs2 := [.ref (s + 1), .ref (s + 2), .ref (s + 3), .ref (s + 4), .ref (s + 5), .ref (s + 6), .ref (s + 7), am_i (p_cnt P : Int), am_i (p_nb P : Int), am_l ((p_tot P) + x), am_i 0]) ff_X4_49 fc_X4_9 dX4_addSound_132 (by omega) xe122 (fun _ => ⟨rfl, rfl⟩) (Nat.le_of_ble_eq_true rfl) rfl (fun μ124 xe125 xf126 => ?_)
      refine ap_aload_n dX4_addSound_135 rfl rfl ?_
      refine ap_aload_n dX4_addSound_136 rfl rfl ?_
      refine ap_get ff_X4_46 dX4_addSound_137 (by omega) xe125 rfl ?_
      refine ap_iconst dX4_addSound_140 ?_
      refine ap_isub dX4_addSound_141 ?_
      refine ap_cV (As := [am_i ((p_nb P : Int) - 1)]) (rest := []) (ct_hasBarR xe125 (by omega) (by omega) (by omega)) dX4_addSound_142 lk_X4_57 hy_X4_hasBar rfl (by omega) xe125 ⟨_, _, rfl⟩ (Nat.le_of_ble_eq_true rfl) ⟨Nat.le_of_ble_eq_true rfl, Nat.le_of_ble_eq_true rfl⟩ ⟨rfl, rfl⟩ ⟨Nat.le_of_ble_eq_true rfl, Nat.le_of_ble_eq_true rfl⟩ (fun xr127 xN128 μ129 xq130 => ?_)
      obtain ⟨rfl, rfl, rfl⟩ := xq130
      refine ap_if_eq (tgt := 164) dX4_addSound_145 (by decide) (by omega) (fun c145 => (by exfalso; omega)) (fun c145 => ?_)
      refine ap_aload_n dX4_addSound_148 rfl rfl ?_
      refine ap_get ff_X4_29 dX4_addSound_149 (by omega) xe125 rfl ?_
      refine ap_aload_n dX4_addSound_152 rfl rfl ?_
      refine ap_get ff_X4_46 dX4_addSound_153 (by omega) xe125 rfl ?_
      refine ap_iconst dX4_addSound_156 ?_
      refine ap_isub dX4_addSound_157 ?_
      refine ap_dup2 dX4_addSound_158 rfl rfl ?_
      have xm131 : μ124 (s + 6) = am_L 901 fl := (xf126 _ (by omega)).trans ((xf123 _ (by omega)).trans a6)
      refine ap_lald (j := p_nb P - 1) dX4_addSound_159 (by omega) xm131 (by omega) (by omega) ?_
      refine ap_lload dX4_addSound_160 rfl ?_
      refine ap_ladd dX4_addSound_162 ?_
      refine ap_last (j := p_nb P - 1) dX4_addSound_163 (by omega) xm131 (by omega) (by omega) (fun μ132 xe133 xf134 => ?_)
      have xm135 : μ132 s = am_O 4 [.ref (s + 1), .ref (s + 2), .ref (s + 3), .ref (s + 4), .ref (s + 5), .ref (s + 6), .ref (s + 7), am_i (p_cnt P : Int), am_i (p_nb P : Int), am_l ((p_tot P) + x), am_i 0] := (xf134 _ (by omega)).trans xe125
      have xm136 : μ132 (s + 1) = am_L 300 fb := (xf134 _ (by omega)).trans ((xf126 _ (by omega)).trans ((xf123 _ (by omega)).trans a1))
      have xm137 : μ132 (s + 2) = am_L 300 fe := (xf134 _ (by omega)).trans ((xf126 _ (by omega)).trans ((xf123 _ (by omega)).trans a2))
      have xm138 : μ132 (s + 3) = am_I 0 300 fn := (xf134 _ (by omega)).trans ((xf126 _ (by omega)).trans ((xf123 _ (by omega)).trans a3))
      have xm139 : μ132 (s + 4) = am_I 0 300 fm := (xf134 _ (by omega)).trans ((xf126 _ (by omega)).trans ((xf123 _ (by omega)).trans a4))
      have xm140 : μ132 (s + 5) = am_I 3 300 fa := (xf134 _ (by omega)).trans ((xf126 _ (by omega)).trans ((xf123 _ (by omega)).trans a5))
      exact ap_vret dX4_addSound_164 rfl (Nat.le_of_ble_eq_true rfl) (Nat.le_of_ble_eq_true rfl) (⟨rfl, rfl, (by
    rw [hdt, hxe, pSnd, decide_eq_true c67, if_pos rfl]
    exact ⟨xm135, ⟨fb, xm136, b1⟩, ⟨fe, xm137, b2⟩, ⟨fn, xm138, b3⟩, ⟨fm, xm139, b4⟩, ⟨fa, xm140, b5⟩, ⟨_, xe133, fun j hj => by
      have hj : j < p_nb P := hj
      show va_up fl (p_nb P - 1) (fl (p_nb P - 1) + x) j = va_up (p_BL P) (p_nb P - 1) (p_BL P (p_nb P - 1) + x) j
      by_cases hj2 : j = p_nb P - 1
      · subst hj2; rw [va_upe, va_upe, b6 _ (by omega)]
      · rw [va_upn hj2, va_upn hj2]; exact b6 j (by omega)⟩, h7.fr (lo := s) (hi := s + 7) (fun b hb => (xf134 b (by omega)).trans ((xf126 b (by omega)).trans ((xf123 b (by omega))))) (by omega)⟩), fun b hb => (xf134 b (by omega)).trans ((xf126 b (by omega)).trans ((xf123 b (by omega))))⟩)
  · refine ap_Iinc (lv2 := [(0, .ref s), (1, .ref t), (2, am_i (i : Int)), (3, am_i (0 + 1))]) dX4_addSound_21 rfl (by decide) rfl ?_
    refine ap_goto (tgt := 2) dX4_addSound_24 (by decide) ?_
    refine ap_iload_n dX4_addSound_2 rfl rfl ?_
    refine ap_iconst dX4_addSound_3 ?_
    refine ap_icmp_ge (tgt := 27) dX4_addSound_4 (by decide) (by omega) (fun c4 => (by exfalso; omega)) (fun c4 => ?_)
    refine ap_aload_n dX4_addSound_7 rfl rfl ?_
    refine ap_iload_n dX4_addSound_8 rfl rfl ?_
    refine ap_iconst dX4_addSound_9 ?_
    refine ap_iadd dX4_addSound_10 ?_
    refine ap_iload_n dX4_addSound_11 rfl rfl ?_
    refine ap_iadd dX4_addSound_12 ?_
    refine ap_cV (As := [am_i (((i : Int) + 1) + (0 + 1))]) (rest := []) (ct_at (hT.kept (rfl) (rfl)) hN2 (by omega)) dX4_addSound_13 lk_X4_66 hy_X6_at rfl (by omega) t1 ⟨_, _, rfl⟩ (Nat.le_of_ble_eq_true rfl) ⟨Nat.le_of_ble_eq_true rfl, Nat.le_of_ble_eq_true rfl⟩ ⟨rfl, rfl⟩ ⟨Nat.le_of_ble_eq_true rfl, Nat.le_of_ble_eq_true rfl⟩ (fun xr141 xN142 μ143 xq144 => ?_)
    obtain ⟨rfl, rfl, rfl⟩ := xq144
    have htr := tat_r t6
    refine ap_bipush dX4_addSound_16 (by decide) ?_
    have htr := tat_r t6 (((i : Int) + 1) + (0 + 1))
    refine ap_icmp_ne (tgt := 27) dX4_addSound_18 (by decide) (by omega) (fun cb => ?_) (fun cb => ?_)
    · rw [show (i : Int) + 1 + 0 = (i : Int) + 1 from by omega] at ca
      rw [show (i : Int) + 1 + (0 + 1) = (i : Int) + 2 from by omega] at cb
      have hdt : dts us i = 1 := by unfold dts; rw [if_pos ca, if_neg cb]
      refine ap_aload_n dX4_addSound_27 rfl rfl ?_
      refine ap_get ff_X4_35 dX4_addSound_28 (by omega) h1 rfl ?_
      refine ap_ldc2 dX4_addSound_31 kl_X4_97 ?_
      have hdq : 4 ≤ dqn 1 ∧ dqn 1 ≤ 7 := by decide
      refine ap_dq (d := 1) tq_dots dX4_addSound_34 dX4_addSound_37 dX4_addSound_38 rfl rfl (by omega) ?_
      refine ap_i2l dX4_addSound_39 (by omega) ?_
      refine ap_lmul dX4_addSound_40 ?_
      refine ap_ldc2 dX4_addSound_41 kl_X4_102 ?_
      refine ap_aload_n dX4_addSound_44 rfl rfl ?_
      refine ap_iload_n dX4_addSound_45 rfl rfl ?_
      refine ap_cV (As := [am_i (i : Int)]) (rest := [am_l 4, am_l (812851200 * (dqn 1)), .ref (s + 7)]) (ct_at (hT.kept (rfl) (rfl)) hN2 (by omega)) dX4_addSound_46 lk_X4_66 hy_X6_at rfl (by omega) t1 ⟨_, _, rfl⟩ (Nat.le_of_ble_eq_true rfl) ⟨Nat.le_of_ble_eq_true rfl, Nat.le_of_ble_eq_true rfl⟩ ⟨rfl, rfl⟩ ⟨Nat.le_of_ble_eq_true rfl, Nat.le_of_ble_eq_true rfl⟩ (fun xr145 xN146 μ147 xq148 => ?_)
      obtain ⟨rfl, rfl, rfl⟩ := xq148
      refine ap_topi (b := us.getD i 0) (show (tat us (i : Int)) = (us.getD i 0) from by rw [tat, if_pos (by omega)]; rfl) ?_
      refine ap_cS (As := [am_i (us.getD i 0)]) (rest := [am_l 4, am_l (812851200 * (dqn 1)), .ref (s + 7)]) (ct_halvings (ch := us.getD i 0) (by omega)) dX4_addSound_49 lk_X4_85 hy_X1_halvings rfl (Nat.le_of_ble_eq_true rfl) ⟨Nat.le_of_ble_eq_true rfl, Nat.le_of_ble_eq_true rfl⟩ ⟨rfl, rfl⟩ ⟨Nat.le_of_ble_eq_true rfl, Nat.le_of_ble_eq_true rfl⟩ (fun xr149 xN150 μ151 xq152 => ?_)
      obtain ⟨rfl, rfl, rfl⟩ := xq152
      refine ap_lshl (r := 4 * 2 ^ (hv (us.getD i 0)).toNat) dX4_addSound_52 (sh4 ⟨hh, (hv_r _).2⟩) ?_
      refine ap_cV (As := [am_l (812851200 * (dqn 1)), am_l (4 * 2 ^ (hv (us.getD i 0)).toNat)]) (rest := []) (ct_sapply (s := s + 7) h7 (by omega) g6 g7 (by omega) hpw) dX4_addSound_53 lk_X4_104 hy_X7_apply rfl (by omega) h7.1 ⟨_, _, rfl⟩ (Nat.le_of_ble_eq_true rfl) ⟨Nat.le_of_ble_eq_true rfl, Nat.le_of_ble_eq_true rfl⟩ ⟨rfl, rfl⟩ ⟨Nat.le_of_ble_eq_true rfl, Nat.le_of_ble_eq_true rfl⟩ (fun xr153 xN154 μ155 xq156 => ?_)
      obtain ⟨rfl, rfl, rfl⟩ := xq156
      refine ap_topl (b := tk (hv (us.getD i 0)) 1 (p_ts P)) (show (((812851200 * (dqn 1)) * pn (p_ts P)) / ((4 * 2 ^ (hv (us.getD i 0)).toNat) * pm (p_ts P))) = (tk (hv (us.getD i 0)) 1 (p_ts P)) from rfl) ?_
      refine ap_Lstore (lv2 := [(0, .ref s), (1, .ref t), (2, am_i (i : Int)), (3, am_i (0 + 1)), (4, am_l (tk (hv (us.getD i 0)) 1 (p_ts P)))]) dX4_addSound_56 (by decide) rfl ?_
      have hx := tk_r (h := hv (us.getD i 0)) (d := 1) (ts := p_ts P) ⟨hh, (hv_r _).2⟩ g6 g7
      generalize hxe : tk (hv (us.getD i 0)) 1 (p_ts P) = x at hx ⊢
      refine ap_aload_n dX4_addSound_58 rfl rfl ?_
      refine ap_iload_n dX4_addSound_59 rfl rfl ?_
      refine ap_iconst dX4_addSound_60 ?_
      refine ap_isub dX4_addSound_61 ?_
      refine ap_cV (As := [am_i ((i : Int) - 1)]) (rest := []) (ct_at (hT.kept (rfl) (rfl)) hN2 (by omega)) dX4_addSound_62 lk_X4_66 hy_X6_at rfl (by omega) t1 ⟨_, _, rfl⟩ (Nat.le_of_ble_eq_true rfl) ⟨Nat.le_of_ble_eq_true rfl, Nat.le_of_ble_eq_true rfl⟩ ⟨rfl, rfl⟩ ⟨Nat.le_of_ble_eq_true rfl, Nat.le_of_ble_eq_true rfl⟩ (fun xr157 xN158 μ159 xq160 => ?_)
      obtain ⟨rfl, rfl, rfl⟩ := xq160
      refine ap_bipush dX4_addSound_65 (by decide) ?_
      have htr := tat_r t6 ((i : Int) - 1)
      refine ap_icmp_ne (tgt := 78) dX4_addSound_67 (by decide) (by omega) (fun c67 => ?_) (fun c67 => ?_)
      · refine ap_aload_n dX4_addSound_78 rfl rfl ?_
        refine ap_lload dX4_addSound_79 rfl ?_
        refine ap_aload_n dX4_addSound_81 rfl rfl ?_
        refine ap_iload_n dX4_addSound_82 rfl rfl ?_
        refine ap_iconst dX4_addSound_83 ?_
        refine ap_isub dX4_addSound_84 ?_
        refine ap_cV (As := [am_i ((i : Int) - 1)]) (rest := [am_l x, .ref s]) (ct_at (hT.kept (rfl) (rfl)) hN2 (by omega)) dX4_addSound_85 lk_X4_66 hy_X6_at rfl (by omega) t1 ⟨_, _, rfl⟩ (Nat.le_of_ble_eq_true rfl) ⟨Nat.le_of_ble_eq_true rfl, Nat.le_of_ble_eq_true rfl⟩ ⟨rfl, rfl⟩ ⟨Nat.le_of_ble_eq_true rfl, Nat.le_of_ble_eq_true rfl⟩ (fun xr161 xN162 μ163 xq164 => ?_)
        obtain ⟨rfl, rfl, rfl⟩ := xq164
        refine ap_bipush dX4_addSound_88 (by decide) ?_
        have htr := tat_r t6 ((i : Int) - 1)
        refine ap_icmp_ne (tgt := 97) dX4_addSound_90 (by decide) (by omega) (fun c90 => ?_) (fun c90 => ?_)
        · refine ap_iconst dX4_addSound_97 ?_
          refine ap_cV (As := [am_l x, am_i 0]) (rest := []) (ct_addNote hS hN hp (x := x) (ac := 0) (by omega) (Or.inl rfl) hc) dX4_addSound_98 lk_X4_108 hy_X4_addNote rfl (by omega) h1 ⟨_, _, rfl⟩ (Nat.le_of_ble_eq_true rfl) ⟨Nat.le_of_ble_eq_true rfl, Nat.le_of_ble_eq_true rfl⟩ ⟨rfl, rfl⟩ ⟨Nat.le_of_ble_eq_true rfl, Nat.le_of_ble_eq_true rfl⟩ (fun xr165 xN166 μz xq167 => ?_)
          obtain ⟨rfl, rfl, hzS, hzf⟩ := xq167
          obtain ⟨n1, n2, n3, n4, n5⟩ := pNote_nb P x 0
          generalize hP2 : pNote P x 0 = P2 at hzS n1 n2 n3 n4 n5
          obtain ⟨k1, ⟨gb, q1, r1⟩, ⟨ge, q2, r2⟩, ⟨gn, q3, r3⟩, ⟨gm, q4, r4⟩, ⟨ga, q5, r5⟩, ⟨gl, q6, r6⟩, k7⟩ := id hzS
          refine ap_aload_n dX4_addSound_101 rfl rfl ?_
          refine ap_aload_n dX4_addSound_102 rfl rfl ?_
          refine ap_iload_n dX4_addSound_103 rfl rfl ?_
          refine ap_iconst dX4_addSound_104 ?_
          refine ap_iadd dX4_addSound_105 ?_
          refine ap_iload_n dX4_addSound_106 rfl rfl ?_
          refine ap_iadd dX4_addSound_107 ?_
          have xm172 : μz t = am_O 6 [.ref (t + 1), am_i (us.length : Int)] := (hzf _ (by omega)).trans t1
          refine ap_cV (As := [am_i (((i : Int) + 1) + (0 + 1))]) (rest := [.ref s]) (ct_at (hT.kept ((hzf t (by omega))) ((hzf (t + 1) (by omega)))) hN2 (by omega)) dX4_addSound_108 lk_X4_66 hy_X6_at rfl (by omega) xm172 ⟨_, _, rfl⟩ (Nat.le_of_ble_eq_true rfl) ⟨Nat.le_of_ble_eq_true rfl, Nat.le_of_ble_eq_true rfl⟩ ⟨rfl, rfl⟩ ⟨Nat.le_of_ble_eq_true rfl, Nat.le_of_ble_eq_true rfl⟩ (fun xr168 xN169 μ170 xq171 => ?_)
          obtain ⟨rfl, rfl, rfl⟩ := xq171
          refine ap_bipush dX4_addSound_111 (by decide) ?_
          have htr := tat_r t6 (((i : Int) + 1) + (0 + 1))
          refine ap_icmp_ne (tgt := 120) dX4_addSound_113 (by decide) (by omega) (fun c113 => ?_) (fun c113 => ?_)
          · refine ap_iconst dX4_addSound_120 ?_
            refine ap_put (fs2 := [.ref (s + 1), .ref (s + 2), .ref (s + 3), .ref (s + 4), .ref (s + 5), .ref (s + 6), .ref (s + 7), am_i (p_cnt P2 : Int), am_i (p_nb P2 : Int), am_l (p_tot P2), am_i 0]) ff_X4_92 fc_X4_10 dX4_addSound_121 (by omega) k1 (am_bool (by omega)) (Nat.le_of_ble_eq_true rfl) rfl (fun μ173 xe174 xf175 => ?_)
            refine ap_aload_n dX4_addSound_124 rfl rfl ?_
            refine ap_dup dX4_addSound_125 rfl ?_
            refine ap_get ff_X4_49 dX4_addSound_126 (by omega) xe174 rfl ?_
            refine ap_lload dX4_addSound_129 rfl ?_
            refine ap_ladd dX4_addSound_131 ?_
            refine ap_put (fs2 := [.ref (s + 1), .ref (s + 2), .ref (s + 3), .ref (s + 4), .ref (s + 5), .ref (s + 6), .ref (s + 7), am_i (p_cnt P2 : Int), am_i (p_nb P2 : Int), am_l ((p_tot P2) + x), am_i 0]) ff_X4_49 fc_X4_9 dX4_addSound_132 (by omega) xe174 (fun _ => ⟨rfl, rfl⟩) (Nat.le_of_ble_eq_true rfl) rfl (fun μ176 xe177 xf178 => ?_)
            refine ap_aload_n dX4_addSound_135 rfl rfl ?_
            refine ap_aload_n dX4_addSound_136 rfl rfl ?_
            refine ap_get ff_X4_46 dX4_addSound_137 (by omega) xe177 rfl ?_
            refine ap_iconst dX4_addSound_140 ?_
            refine ap_isub dX4_addSound_141 ?_
            refine ap_cV (As := [am_i ((p_nb P2 : Int) - 1)]) (rest := []) (ct_hasBarR xe177 (by omega) (by omega) (by omega)) dX4_addSound_142 lk_X4_57 hy_X4_hasBar rfl (by omega) xe177 ⟨_, _, rfl⟩ (Nat.le_of_ble_eq_true rfl) ⟨Nat.le_of_ble_eq_true rfl, Nat.le_of_ble_eq_true rfl⟩ ⟨rfl, rfl⟩ ⟨Nat.le_of_ble_eq_true rfl, Nat.le_of_ble_eq_true rfl⟩ (fun xr179 xN180 μ181 xq182 => ?_)
            obtain ⟨rfl, rfl, rfl⟩ := xq182
            refine ap_if_eq (tgt := 164) dX4_addSound_145 (by decide) (by omega) (fun c145 => (by exfalso; omega)) (fun c145 => ?_)
            refine ap_aload_n dX4_addSound_148 rfl rfl ?_
            refine ap_get ff_X4_29 dX4_addSound_149 (by omega) xe177 rfl ?_
            refine ap_aload_n dX4_addSound_152 rfl rfl ?_
            refine ap_get ff_X4_46 dX4_addSound_153 (by omega) xe177 rfl ?_
            refine ap_iconst dX4_addSound_156 ?_
            refine ap_isub dX4_addSound_157 ?_
            refine ap_dup2 dX4_addSound_158 rfl rfl ?_
            have xm183 : μ176 (s + 6) = am_L 901 gl := (xf178 _ (by omega)).trans ((xf175 _ (by omega)).trans q6)
            refine ap_lald (j := p_nb P2 - 1) dX4_addSound_159 (by omega) xm183 (by omega) (by omega) ?_
            refine ap_lload dX4_addSound_160 rfl ?_
            refine ap_ladd dX4_addSound_162 ?_
            refine ap_last (j := p_nb P2 - 1) dX4_addSound_163 (by omega) xm183 (by omega) (by omega) (fun μ184 xe185 xf186 => ?_)
            have xm187 : μ184 s = am_O 4 [.ref (s + 1), .ref (s + 2), .ref (s + 3), .ref (s + 4), .ref (s + 5), .ref (s + 6), .ref (s + 7), am_i (p_cnt P2 : Int), am_i (p_nb P2 : Int), am_l ((p_tot P2) + x), am_i 0] := (xf186 _ (by omega)).trans xe177
            have xm188 : μ184 (s + 1) = am_L 300 gb := (xf186 _ (by omega)).trans ((xf178 _ (by omega)).trans ((xf175 _ (by omega)).trans q1))
            have xm189 : μ184 (s + 2) = am_L 300 ge := (xf186 _ (by omega)).trans ((xf178 _ (by omega)).trans ((xf175 _ (by omega)).trans q2))
            have xm190 : μ184 (s + 3) = am_I 0 300 gn := (xf186 _ (by omega)).trans ((xf178 _ (by omega)).trans ((xf175 _ (by omega)).trans q3))
            have xm191 : μ184 (s + 4) = am_I 0 300 gm := (xf186 _ (by omega)).trans ((xf178 _ (by omega)).trans ((xf175 _ (by omega)).trans q4))
            have xm192 : μ184 (s + 5) = am_I 3 300 ga := (xf186 _ (by omega)).trans ((xf178 _ (by omega)).trans ((xf175 _ (by omega)).trans q5))
            exact ap_vret dX4_addSound_164 rfl (Nat.le_of_ble_eq_true rfl) (Nat.le_of_ble_eq_true rfl) (⟨rfl, rfl, (by
    rw [hdt, show (i : Int) + 1 + ((1 : Nat) : Int) = (i : Int) + 1 + (0 + 1) from by omega, hxe, pSnd, decide_eq_false c67, if_neg (by decide), if_neg c90, if_neg c113, hP2]
    exact ⟨xm187, ⟨gb, xm188, r1⟩, ⟨ge, xm189, r2⟩, ⟨gn, xm190, r3⟩, ⟨gm, xm191, r4⟩, ⟨ga, xm192, r5⟩, ⟨_, xe185, fun j hj => by
      have hj : j < p_nb P2 := hj
      show va_up gl (p_nb P2 - 1) (gl (p_nb P2 - 1) + x) j = va_up (p_BL P2) (p_nb P2 - 1) (p_BL P2 (p_nb P2 - 1) + x) j
      by_cases hj2 : j = p_nb P2 - 1
      · subst hj2; rw [va_upe, va_upe, r6 _ (by omega)]
      · rw [va_upn hj2, va_upn hj2]; exact r6 j (by omega)⟩, k7.fr (lo := s) (hi := s + 7) (fun b hb => (xf186 b (by omega)).trans ((xf178 b (by omega)).trans ((xf175 b (by omega))))) (by omega)⟩), fun b hb => (xf186 b (by omega)).trans ((xf178 b (by omega)).trans ((xf175 b (by omega)).trans ((hzf b (by omega)))))⟩)
          · refine ap_iconst dX4_addSound_116 ?_
            refine ap_goto (tgt := 121) dX4_addSound_117 (by decide) ?_
            refine ap_put (fs2 := [.ref (s + 1), .ref (s + 2), .ref (s + 3), .ref (s + 4), .ref (s + 5), .ref (s + 6), .ref (s + 7), am_i (p_cnt P2 : Int), am_i (p_nb P2 : Int), am_l (p_tot P2), am_i 1]) ff_X4_92 fc_X4_10 dX4_addSound_121 (by omega) k1 (am_bool (by omega)) (Nat.le_of_ble_eq_true rfl) rfl (fun μ193 xe194 xf195 => ?_)
            refine ap_aload_n dX4_addSound_124 rfl rfl ?_
            refine ap_dup dX4_addSound_125 rfl ?_
            refine ap_get ff_X4_49 dX4_addSound_126 (by omega) xe194 rfl ?_
            refine ap_lload dX4_addSound_129 rfl ?_
            refine ap_ladd dX4_addSound_131 ?_
            refine ap_put (fs2 := [.ref (s + 1), .ref (s + 2), .ref (s + 3), .ref (s + 4), .ref (s + 5), .ref (s + 6), .ref (s + 7), am_i (p_cnt P2 : Int), am_i (p_nb P2 : Int), am_l ((p_tot P2) + x), am_i 1]) ff_X4_49 fc_X4_9 dX4_addSound_132 (by omega) xe194 (fun _ => ⟨rfl, rfl⟩) (Nat.le_of_ble_eq_true rfl) rfl (fun μ196 xe197 xf198 => ?_)
            refine ap_aload_n dX4_addSound_135 rfl rfl ?_
            refine ap_aload_n dX4_addSound_136 rfl rfl ?_
            refine ap_get ff_X4_46 dX4_addSound_137 (by omega) xe197 rfl ?_
            refine ap_iconst dX4_addSound_140 ?_
            refine ap_isub dX4_addSound_141 ?_
            refine ap_cV (As := [am_i ((p_nb P2 : Int) - 1)]) (rest := []) (ct_hasBarR xe197 (by omega) (by omega) (by omega)) dX4_addSound_142 lk_X4_57 hy_X4_hasBar rfl (by omega) xe197 ⟨_, _, rfl⟩ (Nat.le_of_ble_eq_true rfl) ⟨Nat.le_of_ble_eq_true rfl, Nat.le_of_ble_eq_true rfl⟩ ⟨rfl, rfl⟩ ⟨Nat.le_of_ble_eq_true rfl, Nat.le_of_ble_eq_true rfl⟩ (fun xr199 xN200 μ201 xq202 => ?_)
            obtain ⟨rfl, rfl, rfl⟩ := xq202
            refine ap_if_eq (tgt := 164) dX4_addSound_145 (by decide) (by omega) (fun c145 => (by exfalso; omega)) (fun c145 => ?_)
            refine ap_aload_n dX4_addSound_148 rfl rfl ?_
            refine ap_get ff_X4_29 dX4_addSound_149 (by omega) xe197 rfl ?_
            refine ap_aload_n dX4_addSound_152 rfl rfl ?_
            refine ap_get ff_X4_46 dX4_addSound_153 (by omega) xe197 rfl ?_
            refine ap_iconst dX4_addSound_156 ?_
            refine ap_isub dX4_addSound_157 ?_
            refine ap_dup2 dX4_addSound_158 rfl rfl ?_
            have xm203 : μ196 (s + 6) = am_L 901 gl := (xf198 _ (by omega)).trans ((xf195 _ (by omega)).trans q6)
            refine ap_lald (j := p_nb P2 - 1) dX4_addSound_159 (by omega) xm203 (by omega) (by omega) ?_
            refine ap_lload dX4_addSound_160 rfl ?_
            refine ap_ladd dX4_addSound_162 ?_
            refine ap_last (j := p_nb P2 - 1) dX4_addSound_163 (by omega) xm203 (by omega) (by omega) (fun μ204 xe205 xf206 => ?_)
            have xm207 : μ204 s = am_O 4 [.ref (s + 1), .ref (s + 2), .ref (s + 3), .ref (s + 4), .ref (s + 5), .ref (s + 6), .ref (s + 7), am_i (p_cnt P2 : Int), am_i (p_nb P2 : Int), am_l ((p_tot P2) + x), am_i 1] := (xf206 _ (by omega)).trans xe197
            have xm208 : μ204 (s + 1) = am_L 300 gb := (xf206 _ (by omega)).trans ((xf198 _ (by omega)).trans ((xf195 _ (by omega)).trans q1))
            have xm209 : μ204 (s + 2) = am_L 300 ge := (xf206 _ (by omega)).trans ((xf198 _ (by omega)).trans ((xf195 _ (by omega)).trans q2))
            have xm210 : μ204 (s + 3) = am_I 0 300 gn := (xf206 _ (by omega)).trans ((xf198 _ (by omega)).trans ((xf195 _ (by omega)).trans q3))
            have xm211 : μ204 (s + 4) = am_I 0 300 gm := (xf206 _ (by omega)).trans ((xf198 _ (by omega)).trans ((xf195 _ (by omega)).trans q4))
            have xm212 : μ204 (s + 5) = am_I 3 300 ga := (xf206 _ (by omega)).trans ((xf198 _ (by omega)).trans ((xf195 _ (by omega)).trans q5))
            exact ap_vret dX4_addSound_164 rfl (Nat.le_of_ble_eq_true rfl) (Nat.le_of_ble_eq_true rfl) (⟨rfl, rfl, (by
    rw [hdt, show (i : Int) + 1 + ((1 : Nat) : Int) = (i : Int) + 1 + (0 + 1) from by omega, hxe, pSnd, decide_eq_false c67, if_neg (by decide), if_neg c90, if_pos c113, hP2]
    exact ⟨xm207, ⟨gb, xm208, r1⟩, ⟨ge, xm209, r2⟩, ⟨gn, xm210, r3⟩, ⟨gm, xm211, r4⟩, ⟨ga, xm212, r5⟩, ⟨_, xe205, fun j hj => by
      have hj : j < p_nb P2 := hj
      show va_up gl (p_nb P2 - 1) (gl (p_nb P2 - 1) + x) j = va_up (p_BL P2) (p_nb P2 - 1) (p_BL P2 (p_nb P2 - 1) + x) j
      by_cases hj2 : j = p_nb P2 - 1
      · subst hj2; rw [va_upe, va_upe, r6 _ (by omega)]
      · rw [va_upn hj2, va_upn hj2]; exact r6 j (by omega)⟩, k7.fr (lo := s) (hi := s + 7) (fun b hb => (xf206 b (by omega)).trans ((xf198 b (by omega)).trans ((xf195 b (by omega))))) (by omega)⟩), fun b hb => (xf206 b (by omega)).trans ((xf198 b (by omega)).trans ((xf195 b (by omega)).trans ((hzf b (by omega)))))⟩)
        · refine ap_iconst dX4_addSound_93 ?_
          refine ap_goto (tgt := 98) dX4_addSound_94 (by decide) ?_
          refine ap_cV (As := [am_l x, am_i 1]) (rest := []) (ct_addNote hS hN hp (x := x) (ac := 1) (by omega) (Or.inr rfl) hc) dX4_addSound_98 lk_X4_108 hy_X4_addNote rfl (by omega) h1 ⟨_, _, rfl⟩ (Nat.le_of_ble_eq_true rfl) ⟨Nat.le_of_ble_eq_true rfl, Nat.le_of_ble_eq_true rfl⟩ ⟨rfl, rfl⟩ ⟨Nat.le_of_ble_eq_true rfl, Nat.le_of_ble_eq_true rfl⟩ (fun xr213 xN214 μz xq215 => ?_)
          obtain ⟨rfl, rfl, hzS, hzf⟩ := xq215
          obtain ⟨n1, n2, n3, n4, n5⟩ := pNote_nb P x 1
          generalize hP2 : pNote P x 1 = P2 at hzS n1 n2 n3 n4 n5
          obtain ⟨k1, ⟨gb, q1, r1⟩, ⟨ge, q2, r2⟩, ⟨gn, q3, r3⟩, ⟨gm, q4, r4⟩, ⟨ga, q5, r5⟩, ⟨gl, q6, r6⟩, k7⟩ := id hzS
          refine ap_aload_n dX4_addSound_101 rfl rfl ?_
          refine ap_aload_n dX4_addSound_102 rfl rfl ?_
          refine ap_iload_n dX4_addSound_103 rfl rfl ?_
          refine ap_iconst dX4_addSound_104 ?_
          refine ap_iadd dX4_addSound_105 ?_
          refine ap_iload_n dX4_addSound_106 rfl rfl ?_
          refine ap_iadd dX4_addSound_107 ?_
          have xm220 : μz t = am_O 6 [.ref (t + 1), am_i (us.length : Int)] := (hzf _ (by omega)).trans t1
          refine ap_cV (As := [am_i (((i : Int) + 1) + (0 + 1))]) (rest := [.ref s]) (ct_at (hT.kept ((hzf t (by omega))) ((hzf (t + 1) (by omega)))) hN2 (by omega)) dX4_addSound_108 lk_X4_66 hy_X6_at rfl (by omega) xm220 ⟨_, _, rfl⟩ (Nat.le_of_ble_eq_true rfl) ⟨Nat.le_of_ble_eq_true rfl, Nat.le_of_ble_eq_true rfl⟩ ⟨rfl, rfl⟩ ⟨Nat.le_of_ble_eq_true rfl, Nat.le_of_ble_eq_true rfl⟩ (fun xr216 xN217 μ218 xq219 => ?_)
          obtain ⟨rfl, rfl, rfl⟩ := xq219
          refine ap_bipush dX4_addSound_111 (by decide) ?_
          have htr := tat_r t6 (((i : Int) + 1) + (0 + 1))
          refine ap_icmp_ne (tgt := 120) dX4_addSound_113 (by decide) (by omega) (fun c113 => ?_) (fun c113 => ?_)
          · refine ap_iconst dX4_addSound_120 ?_
            refine ap_put (fs2 := [.ref (s + 1), .ref (s + 2), .ref (s + 3), .ref (s + 4), .ref (s + 5), .ref (s + 6), .ref (s + 7), am_i (p_cnt P2 : Int), am_i (p_nb P2 : Int), am_l (p_tot P2), am_i 0]) ff_X4_92 fc_X4_10 dX4_addSound_121 (by omega) k1 (am_bool (by omega)) (Nat.le_of_ble_eq_true rfl) rfl (fun μ221 xe222 xf223 => ?_)
            refine ap_aload_n dX4_addSound_124 rfl rfl ?_
            refine ap_dup dX4_addSound_125 rfl ?_
            refine ap_get ff_X4_49 dX4_addSound_126 (by omega) xe222 rfl ?_
            refine ap_lload dX4_addSound_129 rfl ?_
            refine ap_ladd dX4_addSound_131 ?_
            refine ap_put (fs2 := [.ref (s + 1), .ref (s + 2), .ref (s + 3), .ref (s + 4), .ref (s + 5), .ref (s + 6), .ref (s + 7), am_i (p_cnt P2 : Int), am_i (p_nb P2 : Int), am_l ((p_tot P2) + x), am_i 0]) ff_X4_49 fc_X4_9 dX4_addSound_132 (by omega) xe222 (fun _ => ⟨rfl, rfl⟩) (Nat.le_of_ble_eq_true rfl) rfl (fun μ224 xe225 xf226 => ?_)
            refine ap_aload_n dX4_addSound_135 rfl rfl ?_
            refine ap_aload_n dX4_addSound_136 rfl rfl ?_
            refine ap_get ff_X4_46 dX4_addSound_137 (by omega) xe225 rfl ?_
            refine ap_iconst dX4_addSound_140 ?_
            refine ap_isub dX4_addSound_141 ?_
            refine ap_cV (As := [am_i ((p_nb P2 : Int) - 1)]) (rest := []) (ct_hasBarR xe225 (by omega) (by omega) (by omega)) dX4_addSound_142 lk_X4_57 hy_X4_hasBar rfl (by omega) xe225 ⟨_, _, rfl⟩ (Nat.le_of_ble_eq_true rfl) ⟨Nat.le_of_ble_eq_true rfl, Nat.le_of_ble_eq_true rfl⟩ ⟨rfl, rfl⟩ ⟨Nat.le_of_ble_eq_true rfl, Nat.le_of_ble_eq_true rfl⟩ (fun xr227 xN228 μ229 xq230 => ?_)
            obtain ⟨rfl, rfl, rfl⟩ := xq230
            refine ap_if_eq (tgt := 164) dX4_addSound_145 (by decide) (by omega) (fun c145 => (by exfalso; omega)) (fun c145 => ?_)
            refine ap_aload_n dX4_addSound_148 rfl rfl ?_
            refine ap_get ff_X4_29 dX4_addSound_149 (by omega) xe225 rfl ?_
            refine ap_aload_n dX4_addSound_152 rfl rfl ?_
            refine ap_get ff_X4_46 dX4_addSound_153 (by omega) xe225 rfl ?_
            refine ap_iconst dX4_addSound_156 ?_
            refine ap_isub dX4_addSound_157 ?_
            refine ap_dup2 dX4_addSound_158 rfl rfl ?_
            have xm231 : μ224 (s + 6) = am_L 901 gl := (xf226 _ (by omega)).trans ((xf223 _ (by omega)).trans q6)
            refine ap_lald (j := p_nb P2 - 1) dX4_addSound_159 (by omega) xm231 (by omega) (by omega) ?_
            refine ap_lload dX4_addSound_160 rfl ?_
            refine ap_ladd dX4_addSound_162 ?_
            refine ap_last (j := p_nb P2 - 1) dX4_addSound_163 (by omega) xm231 (by omega) (by omega) (fun μ232 xe233 xf234 => ?_)
            have xm235 : μ232 s = am_O 4 [.ref (s + 1), .ref (s + 2), .ref (s + 3), .ref (s + 4), .ref (s + 5), .ref (s + 6), .ref (s + 7), am_i (p_cnt P2 : Int), am_i (p_nb P2 : Int), am_l ((p_tot P2) + x), am_i 0] := (xf234 _ (by omega)).trans xe225
            have xm236 : μ232 (s + 1) = am_L 300 gb := (xf234 _ (by omega)).trans ((xf226 _ (by omega)).trans ((xf223 _ (by omega)).trans q1))
            have xm237 : μ232 (s + 2) = am_L 300 ge := (xf234 _ (by omega)).trans ((xf226 _ (by omega)).trans ((xf223 _ (by omega)).trans q2))
            have xm238 : μ232 (s + 3) = am_I 0 300 gn := (xf234 _ (by omega)).trans ((xf226 _ (by omega)).trans ((xf223 _ (by omega)).trans q3))
            have xm239 : μ232 (s + 4) = am_I 0 300 gm := (xf234 _ (by omega)).trans ((xf226 _ (by omega)).trans ((xf223 _ (by omega)).trans q4))
            have xm240 : μ232 (s + 5) = am_I 3 300 ga := (xf234 _ (by omega)).trans ((xf226 _ (by omega)).trans ((xf223 _ (by omega)).trans q5))
            exact ap_vret dX4_addSound_164 rfl (Nat.le_of_ble_eq_true rfl) (Nat.le_of_ble_eq_true rfl) (⟨rfl, rfl, (by
    rw [hdt, show (i : Int) + 1 + ((1 : Nat) : Int) = (i : Int) + 1 + (0 + 1) from by omega, hxe, pSnd, decide_eq_false c67, if_neg (by decide), if_pos c90, if_neg c113, hP2]
    exact ⟨xm235, ⟨gb, xm236, r1⟩, ⟨ge, xm237, r2⟩, ⟨gn, xm238, r3⟩, ⟨gm, xm239, r4⟩, ⟨ga, xm240, r5⟩, ⟨_, xe233, fun j hj => by
      have hj : j < p_nb P2 := hj
      show va_up gl (p_nb P2 - 1) (gl (p_nb P2 - 1) + x) j = va_up (p_BL P2) (p_nb P2 - 1) (p_BL P2 (p_nb P2 - 1) + x) j
      by_cases hj2 : j = p_nb P2 - 1
      · subst hj2; rw [va_upe, va_upe, r6 _ (by omega)]
      · rw [va_upn hj2, va_upn hj2]; exact r6 j (by omega)⟩, k7.fr (lo := s) (hi := s + 7) (fun b hb => (xf234 b (by omega)).trans ((xf226 b (by omega)).trans ((xf223 b (by omega))))) (by omega)⟩), fun b hb => (xf234 b (by omega)).trans ((xf226 b (by omega)).trans ((xf223 b (by omega)).trans ((hzf b (by omega)))))⟩)
          · refine ap_iconst dX4_addSound_116 ?_
            refine ap_goto (tgt := 121) dX4_addSound_117 (by decide) ?_
            refine ap_put (fs2 := [.ref (s + 1), .ref (s + 2), .ref (s + 3), .ref (s + 4), .ref (s + 5), .ref (s + 6), .ref (s + 7), am_i (p_cnt P2 : Int), am_i (p_nb P2 : Int), am_l (p_tot P2), am_i 1]) ff_X4_92 fc_X4_10 dX4_addSound_121 (by omega) k1 (am_bool (by omega)) (Nat.le_of_ble_eq_true rfl) rfl (fun μ241 xe242 xf243 => ?_)
            refine ap_aload_n dX4_addSound_124 rfl rfl ?_
            refine ap_dup dX4_addSound_125 rfl ?_
            refine ap_get ff_X4_49 dX4_addSound_126 (by omega) xe242 rfl ?_
            refine ap_lload dX4_addSound_129 rfl ?_
            refine ap_ladd dX4_addSound_131 ?_
            refine ap_put (fs2 := [.ref (s + 1), .ref (s + 2), .ref (s + 3), .ref (s + 4), .ref (s + 5), .ref (s + 6), .ref (s + 7), am_i (p_cnt P2 : Int), am_i (p_nb P2 : Int), am_l ((p_tot P2) + x), am_i 1]) ff_X4_49 fc_X4_9 dX4_addSound_132 (by omega) xe242 (fun _ => ⟨rfl, rfl⟩) (Nat.le_of_ble_eq_true rfl) rfl (fun μ244 xe245 xf246 => ?_)
            refine ap_aload_n dX4_addSound_135 rfl rfl ?_
            refine ap_aload_n dX4_addSound_136 rfl rfl ?_
            refine ap_get ff_X4_46 dX4_addSound_137 (by omega) xe245 rfl ?_
            refine ap_iconst dX4_addSound_140 ?_
            refine ap_isub dX4_addSound_141 ?_
            refine ap_cV (As := [am_i ((p_nb P2 : Int) - 1)]) (rest := []) (ct_hasBarR xe245 (by omega) (by omega) (by omega)) dX4_addSound_142 lk_X4_57 hy_X4_hasBar rfl (by omega) xe245 ⟨_, _, rfl⟩ (Nat.le_of_ble_eq_true rfl) ⟨Nat.le_of_ble_eq_true rfl, Nat.le_of_ble_eq_true rfl⟩ ⟨rfl, rfl⟩ ⟨Nat.le_of_ble_eq_true rfl, Nat.le_of_ble_eq_true rfl⟩ (fun xr247 xN248 μ249 xq250 => ?_)
            obtain ⟨rfl, rfl, rfl⟩ := xq250
            refine ap_if_eq (tgt := 164) dX4_addSound_145 (by decide) (by omega) (fun c145 => (by exfalso; omega)) (fun c145 => ?_)
            refine ap_aload_n dX4_addSound_148 rfl rfl ?_
            refine ap_get ff_X4_29 dX4_addSound_149 (by omega) xe245 rfl ?_
            refine ap_aload_n dX4_addSound_152 rfl rfl ?_
            refine ap_get ff_X4_46 dX4_addSound_153 (by omega) xe245 rfl ?_
            refine ap_iconst dX4_addSound_156 ?_
            refine ap_isub dX4_addSound_157 ?_
            refine ap_dup2 dX4_addSound_158 rfl rfl ?_
            have xm251 : μ244 (s + 6) = am_L 901 gl := (xf246 _ (by omega)).trans ((xf243 _ (by omega)).trans q6)
            refine ap_lald (j := p_nb P2 - 1) dX4_addSound_159 (by omega) xm251 (by omega) (by omega) ?_
            refine ap_lload dX4_addSound_160 rfl ?_
            refine ap_ladd dX4_addSound_162 ?_
            refine ap_last (j := p_nb P2 - 1) dX4_addSound_163 (by omega) xm251 (by omega) (by omega) (fun μ252 xe253 xf254 => ?_)
            have xm255 : μ252 s = am_O 4 [.ref (s + 1), .ref (s + 2), .ref (s + 3), .ref (s + 4), .ref (s + 5), .ref (s + 6), .ref (s + 7), am_i (p_cnt P2 : Int), am_i (p_nb P2 : Int), am_l ((p_tot P2) + x), am_i 1] := (xf254 _ (by omega)).trans xe245
            have xm256 : μ252 (s + 1) = am_L 300 gb := (xf254 _ (by omega)).trans ((xf246 _ (by omega)).trans ((xf243 _ (by omega)).trans q1))
            have xm257 : μ252 (s + 2) = am_L 300 ge := (xf254 _ (by omega)).trans ((xf246 _ (by omega)).trans ((xf243 _ (by omega)).trans q2))
            have xm258 : μ252 (s + 3) = am_I 0 300 gn := (xf254 _ (by omega)).trans ((xf246 _ (by omega)).trans ((xf243 _ (by omega)).trans q3))
            have xm259 : μ252 (s + 4) = am_I 0 300 gm := (xf254 _ (by omega)).trans ((xf246 _ (by omega)).trans ((xf243 _ (by omega)).trans q4))
            have xm260 : μ252 (s + 5) = am_I 3 300 ga := (xf254 _ (by omega)).trans ((xf246 _ (by omega)).trans ((xf243 _ (by omega)).trans q5))
            exact ap_vret dX4_addSound_164 rfl (Nat.le_of_ble_eq_true rfl) (Nat.le_of_ble_eq_true rfl) (⟨rfl, rfl, (by
    rw [hdt, show (i : Int) + 1 + ((1 : Nat) : Int) = (i : Int) + 1 + (0 + 1) from by omega, hxe, pSnd, decide_eq_false c67, if_neg (by decide), if_pos c90, if_pos c113, hP2]
    exact ⟨xm255, ⟨gb, xm256, r1⟩, ⟨ge, xm257, r2⟩, ⟨gn, xm258, r3⟩, ⟨gm, xm259, r4⟩, ⟨ga, xm260, r5⟩, ⟨_, xe253, fun j hj => by
      have hj : j < p_nb P2 := hj
      show va_up gl (p_nb P2 - 1) (gl (p_nb P2 - 1) + x) j = va_up (p_BL P2) (p_nb P2 - 1) (p_BL P2 (p_nb P2 - 1) + x) j
      by_cases hj2 : j = p_nb P2 - 1
      · subst hj2; rw [va_upe, va_upe, r6 _ (by omega)]
      · rw [va_upn hj2, va_upn hj2]; exact r6 j (by omega)⟩, k7.fr (lo := s) (hi := s + 7) (fun b hb => (xf254 b (by omega)).trans ((xf246 b (by omega)).trans ((xf243 b (by omega))))) (by omega)⟩), fun b hb => (xf254 b (by omega)).trans ((xf246 b (by omega)).trans ((xf243 b (by omega)).trans ((hzf b (by omega)))))⟩)
      · refine ap_aload_n dX4_addSound_70 rfl rfl ?_
        refine ap_iconst dX4_addSound_71 ?_
        refine ap_put (fs2 := [.ref (s + 1), .ref (s + 2), .ref (s + 3), .ref (s + 4), .ref (s + 5), .ref (s + 6), .ref (s + 7), am_i (p_cnt P : Int), am_i (p_nb P : Int), am_l (p_tot P), am_i 0]) ff_X4_92 fc_X4_10 dX4_addSound_72 (by omega) h1 (am_bool (Or.inl rfl)) (Nat.le_of_ble_eq_true rfl) rfl (fun μ261 xe262 xf263 => ?_)
        refine ap_goto (tgt := 124) dX4_addSound_75 (by decide) ?_
        refine ap_aload_n dX4_addSound_124 rfl rfl ?_
        refine ap_dup dX4_addSound_125 rfl ?_
        refine ap_get ff_X4_49 dX4_addSound_126 (by omega) xe262 rfl ?_
        refine ap_lload dX4_addSound_129 rfl ?_
        refine ap_ladd dX4_addSound_131 ?_
        refine ap_put (fs2 := [.ref (s + 1), .ref (s + 2), .ref (s + 3), .ref (s + 4), .ref (s + 5), .ref (s + 6), .ref (s + 7), am_i (p_cnt P : Int), am_i (p_nb P : Int), am_l ((p_tot P) + x), am_i 0]) ff_X4_49 fc_X4_9 dX4_addSound_132 (by omega) xe262 (fun _ => ⟨rfl, rfl⟩) (Nat.le_of_ble_eq_true rfl) rfl (fun μ264 xe265 xf266 => ?_)
        refine ap_aload_n dX4_addSound_135 rfl rfl ?_
        refine ap_aload_n dX4_addSound_136 rfl rfl ?_
        refine ap_get ff_X4_46 dX4_addSound_137 (by omega) xe265 rfl ?_
        refine ap_iconst dX4_addSound_140 ?_
        refine ap_isub dX4_addSound_141 ?_
        refine ap_cV (As := [am_i ((p_nb P : Int) - 1)]) (rest := []) (ct_hasBarR xe265 (by omega) (by omega) (by omega)) dX4_addSound_142 lk_X4_57 hy_X4_hasBar rfl (by omega) xe265 ⟨_, _, rfl⟩ (Nat.le_of_ble_eq_true rfl) ⟨Nat.le_of_ble_eq_true rfl, Nat.le_of_ble_eq_true rfl⟩ ⟨rfl, rfl⟩ ⟨Nat.le_of_ble_eq_true rfl, Nat.le_of_ble_eq_true rfl⟩ (fun xr267 xN268 μ269 xq270 => ?_)
        obtain ⟨rfl, rfl, rfl⟩ := xq270
        refine ap_if_eq (tgt := 164) dX4_addSound_145 (by decide) (by omega) (fun c145 => (by exfalso; omega)) (fun c145 => ?_)
        refine ap_aload_n dX4_addSound_148 rfl rfl ?_
        refine ap_get ff_X4_29 dX4_addSound_149 (by omega) xe265 rfl ?_
        refine ap_aload_n dX4_addSound_152 rfl rfl ?_
        refine ap_get ff_X4_46 dX4_addSound_153 (by omega) xe265 rfl ?_
        refine ap_iconst dX4_addSound_156 ?_
        refine ap_isub dX4_addSound_157 ?_
        refine ap_dup2 dX4_addSound_158 rfl rfl ?_
        have xm271 : μ264 (s + 6) = am_L 901 fl := (xf266 _ (by omega)).trans ((xf263 _ (by omega)).trans a6)
        refine ap_lald (j := p_nb P - 1) dX4_addSound_159 (by omega) xm271 (by omega) (by omega) ?_
        refine ap_lload dX4_addSound_160 rfl ?_
        refine ap_ladd dX4_addSound_162 ?_
        refine ap_last (j := p_nb P - 1) dX4_addSound_163 (by omega) xm271 (by omega) (by omega) (fun μ272 xe273 xf274 => ?_)
        have xm275 : μ272 s = am_O 4 [.ref (s + 1), .ref (s + 2), .ref (s + 3), .ref (s + 4), .ref (s + 5), .ref (s + 6), .ref (s + 7), am_i (p_cnt P : Int), am_i (p_nb P : Int), am_l ((p_tot P) + x), am_i 0] := (xf274 _ (by omega)).trans xe265
        have xm276 : μ272 (s + 1) = am_L 300 fb := (xf274 _ (by omega)).trans ((xf266 _ (by omega)).trans ((xf263 _ (by omega)).trans a1))
        have xm277 : μ272 (s + 2) = am_L 300 fe := (xf274 _ (by omega)).trans ((xf266 _ (by omega)).trans ((xf263 _ (by omega)).trans a2))
        have xm278 : μ272 (s + 3) = am_I 0 300 fn := (xf274 _ (by omega)).trans ((xf266 _ (by omega)).trans ((xf263 _ (by omega)).trans a3))
        have xm279 : μ272 (s + 4) = am_I 0 300 fm := (xf274 _ (by omega)).trans ((xf266 _ (by omega)).trans ((xf263 _ (by omega)).trans a4))
        have xm280 : μ272 (s + 5) = am_I 3 300 fa := (xf274 _ (by omega)).trans ((xf266 _ (by omega)).trans ((xf263 _ (by omega)).trans a5))
        exact ap_vret dX4_addSound_164 rfl (Nat.le_of_ble_eq_true rfl) (Nat.le_of_ble_eq_true rfl) (⟨rfl, rfl, (by
    rw [hdt, hxe, pSnd, decide_eq_true c67, if_pos rfl]
    exact ⟨xm275, ⟨fb, xm276, b1⟩, ⟨fe, xm277, b2⟩, ⟨fn, xm278, b3⟩, ⟨fm, xm279, b4⟩, ⟨fa, xm280, b5⟩, ⟨_, xe273, fun j hj => by
      have hj : j < p_nb P := hj
      show va_up fl (p_nb P - 1) (fl (p_nb P - 1) + x) j = va_up (p_BL P) (p_nb P - 1) (p_BL P (p_nb P - 1) + x) j
      by_cases hj2 : j = p_nb P - 1
      · subst hj2; rw [va_upe, va_upe, b6 _ (by omega)]
      · rw [va_upn hj2, va_upn hj2]; exact b6 j (by omega)⟩, h7.fr (lo := s) (hi := s + 7) (fun b hb => (xf274 b (by omega)).trans ((xf266 b (by omega)).trans ((xf263 b (by omega))))) (by omega)⟩), fun b hb => (xf274 b (by omega)).trans ((xf266 b (by omega)).trans ((xf263 b (by omega))))⟩)
    · refine ap_Iinc (lv2 := [(0, .ref s), (1, .ref t), (2, am_i (i : Int)), (3, am_i ((0 + 1) + 1))]) dX4_addSound_21 rfl (by decide) rfl ?_
      refine ap_goto (tgt := 2) dX4_addSound_24 (by decide) ?_
      refine ap_iload_n dX4_addSound_2 rfl rfl ?_
      refine ap_iconst dX4_addSound_3 ?_
      refine ap_icmp_ge (tgt := 27) dX4_addSound_4 (by decide) (by omega) (fun c4 => ?_) (fun c4 => (by exfalso; omega))
      rw [show (i : Int) + 1 + 0 = (i : Int) + 1 from by omega] at ca
      rw [show (i : Int) + 1 + (0 + 1) = (i : Int) + 2 from by omega] at cb
      have hdt : dts us i = 2 := by unfold dts; rw [if_pos ca, if_pos cb]
      refine ap_aload_n dX4_addSound_27 rfl rfl ?_
      refine ap_get ff_X4_35 dX4_addSound_28 (by omega) h1 rfl ?_
      refine ap_ldc2 dX4_addSound_31 kl_X4_97 ?_
      have hdq : 4 ≤ dqn 2 ∧ dqn 2 ≤ 7 := by decide
      refine ap_dq (d := 2) tq_dots dX4_addSound_34 dX4_addSound_37 dX4_addSound_38 rfl rfl (by omega) ?_
      refine ap_i2l dX4_addSound_39 (by omega) ?_
      refine ap_lmul dX4_addSound_40 ?_
      refine ap_ldc2 dX4_addSound_41 kl_X4_102 ?_
      refine ap_aload_n dX4_addSound_44 rfl rfl ?_
      refine ap_iload_n dX4_addSound_45 rfl rfl ?_
      refine ap_cV (As := [am_i (i : Int)]) (rest := [am_l 4, am_l (812851200 * (dqn 2)), .ref (s + 7)]) (ct_at (hT.kept (rfl) (rfl)) hN2 (by omega)) dX4_addSound_46 lk_X4_66 hy_X6_at rfl (by omega) t1 ⟨_, _, rfl⟩ (Nat.le_of_ble_eq_true rfl) ⟨Nat.le_of_ble_eq_true rfl, Nat.le_of_ble_eq_true rfl⟩ ⟨rfl, rfl⟩ ⟨Nat.le_of_ble_eq_true rfl, Nat.le_of_ble_eq_true rfl⟩ (fun xr281 xN282 μ283 xq284 => ?_)
      obtain ⟨rfl, rfl, rfl⟩ := xq284
      refine ap_topi (b := us.getD i 0) (show (tat us (i : Int)) = (us.getD i 0) from by rw [tat, if_pos (by omega)]; rfl) ?_
      refine ap_cS (As := [am_i (us.getD i 0)]) (rest := [am_l 4, am_l (812851200 * (dqn 2)), .ref (s + 7)]) (ct_halvings (ch := us.getD i 0) (by omega)) dX4_addSound_49 lk_X4_85 hy_X1_halvings rfl (Nat.le_of_ble_eq_true rfl) ⟨Nat.le_of_ble_eq_true rfl, Nat.le_of_ble_eq_true rfl⟩ ⟨rfl, rfl⟩ ⟨Nat.le_of_ble_eq_true rfl, Nat.le_of_ble_eq_true rfl⟩ (fun xr285 xN286 μ287 xq288 => ?_)
      obtain ⟨rfl, rfl, rfl⟩ := xq288
      refine ap_lshl (r := 4 * 2 ^ (hv (us.getD i 0)).toNat) dX4_addSound_52 (sh4 ⟨hh, (hv_r _).2⟩) ?_
      refine ap_cV (As := [am_l (812851200 * (dqn 2)), am_l (4 * 2 ^ (hv (us.getD i 0)).toNat)]) (rest := []) (ct_sapply (s := s + 7) h7 (by omega) g6 g7 (by omega) hpw) dX4_addSound_53 lk_X4_104 hy_X7_apply rfl (by omega) h7.1 ⟨_, _, rfl⟩ (Nat.le_of_ble_eq_true rfl) ⟨Nat.le_of_ble_eq_true rfl, Nat.le_of_ble_eq_true rfl⟩ ⟨rfl, rfl⟩ ⟨Nat.le_of_ble_eq_true rfl, Nat.le_of_ble_eq_true rfl⟩ (fun xr289 xN290 μ291 xq292 => ?_)
      obtain ⟨rfl, rfl, rfl⟩ := xq292
      refine ap_topl (b := tk (hv (us.getD i 0)) 2 (p_ts P)) (show (((812851200 * (dqn 2)) * pn (p_ts P)) / ((4 * 2 ^ (hv (us.getD i 0)).toNat) * pm (p_ts P))) = (tk (hv (us.getD i 0)) 2 (p_ts P)) from rfl) ?_
      refine ap_Lstore (lv2 := [(0, .ref s), (1, .ref t), (2, am_i (i : Int)), (3, am_i ((0 + 1) + 1)), (4, am_l (tk (hv (us.getD i 0)) 2 (p_ts P)))]) dX4_addSound_56 (by decide) rfl ?_
      have hx := tk_r (h := hv (us.getD i 0)) (d := 2) (ts := p_ts P) ⟨hh, (hv_r _).2⟩ g6 g7
      generalize hxe : tk (hv (us.getD i 0)) 2 (p_ts P) = x at hx ⊢
      refine ap_aload_n dX4_addSound_58 rfl rfl ?_
      refine ap_iload_n dX4_addSound_59 rfl rfl ?_
      refine ap_iconst dX4_addSound_60 ?_
      refine ap_isub dX4_addSound_61 ?_
      refine ap_cV (As := [am_i ((i : Int) - 1)]) (rest := []) (ct_at (hT.kept (rfl) (rfl)) hN2 (by omega)) dX4_addSound_62 lk_X4_66 hy_X6_at rfl (by omega) t1 ⟨_, _, rfl⟩ (Nat.le_of_ble_eq_true rfl) ⟨Nat.le_of_ble_eq_true rfl, Nat.le_of_ble_eq_true rfl⟩ ⟨rfl, rfl⟩ ⟨Nat.le_of_ble_eq_true rfl, Nat.le_of_ble_eq_true rfl⟩ (fun xr293 xN294 μ295 xq296 => ?_)
      obtain ⟨rfl, rfl, rfl⟩ := xq296
      refine ap_bipush dX4_addSound_65 (by decide) ?_
      have htr := tat_r t6 ((i : Int) - 1)
      refine ap_icmp_ne (tgt := 78) dX4_addSound_67 (by decide) (by omega) (fun c67 => ?_) (fun c67 => ?_)
      · refine ap_aload_n dX4_addSound_78 rfl rfl ?_
        refine ap_lload dX4_addSound_79 rfl ?_
        refine ap_aload_n dX4_addSound_81 rfl rfl ?_
        refine ap_iload_n dX4_addSound_82 rfl rfl ?_
        refine ap_iconst dX4_addSound_83 ?_
        refine ap_isub dX4_addSound_84 ?_
        refine ap_cV (As := [am_i ((i : Int) - 1)]) (rest := [am_l x, .ref s]) (ct_at (hT.kept (rfl) (rfl)) hN2 (by omega)) dX4_addSound_85 lk_X4_66 hy_X6_at rfl (by omega) t1 ⟨_, _, rfl⟩ (Nat.le_of_ble_eq_true rfl) ⟨Nat.le_of_ble_eq_true rfl, Nat.le_of_ble_eq_true rfl⟩ ⟨rfl, rfl⟩ ⟨Nat.le_of_ble_eq_true rfl, Nat.le_of_ble_eq_true rfl⟩ (fun xr297 xN298 μ299 xq300 => ?_)
        obtain ⟨rfl, rfl, rfl⟩ := xq300
        refine ap_bipush dX4_addSound_88 (by decide) ?_
        have htr := tat_r t6 ((i : Int) - 1)
        refine ap_icmp_ne (tgt := 97) dX4_addSound_90 (by decide) (by omega) (fun c90 => ?_) (fun c90 => ?_)
        · refine ap_iconst dX4_addSound_97 ?_
          refine ap_cV (As := [am_l x, am_i 0]) (rest := []) (ct_addNote hS hN hp (x := x) (ac := 0) (by omega) (Or.inl rfl) hc) dX4_addSound_98 lk_X4_108 hy_X4_addNote rfl (by omega) h1 ⟨_, _, rfl⟩ (Nat.le_of_ble_eq_true rfl) ⟨Nat.le_of_ble_eq_true rfl, Nat.le_of_ble_eq_true rfl⟩ ⟨rfl, rfl⟩ ⟨Nat.le_of_ble_eq_true rfl, Nat.le_of_ble_eq_true rfl⟩ (fun xr301 xN302 μz xq303 => ?_)
          obtain ⟨rfl, rfl, hzS, hzf⟩ := xq303
          obtain ⟨n1, n2, n3, n4, n5⟩ := pNote_nb P x 0
          generalize hP2 : pNote P x 0 = P2 at hzS n1 n2 n3 n4 n5
          obtain ⟨k1, ⟨gb, q1, r1⟩, ⟨ge, q2, r2⟩, ⟨gn, q3, r3⟩, ⟨gm, q4, r4⟩, ⟨ga, q5, r5⟩, ⟨gl, q6, r6⟩, k7⟩ := id hzS
          refine ap_aload_n dX4_addSound_101 rfl rfl ?_
          refine ap_aload_n dX4_addSound_102 rfl rfl ?_
          refine ap_iload_n dX4_addSound_103 rfl rfl ?_
          refine ap_iconst dX4_addSound_104 ?_
          refine ap_iadd dX4_addSound_105 ?_
          refine ap_iload_n dX4_addSound_106 rfl rfl ?_
          refine ap_iadd dX4_addSound_107 ?_
          have xm308 : μz t = am_O 6 [.ref (t + 1), am_i (us.length : Int)] := (hzf _ (by omega)).trans t1
          refine ap_cV (As := [am_i (((i : Int) + 1) + ((0 + 1) + 1))]) (rest := [.ref s]) (ct_at (hT.kept ((hzf t (by omega))) ((hzf (t + 1) (by omega)))) hN2 (by omega)) dX4_addSound_108 lk_X4_66 hy_X6_at rfl (by omega) xm308 ⟨_, _, rfl⟩ (Nat.le_of_ble_eq_true rfl) ⟨Nat.le_of_ble_eq_true rfl, Nat.le_of_ble_eq_true rfl⟩ ⟨rfl, rfl⟩ ⟨Nat.le_of_ble_eq_true rfl, Nat.le_of_ble_eq_true rfl⟩ (fun xr304 xN305 μ306 xq307 => ?_)
          obtain ⟨rfl, rfl, rfl⟩ := xq307
          refine ap_bipush dX4_addSound_111 (by decide) ?_
          have htr := tat_r t6 (((i : Int) + 1) + ((0 + 1) + 1))
          refine ap_icmp_ne (tgt := 120) dX4_addSound_113 (by decide) (by omega) (fun c113 => ?_) (fun c113 => ?_)
          · refine ap_iconst dX4_addSound_120 ?_
            refine ap_put (fs2 := [.ref (s + 1), .ref (s + 2), .ref (s + 3), .ref (s + 4), .ref (s + 5), .ref (s + 6), .ref (s + 7), am_i (p_cnt P2 : Int), am_i (p_nb P2 : Int), am_l (p_tot P2), am_i 0]) ff_X4_92 fc_X4_10 dX4_addSound_121 (by omega) k1 (am_bool (by omega)) (Nat.le_of_ble_eq_true rfl) rfl (fun μ309 xe310 xf311 => ?_)
            refine ap_aload_n dX4_addSound_124 rfl rfl ?_
            refine ap_dup dX4_addSound_125 rfl ?_
            refine ap_get ff_X4_49 dX4_addSound_126 (by omega) xe310 rfl ?_
            refine ap_lload dX4_addSound_129 rfl ?_
            refine ap_ladd dX4_addSound_131 ?_
            refine ap_put (fs2 := [.ref (s + 1), .ref (s + 2), .ref (s + 3), .ref (s + 4), .ref (s + 5), .ref (s + 6), .ref (s + 7), am_i (p_cnt P2 : Int), am_i (p_nb P2 : Int), am_l ((p_tot P2) + x), am_i 0]) ff_X4_49 fc_X4_9 dX4_addSound_132 (by omega) xe310 (fun _ => ⟨rfl, rfl⟩) (Nat.le_of_ble_eq_true rfl) rfl (fun μ312 xe313 xf314 => ?_)
            refine ap_aload_n dX4_addSound_135 rfl rfl ?_
            refine ap_aload_n dX4_addSound_136 rfl rfl ?_
            refine ap_get ff_X4_46 dX4_addSound_137 (by omega) xe313 rfl ?_
            refine ap_iconst dX4_addSound_140 ?_
            refine ap_isub dX4_addSound_141 ?_
            refine ap_cV (As := [am_i ((p_nb P2 : Int) - 1)]) (rest := []) (ct_hasBarR xe313 (by omega) (by omega) (by omega)) dX4_addSound_142 lk_X4_57 hy_X4_hasBar rfl (by omega) xe313 ⟨_, _, rfl⟩ (Nat.le_of_ble_eq_true rfl) ⟨Nat.le_of_ble_eq_true rfl, Nat.le_of_ble_eq_true rfl⟩ ⟨rfl, rfl⟩ ⟨Nat.le_of_ble_eq_true rfl, Nat.le_of_ble_eq_true rfl⟩ (fun xr315 xN316 μ317 xq318 => ?_)
            obtain ⟨rfl, rfl, rfl⟩ := xq318
            refine ap_if_eq (tgt := 164) dX4_addSound_145 (by decide) (by omega) (fun c145 => (by exfalso; omega)) (fun c145 => ?_)
            refine ap_aload_n dX4_addSound_148 rfl rfl ?_
            refine ap_get ff_X4_29 dX4_addSound_149 (by omega) xe313 rfl ?_
            refine ap_aload_n dX4_addSound_152 rfl rfl ?_
            refine ap_get ff_X4_46 dX4_addSound_153 (by omega) xe313 rfl ?_
            refine ap_iconst dX4_addSound_156 ?_
            refine ap_isub dX4_addSound_157 ?_
            refine ap_dup2 dX4_addSound_158 rfl rfl ?_
            have xm319 : μ312 (s + 6) = am_L 901 gl := (xf314 _ (by omega)).trans ((xf311 _ (by omega)).trans q6)
            refine ap_lald (j := p_nb P2 - 1) dX4_addSound_159 (by omega) xm319 (by omega) (by omega) ?_
            refine ap_lload dX4_addSound_160 rfl ?_
            refine ap_ladd dX4_addSound_162 ?_
            refine ap_last (j := p_nb P2 - 1) dX4_addSound_163 (by omega) xm319 (by omega) (by omega) (fun μ320 xe321 xf322 => ?_)
            have xm323 : μ320 s = am_O 4 [.ref (s + 1), .ref (s + 2), .ref (s + 3), .ref (s + 4), .ref (s + 5), .ref (s + 6), .ref (s + 7), am_i (p_cnt P2 : Int), am_i (p_nb P2 : Int), am_l ((p_tot P2) + x), am_i 0] := (xf322 _ (by omega)).trans xe313
            have xm324 : μ320 (s + 1) = am_L 300 gb := (xf322 _ (by omega)).trans ((xf314 _ (by omega)).trans ((xf311 _ (by omega)).trans q1))
            have xm325 : μ320 (s + 2) = am_L 300 ge := (xf322 _ (by omega)).trans ((xf314 _ (by omega)).trans ((xf311 _ (by omega)).trans q2))
            have xm326 : μ320 (s + 3) = am_I 0 300 gn := (xf322 _ (by omega)).trans ((xf314 _ (by omega)).trans ((xf311 _ (by omega)).trans q3))
            have xm327 : μ320 (s + 4) = am_I 0 300 gm := (xf322 _ (by omega)).trans ((xf314 _ (by omega)).trans ((xf311 _ (by omega)).trans q4))
            have xm328 : μ320 (s + 5) = am_I 3 300 ga := (xf322 _ (by omega)).trans ((xf314 _ (by omega)).trans ((xf311 _ (by omega)).trans q5))
            exact ap_vret dX4_addSound_164 rfl (Nat.le_of_ble_eq_true rfl) (Nat.le_of_ble_eq_true rfl) (⟨rfl, rfl, (by
    rw [hdt, show (i : Int) + 1 + ((2 : Nat) : Int) = (i : Int) + 1 + (0 + 1 + 1) from by omega, hxe, pSnd, decide_eq_false c67, if_neg (by decide), if_neg c90, if_neg c113, hP2]
    exact ⟨xm323, ⟨gb, xm324, r1⟩, ⟨ge, xm325, r2⟩, ⟨gn, xm326, r3⟩, ⟨gm, xm327, r4⟩, ⟨ga, xm328, r5⟩, ⟨_, xe321, fun j hj => by
      have hj : j < p_nb P2 := hj
      show va_up gl (p_nb P2 - 1) (gl (p_nb P2 - 1) + x) j = va_up (p_BL P2) (p_nb P2 - 1) (p_BL P2 (p_nb P2 - 1) + x) j
      by_cases hj2 : j = p_nb P2 - 1
      · subst hj2; rw [va_upe, va_upe, r6 _ (by omega)]
      · rw [va_upn hj2, va_upn hj2]; exact r6 j (by omega)⟩, k7.fr (lo := s) (hi := s + 7) (fun b hb => (xf322 b (by omega)).trans ((xf314 b (by omega)).trans ((xf311 b (by omega))))) (by omega)⟩), fun b hb => (xf322 b (by omega)).trans ((xf314 b (by omega)).trans ((xf311 b (by omega)).trans ((hzf b (by omega)))))⟩)
          · refine ap_iconst dX4_addSound_116 ?_
            refine ap_goto (tgt := 121) dX4_addSound_117 (by decide) ?_
            refine ap_put (fs2 := [.ref (s + 1), .ref (s + 2), .ref (s + 3), .ref (s + 4), .ref (s + 5), .ref (s + 6), .ref (s + 7), am_i (p_cnt P2 : Int), am_i (p_nb P2 : Int), am_l (p_tot P2), am_i 1]) ff_X4_92 fc_X4_10 dX4_addSound_121 (by omega) k1 (am_bool (by omega)) (Nat.le_of_ble_eq_true rfl) rfl (fun μ329 xe330 xf331 => ?_)
            refine ap_aload_n dX4_addSound_124 rfl rfl ?_
            refine ap_dup dX4_addSound_125 rfl ?_
            refine ap_get ff_X4_49 dX4_addSound_126 (by omega) xe330 rfl ?_
            refine ap_lload dX4_addSound_129 rfl ?_
            refine ap_ladd dX4_addSound_131 ?_
            refine ap_put (fs2 := [.ref (s + 1), .ref (s + 2), .ref (s + 3), .ref (s + 4), .ref (s + 5), .ref (s + 6), .ref (s + 7), am_i (p_cnt P2 : Int), am_i (p_nb P2 : Int), am_l ((p_tot P2) + x), am_i 1]) ff_X4_49 fc_X4_9 dX4_addSound_132 (by omega) xe330 (fun _ => ⟨rfl, rfl⟩) (Nat.le_of_ble_eq_true rfl) rfl (fun μ332 xe333 xf334 => ?_)
            refine ap_aload_n dX4_addSound_135 rfl rfl ?_
            refine ap_aload_n dX4_addSound_136 rfl rfl ?_
            refine ap_get ff_X4_46 dX4_addSound_137 (by omega) xe333 rfl ?_
            refine ap_iconst dX4_addSound_140 ?_
            refine ap_isub dX4_addSound_141 ?_
            refine ap_cV (As := [am_i ((p_nb P2 : Int) - 1)]) (rest := []) (ct_hasBarR xe333 (by omega) (by omega) (by omega)) dX4_addSound_142 lk_X4_57 hy_X4_hasBar rfl (by omega) xe333 ⟨_, _, rfl⟩ (Nat.le_of_ble_eq_true rfl) ⟨Nat.le_of_ble_eq_true rfl, Nat.le_of_ble_eq_true rfl⟩ ⟨rfl, rfl⟩ ⟨Nat.le_of_ble_eq_true rfl, Nat.le_of_ble_eq_true rfl⟩ (fun xr335 xN336 μ337 xq338 => ?_)
            obtain ⟨rfl, rfl, rfl⟩ := xq338
            refine ap_if_eq (tgt := 164) dX4_addSound_145 (by decide) (by omega) (fun c145 => (by exfalso; omega)) (fun c145 => ?_)
            refine ap_aload_n dX4_addSound_148 rfl rfl ?_
            refine ap_get ff_X4_29 dX4_addSound_149 (by omega) xe333 rfl ?_
            refine ap_aload_n dX4_addSound_152 rfl rfl ?_
            refine ap_get ff_X4_46 dX4_addSound_153 (by omega) xe333 rfl ?_
            refine ap_iconst dX4_addSound_156 ?_
            refine ap_isub dX4_addSound_157 ?_
            refine ap_dup2 dX4_addSound_158 rfl rfl ?_
            have xm339 : μ332 (s + 6) = am_L 901 gl := (xf334 _ (by omega)).trans ((xf331 _ (by omega)).trans q6)
            refine ap_lald (j := p_nb P2 - 1) dX4_addSound_159 (by omega) xm339 (by omega) (by omega) ?_
            refine ap_lload dX4_addSound_160 rfl ?_
            refine ap_ladd dX4_addSound_162 ?_
            refine ap_last (j := p_nb P2 - 1) dX4_addSound_163 (by omega) xm339 (by omega) (by omega) (fun μ340 xe341 xf342 => ?_)
            have xm343 : μ340 s = am_O 4 [.ref (s + 1), .ref (s + 2), .ref (s + 3), .ref (s + 4), .ref (s + 5), .ref (s + 6), .ref (s + 7), am_i (p_cnt P2 : Int), am_i (p_nb P2 : Int), am_l ((p_tot P2) + x), am_i 1] := (xf342 _ (by omega)).trans xe333
            have xm344 : μ340 (s + 1) = am_L 300 gb := (xf342 _ (by omega)).trans ((xf334 _ (by omega)).trans ((xf331 _ (by omega)).trans q1))
            have xm345 : μ340 (s + 2) = am_L 300 ge := (xf342 _ (by omega)).trans ((xf334 _ (by omega)).trans ((xf331 _ (by omega)).trans q2))
            have xm346 : μ340 (s + 3) = am_I 0 300 gn := (xf342 _ (by omega)).trans ((xf334 _ (by omega)).trans ((xf331 _ (by omega)).trans q3))
            have xm347 : μ340 (s + 4) = am_I 0 300 gm := (xf342 _ (by omega)).trans ((xf334 _ (by omega)).trans ((xf331 _ (by omega)).trans q4))
            have xm348 : μ340 (s + 5) = am_I 3 300 ga := (xf342 _ (by omega)).trans ((xf334 _ (by omega)).trans ((xf331 _ (by omega)).trans q5))
            exact ap_vret dX4_addSound_164 rfl (Nat.le_of_ble_eq_true rfl) (Nat.le_of_ble_eq_true rfl) (⟨rfl, rfl, (by
    rw [hdt, show (i : Int) + 1 + ((2 : Nat) : Int) = (i : Int) + 1 + (0 + 1 + 1) from by omega, hxe, pSnd, decide_eq_false c67, if_neg (by decide), if_neg c90, if_pos c113, hP2]
    exact ⟨xm343, ⟨gb, xm344, r1⟩, ⟨ge, xm345, r2⟩, ⟨gn, xm346, r3⟩, ⟨gm, xm347, r4⟩, ⟨ga, xm348, r5⟩, ⟨_, xe341, fun j hj => by
      have hj : j < p_nb P2 := hj
      show va_up gl (p_nb P2 - 1) (gl (p_nb P2 - 1) + x) j = va_up (p_BL P2) (p_nb P2 - 1) (p_BL P2 (p_nb P2 - 1) + x) j
      by_cases hj2 : j = p_nb P2 - 1
      · subst hj2; rw [va_upe, va_upe, r6 _ (by omega)]
      · rw [va_upn hj2, va_upn hj2]; exact r6 j (by omega)⟩, k7.fr (lo := s) (hi := s + 7) (fun b hb => (xf342 b (by omega)).trans ((xf334 b (by omega)).trans ((xf331 b (by omega))))) (by omega)⟩), fun b hb => (xf342 b (by omega)).trans ((xf334 b (by omega)).trans ((xf331 b (by omega)).trans ((hzf b (by omega)))))⟩)
        · refine ap_iconst dX4_addSound_93 ?_
          refine ap_goto (tgt := 98) dX4_addSound_94 (by decide) ?_
          refine ap_cV (As := [am_l x, am_i 1]) (rest := []) (ct_addNote hS hN hp (x := x) (ac := 1) (by omega) (Or.inr rfl) hc) dX4_addSound_98 lk_X4_108 hy_X4_addNote rfl (by omega) h1 ⟨_, _, rfl⟩ (Nat.le_of_ble_eq_true rfl) ⟨Nat.le_of_ble_eq_true rfl, Nat.le_of_ble_eq_true rfl⟩ ⟨rfl, rfl⟩ ⟨Nat.le_of_ble_eq_true rfl, Nat.le_of_ble_eq_true rfl⟩ (fun xr349 xN350 μz xq351 => ?_)
          obtain ⟨rfl, rfl, hzS, hzf⟩ := xq351
          obtain ⟨n1, n2, n3, n4, n5⟩ := pNote_nb P x 1
          generalize hP2 : pNote P x 1 = P2 at hzS n1 n2 n3 n4 n5
          obtain ⟨k1, ⟨gb, q1, r1⟩, ⟨ge, q2, r2⟩, ⟨gn, q3, r3⟩, ⟨gm, q4, r4⟩, ⟨ga, q5, r5⟩, ⟨gl, q6, r6⟩, k7⟩ := id hzS
          refine ap_aload_n dX4_addSound_101 rfl rfl ?_
          refine ap_aload_n dX4_addSound_102 rfl rfl ?_
          refine ap_iload_n dX4_addSound_103 rfl rfl ?_
          refine ap_iconst dX4_addSound_104 ?_
          refine ap_iadd dX4_addSound_105 ?_
          refine ap_iload_n dX4_addSound_106 rfl rfl ?_
          refine ap_iadd dX4_addSound_107 ?_
          have xm356 : μz t = am_O 6 [.ref (t + 1), am_i (us.length : Int)] := (hzf _ (by omega)).trans t1
          refine ap_cV (As := [am_i (((i : Int) + 1) + ((0 + 1) + 1))]) (rest := [.ref s]) (ct_at (hT.kept ((hzf t (by omega))) ((hzf (t + 1) (by omega)))) hN2 (by omega)) dX4_addSound_108 lk_X4_66 hy_X6_at rfl (by omega) xm356 ⟨_, _, rfl⟩ (Nat.le_of_ble_eq_true rfl) ⟨Nat.le_of_ble_eq_true rfl, Nat.le_of_ble_eq_true rfl⟩ ⟨rfl, rfl⟩ ⟨Nat.le_of_ble_eq_true rfl, Nat.le_of_ble_eq_true rfl⟩ (fun xr352 xN353 μ354 xq355 => ?_)
          obtain ⟨rfl, rfl, rfl⟩ := xq355
          refine ap_bipush dX4_addSound_111 (by decide) ?_
          have htr := tat_r t6 (((i : Int) + 1) + ((0 + 1) + 1))
          refine ap_icmp_ne (tgt := 120) dX4_addSound_113 (by decide) (by omega) (fun c113 => ?_) (fun c113 => ?_)
          · refine ap_iconst dX4_addSound_120 ?_
            refine ap_put (fs2 := [.ref (s + 1), .ref (s + 2), .ref (s + 3), .ref (s + 4), .ref (s + 5), .ref (s + 6), .ref (s + 7), am_i (p_cnt P2 : Int), am_i (p_nb P2 : Int), am_l (p_tot P2), am_i 0]) ff_X4_92 fc_X4_10 dX4_addSound_121 (by omega) k1 (am_bool (by omega)) (Nat.le_of_ble_eq_true rfl) rfl (fun μ357 xe358 xf359 => ?_)
            refine ap_aload_n dX4_addSound_124 rfl rfl ?_
            refine ap_dup dX4_addSound_125 rfl ?_
            refine ap_get ff_X4_49 dX4_addSound_126 (by omega) xe358 rfl ?_
            refine ap_lload dX4_addSound_129 rfl ?_
            refine ap_ladd dX4_addSound_131 ?_
            refine ap_put (fs2 := [.ref (s + 1), .ref (s + 2), .ref (s + 3), .ref (s + 4), .ref (s + 5), .ref (s + 6), .ref (s + 7), am_i (p_cnt P2 : Int), am_i (p_nb P2 : Int), am_l ((p_tot P2) + x), am_i 0]) ff_X4_49 fc_X4_9 dX4_addSound_132 (by omega) xe358 (fun _ => ⟨rfl, rfl⟩) (Nat.le_of_ble_eq_true rfl) rfl (fun μ360 xe361 xf362 => ?_)
            refine ap_aload_n dX4_addSound_135 rfl rfl ?_
            refine ap_aload_n dX4_addSound_136 rfl rfl ?_
            refine ap_get ff_X4_46 dX4_addSound_137 (by omega) xe361 rfl ?_
            refine ap_iconst dX4_addSound_140 ?_
            refine ap_isub dX4_addSound_141 ?_
            refine ap_cV (As := [am_i ((p_nb P2 : Int) - 1)]) (rest := []) (ct_hasBarR xe361 (by omega) (by omega) (by omega)) dX4_addSound_142 lk_X4_57 hy_X4_hasBar rfl (by omega) xe361 ⟨_, _, rfl⟩ (Nat.le_of_ble_eq_true rfl) ⟨Nat.le_of_ble_eq_true rfl, Nat.le_of_ble_eq_true rfl⟩ ⟨rfl, rfl⟩ ⟨Nat.le_of_ble_eq_true rfl, Nat.le_of_ble_eq_true rfl⟩ (fun xr363 xN364 μ365 xq366 => ?_)
            obtain ⟨rfl, rfl, rfl⟩ := xq366
            refine ap_if_eq (tgt := 164) dX4_addSound_145 (by decide) (by omega) (fun c145 => (by exfalso; omega)) (fun c145 => ?_)
            refine ap_aload_n dX4_addSound_148 rfl rfl ?_
            refine ap_get ff_X4_29 dX4_addSound_149 (by omega) xe361 rfl ?_
            refine ap_aload_n dX4_addSound_152 rfl rfl ?_
            refine ap_get ff_X4_46 dX4_addSound_153 (by omega) xe361 rfl ?_
            refine ap_iconst dX4_addSound_156 ?_
            refine ap_isub dX4_addSound_157 ?_
            refine ap_dup2 dX4_addSound_158 rfl rfl ?_
            have xm367 : μ360 (s + 6) = am_L 901 gl := (xf362 _ (by omega)).trans ((xf359 _ (by omega)).trans q6)
            refine ap_lald (j := p_nb P2 - 1) dX4_addSound_159 (by omega) xm367 (by omega) (by omega) ?_
            refine ap_lload dX4_addSound_160 rfl ?_
            refine ap_ladd dX4_addSound_162 ?_
            refine ap_last (j := p_nb P2 - 1) dX4_addSound_163 (by omega) xm367 (by omega) (by omega) (fun μ368 xe369 xf370 => ?_)
            have xm371 : μ368 s = am_O 4 [.ref (s + 1), .ref (s + 2), .ref (s + 3), .ref (s + 4), .ref (s + 5), .ref (s + 6), .ref (s + 7), am_i (p_cnt P2 : Int), am_i (p_nb P2 : Int), am_l ((p_tot P2) + x), am_i 0] := (xf370 _ (by omega)).trans xe361
            have xm372 : μ368 (s + 1) = am_L 300 gb := (xf370 _ (by omega)).trans ((xf362 _ (by omega)).trans ((xf359 _ (by omega)).trans q1))
            have xm373 : μ368 (s + 2) = am_L 300 ge := (xf370 _ (by omega)).trans ((xf362 _ (by omega)).trans ((xf359 _ (by omega)).trans q2))
            have xm374 : μ368 (s + 3) = am_I 0 300 gn := (xf370 _ (by omega)).trans ((xf362 _ (by omega)).trans ((xf359 _ (by omega)).trans q3))
            have xm375 : μ368 (s + 4) = am_I 0 300 gm := (xf370 _ (by omega)).trans ((xf362 _ (by omega)).trans ((xf359 _ (by omega)).trans q4))
            have xm376 : μ368 (s + 5) = am_I 3 300 ga := (xf370 _ (by omega)).trans ((xf362 _ (by omega)).trans ((xf359 _ (by omega)).trans q5))
            exact ap_vret dX4_addSound_164 rfl (Nat.le_of_ble_eq_true rfl) (Nat.le_of_ble_eq_true rfl) (⟨rfl, rfl, (by
    rw [hdt, show (i : Int) + 1 + ((2 : Nat) : Int) = (i : Int) + 1 + (0 + 1 + 1) from by omega, hxe, pSnd, decide_eq_false c67, if_neg (by decide), if_pos c90, if_neg c113, hP2]
    exact ⟨xm371, ⟨gb, xm372, r1⟩, ⟨ge, xm373, r2⟩, ⟨gn, xm374, r3⟩, ⟨gm, xm375, r4⟩, ⟨ga, xm376, r5⟩, ⟨_, xe369, fun j hj => by
      have hj : j < p_nb P2 := hj
      show va_up gl (p_nb P2 - 1) (gl (p_nb P2 - 1) + x) j = va_up (p_BL P2) (p_nb P2 - 1) (p_BL P2 (p_nb P2 - 1) + x) j
      by_cases hj2 : j = p_nb P2 - 1
      · subst hj2; rw [va_upe, va_upe, r6 _ (by omega)]
      · rw [va_upn hj2, va_upn hj2]; exact r6 j (by omega)⟩, k7.fr (lo := s) (hi := s + 7) (fun b hb => (xf370 b (by omega)).trans ((xf362 b (by omega)).trans ((xf359 b (by omega))))) (by omega)⟩), fun b hb => (xf370 b (by omega)).trans ((xf362 b (by omega)).trans ((xf359 b (by omega)).trans ((hzf b (by omega)))))⟩)
          · refine ap_iconst dX4_addSound_116 ?_
            refine ap_goto (tgt := 121) dX4_addSound_117 (by decide) ?_
            refine ap_put (fs2 := [.ref (s + 1), .ref (s + 2), .ref (s + 3), .ref (s + 4), .ref (s + 5), .ref (s + 6), .ref (s + 7), am_i (p_cnt P2 : Int), am_i (p_nb P2 : Int), am_l (p_tot P2), am_i 1]) ff_X4_92 fc_X4_10 dX4_addSound_121 (by omega) k1 (am_bool (by omega)) (Nat.le_of_ble_eq_true rfl) rfl (fun μ377 xe378 xf379 => ?_)
            refine ap_aload_n dX4_addSound_124 rfl rfl ?_
            refine ap_dup dX4_addSound_125 rfl ?_
            refine ap_get ff_X4_49 dX4_addSound_126 (by omega) xe378 rfl ?_
            refine ap_lload dX4_addSound_129 rfl ?_
            refine ap_ladd dX4_addSound_131 ?_
            refine ap_put (fs2 := [.ref (s + 1), .ref (s + 2), .ref (s + 3), .ref (s + 4), .ref (s + 5), .ref (s + 6), .ref (s + 7), am_i (p_cnt P2 : Int), am_i (p_nb P2 : Int), am_l ((p_tot P2) + x), am_i 1]) ff_X4_49 fc_X4_9 dX4_addSound_132 (by omega) xe378 (fun _ => ⟨rfl, rfl⟩) (Nat.le_of_ble_eq_true rfl) rfl (fun μ380 xe381 xf382 => ?_)
            refine ap_aload_n dX4_addSound_135 rfl rfl ?_
            refine ap_aload_n dX4_addSound_136 rfl rfl ?_
            refine ap_get ff_X4_46 dX4_addSound_137 (by omega) xe381 rfl ?_
            refine ap_iconst dX4_addSound_140 ?_
            refine ap_isub dX4_addSound_141 ?_
            refine ap_cV (As := [am_i ((p_nb P2 : Int) - 1)]) (rest := []) (ct_hasBarR xe381 (by omega) (by omega) (by omega)) dX4_addSound_142 lk_X4_57 hy_X4_hasBar rfl (by omega) xe381 ⟨_, _, rfl⟩ (Nat.le_of_ble_eq_true rfl) ⟨Nat.le_of_ble_eq_true rfl, Nat.le_of_ble_eq_true rfl⟩ ⟨rfl, rfl⟩ ⟨Nat.le_of_ble_eq_true rfl, Nat.le_of_ble_eq_true rfl⟩ (fun xr383 xN384 μ385 xq386 => ?_)
            obtain ⟨rfl, rfl, rfl⟩ := xq386
            refine ap_if_eq (tgt := 164) dX4_addSound_145 (by decide) (by omega) (fun c145 => (by exfalso; omega)) (fun c145 => ?_)
            refine ap_aload_n dX4_addSound_148 rfl rfl ?_
            refine ap_get ff_X4_29 dX4_addSound_149 (by omega) xe381 rfl ?_
            refine ap_aload_n dX4_addSound_152 rfl rfl ?_
            refine ap_get ff_X4_46 dX4_addSound_153 (by omega) xe381 rfl ?_
            refine ap_iconst dX4_addSound_156 ?_
            refine ap_isub dX4_addSound_157 ?_
            refine ap_dup2 dX4_addSound_158 rfl rfl ?_
            have xm387 : μ380 (s + 6) = am_L 901 gl := (xf382 _ (by omega)).trans ((xf379 _ (by omega)).trans q6)
            refine ap_lald (j := p_nb P2 - 1) dX4_addSound_159 (by omega) xm387 (by omega) (by omega) ?_
            refine ap_lload dX4_addSound_160 rfl ?_
            refine ap_ladd dX4_addSound_162 ?_
            refine ap_last (j := p_nb P2 - 1) dX4_addSound_163 (by omega) xm387 (by omega) (by omega) (fun μ388 xe389 xf390 => ?_)
            have xm391 : μ388 s = am_O 4 [.ref (s + 1), .ref (s + 2), .ref (s + 3), .ref (s + 4), .ref (s + 5), .ref (s + 6), .ref (s + 7), am_i (p_cnt P2 : Int), am_i (p_nb P2 : Int), am_l ((p_tot P2) + x), am_i 1] := (xf390 _ (by omega)).trans xe381
            have xm392 : μ388 (s + 1) = am_L 300 gb := (xf390 _ (by omega)).trans ((xf382 _ (by omega)).trans ((xf379 _ (by omega)).trans q1))
            have xm393 : μ388 (s + 2) = am_L 300 ge := (xf390 _ (by omega)).trans ((xf382 _ (by omega)).trans ((xf379 _ (by omega)).trans q2))
            have xm394 : μ388 (s + 3) = am_I 0 300 gn := (xf390 _ (by omega)).trans ((xf382 _ (by omega)).trans ((xf379 _ (by omega)).trans q3))
            have xm395 : μ388 (s + 4) = am_I 0 300 gm := (xf390 _ (by omega)).trans ((xf382 _ (by omega)).trans ((xf379 _ (by omega)).trans q4))
            have xm396 : μ388 (s + 5) = am_I 3 300 ga := (xf390 _ (by omega)).trans ((xf382 _ (by omega)).trans ((xf379 _ (by omega)).trans q5))
            exact ap_vret dX4_addSound_164 rfl (Nat.le_of_ble_eq_true rfl) (Nat.le_of_ble_eq_true rfl) (⟨rfl, rfl, (by
    rw [hdt, show (i : Int) + 1 + ((2 : Nat) : Int) = (i : Int) + 1 + (0 + 1 + 1) from by omega, hxe, pSnd, decide_eq_false c67, if_neg (by decide), if_pos c90, if_pos c113, hP2]
    exact ⟨xm391, ⟨gb, xm392, r1⟩, ⟨ge, xm393, r2⟩, ⟨gn, xm394, r3⟩, ⟨gm, xm395, r4⟩, ⟨ga, xm396, r5⟩, ⟨_, xe389, fun j hj => by
      have hj : j < p_nb P2 := hj
      show va_up gl (p_nb P2 - 1) (gl (p_nb P2 - 1) + x) j = va_up (p_BL P2) (p_nb P2 - 1) (p_BL P2 (p_nb P2 - 1) + x) j
      by_cases hj2 : j = p_nb P2 - 1
      · subst hj2; rw [va_upe, va_upe, r6 _ (by omega)]
      · rw [va_upn hj2, va_upn hj2]; exact r6 j (by omega)⟩, k7.fr (lo := s) (hi := s + 7) (fun b hb => (xf390 b (by omega)).trans ((xf382 b (by omega)).trans ((xf379 b (by omega))))) (by omega)⟩), fun b hb => (xf390 b (by omega)).trans ((xf382 b (by omega)).trans ((xf379 b (by omega)).trans ((hzf b (by omega)))))⟩)
      · refine ap_aload_n dX4_addSound_70 rfl rfl ?_
        refine ap_iconst dX4_addSound_71 ?_
        refine ap_put (fs2 := [.ref (s + 1), .ref (s + 2), .ref (s + 3), .ref (s + 4), .ref (s + 5), .ref (s + 6), .ref (s + 7), am_i (p_cnt P : Int), am_i (p_nb P : Int), am_l (p_tot P), am_i 0]) ff_X4_92 fc_X4_10 dX4_addSound_72 (by omega) h1 (am_bool (Or.inl rfl)) (Nat.le_of_ble_eq_true rfl) rfl (fun μ397 xe398 xf399 => ?_)
        refine ap_goto (tgt := 124) dX4_addSound_75 (by decide) ?_
        refine ap_aload_n dX4_addSound_124 rfl rfl ?_
        refine ap_dup dX4_addSound_125 rfl ?_
        refine ap_get ff_X4_49 dX4_addSound_126 (by omega) xe398 rfl ?_
        refine ap_lload dX4_addSound_129 rfl ?_
        refine ap_ladd dX4_addSound_131 ?_
        refine ap_put (fs2 := [.ref (s + 1), .ref (s + 2), .ref (s + 3), .ref (s + 4), .ref (s + 5), .ref (s + 6), .ref (s + 7), am_i (p_cnt P : Int), am_i (p_nb P : Int), am_l ((p_tot P) + x), am_i 0]) ff_X4_49 fc_X4_9 dX4_addSound_132 (by omega) xe398 (fun _ => ⟨rfl, rfl⟩) (Nat.le_of_ble_eq_true rfl) rfl (fun μ400 xe401 xf402 => ?_)
        refine ap_aload_n dX4_addSound_135 rfl rfl ?_
        refine ap_aload_n dX4_addSound_136 rfl rfl ?_
        refine ap_get ff_X4_46 dX4_addSound_137 (by omega) xe401 rfl ?_
        refine ap_iconst dX4_addSound_140 ?_
        refine ap_isub dX4_addSound_141 ?_
        refine ap_cV (As := [am_i ((p_nb P : Int) - 1)]) (rest := []) (ct_hasBarR xe401 (by omega) (by omega) (by omega)) dX4_addSound_142 lk_X4_57 hy_X4_hasBar rfl (by omega) xe401 ⟨_, _, rfl⟩ (Nat.le_of_ble_eq_true rfl) ⟨Nat.le_of_ble_eq_true rfl, Nat.le_of_ble_eq_true rfl⟩ ⟨rfl, rfl⟩ ⟨Nat.le_of_ble_eq_true rfl, Nat.le_of_ble_eq_true rfl⟩ (fun xr403 xN404 μ405 xq406 => ?_)
        obtain ⟨rfl, rfl, rfl⟩ := xq406
        refine ap_if_eq (tgt := 164) dX4_addSound_145 (by decide) (by omega) (fun c145 => (by exfalso; omega)) (fun c145 => ?_)
        refine ap_aload_n dX4_addSound_148 rfl rfl ?_
        refine ap_get ff_X4_29 dX4_addSound_149 (by omega) xe401 rfl ?_
        refine ap_aload_n dX4_addSound_152 rfl rfl ?_
        refine ap_get ff_X4_46 dX4_addSound_153 (by omega) xe401 rfl ?_
        refine ap_iconst dX4_addSound_156 ?_
        refine ap_isub dX4_addSound_157 ?_
        refine ap_dup2 dX4_addSound_158 rfl rfl ?_
        have xm407 : μ400 (s + 6) = am_L 901 fl := (xf402 _ (by omega)).trans ((xf399 _ (by omega)).trans a6)
        refine ap_lald (j := p_nb P - 1) dX4_addSound_159 (by omega) xm407 (by omega) (by omega) ?_
        refine ap_lload dX4_addSound_160 rfl ?_
        refine ap_ladd dX4_addSound_162 ?_
        refine ap_last (j := p_nb P - 1) dX4_addSound_163 (by omega) xm407 (by omega) (by omega) (fun μ408 xe409 xf410 => ?_)
        have xm411 : μ408 s = am_O 4 [.ref (s + 1), .ref (s + 2), .ref (s + 3), .ref (s + 4), .ref (s + 5), .ref (s + 6), .ref (s + 7), am_i (p_cnt P : Int), am_i (p_nb P : Int), am_l ((p_tot P) + x), am_i 0] := (xf410 _ (by omega)).trans xe401
        have xm412 : μ408 (s + 1) = am_L 300 fb := (xf410 _ (by omega)).trans ((xf402 _ (by omega)).trans ((xf399 _ (by omega)).trans a1))
        have xm413 : μ408 (s + 2) = am_L 300 fe := (xf410 _ (by omega)).trans ((xf402 _ (by omega)).trans ((xf399 _ (by omega)).trans a2))
        have xm414 : μ408 (s + 3) = am_I 0 300 fn := (xf410 _ (by omega)).trans ((xf402 _ (by omega)).trans ((xf399 _ (by omega)).trans a3))
        have xm415 : μ408 (s + 4) = am_I 0 300 fm := (xf410 _ (by omega)).trans ((xf402 _ (by omega)).trans ((xf399 _ (by omega)).trans a4))
        have xm416 : μ408 (s + 5) = am_I 3 300 fa := (xf410 _ (by omega)).trans ((xf402 _ (by omega)).trans ((xf399 _ (by omega)).trans a5))
        exact ap_vret dX4_addSound_164 rfl (Nat.le_of_ble_eq_true rfl) (Nat.le_of_ble_eq_true rfl) (⟨rfl, rfl, (by
    rw [hdt, hxe, pSnd, decide_eq_true c67, if_pos rfl]
    exact ⟨xm411, ⟨fb, xm412, b1⟩, ⟨fe, xm413, b2⟩, ⟨fn, xm414, b3⟩, ⟨fm, xm415, b4⟩, ⟨fa, xm416, b5⟩, ⟨_, xe409, fun j hj => by
      have hj : j < p_nb P := hj
      show va_up fl (p_nb P - 1) (fl (p_nb P - 1) + x) j = va_up (p_BL P) (p_nb P - 1) (p_BL P (p_nb P - 1) + x) j
      by_cases hj2 : j = p_nb P - 1
      · subst hj2; rw [va_upe, va_upe, b6 _ (by omega)]
      · rw [va_upn hj2, va_upn hj2]; exact b6 j (by omega)⟩, h7.fr (lo := s) (hi := s + 7) (fun b hb => (xf410 b (by omega)).trans ((xf402 b (by omega)).trans ((xf399 b (by omega))))) (by omega)⟩), fun b hb => (xf410 b (by omega)).trans ((xf402 b (by omega)).trans ((xf399 b (by omega))))⟩)

