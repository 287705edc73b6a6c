theorem ms_a0 {a q y zm zd : Int} (h : mst a q y zm zd) : (a = 0 ↔ (zm = 0 ∨ zm = 3 ∨ zm = 4)) ∧ 0 ≤ zm ∧ zm ≤ 10 := by
  rcases h with ⟨rfl, rfl, _⟩ | ⟨rfl, rfl, _⟩ | ⟨rfl, rfl, _⟩ | ⟨_, _, ⟨rfl, rfl⟩ | ⟨rfl, rfl⟩ | ⟨rfl, rfl⟩ | ⟨rfl, rfl⟩ | ⟨rfl, rfl⟩ | ⟨rfl, rfl⟩ | ⟨rfl, rfl⟩ | ⟨rfl, rfl⟩⟩ <;> decide
set_option maxHeartbeats 4000000 in
set_option maxRecDepth 100000 in
theorem wm_wrong {N : Nat} {μ : am_M} {zp zt zm zd b u zu zc zg a k : Int} (hM : μ 120 = mcl zp zt zm zd b u zu zc zg) (hN : 141 ≤ N) (hb : 0 ≤ b ∧ b ≤ 2) (hu : u = 0 ∨ u = 1) (hs : (a = 0 ↔ (zm = 0 ∨ zm = 3 ∨ zm = 4)) ∧ 0 ≤ zm ∧ zm ≤ 10) : am_W YX10_wrongAt (am_pv (am_i (if a = 0 ∧ b = 0 ∧ u = 0 then -1 else zt)) N μ) 0 0 46 [(0, .ref 120), (1, am_i k)] [] N μ := by
  obtain ⟨hs1, hs2⟩ := hs
  refine ap_aload_n dX10_wrongAt_46 rfl rfl ?_
  refine ap_get ff_X10_80 dX10_wrongAt_47 (by omega) hM rfl ?_
  refine ap_if_eq (tgt := 69) dX10_wrongAt_50 (by decide) (by omega) (fun c50 => ?_) (fun c50 => ?_)
  · refine ap_aload_n dX10_wrongAt_69 rfl rfl ?_
    refine ap_get ff_X10_90 dX10_wrongAt_70 (by omega) hM rfl ?_
    refine ap_if_ne (tgt := 87) dX10_wrongAt_73 (by decide) (by omega) (fun c73 => ?_) (fun c73 => ?_)
    · refine ap_iconst dX10_wrongAt_87 ?_
      refine ap_Istore_n (lv2 := [(0, .ref 120), (1, am_i 0)]) dX10_wrongAt_88 rfl (by decide) rfl ?_
      refine ap_iload_n dX10_wrongAt_89 rfl rfl ?_
      refine ap_if_eq (tgt := 97) dX10_wrongAt_90 (by decide) (by omega) (fun c90 => ?_) (fun c90 => (by exfalso; omega))
      refine ap_aload_n dX10_wrongAt_97 rfl rfl ?_
      refine ap_get ff_X10_114 dX10_wrongAt_98 (by omega) hM rfl ?_
      exact ap_iret dX10_wrongAt_101 rfl rfl (Nat.le_of_ble_eq_true rfl) (Nat.le_of_ble_eq_true rfl) (⟨by rw [if_neg (by omega)], rfl, rfl⟩)
    · refine ap_aload_n dX10_wrongAt_76 rfl rfl ?_
      refine ap_get ff_X10_97 dX10_wrongAt_77 (by omega) hM rfl ?_
      refine ap_if_ne (tgt := 87) dX10_wrongAt_80 (by decide) (by omega) (fun c80 => ?_) (fun c80 => ?_)
      · refine ap_iconst dX10_wrongAt_87 ?_
        refine ap_Istore_n (lv2 := [(0, .ref 120), (1, am_i 0)]) dX10_wrongAt_88 rfl (by decide) rfl ?_
        refine ap_iload_n dX10_wrongAt_89 rfl rfl ?_
        refine ap_if_eq (tgt := 97) dX10_wrongAt_90 (by decide) (by omega) (fun c90 => ?_) (fun c90 => (by exfalso; omega))
        refine ap_aload_n dX10_wrongAt_97 rfl rfl ?_
        refine ap_get ff_X10_114 dX10_wrongAt_98 (by omega) hM rfl ?_
        exact ap_iret dX10_wrongAt_101 rfl rfl (Nat.le_of_ble_eq_true rfl) (Nat.le_of_ble_eq_true rfl) (⟨by rw [if_neg (by omega)], rfl, rfl⟩)
      · refine ap_iconst dX10_wrongAt_83 ?_
        refine ap_goto (tgt := 88) dX10_wrongAt_84 (by decide) ?_
        refine ap_Istore_n (lv2 := [(0, .ref 120), (1, am_i 1)]) dX10_wrongAt_88 rfl (by decide) rfl ?_
        refine ap_iload_n dX10_wrongAt_89 rfl rfl ?_
        refine ap_if_eq (tgt := 97) dX10_wrongAt_90 (by decide) (by omega) (fun c90 => (by exfalso; omega)) (fun c90 => ?_)
        refine ap_iconst dX10_wrongAt_93 ?_
        refine ap_goto (tgt := 101) dX10_wrongAt_94 (by decide) ?_
        exact ap_iret dX10_wrongAt_101 rfl rfl (Nat.le_of_ble_eq_true rfl) (Nat.le_of_ble_eq_true rfl) (⟨by rw [if_pos (by omega)], rfl, rfl⟩)
  · refine ap_aload_n dX10_wrongAt_53 rfl rfl ?_
    refine ap_get ff_X10_80 dX10_wrongAt_54 (by omega) hM rfl ?_
    refine ap_iconst dX10_wrongAt_57 ?_
    refine ap_icmp_eq (tgt := 69) dX10_wrongAt_58 (by decide) (by omega) (fun c58 => ?_) (fun c58 => ?_)
    · refine ap_aload_n dX10_wrongAt_69 rfl rfl ?_
      refine ap_get ff_X10_90 dX10_wrongAt_70 (by omega) hM rfl ?_
      refine ap_if_ne (tgt := 87) dX10_wrongAt_73 (by decide) (by omega) (fun c73 => ?_) (fun c73 => ?_)
      · refine ap_iconst dX10_wrongAt_87 ?_
        refine ap_Istore_n (lv2 := [(0, .ref 120), (1, am_i 0)]) dX10_wrongAt_88 rfl (by decide) rfl ?_
        refine ap_iload_n dX10_wrongAt_89 rfl rfl ?_
        refine ap_if_eq (tgt := 97) dX10_wrongAt_90 (by decide) (by omega) (fun c90 => ?_) (fun c90 => (by exfalso; omega))
        refine ap_aload_n dX10_wrongAt_97 rfl rfl ?_
        refine ap_get ff_X10_114 dX10_wrongAt_98 (by omega) hM rfl ?_
        exact ap_iret dX10_wrongAt_101 rfl rfl (Nat.le_of_ble_eq_true rfl) (Nat.le_of_ble_eq_true rfl) (⟨by rw [if_neg (by omega)], rfl, rfl⟩)
      · refine ap_aload_n dX10_wrongAt_76 rfl rfl ?_
        refine ap_get ff_X10_97 dX10_wrongAt_77 (by omega) hM rfl ?_
        refine ap_if_ne (tgt := 87) dX10_wrongAt_80 (by decide) (by omega) (fun c80 => ?_) (fun c80 => ?_)
        · refine ap_iconst dX10_wrongAt_87 ?_
          refine ap_Istore_n (lv2 := [(0, .ref 120), (1, am_i 0)]) dX10_wrongAt_88 rfl (by decide) rfl ?_
          refine ap_iload_n dX10_wrongAt_89 rfl rfl ?_
          refine ap_if_eq (tgt := 97) dX10_wrongAt_90 (by decide) (by omega) (fun c90 => ?_) (fun c90 => (by exfalso; omega))
          refine ap_aload_n dX10_wrongAt_97 rfl rfl ?_
          refine ap_get ff_X10_114 dX10_wrongAt_98 (by omega) hM rfl ?_
          exact ap_iret dX10_wrongAt_101 rfl rfl (Nat.le_of_ble_eq_true rfl) (Nat.le_of_ble_eq_true rfl) (⟨by rw [if_neg (by omega)], rfl, rfl⟩)
        · refine ap_iconst dX10_wrongAt_83 ?_
          refine ap_goto (tgt := 88) dX10_wrongAt_84 (by decide) ?_
          refine ap_Istore_n (lv2 := [(0, .ref 120), (1, am_i 1)]) dX10_wrongAt_88 rfl (by decide) rfl ?_
          refine ap_iload_n dX10_wrongAt_89 rfl rfl ?_
          refine ap_if_eq (tgt := 97) dX10_wrongAt_90 (by decide) (by omega) (fun c90 => (by exfalso; omega)) (fun c90 => ?_)
          refine ap_iconst dX10_wrongAt_93 ?_
          refine ap_goto (tgt := 101) dX10_wrongAt_94 (by decide) ?_
          exact ap_iret dX10_wrongAt_101 rfl rfl (Nat.le_of_ble_eq_true rfl) (Nat.le_of_ble_eq_true rfl) (⟨by rw [if_pos (by omega)], rfl, rfl⟩)
    · refine ap_aload_n dX10_wrongAt_61 rfl rfl ?_
      refine ap_get ff_X10_80 dX10_wrongAt_62 (by omega) hM rfl ?_
      refine ap_iconst dX10_wrongAt_65 ?_
      refine ap_icmp_ne (tgt := 87) dX10_wrongAt_66 (by decide) (by omega) (fun c66 => ?_) (fun c66 => ?_)
      · refine ap_iconst dX10_wrongAt_87 ?_
        refine ap_Istore_n (lv2 := [(0, .ref 120), (1, am_i 0)]) dX10_wrongAt_88 rfl (by decide) rfl ?_
        refine ap_iload_n dX10_wrongAt_89 rfl rfl ?_
        refine ap_if_eq (tgt := 97) dX10_wrongAt_90 (by decide) (by omega) (fun c90 => ?_) (fun c90 => (by exfalso; omega))
        refine ap_aload_n dX10_wrongAt_97 rfl rfl ?_
        refine ap_get ff_X10_114 dX10_wrongAt_98 (by omega) hM rfl ?_
        exact ap_iret dX10_wrongAt_101 rfl rfl (Nat.le_of_ble_eq_true rfl) (Nat.le_of_ble_eq_true rfl) (⟨by rw [if_neg (by omega)], rfl, rfl⟩)
      · refine ap_aload_n dX10_wrongAt_69 rfl rfl ?_
        refine ap_get ff_X10_90 dX10_wrongAt_70 (by omega) hM rfl ?_
        refine ap_if_ne (tgt := 87) dX10_wrongAt_73 (by decide) (by omega) (fun c73 => ?_) (fun c73 => ?_)
        · refine ap_iconst dX10_wrongAt_87 ?_
          refine ap_Istore_n (lv2 := [(0, .ref 120), (1, am_i 0)]) dX10_wrongAt_88 rfl (by decide) rfl ?_
          refine ap_iload_n dX10_wrongAt_89 rfl rfl ?_
          refine ap_if_eq (tgt := 97) dX10_wrongAt_90 (by decide) (by omega) (fun c90 => ?_) (fun c90 => (by exfalso; omega))
          refine ap_aload_n dX10_wrongAt_97 rfl rfl ?_
          refine ap_get ff_X10_114 dX10_wrongAt_98 (by omega) hM rfl ?_
          exact ap_iret dX10_wrongAt_101 rfl rfl (Nat.le_of_ble_eq_true rfl) (Nat.le_of_ble_eq_true rfl) (⟨by rw [if_neg (by omega)], rfl, rfl⟩)
        · refine ap_aload_n dX10_wrongAt_76 rfl rfl ?_
          refine ap_get ff_X10_97 dX10_wrongAt_77 (by omega) hM rfl ?_
          refine ap_if_ne (tgt := 87) dX10_wrongAt_80 (by decide) (by omega) (fun c80 => ?_) (fun c80 => ?_)
          · refine ap_iconst dX10_wrongAt_87 ?_
            refine ap_Istore_n (lv2 := [(0, .ref 120), (1, am_i 0)]) dX10_wrongAt_88 rfl (by decide) rfl ?_
            refine ap_iload_n dX10_wrongAt_89 rfl rfl ?_
            refine ap_if_eq (tgt := 97) dX10_wrongAt_90 (by decide) (by omega) (fun c90 => ?_) (fun c90 => (by exfalso; omega))
            refine ap_aload_n dX10_wrongAt_97 rfl rfl ?_
            refine ap_get ff_X10_114 dX10_wrongAt_98 (by omega) hM rfl ?_
            exact ap_iret dX10_wrongAt_101 rfl rfl (Nat.le_of_ble_eq_true rfl) (Nat.le_of_ble_eq_true rfl) (⟨by rw [if_neg (by omega)], rfl, rfl⟩)
          · refine ap_iconst dX10_wrongAt_83 ?_
            refine ap_goto (tgt := 88) dX10_wrongAt_84 (by decide) ?_
            refine ap_Istore_n (lv2 := [(0, .ref 120), (1, am_i 1)]) dX10_wrongAt_88 rfl (by decide) rfl ?_
            refine ap_iload_n dX10_wrongAt_89 rfl rfl ?_
            refine ap_if_eq (tgt := 97) dX10_wrongAt_90 (by decide) (by omega) (fun c90 => (by exfalso; omega)) (fun c90 => ?_)
            refine ap_iconst dX10_wrongAt_93 ?_
            refine ap_goto (tgt := 101) dX10_wrongAt_94 (by decide) ?_
            exact ap_iret dX10_wrongAt_101 rfl rfl (Nat.le_of_ble_eq_true rfl) (Nat.le_of_ble_eq_true rfl) (⟨by rw [if_pos (by omega)], rfl, rfl⟩)

