theorem Bx.keptA {μ μ2 : am_M} {b : List Int} {C : Snap} {rem : Nat} {hs : Nat → Snap} (h : Bx μ b C rem hs) (hf : ∀ x, x < 120 → μ2 x = μ x) : Bx μ2 b C rem hs := by
  obtain ⟨h1, h2, h3, h4, h5, h6⟩ := h
  exact ⟨(hf _ (by omega)).trans h1, h2.kept (hf _ (by omega)) (hf _ (by omega)), h3.kept (fun x q => hf x (by omega)), h4.kept (fun x q1 q2 => hf x (by omega)), h5.kept (fun x q1 q2 => hf x (by omega)), h6⟩
theorem Mx.kept {μ μ2 : am_M} {b : List Int} {C : Snap} {rem : Nat} {hs : Nat → Snap} (h : Mx μ b C rem hs) (hf : ∀ x, 120 ≤ x → μ2 x = μ x) : Mx μ2 b C rem hs := by
  obtain ⟨⟨zm, zd, ze, zi, zu, zc, zg, hM⟩, ⟨g, hV, hv1⟩, ⟨h, hH, hh1⟩, ⟨tg, hT, ht1⟩, ⟨fi, hI⟩, hS, ⟨f8, h138⟩, ⟨f9, h139⟩, ⟨f0, h140⟩, hq⟩ := h
  exact ⟨⟨zm, zd, ze, zi, zu, zc, zg, (hf _ (by omega)).trans hM⟩, ⟨g, (hf _ (by omega)).trans hV, hv1⟩, ⟨h, (hf _ (by omega)).trans hH, hh1⟩, ⟨tg, (hf _ (by omega)).trans hT, ht1⟩, ⟨fi, (hf _ (by omega)).trans hI⟩, hS.kept (fun x y1 y2 => hf x (by omega)), ⟨f8, (hf _ (by omega)).trans h138⟩, ⟨f9, (hf _ (by omega)).trans h139⟩, ⟨f0, (hf _ (by omega)).trans h140⟩, hq⟩
def JJ (μ : am_M) : Prop := ∃ b C rem hs, Bx μ b C rem hs ∧ Mx μ b C rem hs
def lc (YA YB : am_Y) (mk : Int → Value) (av : List Value) (N : Nat) (μ : am_M) : Prop := ∃ (v : Int) (K : am_M → Prop), am_Met YA (.ref 0 :: av) N μ (fun r N2 μ2 => r = some (mk v) ∧ N = N2 ∧ K μ2) ∧ ∀ μ2, K μ2 → (∃ fs, μ2 120 = am_O 10 fs) ∧ ∃ K2 : am_M → Prop, am_Met YB (.ref 120 :: av) N μ2 (fun r N2 μ3 => r = some (mk v) ∧ N = N2 ∧ K2 μ3) ∧ ∀ μ3, K2 μ3 → JJ μ3
section
variable {N : Nat} {μ : am_M} {b : List Int} {C : Snap} {rem : Nat} {hs : Nat → Snap}
theorem lc_act {YA YB : am_Y} {mk : Int → Value} {av : List Value} {v : Int} {b2 : List Int} {C2 : Snap} {rem2 : Nat} {hs2 : Nat → Snap} (hM : Mx μ b C rem hs) (h1 : am_Met YA (.ref 0 :: av) N μ (bpost N μ (mk v) b2 C2 rem2 hs2)) (h2 : ∀ μ2, Mx μ2 b C rem hs → am_Met YB (.ref 120 :: av) N μ2 (mq N μ2 (mk v) b2 C2 rem2 hs2)) : lc YA YB mk av N μ := by
  refine ⟨v, fun μ2 => Bx μ2 b2 C2 rem2 hs2 ∧ ∀ x, 120 ≤ x → μ2 x = μ x, h1, fun μ2 hk => ?_⟩
  have hM2 := hM.kept hk.2
  obtain ⟨⟨zm, zd, ze, zi, zu, zc, zg, hO⟩, -⟩ := id hM2
  exact ⟨⟨_, hO⟩, fun μ3 => Mx μ3 b2 C2 rem2 hs2 ∧ ∀ x, x < 120 → μ3 x = μ2 x, h2 μ2 hM2, fun μ3 hk3 => ⟨b2, C2, rem2, hs2, hk.1.keptA hk3.2, hk3.1⟩⟩
theorem lc_ask {YA YB : am_Y} {mk : Int → Value} {av : List Value} {v : Int} (hB : Bx μ b C rem hs) (hM : Mx μ b C rem hs) (h1 : am_Met YA (.ref 0 :: av) N μ (am_pv (mk v) N μ)) (h2 : am_Met YB (.ref 120 :: av) N μ (mq N μ (mk v) b C rem hs)) : lc YA YB mk av N μ := by
  refine ⟨v, fun μ2 => μ = μ2, h1, fun μ2 hk => ?_⟩
  subst hk
  obtain ⟨⟨zm, zd, ze, zi, zu, zc, zg, hO⟩, -⟩ := id hM
  exact ⟨⟨_, hO⟩, fun μ3 => Mx μ3 b C rem hs ∧ ∀ x, x < 120 → μ3 x = μ x, h2, fun μ3 hk3 => ⟨b, C, rem, hs, hB.keptA hk3.2, hk3.1⟩⟩
theorem lc_type (hB : Bx μ b C rem hs) (hM : Mx μ b C rem hs) (hN : 141 ≤ N) {k : Int} (hk : -2147483648 ≤ k ∧ k ≤ 2147483647) : lc YX9_type YX10_type am_i [am_i k] N μ := by
  exact lc_act hM (cx_type hB (by omega) hk) (fun μ2 h => cy_type h hN hk)
theorem lc_clear (hB : Bx μ b C rem hs) (hM : Mx μ b C rem hs) (hN : 141 ≤ N)   : lc YX9_clear YX10_clear am_i [] N μ := by
  exact lc_act hM (cx_clear hB (by omega)) (fun μ2 h => cy_clear h hN)
theorem lc_read (hB : Bx μ b C rem hs) (hM : Mx μ b C rem hs) (hN : 141 ≤ N) {k : Int} (hk : -2147483648 ≤ k ∧ k ≤ 2147483647) : lc YX9_read YX10_read am_i [am_i k] N μ := by
  by_cases hkp : 0 ≤ k ∧ k < 4
  · obtain ⟨p, rfl⟩ : ∃ p : Nat, k = (p : Int) := ⟨k.toNat, by omega⟩
    have hp : p < 4 := by omega
    obtain ⟨-, -, -, -, -, -, -, -, -, -, hb1, hb2, -⟩ := id hM
    by_cases hg : gwb b = -9
    · by_cases hl : lets (uf b 0) ≤ 300
      · exact lc_act hM (cx_readP hB (by omega) hp (gtu_tgood hb1 hb2) hg hl) (fun μ2 h => cy_readP h hN hp (gtu_of hg hb1 hb2) hg hl)
      · exact lc_act hM (cx_readF hB (by omega) hp (gtu_tgood hb1 hb2) hg (by omega)) (fun μ2 h => cy_readF h hN hp (gtu_of hg hb1 hb2) hg (by omega))
    · exact lc_act hM (cx_readW hB (by omega) hp hg) (fun μ2 h => cy_readW h hN hp hg)
  · exact lc_act hM (cx_readN hB (by omega) hk hkp) (fun μ2 h => cy_readN h hN hk hkp)
theorem lc_copy (hB : Bx μ b C rem hs) (hM : Mx μ b C rem hs) (hN : 141 ≤ N) {k l : Int} (hk : -2147483648 ≤ k ∧ k ≤ 2147483647) (hl : -2147483648 ≤ l ∧ l ≤ 2147483647) : lc YX9_copy YX10_copy am_i [am_i k, am_i l] N μ := by
  by_cases hkp : 0 ≤ k ∧ k < 4
  · obtain ⟨p, rfl⟩ : ∃ p : Nat, k = (p : Int) := ⟨k.toNat, by omega⟩
    have hp : p < 4 := by omega
    by_cases hlp : 0 ≤ l ∧ l < 4
    · obtain ⟨pb, rfl⟩ : ∃ pb : Nat, l = (pb : Int) := ⟨l.toNat, by omega⟩
      have hpb : pb < 4 := by omega
      by_cases hq : p = pb
      · subst hq
        exact lc_act hM (cx_copyS hB (by omega) hp) (fun μ2 h => cy_copyP h hN hp hp)
      · exact lc_act hM (cx_copyP hB (by omega) hp hpb hq) (fun μ2 h => cy_copyP h hN hp hpb)
    · exact lc_act hM (cx_copyN3 hB (by omega) hl hlp hp) (fun μ2 h => cy_copyN h hN hk hl (by omega))
  · by_cases hlp : 0 ≤ l ∧ l < 4
    · obtain ⟨pb, rfl⟩ : ∃ pb : Nat, l = (pb : Int) := ⟨l.toNat, by omega⟩
      have hpb : pb < 4 := by omega
      exact lc_act hM (cx_copyN2 hB (by omega) hk hkp hpb) (fun μ2 h => cy_copyN h hN hk hl (by omega))
    · exact lc_act hM (cx_copyN1 hB (by omega) hk hl hkp hlp) (fun μ2 h => cy_copyN h hN hk hl (by omega))
theorem lc_spread (hB : Bx μ b C rem hs) (hM : Mx μ b C rem hs) (hN : 141 ≤ N) {k hi st le : Int} (hk : -2147483648 ≤ k ∧ k ≤ 2147483647) (hhi : -2147483648 ≤ hi ∧ hi ≤ 2147483647) (hst : -2147483648 ≤ st ∧ st ≤ 2147483647) (hle : -2147483648 ≤ le ∧ le ≤ 2147483647) : lc YX9_spread YX10_spread am_i [am_i k, am_i hi, am_i st, am_i le] N μ := by
  by_cases hkp : 0 ≤ k ∧ k < 4
  · obtain ⟨p, rfl⟩ : ∃ p : Nat, k = (p : Int) := ⟨k.toNat, by omega⟩
    have hp : p < 4 := by omega
    by_cases hc : (1 ≤ st ∧ st ≤ 32) ∧ (0 ≤ hi ∧ hi ≤ st) ∧ 0 ≤ hv le
    · have hlc := hv_c hc.2.2
      obtain ⟨h0, rfl⟩ : ∃ h0 : Nat, hi = (h0 : Int) := ⟨hi.toNat, by omega⟩
      obtain ⟨s0, rfl⟩ : ∃ s0 : Nat, st = (s0 : Int) := ⟨st.toNat, by omega⟩
      obtain ⟨l0, rfl⟩ : ∃ l0 : Nat, le = (l0 : Int) := ⟨le.toNat, by omega⟩
      have hg := gtx_sprd (h := h0) (st := s0) (l := l0) (by omega) hc.2.2 (by omega)
      exact lc_act hM (cx_spreadP hB (by omega) hp (by omega) (by omega) (by omega) hc.2.2 (gtx_okx hg)) (fun μ2 h => cy_spreadP h hN hp (by omega) (by omega) (by omega) hc.2.2 hg)
    · exact lc_act hM (cx_spreadN2 hB (by omega) hhi hst hle hp hc) (fun μ2 h => cy_spreadN h hN hk hhi hst hle (fun q => hc q.2))
  · exact lc_act hM (cx_spreadN1 hB (by omega) hk hhi hst hle hkp) (fun μ2 h => cy_spreadN h hN hk hhi hst hle (fun q => hkp q.1))
theorem lc_textOf (hB : Bx μ b C rem hs) (hM : Mx μ b C rem hs) (hN : 141 ≤ N) {k j : Int} (hk : -2147483648 ≤ k ∧ k ≤ 2147483647) (hj : -2147483648 ≤ j ∧ j ≤ 2147483647) : lc YX9_textOf YX10_textOf am_i [am_i k, am_i j] N μ := by
  by_cases hkp : 0 ≤ k ∧ k < 4
  · obtain ⟨p, rfl⟩ : ∃ p : Nat, k = (p : Int) := ⟨k.toNat, by omega⟩
    have hp : p < 4 := by omega
    exact lc_ask hB hM (cq_textOf hB (by omega) hp rfl hj) (cy_textOf hM hN hp rfl hj)
  · exact lc_ask hB hM (cq_textOfN hB (by omega) hk hj hkp) (cy_textOfN hM hN hk hj hkp)
theorem lc_unfolded (hB : Bx μ b C rem hs) (hM : Mx μ b C rem hs) (hN : 141 ≤ N) {k j : Int} (hk : -2147483648 ≤ k ∧ k ≤ 2147483647) (hj : -2147483648 ≤ j ∧ j ≤ 2147483647) : lc YX9_unfolded YX10_unfolded am_i [am_i k, am_i j] N μ := by
  by_cases hkp : 0 ≤ k ∧ k < 4
  · obtain ⟨p, rfl⟩ : ∃ p : Nat, k = (p : Int) := ⟨k.toNat, by omega⟩
    have hp : p < 4 := by omega
    exact lc_ask hB hM (cq_unfolded hB (by omega) hp rfl hj) (cy_unfolded hM hN hp rfl hj)
  · exact lc_ask hB hM (cq_unfoldedN hB (by omega) hk hj hkp) (cy_unfoldedN hM hN hk hj hkp)
theorem lc_setMeter (hB : Bx μ b C rem hs) (hM : Mx μ b C rem hs) (hN : 141 ≤ N) {be va : Int} (hbe : -2147483648 ≤ be ∧ be ≤ 2147483647) (hva : -2147483648 ≤ va ∧ va ≤ 2147483647) : lc YX9_setMeter YX10_setMeter am_i [am_i be, am_i va] N μ := by
  by_cases hc : (1 ≤ be ∧ be ≤ 16) ∧ mv va
  · exact lc_act hM (cx_setMeterP hB (by omega) hc.1 hc.2) (fun μ2 h => cy_setMeterP h hN hc.1 hc.2)
  · exact lc_act hM (cx_setMeterN hB (by omega) hbe hva hc) (fun μ2 h => cy_setMeterN h hN hbe hva hc)
theorem lc_setSwing (hB : Bx μ b C rem hs) (hM : Mx μ b C rem hs) (hN : 141 ≤ N) {sa sb : Int} (hsa : -2147483648 ≤ sa ∧ sa ≤ 2147483647) (hsb : -2147483648 ≤ sb ∧ sb ≤ 2147483647) : lc YX9_setSwing YX10_setSwing am_i [am_i sa, am_i sb] N μ := by
  by_cases hc : (1 ≤ sa ∧ sa ≤ 9) ∧ 1 ≤ sb ∧ sb ≤ 9
  · exact lc_act hM (cx_setSwingP hB (by omega) hc.1 hc.2) (fun μ2 h => cy_setSwingP h hN hc.1 hc.2)
  · exact lc_act hM (cx_setSwingN hB (by omega) hsa hsb hc) (fun μ2 h => cy_setSwingN h hN hsa hsb hc)
theorem lc_events (hB : Bx μ b C rem hs) (hM : Mx μ b C rem hs) (hN : 141 ≤ N) {k : Int} (hk : -2147483648 ≤ k ∧ k ≤ 2147483647) : lc YX9_events YX10_events am_i [am_i k] N μ := by
  by_cases hkp : 0 ≤ k ∧ k < 4
  · obtain ⟨p, rfl⟩ : ∃ p : Nat, k = (p : Int) := ⟨k.toNat, by omega⟩
    have hp : p < 4 := by omega
    exact lc_ask hB hM (cq_events hB (by omega) hp rfl ) (cy_events hM hN hp rfl )
  · exact lc_ask hB hM (cq_eventsN hB (by omega) hk hkp) (cy_eventsN hM hN hk hkp)
theorem lc_length (hB : Bx μ b C rem hs) (hM : Mx μ b C rem hs) (hN : 141 ≤ N) {k w : Int} (hk : -2147483648 ≤ k ∧ k ≤ 2147483647) (hw : -2147483648 ≤ w ∧ w ≤ 2147483647) : lc YX9_length YX10_length am_l [am_i k, am_i w] N μ := by
  by_cases hkp : 0 ≤ k ∧ k < 4
  · obtain ⟨p, rfl⟩ : ∃ p : Nat, k = (p : Int) := ⟨k.toNat, by omega⟩
    have hp : p < 4 := by omega
    exact lc_ask hB hM (cq_length hB (by omega) hp rfl hw) (cy_length hM hN hp rfl hw)
  · exact lc_ask hB hM (cq_lengthN hB (by omega) hk hw hkp) (cy_lengthN hM hN hk hw hkp)
theorem lc_onset (hB : Bx μ b C rem hs) (hM : Mx μ b C rem hs) (hN : 141 ≤ N) {k i w : Int} (hk : -2147483648 ≤ k ∧ k ≤ 2147483647) (hi : -2147483648 ≤ i ∧ i ≤ 2147483647) (hw : -2147483648 ≤ w ∧ w ≤ 2147483647) : lc YX9_onset YX10_onset am_l [am_i k, am_i i, am_i w] N μ := by
  by_cases hkp : 0 ≤ k ∧ k < 4
  · obtain ⟨p, rfl⟩ : ∃ p : Nat, k = (p : Int) := ⟨k.toNat, by omega⟩
    have hp : p < 4 := by omega
    exact lc_ask hB hM (cq_onset hB (by omega) hp rfl hi hw) (cy_onset hM hN hp rfl hi hw)
  · exact lc_ask hB hM (cq_onsetN hB (by omega) hk hi hw hkp) (cy_onsetN hM hN hk hi hw hkp)
theorem lc_lasts (hB : Bx μ b C rem hs) (hM : Mx μ b C rem hs) (hN : 141 ≤ N) {k i w : Int} (hk : -2147483648 ≤ k ∧ k ≤ 2147483647) (hi : -2147483648 ≤ i ∧ i ≤ 2147483647) (hw : -2147483648 ≤ w ∧ w ≤ 2147483647) : lc YX9_lasts YX10_lasts am_l [am_i k, am_i i, am_i w] N μ := by
  by_cases hkp : 0 ≤ k ∧ k < 4
  · obtain ⟨p, rfl⟩ : ∃ p : Nat, k = (p : Int) := ⟨k.toNat, by omega⟩
    have hp : p < 4 := by omega
    exact lc_ask hB hM (cq_lasts hB (by omega) hp rfl hi hw) (cy_lasts hM hN hp rfl hi hw)
  · exact lc_ask hB hM (cq_lastsN hB (by omega) hk hi hw hkp) (cy_lastsN hM hN hk hi hw hkp)
theorem lc_swung (hB : Bx μ b C rem hs) (hM : Mx μ b C rem hs) (hN : 141 ≤ N) {k i w : Int} (hk : -2147483648 ≤ k ∧ k ≤ 2147483647) (hi : -2147483648 ≤ i ∧ i ≤ 2147483647) (hw : -2147483648 ≤ w ∧ w ≤ 2147483647) : lc YX9_swung YX10_swung am_l [am_i k, am_i i, am_i w] N μ := by
  by_cases hkp : 0 ≤ k ∧ k < 4
  · obtain ⟨p, rfl⟩ : ∃ p : Nat, k = (p : Int) := ⟨k.toNat, by omega⟩
    have hp : p < 4 := by omega
    exact lc_ask hB hM (cq_swung hB (by omega) hp rfl hi hw) (cy_swung hM hN hp rfl hi hw)
  · exact lc_ask hB hM (cq_swungN hB (by omega) hk hi hw hkp) (cy_swungN hM hN hk hi hw hkp)
theorem lc_event (hB : Bx μ b C rem hs) (hM : Mx μ b C rem hs) (hN : 141 ≤ N) {k i w : Int} (hk : -2147483648 ≤ k ∧ k ≤ 2147483647) (hi : -2147483648 ≤ i ∧ i ≤ 2147483647) (hw : -2147483648 ≤ w ∧ w ≤ 2147483647) : lc YX9_event YX10_event am_i [am_i k, am_i i, am_i w] N μ := by
  by_cases hkp : 0 ≤ k ∧ k < 4
  · obtain ⟨p, rfl⟩ : ∃ p : Nat, k = (p : Int) := ⟨k.toNat, by omega⟩
    have hp : p < 4 := by omega
    exact lc_ask hB hM (cq_event hB (by omega) hp rfl hi hw) (cy_event hM hN hp rfl hi hw)
  · exact lc_ask hB hM (cq_eventN hB (by omega) hk hi hw hkp) (cy_eventN hM hN hk hi hw hkp)
theorem lc_bars (hB : Bx μ b C rem hs) (hM : Mx μ b C rem hs) (hN : 141 ≤ N) {k : Int} (hk : -2147483648 ≤ k ∧ k ≤ 2147483647) : lc YX9_bars YX10_bars am_i [am_i k] N μ := by
  by_cases hkp : 0 ≤ k ∧ k < 4
  · obtain ⟨p, rfl⟩ : ∃ p : Nat, k = (p : Int) := ⟨k.toNat, by omega⟩
    have hp : p < 4 := by omega
    exact lc_ask hB hM (cq_bars hB (by omega) hp rfl ) (cy_bars hM hN hp rfl )
  · exact lc_ask hB hM (cq_barsN hB (by omega) hk hkp) (cy_barsN hM hN hk hkp)
theorem lc_bar (hB : Bx μ b C rem hs) (hM : Mx μ b C rem hs) (hN : 141 ≤ N) {k i w : Int} (hk : -2147483648 ≤ k ∧ k ≤ 2147483647) (hi : -2147483648 ≤ i ∧ i ≤ 2147483647) (hw : -2147483648 ≤ w ∧ w ≤ 2147483647) : lc YX9_bar YX10_bar am_l [am_i k, am_i i, am_i w] N μ := by
  by_cases hkp : 0 ≤ k ∧ k < 4
  · obtain ⟨p, rfl⟩ : ∃ p : Nat, k = (p : Int) := ⟨k.toNat, by omega⟩
    have hp : p < 4 := by omega
    exact lc_ask hB hM (cq_bar hB (by omega) hp rfl hi hw) (cy_bar hM hN hp rfl hi hw)
  · exact lc_ask hB hM (cq_barN hB (by omega) hk hi hw hkp) (cy_barN hM hN hk hi hw hkp)
theorem lc_wrongBar (hB : Bx μ b C rem hs) (hM : Mx μ b C rem hs) (hN : 141 ≤ N) {k : Int} (hk : -2147483648 ≤ k ∧ k ≤ 2147483647) : lc YX9_wrongBar YX10_wrongBar am_i [am_i k] N μ := by
  by_cases hkp : 0 ≤ k ∧ k < 4
  · obtain ⟨p, rfl⟩ : ∃ p : Nat, k = (p : Int) := ⟨k.toNat, by omega⟩
    have hp : p < 4 := by omega
    exact lc_ask hB hM (cq_wrongBar hB (by omega) hp rfl ) (cy_wrongBar hM hN hp rfl )
  · exact lc_ask hB hM (cq_wrongBarN hB (by omega) hk hkp) (cy_wrongBarN hM hN hk hkp)
theorem lc_syncopation (hB : Bx μ b C rem hs) (hM : Mx μ b C rem hs) (hN : 141 ≤ N) {k : Int} (hk : -2147483648 ≤ k ∧ k ≤ 2147483647) : lc YX9_syncopation YX10_syncopation am_i [am_i k] N μ := by
  by_cases hkp : 0 ≤ k ∧ k < 4
  · obtain ⟨p, rfl⟩ : ∃ p : Nat, k = (p : Int) := ⟨k.toNat, by omega⟩
    have hp : p < 4 := by omega
    exact lc_ask hB hM (cq_syncopation hB (by omega) hp rfl ) (cy_syncopation hM hN hp rfl )
  · exact lc_ask hB hM (cq_syncopationN hB (by omega) hk hkp) (cy_syncopationN hM hN hk hkp)
theorem lc_offGrid (hB : Bx μ b C rem hs) (hM : Mx μ b C rem hs) (hN : 141 ≤ N) {k gr : Int} (hk : -2147483648 ≤ k ∧ k ≤ 2147483647) (hgr : -2147483648 ≤ gr ∧ gr ≤ 2147483647) : lc YX9_offGrid YX10_offGrid am_i [am_i k, am_i gr] N μ := by
  by_cases hkp : 0 ≤ k ∧ k < 4
  · obtain ⟨p, rfl⟩ : ∃ p : Nat, k = (p : Int) := ⟨k.toNat, by omega⟩
    have hp : p < 4 := by omega
    by_cases hg : 1 ≤ gr ∧ gr ≤ 1000
    · exact lc_ask hB hM (cq_offGrid hB (by omega) hp rfl hg) (cy_offGrid hM hN hp rfl hg)
    · exact lc_ask hB hM (cq_offGridB hB (by omega) hp rfl hgr hg) (cy_offGridB hM hN hp rfl hgr hg)
  · exact lc_ask hB hM (cq_offGridN hB (by omega) hk hgr hkp) (cy_offGridN hM hN hk hgr hkp)
theorem lc_leastGrid (hB : Bx μ b C rem hs) (hM : Mx μ b C rem hs) (hN : 141 ≤ N) {k : Int} (hk : -2147483648 ≤ k ∧ k ≤ 2147483647) : lc YX9_leastGrid YX10_leastGrid am_i [am_i k] N μ := by
  by_cases hkp : 0 ≤ k ∧ k < 4
  · obtain ⟨p, rfl⟩ : ∃ p : Nat, k = (p : Int) := ⟨k.toNat, by omega⟩
    have hp : p < 4 := by omega
    exact lc_ask hB hM (cq_leastGrid hB (by omega) hp rfl ) (cy_leastGrid hM hN hp rfl )
  · exact lc_ask hB hM (cq_leastGridN hB (by omega) hk hkp) (cy_leastGridN hM hN hk hkp)
theorem lc_times (hB : Bx μ b C rem hs) (hM : Mx μ b C rem hs) (hN : 141 ≤ N)   : lc YX9_times YX10_times am_i [] N μ := by
  exact lc_act hM (cq_times hB (by omega)) (fun μ2 h => cy_times h hN)
theorem lc_time (hB : Bx μ b C rem hs) (hM : Mx μ b C rem hs) (hN : 141 ≤ N) {i w : Int} (hi : -2147483648 ≤ i ∧ i ≤ 2147483647) (hw : -2147483648 ≤ w ∧ w ≤ 2147483647) : lc YX9_time YX10_time am_l [am_i i, am_i w] N μ := by
  by_cases hc : 0 ≤ i ∧ 0 ≤ w ∧ w ≤ 2
  · obtain ⟨j, rfl⟩ : ∃ j : Nat, i = (j : Int) := ⟨i.toNat, by omega⟩
    by_cases h12 : j < 1200
    · exact lc_act hM (cq_time hB (by omega) h12 hc.2) (fun μ2 h => cy_time h hN (by omega) hc.2)
    · obtain ⟨-, -, -, -, -, -, -, -, -, -, -, -, hC, -⟩ := id hM
      have hbig : tmo (xs_ C) j w 0 = -1 := tmo_big (fun k hk => gtx_pok (hC.1 k hk)) (by omega) 1201 0 (Nat.le_refl _) (Nat.zero_le _)
      refine lc_act (v := -1) hM (cq_timeN hB (by omega) hi hw (by omega)) (fun μ2 h => ?_)
      have hgo := cy_time h hN (i := j) (by omega) hc.2
      rw [hbig] at hgo
      exact hgo
  · exact lc_act hM (cq_timeN hB (by omega) hi hw (by omega)) (fun μ2 h => cy_timeN h hN hi hw hc)
theorem lc_cycle (hB : Bx μ b C rem hs) (hM : Mx μ b C rem hs) (hN : 141 ≤ N) {k l w : Int} (hk : -2147483648 ≤ k ∧ k ≤ 2147483647) (hl : -2147483648 ≤ l ∧ l ≤ 2147483647) (hw : -2147483648 ≤ w ∧ w ≤ 2147483647) : lc YX9_cycle YX10_cycle am_l [am_i k, am_i l, am_i w] N μ := by
  by_cases hkp : 0 ≤ k ∧ k < 4
  · obtain ⟨p, rfl⟩ : ∃ p : Nat, k = (p : Int) := ⟨k.toNat, by omega⟩
    have hp : p < 4 := by omega
    by_cases hlp : 0 ≤ l ∧ l < 4
    · obtain ⟨pb, rfl⟩ : ∃ pb : Nat, l = (pb : Int) := ⟨l.toNat, by omega⟩
      have hpb : pb < 4 := by omega
      exact lc_ask hB hM (cq_cycle hB (by omega) hp hpb rfl rfl hw) (cy_cycle hM hN hp hpb rfl rfl hw)
    · exact lc_ask hB hM (cq_cycleN3 hB (by omega) hl hw hlp hp) (cy_cycleN hM hN hk hl hw (by omega))
  · by_cases hlp : 0 ≤ l ∧ l < 4
    · obtain ⟨pb, rfl⟩ : ∃ pb : Nat, l = (pb : Int) := ⟨l.toNat, by omega⟩
      have hpb : pb < 4 := by omega
      exact lc_ask hB hM (cq_cycleN2 hB (by omega) hk hw hkp hpb) (cy_cycleN hM hN hk hl hw (by omega))
    · exact lc_ask hB hM (cq_cycleN1 hB (by omega) hk hl hw hkp hlp) (cy_cycleN hM hN hk hl hw (by omega))
theorem lc_meets (hB : Bx μ b C rem hs) (hM : Mx μ b C rem hs) (hN : 141 ≤ N) {k l : Int} (hk : -2147483648 ≤ k ∧ k ≤ 2147483647) (hl : -2147483648 ≤ l ∧ l ≤ 2147483647) : lc YX9_meets YX10_meets am_i [am_i k, am_i l] N μ := by
  by_cases hkp : 0 ≤ k ∧ k < 4
  · obtain ⟨p, rfl⟩ : ∃ p : Nat, k = (p : Int) := ⟨k.toNat, by omega⟩
    have hp : p < 4 := by omega
    by_cases hlp : 0 ≤ l ∧ l < 4
    · obtain ⟨pb, rfl⟩ : ∃ pb : Nat, l = (pb : Int) := ⟨l.toNat, by omega⟩
      have hpb : pb < 4 := by omega
      exact lc_ask hB hM (cq_meets hB (by omega) hp hpb rfl rfl) (cy_meets hM hN hp hpb rfl rfl)
    · exact lc_ask hB hM (cq_meetsN3 hB (by omega) hl hlp hp) (cy_meetsN hM hN hk hl (by omega))
  · by_cases hlp : 0 ≤ l ∧ l < 4
    · obtain ⟨pb, rfl⟩ : ∃ pb : Nat, l = (pb : Int) := ⟨l.toNat, by omega⟩
      have hpb : pb < 4 := by omega
      exact lc_ask hB hM (cq_meetsN2 hB (by omega) hk hkp hpb) (cy_meetsN hM hN hk hl (by omega))
    · exact lc_ask hB hM (cq_meetsN1 hB (by omega) hk hl hkp hlp) (cy_meetsN hM hN hk hl (by omega))
theorem lc_undo (hB : Bx μ b C rem hs) (hM : Mx μ b C rem hs) (hN : 141 ≤ N)   : lc YX9_undo YX10_undo am_i [] N μ := by
  by_cases hr : rem = 0
  · exact lc_act hM (cx_undoN hB (by omega) hr) (fun μ2 h => cy_undoN h hN hr)
  · exact lc_act hM (cx_undoP hB (by omega) (by omega)) (fun μ2 h => cy_undoP h hN (by omega))
theorem lc_fingerprint (hB : Bx μ b C rem hs) (hM : Mx μ b C rem hs) (hN : 141 ≤ N)   : lc YX9_fingerprint YX10_fingerprint am_l [] N μ := by
  exact lc_ask hB hM (cq_fingerprint hB (by omega)) (cy_fingerprint hM hN)
end
