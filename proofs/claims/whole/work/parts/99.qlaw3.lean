/-! the law's loop -/
section LL
variable {E : EE} {b N0 : Nat} {xs : Nat → Int32}
theorem Lswitch {bc bs : Nat} {G : HG} {d : HD} {i x : Int} (hN : N0 ≤ 3072) (hi : 0 ≤ i) (hi6 : i + 6 ≤ N0) (hG : LG G d) (hbc : 9 ≤ bc) (hbs : 527 ≤ bs) (K : ∀ (G' : HG) (d' : HD), LG G' d' → BW E b N0 xs (bc - 9) (bs - 527) 1131 (LV i) [] G' d') : BW E b N0 xs bc bs 33 (LV i) [kI x] G d := by
  by_cases hout : x < 0 ∨ 28 < x
  · exact B_tsO (tgt := 1131) dL_law_33 (by decide) hout ((K G d hG).more (by omega) (by omega))
  by_cases h0 : x = 0
  · exact B_tsI (tgt := 164) dL_law_33 (by omega) (by omega) (by rw [h0]; rfl) (by decide) (Lc_ring hN hi hi6 hG hbc hbs K)
  by_cases h1 : x = 1
  · exact B_tsI (tgt := 197) dL_law_33 (by omega) (by omega) (by rw [h1]; rfl) (by decide) (Lc_car hN hi hi6 hG hbc hbs K)
  by_cases h2 : x = 2
  · exact B_tsI (tgt := 240) dL_law_33 (by omega) (by omega) (by rw [h2]; rfl) (by decide) (Lc_evenly hN hi hi6 hG hbc hbs K)
  by_cases h3 : x = 3
  · exact B_tsI (tgt := 273) dL_law_33 (by omega) (by omega) (by rw [h3]; rfl) (by decide) (Lc_set hN hi hi6 hG hbc hbs K)
  by_cases h4 : x = 4
  · exact B_tsI (tgt := 316) dL_law_33 (by omega) (by omega) (by rw [h4]; rfl) (by decide) (Lc_told hN hi hi6 hG hbc hbs K)
  by_cases h5 : x = 5
  · exact B_tsI (tgt := 349) dL_law_33 (by omega) (by omega) (by rw [h5]; rfl) (by decide) (Lc_type hN hi hi6 hG hbc hbs K)
  by_cases h6 : x = 6
  · exact B_tsI (tgt := 412) dL_law_33 (by omega) (by omega) (by rw [h6]; rfl) (by decide) (Lc_habit hN hi hi6 hG hbc hbs K)
  by_cases h7 : x = 7
  · exact B_tsI (tgt := 435) dL_law_33 (by omega) (by omega) (by rw [h7]; rfl) (by decide) (Lc_holds hN hi hi6 hG hbc hbs K)
  by_cases h8 : x = 8
  · exact B_tsI (tgt := 458) dL_law_33 (by omega) (by omega) (by rw [h8]; rfl) (by decide) (Lc_board hN hi hi6 hG hbc hbs K)
  by_cases h9 : x = 9
  · exact B_tsI (tgt := 501) dL_law_33 (by omega) (by omega) (by rw [h9]; rfl) (by decide) (Lc_loop hN hi hi6 hG hbc hbs K)
  by_cases h10 : x = 10
  · exact B_tsI (tgt := 524) dL_law_33 (by omega) (by omega) (by rw [h10]; rfl) (by decide) (Lc_looped hN hi hi6 hG hbc hbs K)
  by_cases h11 : x = 11
  · exact B_tsI (tgt := 557) dL_law_33 (by omega) (by omega) (by rw [h11]; rfl) (by decide) (Lc_tap hN hi hi6 hG hbc hbs K)
  by_cases h12 : x = 12
  · exact B_tsI (tgt := 580) dL_law_33 (by omega) (by omega) (by rw [h12]; rfl) (by decide) (Lc_ticks hN hi hi6 hG hbc hbs K)
  by_cases h13 : x = 13
  · exact B_tsI (tgt := 603) dL_law_33 (by omega) (by omega) (by rw [h13]; rfl) (by decide) (Lc_count hN hi hi6 hG hbc hbs K)
  by_cases h14 : x = 14
  · exact B_tsI (tgt := 626) dL_law_33 (by omega) (by omega) (by rw [h14]; rfl) (by decide) (Lc_knot hN hi hi6 hG hbc hbs K)
  by_cases h15 : x = 15
  · exact B_tsI (tgt := 659) dL_law_33 (by omega) (by omega) (by rw [h15]; rfl) (by decide) (Lc_first hN hi hi6 hG hbc hbs K)
  by_cases h16 : x = 16
  · exact B_tsI (tgt := 672) dL_law_33 (by omega) (by omega) (by rw [h16]; rfl) (by decide) (Lc_cost hN hi hi6 hG hbc hbs K)
  by_cases h17 : x = 17
  · exact B_tsI (tgt := 715) dL_law_33 (by omega) (by omega) (by rw [h17]; rfl) (by decide) (Lc_after hN hi hi6 hG hbc hbs K)
  by_cases h18 : x = 18
  · exact B_tsI (tgt := 748) dL_law_33 (by omega) (by omega) (by rw [h18]; rfl) (by decide) (Lc_calmed hN hi hi6 hG hbc hbs K)
  by_cases h19 : x = 19
  · exact B_tsI (tgt := 781) dL_law_33 (by omega) (by omega) (by rw [h19]; rfl) (by decide) (Lc_round hN hi hi6 hG hbc hbs K)
  by_cases h20 : x = 20
  · exact B_tsI (tgt := 804) dL_law_33 (by omega) (by omega) (by rw [h20]; rfl) (by decide) (Lc_evens hN hi hi6 hG hbc hbs K)
  by_cases h21 : x = 21
  · exact B_tsI (tgt := 827) dL_law_33 (by omega) (by omega) (by rw [h21]; rfl) (by decide) (Lc_image hN hi hi6 hG hbc hbs K)
  by_cases h22 : x = 22
  · exact B_tsI (tgt := 850) dL_law_33 (by omega) (by omega) (by rw [h22]; rfl) (by decide) (Lc_restore hN hi hi6 hG hbc hbs K)
  by_cases h23 : x = 23
  · exact B_tsI (tgt := 873) dL_law_33 (by omega) (by omega) (by rw [h23]; rfl) (by decide) (Lc_paces hN hi hi6 hG hbc hbs K)
  by_cases h24 : x = 24
  · exact B_tsI (tgt := 916) dL_law_33 (by omega) (by omega) (by rw [h24]; rfl) (by decide) (Lc_taps hN hi hi6 hG hbc hbs K)
  by_cases h25 : x = 25
  · exact B_tsI (tgt := 949) dL_law_33 (by omega) (by omega) (by rw [h25]; rfl) (by decide) (Lc_sheet hN hi hi6 hG hbc hbs K)
  by_cases h26 : x = 26
  · exact B_tsI (tgt := 992) dL_law_33 (by omega) (by omega) (by rw [h26]; rfl) (by decide) (Lc_drop hN hi hi6 hG hbc hbs K)
  by_cases h27 : x = 27
  · exact B_tsI (tgt := 1015) dL_law_33 (by omega) (by omega) (by rw [h27]; rfl) (by decide) (Lc_item hN hi hi6 hG hbc hbs K)
  have h28 : x = 28 := by omega
  exact B_tsI (tgt := 1068) dL_law_33 (by omega) (by omega) (by rw [h28]; rfl) (by decide) (Lc_copy hN hi hi6 hG hbc hbs K)
theorem Lloop (hN : N0 ≤ 3072) : ∀ (f : Nat) (bc bs : Nat) (G : HG) (d : HD) (i : Int), 0 ≤ i → i ≤ 3072 → 3072 ≤ i + 6 * f → LG G d → 9 * f ≤ bc → 527 * f ≤ bs → BW E b N0 xs bc bs 18 (LV i) [] G d := by
  intro f
  induction f with
  | zero =>
    intro bc bs G d i h1 h2 h3 hG h4 h5
    unfold LV
    refine B_iload_n dL_law_18 rfl rfl ?_
    refine B_slen dL_law_19 dL_law_20 hN ?_
    refine B_bipush dL_law_21 ⟨by decide, by decide⟩ rfl ?_
    refine B_isub_ok dL_law_23 (by omega) (by omega) ?_
    refine B_icmp_gt (tgt := 1137) dL_law_24 (by decide) (fun c_24 => ?_) (fun c_24 => absurd c_24 (by omega))
    exact B_end dL_law_1137 dL_law_1138
  | succ f ih =>
    intro bc bs G d i h1 h2 h3 hG h4 h5
    have K : i + 6 ≤ N0 → ∀ (G' : HG) (d' : HD), LG G' d' → BW E b N0 xs (bc - 9) (bs - 527) 1131 (LV i) [] G' d' := by
      intro hi6 G' d' hG'
      unfold LV
      refine B_iinc_ok dL_law_1131 rfl rfl (by omega) (by omega) (by decide) ?_
      refine B_goto (tgt := 18) dL_law_1134 (by decide) ?_
      exact ih _ _ G' d' (i + 6) (by omega) (by omega) (by omega) hG' (by omega) (by omega)
    unfold LV
    refine B_iload_n dL_law_18 rfl rfl ?_
    refine B_slen dL_law_19 dL_law_20 hN ?_
    refine B_bipush dL_law_21 ⟨by decide, by decide⟩ rfl ?_
    refine B_isub_ok dL_law_23 (by omega) (by omega) ?_
    refine B_icmp_gt (tgt := 1137) dL_law_24 (by decide) (fun c_24 => ?_) (fun c_24 => ?_)
    · exact B_end dL_law_1137 dL_law_1138
    · refine B_scr0 dL_law_27 dL_law_28 dL_law_29 rfl hN (by omega) (by omega) ?_
      refine B_bipush dL_law_30 ⟨by decide, by decide⟩ rfl ?_
      refine B_iand dL_law_32 ?_
      -- switch at 33: .tableswitch 1098 0 28 #[131, 164, 207, 240, 283, 316, 379, 402, 425, 468, 491, 524, 547, 570, 593, 626, 639, 682, 715, 748, 771, 794, 817, 840, 883, 916, 959, 982, 1035]
      exact Lswitch hN h1 (by omega) hG (by omega) (by omega) (K (by omega))
end LL
/-! the law's start -/
def R00 : Int → Int := fun q => if q = 0 then 30 else if q = 1 then 5 else if q = 4 then -4 else 0
theorem R00_0 {q : Int} (h0 : q ≠ 0) (h1 : q ≠ 1) (h4 : q ≠ 4) : R00 q = 0 := by unfold R00; rw [if_neg h0, if_neg h1, if_neg h4]
theorem LG_start {G0 G : HG} {d0 d d2 : HD} (hn : G0.1 = 169) (hF : KF 169 G0 d0) (hP : OP (kNew G0 7 0) (kNewD G0 d0) (G0.1 + 1) moF moK moL G d2 14) (hd : ∀ b, b ≠ G0.1 + 1 + 1 → b ≠ G0.1 + 1 + 5 → d b = d2 b) (hz : ∀ q, d2 (G0.1 + 1) q = 0) (h1 : ∀ q, d (G0.1 + 1 + 1) q = if q = 0 then 30 else if q = 1 then 5 else if q = 4 then -4 else 0) (h5 : ∀ q : Int, 0 ≤ q → q < 4 → d (G0.1 + 1 + 5) q = -1) : LG G d := by
  obtain ⟨e1, e2⟩ := hP.ex
  have g12 : GQ G0 G := GQ.of (by omega) (fun b hb => ⟨(e2 b hb).1, (e2 b hb).2.1⟩)
  have F : KF 169 G d := hF.gq g12 (fun b hb => by rw [hd b (by omega) (by omega)]; exact (e2 b (by omega)).2.2) (fun f _ => by rw [(e2 1 (by omega)).2.1]) (fun f _ => by rw [(e2 2 (by omega)).2.1]) (fun s _ => by rw [(e2 8 (by omega)).2.1])
  obtain ⟨p1, p2, p3, p4, p5⟩ := hP
  have oc : isO G (G0.1 + 1) 7 := ⟨by omega, by omega, by rw [p2 _ (Nat.le_refl _)]; exact (nw_nO (G := G0) (ka := 7)).2.2⟩
  rw [hn] at p1 p4 p5 hd hz h1 h5 oc
  obtain ⟨o1, x13, x14, x15, x19, x20, x29, x62, x95, x128, x161, xs⟩ := F
  obtain ⟨hRO, z2⟩ := x13 (by omega)
  obtain ⟨f3, a14⟩ := x14 (by omega)
  obtain ⟨f4, a15, z15⟩ := x15 (by omega)
  obtain ⟨f5, hKO⟩ := x19 (by omega)
  obtain ⟨f6, a20⟩ := x20 (by omega)
  obtain ⟨h29, f0⟩ := x29 (by omega)
  obtain ⟨f1, r30, s32, z30⟩ := x62 (by omega)
  obtain ⟨f2, r63⟩ := x95 (by omega)
  obtain ⟨g0, r96⟩ := x128 (by omega)
  obtain ⟨g1, r129⟩ := x161 (by omega)
  have X : XG G := ⟨⟨o1, f0, f1, f2, f3, f4, f5, f6⟩, hRO, hKO, ⟨a20, fun s hs => by obtain ⟨y1, y2, y3, y4, -⟩ := xs s hs (by omega); exact ⟨y1, y2, y3, y4⟩⟩, r30, r63, r96, r129, ⟨a14, g0, g1⟩, a15, by omega⟩
  have hM : MO G 170 := by
    obtain ⟨u1, v1⟩ := p5 1 (by omega) (by omega)
    obtain ⟨u2, v2⟩ := p5 2 (by omega) (by omega)
    obtain ⟨u3, v3⟩ := p5 3 (by omega) (by omega)
    obtain ⟨u4, v4⟩ := p5 4 (by omega) (by omega)
    obtain ⟨u5, v5⟩ := p5 5 (by omega) (by omega)
    obtain ⟨u6, v6⟩ := p5 6 (by omega) (by omega)
    obtain ⟨u7, v7⟩ := p5 7 (by omega) (by omega)
    obtain ⟨u8, v8⟩ := p5 8 (by omega) (by omega)
    obtain ⟨u9, v9⟩ := p5 9 (by omega) (by omega)
    obtain ⟨u10, v10⟩ := p5 10 (by omega) (by omega)
    obtain ⟨u11, v11⟩ := p5 11 (by omega) (by omega)
    obtain ⟨u12, v12⟩ := p5 12 (by omega) (by omega)
    obtain ⟨u13, v13⟩ := p5 13 (by omega) (by omega)
    obtain ⟨u14, v14⟩ := p5 14 (by omega) (by omega)
    exact ⟨oc, u1, v1, u2, v2, u3, v3, u4, v4, u5, v5, u6, v6, u7, v7, u8, v8, u9, v9, u10, v10, u11, v11, u12, v12, u13, v13, u14, v14⟩
  refine ⟨X, hM, by omega, R00, (fun _ => -1, fun _ => 0, fun _ _ => 0), 0, fun _ => 0, fun _ => 0, fun _ _ => 0, ⟨?_, ?_, ?_, ?_, ?_⟩, ⟨?_, ?_, ?_, ?_⟩, ?_⟩
  · refine ⟨⟨z30 0, z30 1, z30 2, z30 3, z30 4, z30 5, z30 6⟩, fun c hc => ?_, fun c c1 c2 => ?_, fun c c1 c2 => ?_⟩
    · have : R00 2 = 0 := rfl
      omega
    · have : R00 5 = 0 := rfl
      omega
    · have : R00 6 = 0 := rfl
      omega
  · intro h hh
    rw [s32 h hh]
    refine ⟨Or.inl rfl, 0, 0, h29, (R00_0 (by omega) (by omega) (by omega)).symm, fun i i1 i2 => by omega, fun g dd oo v v1 v2 => ?_⟩
    have ec : chA d 21 0 g dd oo v = -4 := rfl
    have el : clS R00 h g dd oo v = (-4, v, 0) := by
      unfold clS
      rw [show R00 (37 + (h : Int)) = 0 from R00_0 (by omega) (by omega) (by omega)]
      rfl
    rw [ec, el]
    exact ⟨rfl, fun z => by omega, fun _ => ⟨rfl, rfl⟩⟩
  · intro s hs
    obtain ⟨-, -, -, -, y5, y6⟩ := xs s hs (by omega)
    exact ⟨y5 0, y5 1, fun i _ _ => y6 i⟩
  · exact ⟨z2 1, fun i i1 i2 => by omega⟩
  · exact fun n _ => ⟨z15 n, fun h => absurd rfl h⟩
  · intro k k1 k2
    have := h1 (640 * 0 + k)
    rw [show (640 * 0 + k : Int) = k by omega] at this ⊢
    exact this
  · intro s s1 s2
    exact ⟨h5 s s1 s2, by rw [hd 176 (by omega) (by omega)]; exact p4 176 (by omega) (by omega) s, fun i _ _ => by rw [hd 174 (by omega) (by omega)]; exact p4 174 (by omega) (by omega) _⟩
  · exact ⟨by rw [hd 170 (by omega) (by omega)]; exact hz 3, fun i i1 i2 => by omega⟩
  · exact fun n _ => ⟨by rw [hd 172 (by omega) (by omega)]; exact p4 172 (by omega) (by omega) n, fun h => absurd rfl h⟩
  · have e0 : R00 0 = 30 := rfl
    have e1 : R00 1 = 5 := rfl
    have e2 : R00 2 = 0 := rfl
    have e3 : R00 3 = 0 := rfl
    have e5 : R00 5 = 0 := rfl
    have e6 : R00 6 = 0 := rfl
    refine ⟨⟨by omega, by omega, by omega, by omega, fun c c1 c2 => by omega, ⟨by omega, by omega, fun c c1 c2 => by omega⟩, ⟨by omega, by omega, fun c c1 c2 => by omega⟩, fun h h1 h2 => ?_, fun c e c1 c2 => by omega⟩, by omega, fun s _ _ => ?_, by omega, fun n _ => ⟨Or.inl rfl, fun h => absurd rfl h⟩⟩
    · have e7 : R00 (34 + h) = 0 := R00_0 (by omega) (by omega) (by omega)
      exact ⟨by omega, by omega, Or.inl (R00_0 (by omega) (by omega) (by omega))⟩
    · exact ⟨by show (-1 : Int) ≤ -1; omega, by show (-1 : Int) ≤ 2; omega, by show (0 : Int) ≤ 0; omega, by show (0 : Int) ≤ 36; omega, fun h => absurd (show (-1 : Int) = 0 from h) (by omega)⟩
section LS
variable {E : EE} {b N0 : Nat} {xs : Nat → Int32}
theorem Lbegin {G : HG} {d : HD} (hN : N0 ≤ 3072) (hG : G.1 = 0) : BW E b N0 xs 600000 7302250 0 [none, none, none, none] [] G d := by
  refine B_new dL_law_0 kCl_6 cl_L_7 in_X6 it_X6 (by decide) (by decide) ?_
  have eg : G.1 + 1 = 1 := by omega
  have nO := nw_nO (G := G) (ka := 6)
  rw [eg] at nO ⊢
  refine BW.more (bc' := 5000 + 168) (bs' := 300000 + 2835) (by decide) (by decide) ?_
  refine B_dup dL_law_3 (fun B => toV_cat B _) ?_
  refine B_ini (k := 40) (bc' := 168) (bs' := 2835) [] (Nat.le_of_ble_eq_true rfl) dL_law_4 mc_L_9 rfl rfl (Nat.le_of_ble_eq_true rfl) (by omega) (by omega) (by omega) ?_
  refine C_knotRingInit (k := 37) nO (by show G.1 + 1 = 1; omega) (fun G1 d1 hn hF => ?_)
  refine BW.more (bc' := 5000) (bs' := 300000) (by decide) (by decide) ?_
  refine B_astore_n dL_law_7 rfl (Nat.le_of_ble_eq_true rfl) rfl (by omega) (by decide) ?_
  refine B_new dL_law_8 kCl_7 cl_L_10 in_X7 it_X7 (by decide) (by decide) ?_
  refine BW.more (bc' := 4900 + 14) (bs' := 290000 + 3553) (by decide) (by decide) ?_
  refine B_dup dL_law_11 (fun B => toV_cat B _) ?_
  refine B_ini (k := 40) (bc' := 14) (bs' := 3553) [] (Nat.le_of_ble_eq_true rfl) dL_law_12 mc_L_12 rfl rfl (Nat.le_of_ble_eq_true rfl) (by omega) (by omega) (by omega) ?_
  refine C_modelInit (k := 39) nw_nO rfl (fun q => nw_0) (fun G2 d' d2 hP e1 e2 e3 e4 => ?_)
  refine BW.more (bc' := 4900) (bs' := 290000) (by decide) (by decide) ?_
  have hL := LG_start hn hF hP e1 e2 e3 e4
  rw [hn]
  refine B_astore_n dL_law_15 rfl (Nat.le_of_ble_eq_true rfl) rfl (by omega) (by decide) ?_
  refine B_iconst dL_law_16 ⟨by decide, by decide⟩ ?_
  refine B_istore_n dL_law_17 rfl (Nat.le_of_ble_eq_true rfl) rfl (by decide) ?_
  exact Lloop hN 512 4900 290000 G2 d' 0 (by omega) (by omega) (by omega) hL (by omega) (by omega)
end LS
