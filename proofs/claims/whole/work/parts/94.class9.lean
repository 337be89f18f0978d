section CL9
variable {E : EE} {k : Nat} {G : HG} {d : HD} {K : PQ} {R T im : Int → Int} {S : SS} {tp : Int} {I : Int → Int → Int}
theorem M_image {n : Int} (X : XG G) (C : CI G d R S tp T im I) (W : WI R S tp im I) (hB : ¬ (0 ≤ n ∧ n ≤ 1) → K (some (kI (-1))) G d) (hO : (0 ≤ n ∧ n ≤ 1) → ∀ (G' : HG) (d' : HD), GS G G' → G'.1 = G.1 → FM d d' → CI G' d' R S tp T (fU im n 1) (fun q => if q = n then R else I q) → K (some (kI 1)) G' d') : AM E mX6_image (k + 3) 0 0 [kR 1, kI n] G d K := by
  obtain ⟨⟨o1, r0, r1, r2, r3, r4, -⟩, -, -, -, g30, g63, g96, g129, ⟨i14, f0, f1⟩, i15, hn⟩ := id X
  have o30 := g30.1
  have w2 := W.1.2.2.1
  have wv := W.1.2.2.2.2.2.2.2.1
  refine AM.of rfl (Nat.le_of_ble_eq_true rfl) ?_
  refine A_iload_n dX6_image_0 rfl rfl ?_
  refine A_iconst dX6_image_1 ⟨by decide, by decide⟩ ?_
  refine A_iconst dX6_image_2 ⟨by decide, by decide⟩ ?_
  refine A_ins3 dX6_image_3 ms_X6_59 (Nat.le_of_ble_eq_true rfl) ?_
  refine C_within ?_
  refine A_if_ne (tgt := 11) dX6_image_6 (by decide) (fun c_6 => ?_) (fun c_6 => ?_)
  · have z := i01n c_6
    have hO := hO z
    obtain ⟨q, hq⟩ : ∃ q : Nat, n = q := ⟨n.toNat, by omega⟩
    subst hq
    have gq : RG G (96 + 33 * q) := by rcases (show q = 0 ∨ q = 1 by omega) with rfl | rfl; exact g96; exact g129
    have eq : G.2.2 2 (q : Int) = 96 + 33 * q := by rcases (show q = 0 ∨ q = 1 by omega) with rfl | rfl; exact f0; exact f1
    have oq := gq.1
    replace c_6 := i01n c_6
    refine A_aload_n dX6_image_11 rfl rfl ?_
    refine A_getR (fi := 3) dX6_image_12 fg_X6_11 rfl rfl (by assumption) (by assumption) ?_
    refine A_iload_n dX6_image_15 rfl rfl ?_
    refine A_aald (t := 4) dX6_image_16 (fun _ => rfl) (by decide) (by assumption) (by omega) (by omega) (by assumption) ?_
    refine A_aload_n dX6_image_17 rfl rfl ?_
    refine A_getR (fi := 1) dX6_image_18 fg_X6_47 rfl rfl (by assumption) (by assumption) ?_
    refine A_inv1 dX6_image_21 mv_X6_227 kCl_4 (Nat.le_of_ble_eq_true rfl) (by assumption) ?_
    refine C_takeFrom gq g30 (by omega) C.1 W.1 C.2.1.o (fun G1 d1 g m v => ?_)
    have gs := g.gs (show 96 + 33 * q = 30 ∨ 96 + 33 * q = 63 ∨ 96 + 33 * q = 96 ∨ 96 + 33 * q = 129 by omega)
    obtain ⟨⟨x1, t0, t1, t2, t3, t4, -⟩, -, -, -, -, -, -, -, -, j15, -⟩ := id (X.gs gs)
    have dd : ∀ a, a ≠ 3 → (a < 96 + 33 * q ∨ 96 + 33 * q + 33 ≤ a) → kU d1 3 q 1 a = d a := fun a a1 a2 => by rw [kU_ne a1]; exact m a a2
    have fin := hO G1 (kU d1 3 q 1) gs g.1 (fun a a1 a2 => dd a (by omega) (by omega)) ⟨C.1.cd w2.2 (fun a a1 a2 => dd a (by omega) (by omega)), C.2.1.mv gs (fun h _ => by rw [g.2.2.1 32 (by omega)]) wv (fun _ _ _ => rfl) (fun a ha => dd a (by omega) (by omega)), fun s hs => by rw [dd (162 + 2 * s) (by omega) (by omega), dd (163 + 2 * s) (by omega) (by omega)]; exact C.2.2.1 s hs, ⟨by rw [dd 9 (by omega) (by omega)]; exact C.2.2.2.1.1, fun i i1 i2 => by rw [dd 10 (by omega) (by omega)]; exact C.2.2.2.1.2 i i1 i2⟩, fun p hp => ?_⟩
    · refine A_aload_n dX6_image_24 rfl rfl ?_
      refine A_getR (fi := 4) dX6_image_25 fg_X6_15 rfl rfl (by assumption) (by assumption) ?_
      refine A_iload_n dX6_image_28 rfl rfl ?_
      refine A_iconst dX6_image_29 ⟨by decide, by decide⟩ ?_
      refine A_zast dX6_image_30 (by assumption) (by omega) (by omega) (by first | exact Or.inl rfl | exact Or.inr rfl | assumption | omega) ?_
      refine A_iconst dX6_image_31 ⟨by decide, by decide⟩ ?_
      refine A_iret dX6_image_32 rfl ?_
      exact fin
    · by_cases zz : p = q
      · subst zz
        rw [kU_s, fU_s]
        refine ⟨rfl, fun _ => ?_⟩
        show CV _ _ (if (p : Int) = p then R else I p) ∧ HQ _ _ _ (if (p : Int) = p then R else I p)
        rw [if_pos rfl]
        refine ⟨v.cd w2.2 (fun a a1 a2 => kU_ne (by omega)), ?_⟩
        exact (g.HQ (by omega) C.2.1 wv m).mv GS.rf (fun _ _ => rfl) wv (fun _ _ _ => rfl) (fun a ha => kU_ne (by omega))
      · rw [kU_f (by omega), fU_n (by omega), m 3 (by omega)]
        obtain ⟨c1, c2⟩ := C.2.2.2.2 p hp
        refine ⟨c1, fun hi => ?_⟩
        obtain ⟨iV, iH⟩ := c2 hi
        have wn := ((W.2.2.2.2 p hp).2 hi).1
        show CV _ _ (if (p : Int) = q then R else I p) ∧ HQ _ _ _ (if (p : Int) = q then R else I p)
        rw [if_neg (by omega)]
        exact ⟨iV.cd wn.2.2.1.2 (fun a a1 a2 => dd a (by omega) (by omega)), iH.mv gs (fun h _ => by rw [g.2.2.1 (96 + 33 * p + 2) (by omega)]) wn.2.2.2.2.2.2.2.1 (fun _ _ _ => rfl) (fun a ha => dd a (by omega) (by omega))⟩
  · have fin := hB (i01e c_6)
    replace c_6 := i01e c_6
    refine A_iconst dX6_image_9 ⟨by decide, by decide⟩ ?_
    refine A_iret dX6_image_10 rfl ?_
    exact fin
theorem M_restore {n : Int} (X : XG G) (C : CI G d R S tp T im I) (W : WI R S tp im I) (hB : ¬ (0 ≤ n ∧ n ≤ 1) → K (some (kI (-1))) G d) (hN : (0 ≤ n ∧ n ≤ 1) → im n = 0 → K (some (kI (-4))) G d) (hO : (0 ≤ n ∧ n ≤ 1) → im n ≠ 0 → ∀ (G' : HG) (d' : HD), GS G G' → G'.1 = G.1 → FM d d' → CI G' d' (I n) S tp T im I → K (some (kI 1)) G' d') : AM E mX6_restore (k + 3) 0 0 [kR 1, kI n] G d K := by
  obtain ⟨⟨o1, r0, r1, r2, r3, r4, -⟩, -, -, -, g30, g63, g96, g129, ⟨i14, f0, f1⟩, i15, hn⟩ := id X
  have o30 := g30.1
  refine AM.of rfl (Nat.le_of_ble_eq_true rfl) ?_
  refine A_iload_n dX6_restore_0 rfl rfl ?_
  refine A_iconst dX6_restore_1 ⟨by decide, by decide⟩ ?_
  refine A_iconst dX6_restore_2 ⟨by decide, by decide⟩ ?_
  refine A_ins3 dX6_restore_3 ms_X6_59 (Nat.le_of_ble_eq_true rfl) ?_
  refine C_within ?_
  refine A_if_ne (tgt := 11) dX6_restore_6 (by decide) (fun c_6 => ?_) (fun c_6 => ?_)
  · have z := i01n c_6
    obtain ⟨q, hq⟩ : ∃ q : Nat, n = q := ⟨n.toNat, by omega⟩
    subst hq
    have gq : RG G (96 + 33 * q) := by rcases (show q = 0 ∨ q = 1 by omega) with rfl | rfl; exact g96; exact g129
    have eq : G.2.2 2 (q : Int) = 96 + 33 * q := by rcases (show q = 0 ∨ q = 1 by omega) with rfl | rfl; exact f0; exact f1
    obtain ⟨c1, c2⟩ := C.2.2.2.2 q (by omega)
    replace c_6 := i01n c_6
    refine A_aload_n dX6_restore_11 rfl rfl ?_
    refine A_getR (fi := 4) dX6_restore_12 fg_X6_15 rfl rfl (by assumption) (by assumption) ?_
    refine A_iload_n dX6_restore_15 rfl rfl ?_
    refine A_zald dX6_restore_16 (by assumption) (by omega) (by omega) ?_
    refine A_if_ne (tgt := 23) dX6_restore_17 (by decide) (fun c_17 => ?_) (fun c_17 => ?_)
    · rw [c1] at c_17
      have hO := hO z c_17
      obtain ⟨iV, iH⟩ := c2 c_17
      have wn := ((W.2.2.2.2 q (by omega)).2 c_17).1
      refine A_aload_n dX6_restore_23 rfl rfl ?_
      refine A_getR (fi := 1) dX6_restore_24 fg_X6_47 rfl rfl (by assumption) (by assumption) ?_
      refine A_aload_n dX6_restore_27 rfl rfl ?_
      refine A_getR (fi := 3) dX6_restore_28 fg_X6_11 rfl rfl (by assumption) (by assumption) ?_
      refine A_iload_n dX6_restore_31 rfl rfl ?_
      refine A_aald (t := 4) dX6_restore_32 (fun _ => rfl) (by decide) (by assumption) (by omega) (by omega) (by assumption) ?_
      refine A_inv1 dX6_restore_33 mv_X6_227 kCl_4 (Nat.le_of_ble_eq_true rfl) (by assumption) ?_
      refine C_takeFrom g30 gq (by omega) iV wn iH.o (fun G1 d1 g m v => ?_)
      have gs := g.gs (by omega)
      have fin := hO G1 d1 gs g.1 (m.fm (by omega)) ⟨v, g.HQ (by omega) iH wn.2.2.2.2.2.2.2.1 m, fun s hs => by rw [m (162 + 2 * s) (by omega), m (163 + 2 * s) (by omega)]; exact C.2.2.1 s hs, ⟨by rw [m 9 (by omega)]; exact C.2.2.2.1.1, fun i i1 i2 => by rw [m 10 (by omega)]; exact C.2.2.2.1.2 i i1 i2⟩, fun p hp => ?_⟩
      · refine A_iconst dX6_restore_36 ⟨by decide, by decide⟩ ?_
        refine A_iret dX6_restore_37 rfl ?_
        exact fin
      · rw [m 3 (by omega)]
        obtain ⟨y1, y2⟩ := C.2.2.2.2 p hp
        refine ⟨y1, fun hi => ?_⟩
        obtain ⟨jV, jH⟩ := y2 hi
        have wp := ((W.2.2.2.2 p hp).2 hi).1
        exact ⟨jV.cd wp.2.2.1.2 (fun a a1 a2 => m a (by omega)), jH.mv gs (fun h _ => by rw [g.2.2.1 (96 + 33 * p + 2) (by omega)]) wp.2.2.2.2.2.2.2.1 (fun _ _ _ => rfl) (fun a ha => m a (by omega))⟩
    · rw [c1] at c_17
      have fin := hN z c_17
      refine A_bipush dX6_restore_20 ⟨by decide, by decide⟩ rfl ?_
      refine A_iret dX6_restore_22 rfl ?_
      exact fin
  · have fin := hB (i01e c_6)
    replace c_6 := i01e c_6
    refine A_iconst dX6_restore_9 ⟨by decide, by decide⟩ ?_
    refine A_iret dX6_restore_10 rfl ?_
    exact fin
theorem pcF_lo {s i : Int} : ∀ (k : Nat) (j : Int), j < 340 → pcF R S s i k j = R j
  | 0, _, _ => rfl
  | k + 1, j, h => by simp only [pcF]; rw [fU_n (by omega), pcF_lo k j h]
theorem tpF_lo {s i : Int} : ∀ (k : Nat) (j : Int), j < 340 → tpF R S s i k j = R j
  | 0, _, _ => rfl
  | k + 1, j, h => by simp only [tpF]; rw [fU_n (by omega), tpF_lo k j h]
theorem M_paces {s lane i : Int} (X : XG G) (C : CI G d R S tp T im I) (W : WI R S tp im I) (hK : ∀ d', FM d d' → CI G d' (pacS R S s lane i).2 S tp T im I → K (some (kI (pacS R S s lane i).1)) G d') : AM E mX6_paces (k + 3) 0 0 [kR 1, kI s, kI lane, kI i] G d K := by
  obtain ⟨⟨o1, r0, r1, r2, r3, r4, r5, r6⟩, -, -, sO, g30, -⟩ := id X
  obtain ⟨ho, ⟨e7, a7⟩, -, -, -, -, -, -, -, hcar⟩ := id g30
  have i20 := sO.1
  have v4 := C.1.1.2.2.2.2.1
  obtain ⟨w0, w1, w2, w3, wc, wb, wp, wv, wd⟩ := id W.1
  obtain ⟨N, hN⟩ : ∃ N : Nat, R 2 = N := ⟨(R 2).toNat, by omega⟩
  unfold pacS at hK
  rw [show (R 2).toNat = N by omega] at hK
  have bad : ¬ (0 ≤ s ∧ s ≤ 3 ∧ 1 ≤ lane ∧ lane ≤ 2) → K (some (kI (-1))) G d := fun z => by
    rw [if_pos z] at hK
    exact hK d FM.rf C
  refine AM.of rfl (Nat.le_of_ble_eq_true rfl) ?_
  refine A_iload_n dX6_paces_0 rfl rfl ?_
  refine A_ins1 dX6_paces_1 ms_X6_238 (Nat.le_of_ble_eq_true rfl) ?_
  refine C_isSheetC ?_
  refine A_if_eq (tgt := 16) dX6_paces_4 (by decide) (fun c_4 => ?_) (fun c_4 => ?_)
  · have z := i01e c_4
    have fin := bad (by omega)
    replace c_4 := i01e c_4
    refine A_iconst dX6_paces_16 ⟨by decide, by decide⟩ ?_
    refine A_iret dX6_paces_17 rfl ?_
    exact fin
  · have z4 := i01n c_4
    replace c_4 := i01n c_4
    refine A_iload_n dX6_paces_7 rfl rfl ?_
    refine A_iconst dX6_paces_8 ⟨by decide, by decide⟩ ?_
    refine A_iconst dX6_paces_9 ⟨by decide, by decide⟩ ?_
    refine A_ins3 dX6_paces_10 ms_X6_59 (Nat.le_of_ble_eq_true rfl) ?_
    refine C_within ?_
    refine A_if_ne (tgt := 18) dX6_paces_13 (by decide) (fun c_13 => ?_) (fun c_13 => ?_)
    · have z13 := i01n c_13
      rw [if_neg (by omega)] at hK
      obtain ⟨q, hq⟩ : ∃ q : Nat, s = q := ⟨s.toNat, by omega⟩
      subst hq
      obtain ⟨e, o, e2, a⟩ := sO.2 q (by omega)
      obtain ⟨y0, y1, y2⟩ := C.2.2.1 q (by omega)
      replace c_13 := i01n c_13
      refine A_aload_n dX6_paces_18 rfl rfl ?_
      refine A_getR (fi := 6) dX6_paces_19 fg_X6_28 rfl rfl (by assumption) (by assumption) ?_
      refine A_iload_n dX6_paces_22 rfl rfl ?_
      refine A_aald (t := 5) dX6_paces_23 (fun _ => rfl) (by decide) (by assumption) (by omega) (by omega) (by assumption) ?_
      refine A_astore dX6_paces_24 (Nat.le_of_ble_eq_true rfl) rfl (by omega) ?_
      refine A_aload dX6_paces_26 rfl ?_
      refine A_iload_n dX6_paces_28 rfl rfl ?_
      refine A_iload_n dX6_paces_29 rfl rfl ?_
      refine A_aload_n dX6_paces_30 rfl rfl ?_
      refine A_getR (fi := 1) dX6_paces_31 fg_X6_47 rfl rfl (by assumption) (by assumption) ?_
      refine A_get (fi := 4) dX6_paces_34 fg_X6_67 rfl rfl (by assumption) ?_
      rw [v4]
      refine A_inv3 dX6_paces_37 mv_X6_241 kCl_5 (Nat.le_of_ble_eq_true rfl) (by assumption) ?_
      refine C_lookedAt sO (by omega) C.2.2.1 W.2.2.1 ?_
      refine A_istore dX6_paces_40 (Nat.le_of_ble_eq_true rfl) rfl ?_
      refine A_iload dX6_paces_42 rfl ?_
      refine A_if_ge (tgt := 50) dX6_paces_44 (by decide) (fun c_44 => ?_) (fun c_44 => ?_)
      · rw [if_neg (by omega)] at hK
        have ok := rowA_ok (show ¬ rowA S q lane i (R 2) < 0 by omega)
        have w := (W.2.2.1 q (by omega) (by omega)).2.2.2.1
        rw [hN] at v4
        have l2 : pokF S q i N = true → ∀ (f j : Nat), j + f = N → ∀ (d' : HD), CM d d' 30 → CV d' 30 (pcF R S q i j) → ∀ x5 : Int, AW E mX6_paces (k + 3) 0 0 93 [some (kR 1), some (kI q), some (kI lane), some (kI i), some (kR (162 + 2 * q)), some (kI x5), some (kI j)] [] G d' K := by
          intro hok f
          rw [if_neg (by rw [hok]; decide)] at hK
          induction f with
          | zero =>
            intro j hj d' hm hv x5
            have : j = N := by omega
            subst this
            have u4 : d' 30 4 = j := by rw [hv.1.2.2.2.2.1, pcF_2]; exact hN
            have fin := hK d' (hm.fm (by omega)) (C.cm W hm hv (fun p p1 p2 => pcF_lo j p p2))
            rw [hN] at fin
            refine A_iload dX6_paces_93 rfl ?_
            refine A_aload_n dX6_paces_95 rfl rfl ?_
            refine A_getR (fi := 1) dX6_paces_96 fg_X6_47 rfl rfl (by assumption) (by assumption) ?_
            refine A_get (fi := 4) dX6_paces_99 fg_X6_67 rfl rfl (by assumption) ?_
            refine A_icmp_ge (tgt := 134) dX6_paces_102 (by decide) (fun c_102 => ?_) (fun c_102 => absurd c_102 (by omega))
            refine A_aload_n dX6_paces_134 rfl rfl ?_
            refine A_getR (fi := 1) dX6_paces_135 fg_X6_47 rfl rfl (by assumption) (by assumption) ?_
            refine A_get (fi := 4) dX6_paces_138 fg_X6_67 rfl rfl (by assumption) ?_
            rw [u4]
            refine A_iret dX6_paces_141 rfl ?_
            exact fin
          | succ f ih =>
            intro j hj d' hm hv x5
            have u4 : d' 30 4 = N := by rw [hv.1.2.2.2.2.1, pcF_2]; exact hN
            obtain ⟨ej, oj, -, -⟩ := hcar j (by omega)
            have yv : d' (163 + 2 * q) (i + j) = S.2.2 q (i + j) := by rw [hm _ (by omega)]; exact y2 _ (by omega) (by omega)
            refine A_iload dX6_paces_93 rfl ?_
            refine A_aload_n dX6_paces_95 rfl rfl ?_
            refine A_getR (fi := 1) dX6_paces_96 fg_X6_47 rfl rfl (by assumption) (by assumption) ?_
            refine A_get (fi := 4) dX6_paces_99 fg_X6_67 rfl rfl (by assumption) ?_
            refine A_icmp_ge (tgt := 134) dX6_paces_102 (by decide) (fun c_102 => absurd c_102 (by omega)) (fun c_102 => ?_)
            refine A_aload_n dX6_paces_105 rfl rfl ?_
            refine A_getR (fi := 1) dX6_paces_106 fg_X6_47 rfl rfl (by assumption) (by assumption) ?_
            refine A_getR (fi := 7) dX6_paces_109 fg_X6_100 rfl rfl (by assumption) (by assumption) ?_
            refine A_iload dX6_paces_112 rfl ?_
            refine A_aald (t := 2) dX6_paces_114 (fun _ => rfl) (by decide) (by assumption) (by omega) (by omega) (by assumption) ?_
            refine A_aload dX6_paces_115 rfl ?_
            refine A_getR (fi := 2) dX6_paces_117 fg_X6_244 rfl rfl (by assumption) (by assumption) ?_
            refine A_iload_n dX6_paces_120 rfl rfl ?_
            refine A_iload dX6_paces_121 rfl ?_
            refine A_iadd_ok dX6_paces_123 (by omega) (by omega) ?_
            refine A_iald dX6_paces_124 (by assumption) (by omega) (by omega) ?_
            rw [yv]
            refine A_put (fi := 2) dX6_paces_125 fp_X6_122 rfl rfl (by assumption) ?_
            refine A_iinc_ok dX6_paces_128 rfl rfl (by omega) (by omega) ?_
            refine A_goto (tgt := 93) dX6_paces_131 (by decide) ?_
            exact ih (j + 1) (by omega) _ (hm.u (by omega) (by omega)) (hv.w (by rw [pcF_lo j 5 (by omega)]; exact wb.2.1) (by rw [pcF_lo j 6 (by omega)]; exact wp.2.1) (by omega) (by omega)) _
        have l1 : ∀ (f j : Nat), j + f = N → pokF S q i j = true → ∀ x5 : Int, AW E mX6_paces (k + 3) 0 0 53 [some (kR 1), some (kI q), some (kI lane), some (kI i), some (kR (162 + 2 * q)), some (kI x5), some (kI j)] [] G d K := by
          intro f
          induction f with
          | zero =>
            intro j hj hok x5
            have : j = N := by omega
            subst this
            refine A_iload dX6_paces_53 rfl ?_
            refine A_aload_n dX6_paces_55 rfl rfl ?_
            refine A_getR (fi := 1) dX6_paces_56 fg_X6_47 rfl rfl (by assumption) (by assumption) ?_
            refine A_get (fi := 4) dX6_paces_59 fg_X6_67 rfl rfl (by assumption) ?_
            refine A_icmp_ge (tgt := 90) dX6_paces_62 (by decide) (fun c_62 => ?_) (fun c_62 => absurd c_62 (by omega))
            refine A_iconst dX6_paces_90 ⟨by decide, by decide⟩ ?_
            refine A_istore dX6_paces_91 (Nat.le_of_ble_eq_true rfl) rfl ?_
            exact l2 hok j 0 (by omega) d CM.rf C.1 _
          | succ f ih =>
            intro j hj hok x5
            have yv : d (163 + 2 * q) (i + j) = S.2.2 q (i + j) := y2 _ (by omega) (by omega)
            have e : pokF S q i (j + 1) = (pokF S q i j && decide (0 ≤ S.2.2 q (i + j) ∧ S.2.2 q (i + j) ≤ 9)) := rfl
            rw [hok, Bool.true_and] at e
            refine A_iload dX6_paces_53 rfl ?_
            refine A_aload_n dX6_paces_55 rfl rfl ?_
            refine A_getR (fi := 1) dX6_paces_56 fg_X6_47 rfl rfl (by assumption) (by assumption) ?_
            refine A_get (fi := 4) dX6_paces_59 fg_X6_67 rfl rfl (by assumption) ?_
            refine A_icmp_ge (tgt := 90) dX6_paces_62 (by decide) (fun c_62 => absurd c_62 (by omega)) (fun c_62 => ?_)
            refine A_aload dX6_paces_65 rfl ?_
            refine A_getR (fi := 2) dX6_paces_67 fg_X6_244 rfl rfl (by assumption) (by assumption) ?_
            refine A_iload_n dX6_paces_70 rfl rfl ?_
            refine A_iload dX6_paces_71 rfl ?_
            refine A_iadd_ok dX6_paces_73 (by omega) (by omega) ?_
            refine A_iald dX6_paces_74 (by assumption) (by omega) (by omega) ?_
            rw [yv]
            refine A_ins1 dX6_paces_75 ms_X6_83 (Nat.le_of_ble_eq_true rfl) ?_
            refine C_isPace ?_
            refine A_if_ne (tgt := 84) dX6_paces_78 (by decide) (fun c_78 => ?_) (fun c_78 => ?_)
            · have z := i01n c_78
              replace c_78 := i01n c_78
              refine A_iinc_ok dX6_paces_84 rfl rfl (by omega) (by omega) ?_
              refine A_goto (tgt := 53) dX6_paces_87 (by decide) ?_
              exact ih (j + 1) (by omega) (by rw [e]; exact decide_eq_true z) _
            · have z := i01e c_78
              have st := pokF_st (S := S) (s := q) (i := i) (j := j + 1) (by rw [e]; exact decide_eq_false z) (N - (j + 1))
              rw [show j + 1 + (N - (j + 1)) = N by omega] at st
              rw [if_pos st] at hK
              have fin := hK d FM.rf C
              replace c_78 := i01e c_78
              refine A_bipush dX6_paces_81 ⟨by decide, by decide⟩ rfl ?_
              refine A_iret dX6_paces_83 rfl ?_
              exact fin
        refine A_iconst dX6_paces_50 ⟨by decide, by decide⟩ ?_
        refine A_istore dX6_paces_51 (Nat.le_of_ble_eq_true rfl) rfl ?_
        exact l1 N 0 (by omega) rfl _
      · rw [if_pos (by omega)] at hK
        have fin := hK d FM.rf C
        refine A_iload dX6_paces_47 rfl ?_
        refine A_iret dX6_paces_49 rfl ?_
        exact fin
    · have z := i01e c_13
      have fin := bad (by omega)
      replace c_13 := i01e c_13
      refine A_iconst dX6_paces_16 ⟨by decide, by decide⟩ ?_
      refine A_iret dX6_paces_17 rfl ?_
      exact fin
theorem M_taps {s i : Int} (X : XG G) (C : CI G d R S tp T im I) (W : WI R S tp im I) (hK : ∀ d', FM d d' → CI G d' (tpsS R S s i).2 S tp T im I → K (some (kI (tpsS R S s i).1)) G d') : AM E mX6_taps (k + 3) 0 0 [kR 1, kI s, kI i] G d K := by
  obtain ⟨⟨o1, r0, r1, r2, r3, r4, r5, r6⟩, -, -, sO, g30, -⟩ := id X
  obtain ⟨ho, ⟨e7, a7⟩, -, -, -, -, -, -, -, hcar⟩ := id g30
  have i20 := sO.1
  have v4 := C.1.1.2.2.2.2.1
  obtain ⟨w0, w1, w2, w3, wc, wb, wp, wv, wd⟩ := id W.1
  obtain ⟨N, hN⟩ : ∃ N : Nat, R 2 = N := ⟨(R 2).toNat, by omega⟩
  unfold tpsS at hK
  rw [show (R 2).toNat = N by omega] at hK
  refine AM.of rfl (Nat.le_of_ble_eq_true rfl) ?_
  refine A_iload_n dX6_taps_0 rfl rfl ?_
  refine A_ins1 dX6_taps_1 ms_X6_238 (Nat.le_of_ble_eq_true rfl) ?_
  refine C_isSheetC ?_
  refine A_if_ne (tgt := 9) dX6_taps_4 (by decide) (fun c_4 => ?_) (fun c_4 => ?_)
  · have z4 := i01n c_4
    rw [if_neg (by omega)] at hK
    obtain ⟨q, hq⟩ : ∃ q : Nat, s = q := ⟨s.toNat, by omega⟩
    subst hq
    obtain ⟨e, o, e2, a⟩ := sO.2 q (by omega)
    obtain ⟨y0, y1, y2⟩ := C.2.2.1 q (by omega)
    replace c_4 := i01n c_4
    refine A_aload_n dX6_taps_9 rfl rfl ?_
    refine A_getR (fi := 6) dX6_taps_10 fg_X6_28 rfl rfl (by assumption) (by assumption) ?_
    refine A_iload_n dX6_taps_13 rfl rfl ?_
    refine A_aald (t := 5) dX6_taps_14 (fun _ => rfl) (by decide) (by assumption) (by omega) (by omega) (by assumption) ?_
    refine A_astore_n dX6_taps_15 rfl (Nat.le_of_ble_eq_true rfl) rfl (by omega) ?_
    refine A_aload_n dX6_taps_16 rfl rfl ?_
    refine A_iconst dX6_taps_17 ⟨by decide, by decide⟩ ?_
    refine A_iload_n dX6_taps_18 rfl rfl ?_
    refine A_aload_n dX6_taps_19 rfl rfl ?_
    refine A_getR (fi := 1) dX6_taps_20 fg_X6_47 rfl rfl (by assumption) (by assumption) ?_
    refine A_get (fi := 4) dX6_taps_23 fg_X6_67 rfl rfl (by assumption) ?_
    rw [v4]
    refine A_inv3 dX6_taps_26 mv_X6_241 kCl_5 (Nat.le_of_ble_eq_true rfl) (by assumption) ?_
    refine C_lookedAt sO (by omega) C.2.2.1 W.2.2.1 ?_
    refine A_istore dX6_taps_29 (Nat.le_of_ble_eq_true rfl) rfl ?_
    refine A_iload dX6_taps_31 rfl ?_
    refine A_if_ge (tgt := 39) dX6_taps_33 (by decide) (fun c_33 => ?_) (fun c_33 => ?_)
    · rw [if_neg (by omega)] at hK
      have ok := rowA_ok (show ¬ rowA S q 0 i (R 2) < 0 by omega)
      have wq := W.2.2.1 q (by omega) (by omega)
      have w36 := wq.2.2.2.1
      have b01 := wq.2.2.2.2 ok.1
      have tr := tsF_rg (S := S) (s := q) (i := i) b01 ok.2.2.1
      have loop : ∀ (f j : Nat), j + f = N → ∀ (d' : HD), CM d d' 30 → CV d' 30 (tpF R S q i j) → ∀ x4 : Int, AW E mX6_taps (k + 3) 0 0 45 [some (kR 1), some (kI q), some (kI i), some (kR (162 + 2 * q)), some (kI x4), some (kI (tsF S q i j)), some (kI j)] [] G d' K := by
        intro f
        induction f with
        | zero =>
          intro j hj d' hm hv x4
          have : j = N := by omega
          subst this
          have u4 : d' 30 4 = j := by rw [hv.1.2.2.2.2.1, tpF_2]; exact hN
          have fin := hK d' (hm.fm (by omega)) (C.cm W hm hv (fun p p1 p2 => tpF_lo j p p2))
          refine A_iload dX6_taps_45 rfl ?_
          refine A_aload_n dX6_taps_47 rfl rfl ?_
          refine A_getR (fi := 1) dX6_taps_48 fg_X6_47 rfl rfl (by assumption) (by assumption) ?_
          refine A_get (fi := 4) dX6_taps_51 fg_X6_67 rfl rfl (by assumption) ?_
          refine A_icmp_ge (tgt := 107) dX6_taps_54 (by decide) (fun c_54 => ?_) (fun c_54 => absurd c_54 (by omega))
          refine A_iload dX6_taps_107 rfl ?_
          refine A_iret dX6_taps_109 rfl ?_
          exact fin
        | succ f ih =>
          intro j hj d' hm hv x4
          have u4 : d' 30 4 = N := by rw [hv.1.2.2.2.2.1, tpF_2]; exact hN
          obtain ⟨ej, oj, -, -⟩ := hcar j (by omega)
          have yv : d' (163 + 2 * q) (i + j) = S.2.2 q (i + j) := by rw [hm _ (by omega)]; exact y2 _ (by omega) (by omega)
          have bj := b01 (i + j) (by omega) (by omega)
          have trj := tr j (by omega)
          have yv' : ∀ u, kU d' (30 + 9 + 2 * j) 7 u (163 + 2 * q) (i + j) = S.2.2 q (i + j) := fun u => by rw [kU_ne (by omega)]; exact yv
          have next := ih (j + 1) (by omega)
          have e : tsF S q i (j + 1) = tsF S q i j + S.2.2 q (i + j) := rfl
          rw [e] at next
          have tail : AW E mX6_taps (k + 3) 0 0 84 [some (kR 1), some (kI q), some (kI i), some (kR (162 + 2 * q)), some (kI x4), some (kI (tsF S q i j)), some (kI j)] [kI (S.2.2 q (i + j)), kR (30 + 9 + 2 * j)] G d' K := by
            refine A_putZ (fi := 7) dX6_taps_84 fp_X6_184 rfl rfl (by assumption) (by first | exact Or.inl rfl | exact Or.inr rfl | assumption | omega) ?_
            refine A_iload dX6_taps_87 rfl ?_
            refine A_aload_n dX6_taps_89 rfl rfl ?_
            refine A_getR (fi := 2) dX6_taps_90 fg_X6_244 rfl rfl (by assumption) (by assumption) ?_
            refine A_iload_n dX6_taps_93 rfl rfl ?_
            refine A_iload dX6_taps_94 rfl ?_
            refine A_iadd_ok dX6_taps_96 (by omega) (by omega) ?_
            refine A_iald dX6_taps_97 (by assumption) (by omega) (by omega) ?_
            rw [yv']
            refine A_iadd_ok dX6_taps_98 (by omega) (by omega) ?_
            refine A_istore dX6_taps_99 (Nat.le_of_ble_eq_true rfl) rfl ?_
            refine A_iinc_ok dX6_taps_101 rfl rfl (by omega) (by omega) ?_
            refine A_goto (tgt := 45) dX6_taps_104 (by decide) ?_
            exact next _ (hm.u (by omega) (by omega)) (hv.w (by rw [tpF_lo j 5 (by omega)]; exact wb.2.1) (by rw [tpF_lo j 6 (by omega)]; exact wp.2.1) (by omega) (by omega)) _
          refine A_iload dX6_taps_45 rfl ?_
          refine A_aload_n dX6_taps_47 rfl rfl ?_
          refine A_getR (fi := 1) dX6_taps_48 fg_X6_47 rfl rfl (by assumption) (by assumption) ?_
          refine A_get (fi := 4) dX6_taps_51 fg_X6_67 rfl rfl (by assumption) ?_
          refine A_icmp_ge (tgt := 107) dX6_taps_54 (by decide) (fun c_54 => absurd c_54 (by omega)) (fun c_54 => ?_)
          refine A_aload_n dX6_taps_57 rfl rfl ?_
          refine A_getR (fi := 1) dX6_taps_58 fg_X6_47 rfl rfl (by assumption) (by assumption) ?_
          refine A_getR (fi := 7) dX6_taps_61 fg_X6_100 rfl rfl (by assumption) (by assumption) ?_
          refine A_iload dX6_taps_64 rfl ?_
          refine A_aald (t := 2) dX6_taps_66 (fun _ => rfl) (by decide) (by assumption) (by omega) (by omega) (by assumption) ?_
          refine A_aload_n dX6_taps_67 rfl rfl ?_
          refine A_getR (fi := 2) dX6_taps_68 fg_X6_244 rfl rfl (by assumption) (by assumption) ?_
          refine A_iload_n dX6_taps_71 rfl rfl ?_
          refine A_iload dX6_taps_72 rfl ?_
          refine A_iadd_ok dX6_taps_74 (by omega) (by omega) ?_
          refine A_iald dX6_taps_75 (by assumption) (by omega) (by omega) ?_
          refine A_if_eq (tgt := 83) dX6_taps_76 (by decide) (fun c_76 => ?_) (fun c_76 => ?_)
          · rw [yv] at c_76
            rw [c_76] at tail
            refine A_iconst dX6_taps_83 ⟨by decide, by decide⟩ ?_
            exact tail
          · rw [yv] at c_76
            rw [show S.2.2 (q : Int) (i + (j : Int)) = 1 by omega] at tail
            refine A_iconst dX6_taps_79 ⟨by decide, by decide⟩ ?_
            refine A_goto (tgt := 84) dX6_taps_80 (by decide) ?_
            exact tail
      refine A_iconst dX6_taps_39 ⟨by decide, by decide⟩ ?_
      refine A_istore dX6_taps_40 (Nat.le_of_ble_eq_true rfl) rfl ?_
      refine A_iconst dX6_taps_42 ⟨by decide, by decide⟩ ?_
      refine A_istore dX6_taps_43 (Nat.le_of_ble_eq_true rfl) rfl ?_
      exact loop N 0 (by omega) d CM.rf C.1 _
    · rw [if_pos (by omega)] at hK
      have fin := hK d FM.rf C
      refine A_iload dX6_taps_36 rfl ?_
      refine A_iret dX6_taps_38 rfl ?_
      exact fin
  · have z4 := i01e c_4
    rw [if_pos (by omega)] at hK
    have fin := hK d FM.rf C
    replace c_4 := i01e c_4
    refine A_iconst dX6_taps_7 ⟨by decide, by decide⟩ ?_
    refine A_iret dX6_taps_8 rfl ?_
    exact fin
end CL9
