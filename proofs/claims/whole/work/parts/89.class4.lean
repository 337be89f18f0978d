section CL4
variable {E : EE} {k : Nat} {G : HG} {d : HD} {K : PQ} {R T im : Int → Int} {S : SS} {tp : Int} {I : Int → Int → Int}
theorem CI.km {d' : HD} (C : CI G d R S tp T im I) (W : WI R S tp im I) (hm : KM d d' 30) : CI G d' R S tp T im I := C.mv W GS.rf rfl rfl rfl (hm.V (by omega) C.1 W.1.2.2.1.2) (fun _ _ _ => rfl) (fun a ha => hm.o (by omega) (by omega)) (by rw [hm.o (a := 9) (by omega) (by omega)])
theorem KM.fm {d' : HD} {A : Nat} (hm : KM d d' A) (hA : A ≤ 129) : FM d d' := fun a a1 a2 => hm.o (by omega) (by omega)
theorem M_told {car what : Int} (X : XG G) (C : CI G d R S tp T im I) (W : WI R S tp im I) (hK : ∀ d', FM d d' → CI G d' R S tp T im I → K (some (kI (toldA R car what))) G d') : AM E mX6_told (k + 3) 0 0 [kR 1, kI car, kI what] G d K := by
  obtain ⟨⟨o1, r0, r1, -⟩, -, -, -, g30, -⟩ := id X
  obtain ⟨ho, ⟨e7, a7⟩, -, -, -, -, -, -, -, hcar⟩ := id g30
  obtain ⟨w0, w1, w2, w3, wc, wb, wp, wv, wd⟩ := id W.1
  unfold toldA at hK
  refine AM.of rfl (Nat.le_of_ble_eq_true rfl) ?_
  refine A_aload_n dX6_told_0 rfl rfl ?_
  refine A_iload_n dX6_told_1 rfl rfl ?_
  refine A_inv1 dX6_told_2 mv_X6_97 kCl_6 (Nat.le_of_ble_eq_true rfl) (by assumption) ?_
  refine C_isCar6 X C W ?_
  refine A_if_ne (tgt := 10) dX6_told_5 (by decide) (fun c_5 => ?_) (fun c_5 => ?_)
  · have z5 := i01n c_5
    rw [if_neg (by omega)] at hK
    obtain ⟨q, hq⟩ : ∃ q : Nat, car = q := ⟨car.toNat, by omega⟩
    subst hq
    obtain ⟨eq, oq, -, -⟩ := hcar q (by omega)
    have xw := (C.1.2.1 q (by omega)).1
    replace c_5 := i01n c_5
    refine A_aload_n dX6_told_10 rfl rfl ?_
    refine A_getR (fi := 1) dX6_told_11 fg_X6_47 rfl rfl (by assumption) (by assumption) ?_
    refine A_iload_n dX6_told_14 rfl rfl ?_
    refine A_inv1 dX6_told_15 mv_X6_112 kCl_4 (Nat.le_of_ble_eq_true rfl) (by assumption) ?_
    refine C_lookFrom g30 C.1.G W.1.G (by omega) (fun c c1 c2 => (wc c c1 c2).2.2.1) ?_
    generalize hD : kU (kU (kU (kU d (30 + 9 + 2 * q) 10 (gapS R q)) (30 + 9 + 2 * q) 11 (aheadS R q)) (30 + 9 + 2 * q) 12 (leadS R q)) (30 + 9 + 2 * q) 13 (otherS R q) = d2
    have sc : SC d d2 30 := by rw [← hD]; exact (((SC.rf.u (by omega) (by omega) (by omega)).u (by omega) (by omega) (by omega)).u (by omega) (by omega) (by omega)).u (by omega) (by omega) (by omega)
    have y : ∀ w, 0 ≤ w → w ≤ 8 → d2 (30 + 9 + 2 * q) w = cfR R q w := fun w h1 h2 => by rw [sc.2 q (by omega) w (by omega)]; exact xw w h1 h2
    have y10 : d2 (30 + 9 + 2 * q) 10 = gapS R q := by rw [← hD, kU_f (by decide), kU_f (by decide), kU_f (by decide), kU_s]
    have y11 : d2 (30 + 9 + 2 * q) 11 = aheadS R q := by rw [← hD, kU_f (by decide), kU_f (by decide), kU_s]
    have y13 : d2 (30 + 9 + 2 * q) 13 = otherS R q := by rw [← hD, kU_s]
    clear hD
    have fin := hK d2 (sc.M.fm (by omega)) (C.cm W sc.M (C.1.s (by omega) sc) (fun _ _ _ => rfl))
    refine A_aload_n dX6_told_18 rfl rfl ?_
    refine A_getR (fi := 1) dX6_told_19 fg_X6_47 rfl rfl (by assumption) (by assumption) ?_
    refine A_getR (fi := 7) dX6_told_22 fg_X6_100 rfl rfl (by assumption) (by assumption) ?_
    refine A_iload_n dX6_told_25 rfl rfl ?_
    refine A_aald (t := 2) dX6_told_26 (fun _ => rfl) (by decide) (by assumption) (by omega) (by omega) (by assumption) ?_
    refine A_astore_n dX6_told_27 rfl (Nat.le_of_ble_eq_true rfl) rfl (by omega) ?_
    refine A_iload_n dX6_told_28 rfl rfl ?_
    -- switch at 29: .tableswitch 87 0 7 #[47, 52, 57, 62, 67, 72, 77, 82]
    by_cases h : what < 0 ∨ 7 < what
    · refine A_tsO (tgt := 116) dX6_told_29 (by decide) h ?_
      rw [if_neg (by omega), if_neg (by omega), if_neg (by omega), if_neg (by omega), if_neg (by omega), if_neg (by omega), if_neg (by omega), if_neg (by omega)] at fin
      refine A_iconst dX6_told_116 ⟨by decide, by decide⟩ ?_
      refine A_iret dX6_told_117 rfl ?_
      exact fin
    · rcases (show what = 0 ∨ what = 1 ∨ what = 2 ∨ what = 3 ∨ what = 4 ∨ what = 5 ∨ what = 6 ∨ what = 7 by omega) with rfl | rfl | rfl | rfl | rfl | rfl | rfl | rfl
      · refine A_tsI (tgt := 76) dX6_told_29 (by omega) (by omega) rfl (by decide) ?_
        refine A_aload_n dX6_told_76 rfl rfl ?_
        refine A_get (fi := 0) dX6_told_77 fg_X6_116 rfl rfl (by assumption) ?_
        rw [y 0 (by omega) (by omega)]
        refine A_iret dX6_told_80 rfl ?_
        exact fin
      · refine A_tsI (tgt := 81) dX6_told_29 (by omega) (by omega) rfl (by decide) ?_
        refine A_aload_n dX6_told_81 rfl rfl ?_
        refine A_get (fi := 1) dX6_told_82 fg_X6_119 rfl rfl (by assumption) ?_
        rw [y 1 (by omega) (by omega)]
        refine A_iret dX6_told_85 rfl ?_
        exact fin
      · refine A_tsI (tgt := 86) dX6_told_29 (by omega) (by omega) rfl (by decide) ?_
        refine A_aload_n dX6_told_86 rfl rfl ?_
        refine A_get (fi := 2) dX6_told_87 fg_X6_122 rfl rfl (by assumption) ?_
        rw [y 2 (by omega) (by omega)]
        refine A_iret dX6_told_90 rfl ?_
        exact fin
      · refine A_tsI (tgt := 91) dX6_told_29 (by omega) (by omega) rfl (by decide) ?_
        refine A_aload_n dX6_told_91 rfl rfl ?_
        refine A_get (fi := 10) dX6_told_92 fg_X6_125 rfl rfl (by assumption) ?_
        rw [y10]
        refine A_iret dX6_told_95 rfl ?_
        exact fin
      · refine A_tsI (tgt := 96) dX6_told_29 (by omega) (by omega) rfl (by decide) ?_
        refine A_aload_n dX6_told_96 rfl rfl ?_
        refine A_get (fi := 11) dX6_told_97 fg_X6_128 rfl rfl (by assumption) ?_
        rw [y11]
        refine A_iret dX6_told_100 rfl ?_
        exact fin
      · refine A_tsI (tgt := 101) dX6_told_29 (by omega) (by omega) rfl (by decide) ?_
        refine A_aload_n dX6_told_101 rfl rfl ?_
        refine A_get (fi := 13) dX6_told_102 fg_X6_131 rfl rfl (by assumption) ?_
        rw [y13]
        refine A_iret dX6_told_105 rfl ?_
        exact fin
      · refine A_tsI (tgt := 106) dX6_told_29 (by omega) (by omega) rfl (by decide) ?_
        refine A_aload_n dX6_told_106 rfl rfl ?_
        refine A_get (fi := 5) dX6_told_107 fg_X6_134 rfl rfl (by assumption) ?_
        rw [y 5 (by omega) (by omega)]
        refine A_iret dX6_told_110 rfl ?_
        exact fin
      · refine A_tsI (tgt := 111) dX6_told_29 (by omega) (by omega) rfl (by decide) ?_
        refine A_aload_n dX6_told_111 rfl rfl ?_
        refine A_get (fi := 6) dX6_told_112 fg_X6_137 rfl rfl (by assumption) ?_
        rw [y 6 (by omega) (by omega)]
        refine A_iret dX6_told_115 rfl ?_
        exact fin
  · have z5 := i01e c_5
    rw [if_pos (by omega)] at hK
    have fin := hK d FM.rf C
    replace c_5 := i01e c_5
    refine A_iconst dX6_told_8 ⟨by decide, by decide⟩ ?_
    refine A_iret dX6_told_9 rfl ?_
    exact fin
theorem M_holds {car : Int} (X : XG G) (C : CI G d R S tp T im I) (W : WI R S tp im I) (hK : ∀ d', FM d d' → CI G d' R S tp T im I → K (some (kI (holdsA R car))) G d') : AM E mX6_holds (k + 3) 0 0 [kR 1, kI car] G d K := by
  obtain ⟨⟨o1, r0, r1, -⟩, -, -, -, g30, -⟩ := id X
  obtain ⟨ho, ⟨e7, a7⟩, ⟨e8, a8⟩, -, -, -, -, -, -, hcar⟩ := id g30
  obtain ⟨w0, w1, w2, w3, wc, wb, wp, wv, wd⟩ := id W.1
  unfold holdsA at hK
  refine AM.of rfl (Nat.le_of_ble_eq_true rfl) ?_
  refine A_aload_n dX6_holds_0 rfl rfl ?_
  refine A_iload_n dX6_holds_1 rfl rfl ?_
  refine A_inv1 dX6_holds_2 mv_X6_97 kCl_6 (Nat.le_of_ble_eq_true rfl) (by assumption) ?_
  refine C_isCar6 X C W ?_
  refine A_if_ne (tgt := 10) dX6_holds_5 (by decide) (fun c_5 => ?_) (fun c_5 => ?_)
  · have z5 := i01n c_5
    rw [if_pos (by omega)] at hK
    obtain ⟨q, hq⟩ : ∃ q : Nat, car = q := ⟨car.toNat, by omega⟩
    subst hq
    obtain ⟨eq, oq, -, -⟩ := hcar q (by omega)
    have xw := (C.1.2.1 q (by omega)).1
    have wq := wc q (by omega) (by omega)
    replace c_5 := i01n c_5
    refine A_aload_n dX6_holds_10 rfl rfl ?_
    refine A_getR (fi := 1) dX6_holds_11 fg_X6_47 rfl rfl (by assumption) (by assumption) ?_
    refine A_iload_n dX6_holds_14 rfl rfl ?_
    refine A_inv1 dX6_holds_15 mv_X6_112 kCl_4 (Nat.le_of_ble_eq_true rfl) (by assumption) ?_
    refine C_lookFrom g30 C.1.G W.1.G (by omega) (fun c c1 c2 => (wc c c1 c2).2.2.1) ?_
    generalize hD : kU (kU (kU (kU d (30 + 9 + 2 * q) 10 (gapS R q)) (30 + 9 + 2 * q) 11 (aheadS R q)) (30 + 9 + 2 * q) 12 (leadS R q)) (30 + 9 + 2 * q) 13 (otherS R q) = d2
    have sc : SC d d2 30 := by rw [← hD]; exact (((SC.rf.u (by omega) (by omega) (by omega)).u (by omega) (by omega) (by omega)).u (by omega) (by omega) (by omega)).u (by omega) (by omega) (by omega)
    have y : ∀ w, 0 ≤ w → w ≤ 8 → d2 (30 + 9 + 2 * q) w = cfR R q w := fun w h1 h2 => by rw [sc.2 q (by omega) w (by omega)]; exact xw w h1 h2
    have y2 := y 2 (by omega) (by omega)
    have y3 := y 3 (by omega) (by omega)
    have y10 : d2 (30 + 9 + 2 * q) 10 = gapS R q := by rw [← hD, kU_f (by decide), kU_f (by decide), kU_f (by decide), kU_s]
    have y12 : d2 (30 + 9 + 2 * q) 12 = leadS R q := by rw [← hD, kU_f (by decide), kU_s]
    have y13 : d2 (30 + 9 + 2 * q) 13 = otherS R q := by rw [← hD, kU_s]
    clear hD
    have C2 : CI G d2 R S tp T im I := C.cm W sc.M (C.1.s (by omega) sc) (fun _ _ _ => rfl)
    have fin := hK d2 (sc.M.fm (by omega)) C2
    obtain ⟨h, hh⟩ : ∃ h : Nat, cfR R q 3 = h := ⟨(cfR R q 3).toNat, by have := wq.2.2.2.1; omega⟩
    have h3 : h < 3 := by have := wq.2.2.2.1; omega
    obtain ⟨hn, N, Cc, hO, -, -, hch⟩ := C2.2.1 h h3
    generalize eH : G.2.2 (30 + 2) (h : Int) = H at *
    have oH := hO.1.1
    have ch := (hch (gapS R q) (leadS R q) (otherS R q) (cfR R q 2) wq.2.2.1.1 wq.2.2.1.2).1
    rw [hh] at fin y3
    rw [← ch] at fin
    refine A_aload_n dX6_holds_18 rfl rfl ?_
    refine A_getR (fi := 1) dX6_holds_19 fg_X6_47 rfl rfl (by assumption) (by assumption) ?_
    refine A_getR (fi := 7) dX6_holds_22 fg_X6_100 rfl rfl (by assumption) (by assumption) ?_
    refine A_iload_n dX6_holds_25 rfl rfl ?_
    refine A_aald (t := 2) dX6_holds_26 (fun _ => rfl) (by decide) (by assumption) (by omega) (by omega) (by assumption) ?_
    refine A_astore_n dX6_holds_27 rfl (Nat.le_of_ble_eq_true rfl) rfl (by omega) ?_
    refine A_aload_n dX6_holds_28 rfl rfl ?_
    refine A_getR (fi := 1) dX6_holds_29 fg_X6_47 rfl rfl (by assumption) (by assumption) ?_
    refine A_getR (fi := 8) dX6_holds_32 fg_X6_157 rfl rfl (by assumption) (by assumption) ?_
    refine A_aload_n dX6_holds_35 rfl rfl ?_
    refine A_get (fi := 3) dX6_holds_36 fg_X6_104 rfl rfl (by assumption) ?_
    rw [y3]
    refine A_aald (t := 3) dX6_holds_39 (fun _ => rfl) (by decide) (by assumption) (by omega) (by omega) (by assumption) ?_
    refine A_aload_n dX6_holds_40 rfl rfl ?_
    refine A_get (fi := 10) dX6_holds_41 fg_X6_125 rfl rfl (by assumption) ?_
    refine A_aload_n dX6_holds_44 rfl rfl ?_
    refine A_get (fi := 12) dX6_holds_45 fg_X6_164 rfl rfl (by assumption) ?_
    refine A_aload_n dX6_holds_48 rfl rfl ?_
    refine A_get (fi := 13) dX6_holds_49 fg_X6_131 rfl rfl (by assumption) ?_
    refine A_aload_n dX6_holds_52 rfl rfl ?_
    refine A_get (fi := 2) dX6_holds_53 fg_X6_122 rfl rfl (by assumption) ?_
    rw [y10, y12, y13, y2]
    refine A_inv4 dX6_holds_56 mv_X6_167 kCl_1 (Nat.le_of_ble_eq_true rfl) (by assumption) ?_
    refine C_clauseFor hO ?_
    refine A_iret dX6_holds_59 rfl ?_
    exact fin
  · have z5 := i01e c_5
    rw [if_neg (by omega)] at hK
    have fin := hK d FM.rf C
    replace c_5 := i01e c_5
    refine A_iconst dX6_holds_8 ⟨by decide, by decide⟩ ?_
    refine A_iret dX6_holds_9 rfl ?_
    exact fin
theorem M_ticks {n : Int} (X : XG G) (C : CI G d R S tp T im I) (W : WI R S tp im I) (hK : ∀ d', FM d d' → CI G d' (ticksS R n).2 S tp T im I → K (some (kI (ticksS R n).1)) G d') : AM E mX6_ticks (k + 5) 0 0 [kR 1, kI n] G d K := by
  obtain ⟨⟨o1, r0, r1, -⟩, -, -, -, g30, -⟩ := id X
  have ho := g30.1
  have v2 := C.1.1.2.2.1
  have w3 := W.1.2.2.2.1
  have n9 := W.2.1
  unfold ticksS at hK
  refine AM.of rfl (Nat.le_of_ble_eq_true rfl) ?_
  refine A_iload_n dX6_ticks_0 rfl rfl ?_
  refine A_iconst dX6_ticks_1 ⟨by decide, by decide⟩ ?_
  refine A_sipush dX6_ticks_2 ⟨by decide, by decide⟩ rfl ?_
  refine A_ins3 dX6_ticks_5 ms_X6_59 (Nat.le_of_ble_eq_true rfl) ?_
  refine C_within ?_
  refine A_if_ne (tgt := 13) dX6_ticks_8 (by decide) (fun c_8 => ?_) (fun c_8 => ?_)
  · have z := i01n c_8
    rw [if_neg (by omega)] at hK
    replace c_8 := i01n c_8
    refine A_aload_n dX6_ticks_13 rfl rfl ?_
    refine A_getR (fi := 1) dX6_ticks_14 fg_X6_47 rfl rfl (by assumption) (by assumption) ?_
    refine A_get (fi := 2) dX6_ticks_17 fg_X6_188 rfl rfl (by assumption) ?_
    rw [v2]
    refine A_iload_n dX6_ticks_20 rfl rfl ?_
    refine A_iadd_ok dX6_ticks_21 (by omega) (by omega) ?_
    refine A_ldc (x := 99999) dX6_ticks_22 cs_X6_191 rfl ⟨by decide, by decide⟩ ?_
    refine A_icmp_le (tgt := 30) dX6_ticks_24 (by decide) (fun c_24 => ?_) (fun c_24 => ?_)
    · rw [if_neg (by omega)] at hK
      obtain ⟨N, hN⟩ : ∃ N : Nat, n = N := ⟨n.toNat, by omega⟩
      subst hN
      rw [show ((N : Int)).toNat = N by omega] at hK
      refine A_aload_n dX6_ticks_30 rfl rfl ?_
      refine A_getR (fi := 1) dX6_ticks_31 fg_X6_47 rfl rfl (by assumption) (by assumption) ?_
      refine A_iload_n dX6_ticks_34 rfl rfl ?_
      refine A_inv1 dX6_ticks_35 mv_X6_192 kCl_4 (Nat.le_of_ble_eq_true rfl) (by assumption) ?_
      refine C_run g30 C.1 (C.2.1.hs (by omega) (by omega)) W.1 w3.1 (by omega) (fun d2 m2 p2 => ?_)
      have x2 : d2 30 2 = R 3 + N := by rw [p2.1.2.2.1, tkN_3 W.1 w3.1]
      refine A_aload_n dX6_ticks_38 rfl rfl ?_
      refine A_getR (fi := 1) dX6_ticks_39 fg_X6_47 rfl rfl (by assumption) (by assumption) ?_
      refine A_get (fi := 2) dX6_ticks_42 fg_X6_188 rfl rfl (by assumption) ?_
      rw [x2]
      refine A_iret dX6_ticks_45 rfl ?_
      exact hK d2 (m2.fm (by omega)) (C.cm W m2 p2 (fun j j1 j2 => tkN_t W.1 w3.1 N j j1 j2))
    · rw [if_pos (by omega)] at hK
      have fin := hK d FM.rf C
      refine A_bipush dX6_ticks_27 ⟨by decide, by decide⟩ rfl ?_
      refine A_iret dX6_ticks_29 rfl ?_
      exact fin
  · have z := i01e c_8
    rw [if_pos (by omega)] at hK
    have fin := hK d FM.rf C
    replace c_8 := i01e c_8
    refine A_iconst dX6_ticks_11 ⟨by decide, by decide⟩ ?_
    refine A_iret dX6_ticks_12 rfl ?_
    exact fin
theorem M_knot {i what : Int} (X : XG G) (C : CI G d R S tp T im I) (W : WI R S tp im I) (hK0 : (i < 0 ∨ ¬ (0 ≤ what ∧ what ≤ 1)) → K (some (kI (-1))) G d) (hK : ¬ (i < 0 ∨ ¬ (0 ≤ what ∧ what ≤ 1)) → ∀ (d' : HD) (n : Nat) (h s : Int → Int), FM d d' → CI G d' R S tp T im I → KS R (knP R) n h s → K (some (kI (knotA n h s i what))) G d') : AM E mX6_knot (k + 4) 0 0 [kR 1, kI i, kI what] G d K := by
  obtain ⟨⟨o1, r0, r1, r2, r3, r4, r5, r6⟩, -, kO, -, g30, -⟩ := id X
  have ho := g30.1
  obtain ⟨oK, ⟨k0, i0⟩, ⟨k1, i1⟩, ⟨k3, i3⟩⟩ := id kO
  have w2 := W.1.2.2.1
  refine AM.of rfl (Nat.le_of_ble_eq_true rfl) ?_
  refine A_iload_n dX6_knot_0 rfl rfl ?_
  refine A_if_lt (tgt := 13) dX6_knot_1 (by decide) (fun c_1 => ?_) (fun c_1 => ?_)
  · have fin := hK0 (Or.inl c_1)
    refine A_iconst dX6_knot_13 ⟨by decide, by decide⟩ ?_
    refine A_iret dX6_knot_14 rfl ?_
    exact fin
  · refine A_iload_n dX6_knot_4 rfl rfl ?_
    refine A_iconst dX6_knot_5 ⟨by decide, by decide⟩ ?_
    refine A_iconst dX6_knot_6 ⟨by decide, by decide⟩ ?_
    refine A_ins3 dX6_knot_7 ms_X6_59 (Nat.le_of_ble_eq_true rfl) ?_
    refine C_within ?_
    refine A_if_ne (tgt := 15) dX6_knot_10 (by decide) (fun c_10 => ?_) (fun c_10 => ?_)
    · have z := i01n c_10
      have hK := hK (by omega)
      replace c_10 := i01n c_10
      refine A_iload_n dX6_knot_15 rfl rfl ?_
      refine A_aload_n dX6_knot_16 rfl rfl ?_
      refine A_getR (fi := 5) dX6_knot_17 fg_X6_22 rfl rfl (by assumption) (by assumption) ?_
      refine A_aload_n dX6_knot_20 rfl rfl ?_
      refine A_getR (fi := 1) dX6_knot_21 fg_X6_47 rfl rfl (by assumption) (by assumption) ?_
      refine A_inv1 dX6_knot_24 mv_X6_196 kCl_2 (Nat.le_of_ble_eq_true rfl) (by assumption) ?_
      refine C_findIn kO (by omega) g30 C.1 W.1 (fun d2 n hm h20 H => ?_)
      have fin := hK d2 n (d2 5) (d2 6) (hm.fm (by omega)) (C.km W hm) H
      have n12 : (n : Int) ≤ 12 := by
        have e := KS_n H
        have r := knN_rg (R := R) w2.1
        omega
      unfold knotA at fin
      rw [if_neg (by omega)] at fin
      refine A_icmp_lt (tgt := 33) dX6_knot_27 (by decide) (fun c_27 => ?_) (fun c_27 => ?_)
      · rw [if_neg (by omega)] at fin
        refine A_iload_n dX6_knot_33 rfl rfl ?_
        refine A_if_ne (tgt := 49) dX6_knot_34 (by decide) (fun c_34 => ?_) (fun c_34 => ?_)
        · rw [if_neg (by omega)] at fin
          refine A_aload_n dX6_knot_49 rfl rfl ?_
          refine A_getR (fi := 5) dX6_knot_50 fg_X6_22 rfl rfl (by assumption) (by assumption) ?_
          refine A_getR (fi := 1) dX6_knot_53 fg_X6_209 rfl rfl (by assumption) (by assumption) ?_
          refine A_iload_n dX6_knot_56 rfl rfl ?_
          refine A_iald dX6_knot_57 (by assumption) (by omega) (by omega) ?_
          refine A_iret dX6_knot_58 rfl ?_
          exact fin
        · rw [if_pos (by omega)] at fin
          refine A_aload_n dX6_knot_37 rfl rfl ?_
          refine A_getR (fi := 5) dX6_knot_38 fg_X6_22 rfl rfl (by assumption) (by assumption) ?_
          refine A_getR (fi := 0) dX6_knot_41 fg_X6_206 rfl rfl (by assumption) (by assumption) ?_
          refine A_iload_n dX6_knot_44 rfl rfl ?_
          refine A_iald dX6_knot_45 (by assumption) (by omega) (by omega) ?_
          refine A_goto (tgt := 58) dX6_knot_46 (by decide) ?_
          refine A_iret dX6_knot_58 rfl ?_
          exact fin
      · rw [if_pos (by omega)] at fin
        refine A_bipush dX6_knot_30 ⟨by decide, by decide⟩ rfl ?_
        refine A_iret dX6_knot_32 rfl ?_
        exact fin
    · have z := i01e c_10
      have fin := hK0 (by omega)
      replace c_10 := i01e c_10
      refine A_iconst dX6_knot_13 ⟨by decide, by decide⟩ ?_
      refine A_iret dX6_knot_14 rfl ?_
      exact fin
theorem M_count {what : Int} (X : XG G) (C : CI G d R S tp T im I) (W : WI R S tp im I) (hK : ∀ (d' : HD) (n : Nat) (h s : Int → Int), FM d d' → CI G d' R S tp T im I → ((what = 6 ∨ what = 7) → KS R (knP R) n h s) → K (some (kI (countA R n s what))) G d') : AM E mX6_count (k + 5) 0 0 [kR 1, kI what] G d K := by
  obtain ⟨⟨o1, r0, r1, r2, r3, r4, r5, r6⟩, -, kO, -, g30, -⟩ := id X
  obtain ⟨ho, ⟨e7, a7⟩, ⟨e8, a8⟩, -⟩ := id g30
  have oK := kO.1
  obtain ⟨⟨v0, v1, v2, v3, v4, v5, v6⟩, -⟩ := id C.1
  obtain ⟨w0, w1, w2, w3, wc, wb, wp, wv, wd⟩ := id W.1
  have easy : ¬ (what = 6 ∨ what = 7) → K (some (kI (countA R 0 (fun _ => 0) what))) G d := fun z => hK d 0 (fun _ => 0) (fun _ => 0) FM.rf C (fun y => absurd y z)
  have hab : ∀ h : Nat, h < 3 → ∃ H : Nat, G.2.2 32 (h : Int) = H ∧ isO G H 1 ∧ d H 0 = R (37 + (h : Int)) := fun h hh => by
    obtain ⟨hn, N, Cc, hO, hC, -⟩ := C.2.1 h hh
    exact ⟨_, rfl, hO.1.1, by rw [← hC]; exact hO.1.2.1⟩
  obtain ⟨H0, b0, b1, b2⟩ := hab 0 (by omega)
  obtain ⟨H1, c0, c1, c2⟩ := hab 1 (by omega)
  obtain ⟨H2, d0, d1, d2⟩ := hab 2 (by omega)
  have b0' : G.2.2 (30 + 2) 0 = H0 := b0
  have c0' : G.2.2 (30 + 2) 1 = H1 := c0
  have d0' : G.2.2 (30 + 2) 2 = H2 := d0
  refine AM.of rfl (Nat.le_of_ble_eq_true rfl) ?_
  refine A_iload_n dX6_count_0 rfl rfl ?_
  -- switch at 1: .tableswitch 166 0 9 #[55, 63, 76, 89, 102, 110, 118, 130, 142, 150]
  by_cases hw : what < 0 ∨ 9 < what
  · have fin := easy (by omega)
    unfold countA at fin
    rw [if_pos (by omega)] at fin
    refine A_tsO (tgt := 167) dX6_count_1 (by decide) hw ?_
    refine A_iconst dX6_count_167 ⟨by decide, by decide⟩ ?_
    refine A_iret dX6_count_168 rfl ?_
    exact fin
  · rcases (show what = 0 ∨ what = 1 ∨ what = 2 ∨ what = 3 ∨ what = 4 ∨ what = 5 ∨ what = 6 ∨ what = 7 ∨ what = 8 ∨ what = 9 by omega) with rfl | rfl | rfl | rfl | rfl | rfl | rfl | rfl | rfl | rfl
    · have fin : K (some (kI (R 2))) G d := easy (by omega)
      refine A_tsI (tgt := 56) dX6_count_1 (by omega) (by omega) rfl (by decide) ?_
      refine A_aload_n dX6_count_56 rfl rfl ?_
      refine A_getR (fi := 1) dX6_count_57 fg_X6_47 rfl rfl (by assumption) (by assumption) ?_
      refine A_get (fi := 4) dX6_count_60 fg_X6_67 rfl rfl (by assumption) ?_
      rw [v4]
      refine A_iret dX6_count_63 rfl ?_
      exact fin
    · have fin : K (some (kI (R (37 + 1 - 1)))) G d := easy (by omega)
      refine A_tsI (tgt := 64) dX6_count_1 (by omega) (by omega) rfl (by decide) ?_
      refine A_aload_n dX6_count_64 rfl rfl ?_
      refine A_getR (fi := 1) dX6_count_65 fg_X6_47 rfl rfl (by assumption) (by assumption) ?_
      refine A_getR (fi := 8) dX6_count_68 fg_X6_157 rfl rfl (by assumption) (by assumption) ?_
      refine A_iconst dX6_count_71 ⟨by decide, by decide⟩ ?_
      refine A_aald (t := 3) dX6_count_72 (fun _ => rfl) (by decide) (by assumption) (by omega) (by omega) (by assumption) ?_
      refine A_get (fi := 0) dX6_count_73 fg_X6_195 rfl rfl (by assumption) ?_
      rw [b2]
      refine A_iret dX6_count_76 rfl ?_
      exact fin
    · have fin : K (some (kI (R (37 + 2 - 1)))) G d := easy (by omega)
      refine A_tsI (tgt := 77) dX6_count_1 (by omega) (by omega) rfl (by decide) ?_
      refine A_aload_n dX6_count_77 rfl rfl ?_
      refine A_getR (fi := 1) dX6_count_78 fg_X6_47 rfl rfl (by assumption) (by assumption) ?_
      refine A_getR (fi := 8) dX6_count_81 fg_X6_157 rfl rfl (by assumption) (by assumption) ?_
      refine A_iconst dX6_count_84 ⟨by decide, by decide⟩ ?_
      refine A_aald (t := 3) dX6_count_85 (fun _ => rfl) (by decide) (by assumption) (by omega) (by omega) (by assumption) ?_
      refine A_get (fi := 0) dX6_count_86 fg_X6_195 rfl rfl (by assumption) ?_
      rw [c2]
      refine A_iret dX6_count_89 rfl ?_
      exact fin
    · have fin : K (some (kI (R (37 + 3 - 1)))) G d := easy (by omega)
      refine A_tsI (tgt := 90) dX6_count_1 (by omega) (by omega) rfl (by decide) ?_
      refine A_aload_n dX6_count_90 rfl rfl ?_
      refine A_getR (fi := 1) dX6_count_91 fg_X6_47 rfl rfl (by assumption) (by assumption) ?_
      refine A_getR (fi := 8) dX6_count_94 fg_X6_157 rfl rfl (by assumption) (by assumption) ?_
      refine A_iconst dX6_count_97 ⟨by decide, by decide⟩ ?_
      refine A_aald (t := 3) dX6_count_98 (fun _ => rfl) (by decide) (by assumption) (by omega) (by omega) (by assumption) ?_
      refine A_get (fi := 0) dX6_count_99 fg_X6_195 rfl rfl (by assumption) ?_
      rw [d2]
      refine A_iret dX6_count_102 rfl ?_
      exact fin
    · have fin : K (some (kI (R 5))) G d := easy (by omega)
      refine A_tsI (tgt := 103) dX6_count_1 (by omega) (by omega) rfl (by decide) ?_
      refine A_aload_n dX6_count_103 rfl rfl ?_
      refine A_getR (fi := 1) dX6_count_104 fg_X6_47 rfl rfl (by assumption) (by assumption) ?_
      refine A_get (fi := 5) dX6_count_107 fg_X6_70 rfl rfl (by assumption) ?_
      rw [v5]
      refine A_iret dX6_count_110 rfl ?_
      exact fin
    · have fin : K (some (kI (R 6))) G d := easy (by omega)
      refine A_tsI (tgt := 111) dX6_count_1 (by omega) (by omega) rfl (by decide) ?_
      refine A_aload_n dX6_count_111 rfl rfl ?_
      refine A_getR (fi := 1) dX6_count_112 fg_X6_47 rfl rfl (by assumption) (by assumption) ?_
      refine A_get (fi := 6) dX6_count_115 fg_X6_73 rfl rfl (by assumption) ?_
      rw [v6]
      refine A_iret dX6_count_118 rfl ?_
      exact fin
    · refine A_tsI (tgt := 119) dX6_count_1 (by omega) (by omega) rfl (by decide) ?_
      refine A_aload_n dX6_count_119 rfl rfl ?_
      refine A_getR (fi := 5) dX6_count_120 fg_X6_22 rfl rfl (by assumption) (by assumption) ?_
      refine A_aload_n dX6_count_123 rfl rfl ?_
      refine A_getR (fi := 1) dX6_count_124 fg_X6_47 rfl rfl (by assumption) (by assumption) ?_
      refine A_inv1 dX6_count_127 mv_X6_196 kCl_2 (Nat.le_of_ble_eq_true rfl) (by assumption) ?_
      refine C_findIn kO (by omega) g30 C.1 W.1 (fun d2 n hm h20 H => ?_)
      have fin : K (some (kI n)) G d2 := hK d2 n (d2 5) (d2 6) (hm.fm (by omega)) (C.km W hm) (fun _ => H)
      refine A_iret dX6_count_130 rfl ?_
      exact fin
    · refine A_tsI (tgt := 131) dX6_count_1 (by omega) (by omega) rfl (by decide) ?_
      refine A_aload_n dX6_count_131 rfl rfl ?_
      refine A_getR (fi := 5) dX6_count_132 fg_X6_22 rfl rfl (by assumption) (by assumption) ?_
      refine A_aload_n dX6_count_135 rfl rfl ?_
      refine A_getR (fi := 1) dX6_count_136 fg_X6_47 rfl rfl (by assumption) (by assumption) ?_
      refine A_inv1 dX6_count_139 mv_X6_200 kCl_2 (Nat.le_of_ble_eq_true rfl) (by assumption) ?_
      refine C_carsIn kO (by omega) g30 C.1 W.1 (fun d2 n hm H => ?_)
      have fin : K (some (kI (suF (d2 6) n))) G d2 := hK d2 n (d2 5) (d2 6) (hm.fm (by omega)) (C.km W hm) (fun _ => H)
      refine A_iret dX6_count_142 rfl ?_
      exact fin
    · have fin : K (some (kI (R 3))) G d := easy (by omega)
      refine A_tsI (tgt := 143) dX6_count_1 (by omega) (by omega) rfl (by decide) ?_
      refine A_aload_n dX6_count_143 rfl rfl ?_
      refine A_getR (fi := 1) dX6_count_144 fg_X6_47 rfl rfl (by assumption) (by assumption) ?_
      refine A_get (fi := 2) dX6_count_147 fg_X6_188 rfl rfl (by assumption) ?_
      rw [v2]
      refine A_iret dX6_count_150 rfl ?_
      exact fin
    · have fin : K (some (kI (evnS R))) G d := easy (by omega)
      refine A_tsI (tgt := 151) dX6_count_1 (by omega) (by omega) rfl (by decide) ?_
      refine A_aload_n dX6_count_151 rfl rfl ?_
      refine A_getR (fi := 1) dX6_count_152 fg_X6_47 rfl rfl (by assumption) (by assumption) ?_
      refine A_inv0 dX6_count_155 mv_X6_203 kCl_4 (Nat.le_of_ble_eq_true rfl) (by assumption) ?_
      refine C_isEvenR g30 C.1.G w2.1 w2.2 (fun c c1 c2 => (wc c c1 c2).2.2.1) ?_
      have eb := evnF_b R (R 2).toNat
      refine A_if_eq (tgt := 165) dX6_count_158 (by decide) (fun c_158 => ?_) (fun c_158 => ?_)
      · rw [c_158] at fin
        refine A_iconst dX6_count_165 ⟨by decide, by decide⟩ ?_
        refine A_iret dX6_count_166 rfl ?_
        exact fin
      · rw [show evnS R = 1 by unfold evnS at c_158 ⊢; omega] at fin
        refine A_iconst dX6_count_161 ⟨by decide, by decide⟩ ?_
        refine A_goto (tgt := 166) dX6_count_162 (by decide) ?_
        refine A_iret dX6_count_166 rfl ?_
        exact fin
end CL4
