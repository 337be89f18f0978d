theorem GS.tr {G G1 G2 : HG} (h1 : GS G G1) (h2 : GS G1 G2) : GS G G2 := ⟨Nat.le_trans h1.1 h2.1, fun a a1 a2 => ⟨((h2.2 a a1 (Nat.le_trans a2 h1.1)).1).trans (h1.2 a a1 a2).1, fun z1 z2 z3 z4 => ((h2.2 a a1 (Nat.le_trans a2 h1.1)).2 z1 z2 z3 z4).trans ((h1.2 a a1 a2).2 z1 z2 z3 z4)⟩⟩
theorem FM.tr {d d1 d2 : HD} (h1 : FM d d1) (h2 : FM d1 d2) : FM d d2 := fun a a1 a2 => (h2 a a1 a2).trans (h1 a a1 a2)
section CL7
variable {E : EE} {k : Nat} {G : HG} {d : HD} {K : PQ} {R T im : Int → Int} {S : SS} {tp : Int} {I : Int → Int → Int}
theorem CI.f63 {G' : HG} {d' : HD} (C : CI G d R S tp T im I) (W : WI R S tp im I) (g : GH G G' 63 30 3) (hm : CM d d' 63) : CI G' d' R S tp T im I := C.mv W (g.gs (by omega)) (g.2.2.1 32 (by omega)) (g.2.2.1 98 (by omega)) (g.2.2.1 131 (by omega)) (C.1.cd W.1.2.2.1.2 (fun a a1 a2 => hm a (by omega))) (fun _ _ _ => rfl) (fun a ha => hm a (by omega)) (by rw [hm 9 (by omega)])
/-- after a taking, the habits are here too -/
theorem GH.HQ {G' : HG} {d' : HD} {A B : Nat} (g : GH G G' A B 3) (hA : A = 30 ∨ A = 63 ∨ A = 96 ∨ A = 129) (h : HQ G d B R) (hV : ∀ h, 0 ≤ h → h ≤ 2 → VH R h) (hm : CM d d' A) : HQ G' d' A R := by
  intro q hq
  rw [g.2.2.2 q hq]
  obtain ⟨hn, hb⟩ := h q hq
  refine ⟨hn, (HB.gs (g.gs hA) hn hb).cg (by omega) (by omega) (hV _ (by omega) (by omega)) (fun _ _ _ => rfl) (fun i hi => hm _ ?_)⟩
  unfold HN at hn
  omega
theorem HQ.o {A : Nat} (h : HQ G d A R) : ∀ q : Nat, q < 3 → isO G (G.2.2 (A + 2) (q : Int)) 1 := fun q hq => by
  obtain ⟨-, N, Cc, hO, -⟩ := h q hq
  exact hO.1.1
/-- foretold takes what is here -/
theorem M_take63 (X : XG G) (C : CI G d R S tp T im I) (W : WI R S tp im I) (hK : ∀ (G' : HG) (d' : HD), GH G G' 63 30 3 → CM d d' 63 → CV d' 63 R → HQ G' d' 63 R → K none G' d') : AM E mX4_takeFrom (k + 2) 0 0 [kR 63, kR 30] G d K := by
  obtain ⟨-, -, -, -, g30, g63, -⟩ := id X
  refine C_takeFrom g63 g30 (by omega) C.1 W.1 C.2.1.o (fun G' d' g m v => hK G' d' g m v ?_)
  exact g.HQ (by omega) C.2.1 W.1.2.2.2.2.2.2.2.1 m
theorem M_foretell {car n : Nat} {ta : Int} (X : XG G) (C : CI G d R S tp T im I) (W : WI R S tp im I) (hc : (car : Int) < R 2) (hta : ta = 0 ∨ ta = 1) (hn : n ≤ 200) (hK : ∀ (G' : HG) (d' : HD), GH G G' 63 30 3 → CM d d' 63 → CV d' 63 (tkN (fU R (340 + 24 * (car : Int) + 7) ta) n) → K none G' d') : AM E mX6_foretell (k + 5) 0 0 [kR 1, kI car, kI ta, kI n] G d K := by
  obtain ⟨⟨o1, r0, r1, r2, -⟩, -, -, -, g30, g63, -⟩ := id X
  have o30 := g30.1
  have o63 := g63.1
  obtain ⟨w0, w1, w2, w3, wc, wb, wp, wv, wd⟩ := id W.1
  have n9 := W.2.1
  refine AM.of rfl (Nat.le_of_ble_eq_true rfl) ?_
  refine A_aload_n dX6_foretell_0 rfl rfl ?_
  refine A_getR (fi := 2) dX6_foretell_1 fg_X6_51 rfl rfl (by assumption) (by assumption) ?_
  refine A_aload_n dX6_foretell_4 rfl rfl ?_
  refine A_getR (fi := 1) dX6_foretell_5 fg_X6_47 rfl rfl (by assumption) (by assumption) ?_
  refine A_inv1 dX6_foretell_8 mv_X6_227 kCl_4 (Nat.le_of_ble_eq_true rfl) (by assumption) ?_
  refine M_take63 X C W (fun G' d' g m v hq => ?_)
  have X' := X.gs (g.gs (by omega))
  obtain ⟨⟨p1, t0, t1, t2, -⟩, -, -, -, f30, f63, -⟩ := id X'
  obtain ⟨q63, ⟨e7, a7⟩, -, -, -, -, -, -, -, hcar⟩ := id f63
  obtain ⟨ec, oc, -, -⟩ := hcar car (by omega)
  refine A_aload_n dX6_foretell_11 rfl rfl ?_
  refine A_getR (fi := 2) dX6_foretell_12 fg_X6_51 rfl rfl (by assumption) (by assumption) ?_
  refine A_getR (fi := 7) dX6_foretell_15 fg_X6_100 rfl rfl (by assumption) (by assumption) ?_
  refine A_iload_n dX6_foretell_18 rfl rfl ?_
  refine A_aald (t := 2) dX6_foretell_19 (fun _ => rfl) (by decide) (by assumption) (by omega) (by omega) (by assumption) ?_
  refine A_iload_n dX6_foretell_20 rfl rfl ?_
  refine A_putZ (fi := 7) dX6_foretell_21 fp_X6_184 rfl rfl (by assumption) (by first | exact Or.inl rfl | exact Or.inr rfl | assumption | omega) ?_
  refine A_aload_n dX6_foretell_24 rfl rfl ?_
  refine A_getR (fi := 2) dX6_foretell_25 fg_X6_51 rfl rfl (by assumption) (by assumption) ?_
  refine A_iload_n dX6_foretell_28 rfl rfl ?_
  refine A_inv1 dX6_foretell_29 mv_X6_192 kCl_4 (Nat.le_of_ble_eq_true rfl) (by assumption) ?_
  have v2 := v.w (c := car) (w := 7) (v := ta) wb.2.1 wp.2.1 (by omega) (by omega)
  have m2 : CM d (kU d' (63 + 9 + 2 * car) 7 ta) 63 := m.u (by omega) (by omega)
  have hW := W.1.tp (car := car) (v := ta) (by omega) hc hta
  refine C_run f63 v2 ?_ hW w3.1 (by omega) (fun d2 m3 p3 => ?_)
  · refine (hq.hs (by omega) (by omega)).cg wv (fun j _ _ => fU_n (by omega)) (CM.rf.u (by omega) (by omega))
  refine A_vret dX6_foretell_32 rfl ?_
  exact hK G' d2 g (m2.tr m3) p3
theorem M_cost {car n who : Int} (X : XG G) (C : CI G d R S tp T im I) (W : WI R S tp im I) (hK : ∀ (G' : HG) (d' : HD), GS G G' → G'.1 = G.1 → FM d d' → CI G' d' R S tp T im I → K (some (kI (costA R car n who))) G' d') : AM E mX6_cost (k + 6) 0 0 [kR 1, kI car, kI n, kI who] G d K := by
  obtain ⟨⟨o1, r0, r1, r2, -⟩, -, -, -, g30, g63, -⟩ := id X
  have o63 := g63.1
  obtain ⟨w0, w1, w2, w3, wc, wb, wp, wv, wd⟩ := id W.1
  have n9 := W.2.1
  unfold costA at hK
  have bad : ¬ ((0 ≤ car ∧ car < R 2) ∧ (1 ≤ n ∧ n ≤ 200) ∧ (who = -1 ∨ (0 ≤ who ∧ who < R 2))) → K (some (kI (-100001))) G d := fun z => by
    rw [if_pos z] at hK
    exact hK G d GS.rf rfl FM.rf C
  have go : (0 ≤ car ∧ car < R 2) → (1 ≤ n ∧ n ≤ 200) → (who = -1 ∨ (0 ≤ who ∧ who < R 2)) → AW E mX6_cost (k + 6) 0 0 35 [some (kR 1), some (kI car), some (kI n), some (kI who), none] [] G d K := by
    intro z1 z2 z3
    rw [if_neg (fun z => z ⟨z1, z2, z3⟩)] at hK
    obtain ⟨q, hq⟩ : ∃ q : Nat, car = q := ⟨car.toNat, by omega⟩
    obtain ⟨N, hN⟩ : ∃ N : Nat, n = N := ⟨n.toNat, by omega⟩
    subst hq
    subst hN
    rw [show ((N : Int)).toNat = N by omega] at hK
    have wr : ∀ ta, (ta = 0 ∨ ta = 1) → WR (tkN (fU R (340 + 24 * (q : Int) + 7) ta) N) (R 3 + N) ∧ tkN (fU R (340 + 24 * (q : Int) + 7) ta) N 2 = R 2 := fun ta h => by
      have hW := W.1.tp (car := q) (v := ta) z1.1 z1.2 h
      exact ⟨tkN_W hW w3.1 N, by rw [tkN_2 hW w3.1, fU_n (by omega)]⟩
    have rg : ∀ ta, (ta = 0 ∨ ta = 1) → 0 ≤ wentS (tkN (fU R (340 + 24 * (q : Int) + 7) ta) N) who ∧ wentS (tkN (fU R (340 + 24 * (q : Int) + 7) ta) N) who ≤ 108 * (R 3 + N) := fun ta h => wentS_rg (wr ta h).1 (by omega)
    have rg0 := rg 0 (Or.inl rfl)
    have rg1 := rg 1 (Or.inr rfl)
    refine A_aload_n dX6_cost_35 rfl rfl ?_
    refine A_iload_n dX6_cost_36 rfl rfl ?_
    refine A_iconst dX6_cost_37 ⟨by decide, by decide⟩ ?_
    refine A_iload_n dX6_cost_38 rfl rfl ?_
    refine A_inv3 dX6_cost_39 mv_X6_212 kCl_6 (Nat.le_of_ble_eq_true rfl) (by assumption) ?_
    refine M_foretell X C W z1.2 (Or.inr rfl) (by omega) (fun G1 d1 g1 m1 p1 => ?_)
    have X1 := X.gs (g1.gs (by omega))
    have C1 := C.f63 W g1 m1
    obtain ⟨⟨x1, t0, t1, t2, -⟩, -, -, -, f30, f63, -⟩ := id X1
    have q63 := f63.1
    refine A_aload_n dX6_cost_42 rfl rfl ?_
    refine A_getR (fi := 2) dX6_cost_43 fg_X6_51 rfl rfl (by assumption) (by assumption) ?_
    refine A_iload_n dX6_cost_46 rfl rfl ?_
    refine A_inv1 dX6_cost_47 mv_X6_216 kCl_4 (Nat.le_of_ble_eq_true rfl) (by assumption) ?_
    refine C_cellsGone f63 p1 (wr 1 (Or.inr rfl)).1 (by omega) (by omega) (by rw [(wr 1 (Or.inr rfl)).2]; exact z3) ?_
    refine A_istore dX6_cost_50 (Nat.le_of_ble_eq_true rfl) rfl ?_
    refine A_aload_n dX6_cost_52 rfl rfl ?_
    refine A_iload_n dX6_cost_53 rfl rfl ?_
    refine A_iconst dX6_cost_54 ⟨by decide, by decide⟩ ?_
    refine A_iload_n dX6_cost_55 rfl rfl ?_
    refine A_inv3 dX6_cost_56 mv_X6_212 kCl_6 (Nat.le_of_ble_eq_true rfl) (by assumption) ?_
    refine M_foretell X1 C1 W z1.2 (Or.inl rfl) (by omega) (fun G2 d2 g2 m2 p2 => ?_)
    have X2 := X1.gs (g2.gs (by omega))
    have C2 := C1.f63 W g2 m2
    obtain ⟨⟨y1, s0, s1, s2, -⟩, -, -, -, h30, h63, -⟩ := id X2
    have u63 := h63.1
    refine A_aload_n dX6_cost_59 rfl rfl ?_
    refine A_getR (fi := 2) dX6_cost_60 fg_X6_51 rfl rfl (by assumption) (by assumption) ?_
    refine A_iload_n dX6_cost_63 rfl rfl ?_
    refine A_inv1 dX6_cost_64 mv_X6_216 kCl_4 (Nat.le_of_ble_eq_true rfl) (by assumption) ?_
    refine C_cellsGone h63 p2 (wr 0 (Or.inl rfl)).1 (by omega) (by omega) (by rw [(wr 0 (Or.inl rfl)).2]; exact z3) ?_
    refine A_iload dX6_cost_67 rfl ?_
    refine A_isub_ok dX6_cost_69 (by omega) (by omega) ?_
    refine A_iret dX6_cost_70 rfl ?_
    exact hK G2 d2 ((g1.gs (by omega)).tr (g2.gs (by omega))) (g2.1.trans g1.1) ((m1.fm (by omega)).tr (m2.fm (by omega))) C2
  refine AM.of rfl (Nat.le_of_ble_eq_true rfl) ?_
  refine A_aload_n dX6_cost_0 rfl rfl ?_
  refine A_iload_n dX6_cost_1 rfl rfl ?_
  refine A_inv1 dX6_cost_2 mv_X6_97 kCl_6 (Nat.le_of_ble_eq_true rfl) (by assumption) ?_
  refine C_isCar6 X C W ?_
  refine A_if_eq (tgt := 32) dX6_cost_5 (by decide) (fun c_5 => ?_) (fun c_5 => ?_)
  · have z := i01e c_5
    have fin := bad (by omega)
    replace c_5 := i01e c_5
    refine A_ldc (x := -100001) dX6_cost_32 cs_X6_211 rfl ⟨by decide, by decide⟩ ?_
    refine A_iret dX6_cost_34 rfl ?_
    exact fin
  · have z5 := i01n c_5
    replace c_5 := i01n c_5
    refine A_iload_n dX6_cost_8 rfl rfl ?_
    refine A_iconst dX6_cost_9 ⟨by decide, by decide⟩ ?_
    refine A_sipush dX6_cost_10 ⟨by decide, by decide⟩ rfl ?_
    refine A_ins3 dX6_cost_13 ms_X6_59 (Nat.le_of_ble_eq_true rfl) ?_
    refine C_within ?_
    refine A_if_eq (tgt := 32) dX6_cost_16 (by decide) (fun c_16 => ?_) (fun c_16 => ?_)
    · have z := i01e c_16
      have fin := bad (by omega)
      replace c_16 := i01e c_16
      refine A_ldc (x := -100001) dX6_cost_32 cs_X6_211 rfl ⟨by decide, by decide⟩ ?_
      refine A_iret dX6_cost_34 rfl ?_
      exact fin
    · have z16 := i01n c_16
      replace c_16 := i01n c_16
      refine A_iload_n dX6_cost_19 rfl rfl ?_
      refine A_iconst dX6_cost_20 ⟨by decide, by decide⟩ ?_
      refine A_icmp_eq (tgt := 35) dX6_cost_21 (by decide) (fun c_21 => ?_) (fun c_21 => ?_)
      · skip
        exact go (by omega) (by omega) (Or.inl c_21)
      · refine A_aload_n dX6_cost_24 rfl rfl ?_
        refine A_iload_n dX6_cost_25 rfl rfl ?_
        refine A_inv1 dX6_cost_26 mv_X6_97 kCl_6 (Nat.le_of_ble_eq_true rfl) (by assumption) ?_
        refine C_isCar6 X C W ?_
        refine A_if_ne (tgt := 35) dX6_cost_29 (by decide) (fun c_29 => ?_) (fun c_29 => ?_)
        · have z29 := i01n c_29
          replace c_29 := i01n c_29
          exact go (by omega) (by omega) (Or.inr (by omega))
        · have z := i01e c_29
          have fin := bad (by omega)
          replace c_29 := i01e c_29
          refine A_ldc (x := -100001) dX6_cost_32 cs_X6_211 rfl ⟨by decide, by decide⟩ ?_
          refine A_iret dX6_cost_34 rfl ?_
          exact fin
theorem hsR_0 : ∀ k : Nat, hsR R 0 k = R
  | 0 => rfl
  | k + 1 => by
    simp only [hsR]
    rw [hsR_0 k]
    have e : kAnd (kShr 0 (k : Int)) 1 = 0 := by
      have : kShr 0 (k : Int) = 0 := by
        unfold kShr
        rw [show (Int32.ofInt 0) = 0 by decide]
        simp
      rw [this]
      decide
    rw [if_neg (by rw [e]; decide)]
    funext j
    unfold fU
    split
    · rename_i z; rw [z]; rfl
    · rfl
theorem M_after {car n : Int} (X : XG G) (C : CI G d R S tp T im I) (W : WI R S tp im I) (hK : ∀ (G' : HG) (d' : HD), GS G G' → G'.1 = G.1 → FM d d' → CI G' d' R S tp T im I → K (some (kI (afterA R car n))) G' d') : AM E mX6_after (k + 6) 0 0 [kR 1, kI car, kI n] G d K := by
  obtain ⟨⟨o1, r0, r1, r2, r3, r4, r5, r6⟩, -, kO, -, g30, g63, -⟩ := id X
  obtain ⟨w0, w1, w2, w3, wc, wb, wp, wv, wd⟩ := id W.1
  have n9 := W.2.1
  unfold afterA at hK
  refine AM.of rfl (Nat.le_of_ble_eq_true rfl) ?_
  refine A_aload_n dX6_after_0 rfl rfl ?_
  refine A_iload_n dX6_after_1 rfl rfl ?_
  refine A_inv1 dX6_after_2 mv_X6_97 kCl_6 (Nat.le_of_ble_eq_true rfl) (by assumption) ?_
  refine C_isCar6 X C W ?_
  refine A_if_eq (tgt := 19) dX6_after_5 (by decide) (fun c_5 => ?_) (fun c_5 => ?_)
  · have z := i01e c_5
    rw [if_neg (by omega)] at hK
    have fin := hK G d GS.rf rfl FM.rf C
    replace c_5 := i01e c_5
    refine A_iconst dX6_after_19 ⟨by decide, by decide⟩ ?_
    refine A_iret dX6_after_20 rfl ?_
    exact fin
  · have z5 := i01n c_5
    replace c_5 := i01n c_5
    refine A_iload_n dX6_after_8 rfl rfl ?_
    refine A_iconst dX6_after_9 ⟨by decide, by decide⟩ ?_
    refine A_sipush dX6_after_10 ⟨by decide, by decide⟩ rfl ?_
    refine A_ins3 dX6_after_13 ms_X6_59 (Nat.le_of_ble_eq_true rfl) ?_
    refine C_within ?_
    refine A_if_ne (tgt := 21) dX6_after_16 (by decide) (fun c_16 => ?_) (fun c_16 => ?_)
    · have z16 := i01n c_16
      rw [if_pos (by omega)] at hK
      obtain ⟨q, hq⟩ : ∃ q : Nat, car = q := ⟨car.toNat, by omega⟩
      obtain ⟨N, hN⟩ : ∃ N : Nat, n = N := ⟨n.toNat, by omega⟩
      subst hq
      subst hN
      unfold kaR at hK
      rw [show ((N : Int)).toNat = N by omega, hsR_0] at hK
      replace c_16 := i01n c_16
      refine A_aload_n dX6_after_21 rfl rfl ?_
      refine A_iload_n dX6_after_22 rfl rfl ?_
      refine A_iconst dX6_after_23 ⟨by decide, by decide⟩ ?_
      refine A_iload_n dX6_after_24 rfl rfl ?_
      refine A_inv3 dX6_after_25 mv_X6_212 kCl_6 (Nat.le_of_ble_eq_true rfl) (by assumption) ?_
      refine M_foretell X C W (by omega) (Or.inr rfl) (by omega) (fun G1 d1 g1 m1 p1 => ?_)
      have X1 := X.gs (g1.gs (by omega))
      have C1 := C.f63 W g1 m1
      obtain ⟨⟨x1, t0, t1, t2, t3, t4, t5, t6⟩, -, kO1, -, f30, f63, -⟩ := id X1
      have oK1 := kO1.1
      have hW := tkN_W (W.1.tp (car := q) (v := 1) (by omega) (by omega) (Or.inr rfl)) w3.1 N
      refine A_aload_n dX6_after_28 rfl rfl ?_
      refine A_getR (fi := 5) dX6_after_29 fg_X6_22 rfl rfl (by assumption) (by assumption) ?_
      refine A_aload_n dX6_after_32 rfl rfl ?_
      refine A_getR (fi := 2) dX6_after_33 fg_X6_51 rfl rfl (by assumption) (by assumption) ?_
      refine A_inv1 dX6_after_36 mv_X6_196 kCl_2 (Nat.le_of_ble_eq_true rfl) (by assumption) ?_
      refine C_findIn kO1 (by omega) f63 p1 hW (fun d2 n2 hm h20 H => ?_)
      refine A_iret dX6_after_39 rfl ?_
      rw [KS_n H]
      refine hK G1 d2 (g1.gs (by omega)) g1.1 ((m1.fm (by omega)).tr (hm.fm (by omega))) ?_
      refine C1.mv W GS.rf rfl rfl rfl (C1.1.cd w2.2 (fun a a1 a2 => hm.o (by omega) (by omega))) (fun _ _ _ => rfl) (fun a ha => hm.o (by omega) (by omega)) (by rw [hm.o (a := 9) (by omega) (by omega)])
    · have z := i01e c_16
      rw [if_neg (by omega)] at hK
      have fin := hK G d GS.rf rfl FM.rf C
      replace c_16 := i01e c_16
      refine A_iconst dX6_after_19 ⟨by decide, by decide⟩ ?_
      refine A_iret dX6_after_20 rfl ?_
      exact fin
/-- words that a tick leaves alone: habit and late -/
theorem tick_34 {B : Int} (h : WR R B) {c w : Int} (hc : 0 ≤ c) (hw : w = 3 ∨ w = 4) : cfR (tickR R) c w = cfR R c w := by
  have e6 : tk2 R 6 = R 6 := tk2_at (by omega)
  unfold cfR tickR
  rw [nfR_n (by omega), fU_n (by omega)]
  show goF (tk2 R) (tkW R) (R 2).toNat _ = _
  rw [goF_at _ _ (by omega) (by rw [e6]; exact h.2.2.2.2.2.2.1.1) (by rw [e6]; exact h.2.2.2.2.2.2.1.2.1)]
  exact tk2_at (by omega)
theorem tkN_4 {B : Int} (h : WR R B) (hB : 0 ≤ B) {c w : Int} (hc : 0 ≤ c) (hw : w = 3 ∨ w = 4) : ∀ k : Nat, cfR (tkN R k) c w = cfR R c w
  | 0 => rfl
  | k + 1 => by
    simp only [tkN]
    rw [tick_34 (tkN_W h hB k) hc hw, tkN_4 h hB hc hw k]
theorem M_round {n : Int} (X : XG G) (C : CI G d R S tp T im I) (W : WI R S tp im I) (hK : ∀ (G' : HG) (d' : HD), GS G G' → G'.1 = G.1 → FM d d' → CI G' d' R S tp T im I → K (some (kI (roundA R n))) G' d') : AM E mX6_round (k + 4) 0 0 [kR 1, kI n] G d K := by
  obtain ⟨⟨o1, r0, r1, r2, -⟩, -, -, -, g30, g63, -⟩ := id X
  have o63 := g63.1
  obtain ⟨w0, w1, w2, w3, wc, wb, wp, wv, wd⟩ := id W.1
  have n9 := W.2.1
  unfold roundA at hK
  refine AM.of rfl (Nat.le_of_ble_eq_true rfl) ?_
  refine A_iload_n dX6_round_0 rfl rfl ?_
  refine A_iconst dX6_round_1 ⟨by decide, by decide⟩ ?_
  refine A_sipush dX6_round_2 ⟨by decide, by decide⟩ rfl ?_
  refine A_ins3 dX6_round_5 ms_X6_59 (Nat.le_of_ble_eq_true rfl) ?_
  refine C_within ?_
  refine A_if_ne (tgt := 13) dX6_round_8 (by decide) (fun c_8 => ?_) (fun c_8 => ?_)
  · have z := i01n c_8
    rw [if_neg (by omega)] at hK
    obtain ⟨N, hN⟩ : ∃ N : Nat, n = N := ⟨n.toNat, by omega⟩
    subst hN
    rw [show ((N : Int)).toNat = N by omega] at hK
    replace c_8 := i01n c_8
    refine A_aload_n dX6_round_13 rfl rfl ?_
    refine A_getR (fi := 2) dX6_round_14 fg_X6_51 rfl rfl (by assumption) (by assumption) ?_
    refine A_aload_n dX6_round_17 rfl rfl ?_
    refine A_getR (fi := 1) dX6_round_18 fg_X6_47 rfl rfl (by assumption) (by assumption) ?_
    refine A_inv1 dX6_round_21 mv_X6_227 kCl_4 (Nat.le_of_ble_eq_true rfl) (by assumption) ?_
    refine M_take63 X C W (fun G1 d1 g m v hq => ?_)
    have X1 := X.gs (g.gs (by omega))
    obtain ⟨⟨p1, t0, t1, t2, -⟩, -, -, -, f30, f63, -⟩ := id X1
    have q63 := f63.1
    have q30 := f30.1
    have fin : ∀ (d' : HD) (x : Int), CM d d' 63 → x = rndF R N 1 → K (some (kI x)) G1 d' := fun d' x hm hx => by rw [hx]; exact hK G1 d' (g.gs (by omega)) g.1 (hm.fm (by omega)) (C.f63 W g hm)
    have hS0 := hq.hs (by omega) (by omega)
    have loop : ∀ (f t : Nat), t + f = N → ∀ (d' : HD), CM d d' 63 → CM d1 d' 63 → CV d' 63 (tkN R t) → rndF R f (t + 1) = rndF R N 1 → AW E mX6_round (k + 4) 0 0 26 [some (kR 1), some (kI N), some (kI ((t : Int) + 1))] [] G1 d' K := by
      intro f
      induction f with
      | zero =>
        intro t ht d' hm hm1 hv he
        have fin := fin d' (-4) hm he
        refine A_iload_n dX6_round_26 rfl rfl ?_
        refine A_iload_n dX6_round_27 rfl rfl ?_
        refine A_icmp_gt (tgt := 60) dX6_round_28 (by decide) (fun c_28 => ?_) (fun c_28 => absurd c_28 (by omega))
        refine A_bipush dX6_round_60 ⟨by decide, by decide⟩ rfl ?_
        refine A_iret dX6_round_62 rfl ?_
        exact fin
      | succ f ih =>
        intro t ht d' hm hm1 hv he
        simp only [rndF] at he
        refine A_iload_n dX6_round_26 rfl rfl ?_
        refine A_iload_n dX6_round_27 rfl rfl ?_
        refine A_icmp_gt (tgt := 60) dX6_round_28 (by decide) (fun c_28 => absurd c_28 (by omega)) (fun c_28 => ?_)
        refine A_aload_n dX6_round_31 rfl rfl ?_
        refine A_getR (fi := 2) dX6_round_32 fg_X6_51 rfl rfl (by assumption) (by assumption) ?_
        refine A_inv0 dX6_round_35 mv_X6_231 kCl_4 (Nat.le_of_ble_eq_true rfl) (by assumption) ?_
        refine C_tickR (B := R 3 + t) f63 hv (hS0.cg wv (fun i i1 i2 => tkN_t W.1 w3.1 t i i1 i2) hm1) (tkN_W W.1 w3.1 t) (by omega) (by omega) (fun d2 m2 p2 => ?_)
        have hm2 := hm.tr m2
        have hV30 : CV d2 30 R := C.1.cd w2.2 (fun a a1 a2 => hm2 a (by omega))
        have eW := tkN_W W.1 w3.1 (t + 1)
        refine A_aload_n dX6_round_38 rfl rfl ?_
        refine A_getR (fi := 2) dX6_round_39 fg_X6_51 rfl rfl (by assumption) (by assumption) ?_
        refine A_aload_n dX6_round_42 rfl rfl ?_
        refine A_getR (fi := 1) dX6_round_43 fg_X6_47 rfl rfl (by assumption) (by assumption) ?_
        refine A_inv1 dX6_round_46 mv_X6_234 kCl_4 (Nat.le_of_ble_eq_true rfl) (by assumption) ?_
        refine C_ringLike f63 f30 p2 hV30 (tkN_2 W.1 w3.1 (t + 1)) w2.1 w2.2 (fun c hc => ?_) ?_
        · have a := wc c (by omega) hc
          have b := eW.2.2.2.2.1 c (by omega) (by rw [tkN_2 W.1 w3.1]; exact hc)
          refine ⟨tkN_4 W.1 w3.1 (by omega) (Or.inr rfl) (t + 1), a.2.2.2.2.1, ⟨b.2.2.2.2.2.2.2.2.1, ?_⟩, a.2.2.2.2.2.2.2.2.1, ?_⟩
          · have := b.2.2.2.2.2.2.2.2.2
            show cfR (tkN R (t + 1)) c 8 ≤ 1000000
            omega
          · have := a.2.2.2.2.2.2.2.2.2; omega
        have et : tickR (tkN R t) = tkN R (t + 1) := rfl
        rw [et]
        rw [show ((t + 1 : Nat) : Int) = (t : Int) + 1 by omega] at he
        refine A_if_eq (tgt := 54) dX6_round_49 (by decide) (fun c_49 => ?_) (fun c_49 => ?_)
        · rw [if_neg (fun z => z c_49)] at he
          refine A_iinc_ok dX6_round_54 rfl rfl (by omega) (by omega) ?_
          refine A_goto (tgt := 26) dX6_round_57 (by decide) ?_
          exact ih (t + 1) (by omega) d2 hm2 (hm1.tr m2) p2 he
        · rw [if_pos c_49] at he
          have fin := fin d2 ((t : Int) + 1) hm2 he
          refine A_iload_n dX6_round_52 rfl rfl ?_
          refine A_iret dX6_round_53 rfl ?_
          exact fin
    refine A_iconst dX6_round_24 ⟨by decide, by decide⟩ ?_
    refine A_istore_n dX6_round_25 rfl (Nat.le_of_ble_eq_true rfl) rfl ?_
    exact loop N 0 (by omega) d1 m CM.rf v rfl
  · have z := i01e c_8
    rw [if_pos (by omega)] at hK
    have fin := hK G d GS.rf rfl FM.rf C
    replace c_8 := i01e c_8
    refine A_iconst dX6_round_11 ⟨by decide, by decide⟩ ?_
    refine A_iret dX6_round_12 rfl ?_
    exact fin
theorem M_evens {n : Int} (X : XG G) (C : CI G d R S tp T im I) (W : WI R S tp im I) (hK : ∀ (G' : HG) (d' : HD), GS G G' → G'.1 = G.1 → FM d d' → CI G' d' R S tp T im I → K (some (kI (evensA R n))) G' d') : AM E mX6_evens (k + 4) 0 0 [kR 1, kI n] G d K := by
  obtain ⟨⟨o1, r0, r1, r2, -⟩, -, -, -, g30, g63, -⟩ := id X
  have o63 := g63.1
  obtain ⟨w0, w1, w2, w3, wc, wb, wp, wv, wd⟩ := id W.1
  have n9 := W.2.1
  unfold evensA at hK
  refine AM.of rfl (Nat.le_of_ble_eq_true rfl) ?_
  refine A_iload_n dX6_evens_0 rfl rfl ?_
  refine A_iconst dX6_evens_1 ⟨by decide, by decide⟩ ?_
  refine A_sipush dX6_evens_2 ⟨by decide, by decide⟩ rfl ?_
  refine A_ins3 dX6_evens_5 ms_X6_59 (Nat.le_of_ble_eq_true rfl) ?_
  refine C_within ?_
  refine A_if_ne (tgt := 13) dX6_evens_8 (by decide) (fun c_8 => ?_) (fun c_8 => ?_)
  · have z := i01n c_8
    rw [if_neg (by omega)] at hK
    obtain ⟨N, hN⟩ : ∃ N : Nat, n = N := ⟨n.toNat, by omega⟩
    subst hN
    rw [show ((N : Int)).toNat = N by omega] at hK
    replace c_8 := i01n c_8
    refine A_aload_n dX6_evens_13 rfl rfl ?_
    refine A_getR (fi := 2) dX6_evens_14 fg_X6_51 rfl rfl (by assumption) (by assumption) ?_
    refine A_aload_n dX6_evens_17 rfl rfl ?_
    refine A_getR (fi := 1) dX6_evens_18 fg_X6_47 rfl rfl (by assumption) (by assumption) ?_
    refine A_inv1 dX6_evens_21 mv_X6_227 kCl_4 (Nat.le_of_ble_eq_true rfl) (by assumption) ?_
    refine M_take63 X C W (fun G1 d1 g m v hq => ?_)
    have X1 := X.gs (g.gs (by omega))
    obtain ⟨⟨p1, t0, t1, t2, -⟩, -, -, -, f30, f63, -⟩ := id X1
    have q63 := f63.1
    have fin : ∀ (d' : HD) (x : Int), CM d d' 63 → x = evsF R (N + 1) 0 → K (some (kI x)) G1 d' := fun d' x hm hx => by rw [hx]; exact hK G1 d' (g.gs (by omega)) g.1 (hm.fm (by omega)) (C.f63 W g hm)
    have hS0 := hq.hs (by omega) (by omega)
    have loop : ∀ (f t : Nat), t + f = N + 1 → ∀ (d' : HD), CM d d' 63 → CM d1 d' 63 → CV d' 63 (tkN R t) → evsF R f t = evsF R (N + 1) 0 → AW E mX6_evens (k + 4) 0 0 26 [some (kR 1), some (kI N), some (kI t)] [] G1 d' K := by
      intro f
      induction f with
      | zero =>
        intro t ht d' hm hm1 hv he
        have fin := fin d' (-4) hm he
        refine A_iload_n dX6_evens_26 rfl rfl ?_
        refine A_iload_n dX6_evens_27 rfl rfl ?_
        refine A_icmp_gt (tgt := 56) dX6_evens_28 (by decide) (fun c_28 => ?_) (fun c_28 => absurd c_28 (by omega))
        refine A_bipush dX6_evens_56 ⟨by decide, by decide⟩ rfl ?_
        refine A_iret dX6_evens_58 rfl ?_
        exact fin
      | succ f ih =>
        intro t ht d' hm hm1 hv he
        simp only [evsF] at he
        have eW := tkN_W W.1 w3.1 t
        have e2 := tkN_2 W.1 w3.1 t
        refine A_iload_n dX6_evens_26 rfl rfl ?_
        refine A_iload_n dX6_evens_27 rfl rfl ?_
        refine A_icmp_gt (tgt := 56) dX6_evens_28 (by decide) (fun c_28 => absurd c_28 (by omega)) (fun c_28 => ?_)
        refine A_aload_n dX6_evens_31 rfl rfl ?_
        refine A_getR (fi := 2) dX6_evens_32 fg_X6_51 rfl rfl (by assumption) (by assumption) ?_
        refine A_inv0 dX6_evens_35 mv_X6_203 kCl_4 (Nat.le_of_ble_eq_true rfl) (by assumption) ?_
        refine C_isEvenR f63 hv.G (by rw [e2]; exact w2.1) (by rw [e2]; exact w2.2) (fun c c1 c2 => (eW.2.2.2.2.1 c c1 c2).2.2.1) ?_
        refine A_if_eq (tgt := 43) dX6_evens_38 (by decide) (fun c_38 => ?_) (fun c_38 => ?_)
        · rw [if_neg (fun z => z c_38)] at he
          refine A_aload_n dX6_evens_43 rfl rfl ?_
          refine A_getR (fi := 2) dX6_evens_44 fg_X6_51 rfl rfl (by assumption) (by assumption) ?_
          refine A_inv0 dX6_evens_47 mv_X6_231 kCl_4 (Nat.le_of_ble_eq_true rfl) (by assumption) ?_
          refine C_tickR (B := R 3 + t) f63 hv (hS0.cg wv (fun i i1 i2 => tkN_t W.1 w3.1 t i i1 i2) hm1) eW (by omega) (by omega) (fun d2 m2 p2 => ?_)
          refine A_iinc_ok dX6_evens_50 rfl rfl (by omega) (by omega) ?_
          refine A_goto (tgt := 26) dX6_evens_53 (by decide) ?_
          exact ih (t + 1) (by omega) d2 (hm.tr m2) (hm1.tr m2) p2 he
        · rw [if_pos c_38] at he
          have fin := fin d' t hm he
          refine A_iload_n dX6_evens_41 rfl rfl ?_
          refine A_iret dX6_evens_42 rfl ?_
          exact fin
    refine A_iconst dX6_evens_24 ⟨by decide, by decide⟩ ?_
    refine A_istore_n dX6_evens_25 rfl (Nat.le_of_ble_eq_true rfl) rfl ?_
    exact loop (N + 1) 0 (by omega) d1 m CM.rf v rfl
  · have z := i01e c_8
    rw [if_pos (by omega)] at hK
    have fin := hK G d GS.rf rfl FM.rf C
    replace c_8 := i01e c_8
    refine A_iconst dX6_evens_11 ⟨by decide, by decide⟩ ?_
    refine A_iret dX6_evens_12 rfl ?_
    exact fin
end CL7
