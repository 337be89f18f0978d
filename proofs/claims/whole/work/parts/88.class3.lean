theorem CM.fm {d d' : HD} {A : Nat} (h : CM d d' A) (hA : A ≤ 129) : FM d d' := fun a a1 a2 => h a (by omega)
theorem FM.rf {d : HD} : FM d d := fun _ _ _ => rfl
theorem FM.u {d d' : HD} {a : Nat} {i v : Int} (h : FM d d') (ha : a < 170 ∨ 184 < a) : FM d (kU d' a i v) := fun b b1 b2 => by rw [kU_ne (by omega)]; exact h b b1 b2
section CVa
variable {A : Nat} {d : HD} {R : Int → Int}
theorem CV.h0 {v : Int} (h : CV d A R) : CV (kU d A 0 v) A (fU R 0 v) := by
  obtain ⟨h0, hc', hb, hl⟩ := h
  have e : ∀ j, j ≠ 0 → fU R 0 v j = R j := fun j hj => fU_n hj
  refine ⟨?_, fun e' e1 => ⟨fun w' w1 w2 => ?_, fun i' q' i1 i2 i3 q1 q2 => ?_⟩, fun x b1 b2 => ?_, fun x b1 b2 => ?_⟩
  · rw [kU_s, fU_s, kU_f (by decide), kU_f (by decide), kU_f (by decide), kU_f (by decide), kU_f (by decide), kU_f (by decide), e 1 (by omega), e 2 (by omega), e 3 (by omega), e 4 (by omega), e 5 (by omega), e 6 (by omega)]
    exact ⟨rfl, h0.2⟩
  · rw [e 2 (by omega)] at e1
    rw [kU_ne (by omega), show cfR (fU R 0 v) e' w' = cfR R e' w' from e _ (by omega)]
    exact (hc' e' e1).1 w' w1 w2
  · rw [e 2 (by omega)] at e1
    have x : ∀ z, 0 ≤ z → cfR (fU R 0 v) e' z = cfR R e' z := fun z z1 => e _ (by omega)
    rw [x 8 (by omega)] at i3
    rw [x 8 (by omega), x _ (by omega), kU_ne (by omega)]
    exact (hc' e' e1).2 i' q' i1 i2 i3 q1 q2
  · rw [e 5 (by omega)] at b2
    rw [kU_ne (by omega), kU_ne (by omega), kU_ne (by omega), e _ (by omega), e _ (by omega), e _ (by omega)]
    exact hb x b1 b2
  · rw [e 6 (by omega)] at b2
    rw [kU_ne (by omega), kU_ne (by omega), kU_ne (by omega), e _ (by omega), e _ (by omega), e _ (by omega)]
    exact hl x b1 b2
theorem CV.c0 (h : CV d A R) : CV (kU d A 4 0) A (fU R 2 0) := by
  obtain ⟨h0, hc', hb, hl⟩ := h
  have e : ∀ j, j ≠ 2 → fU R 2 0 j = R j := fun j hj => fU_n hj
  refine ⟨?_, fun e' e1 => ?_, fun x b1 b2 => ?_, fun x b1 b2 => ?_⟩
  · rw [kU_s, fU_s, kU_f (by decide), kU_f (by decide), kU_f (by decide), kU_f (by decide), kU_f (by decide), kU_f (by decide), e 0 (by omega), e 1 (by omega), e 3 (by omega), e 4 (by omega), e 5 (by omega), e 6 (by omega)]
    exact ⟨h0.1, h0.2.1, h0.2.2.1, h0.2.2.2.1, rfl, h0.2.2.2.2.2⟩
  · rw [fU_s] at e1
    omega
  · rw [e 5 (by omega)] at b2
    rw [kU_ne (by omega), kU_ne (by omega), kU_ne (by omega), e _ (by omega), e _ (by omega), e _ (by omega)]
    exact hb x b1 b2
  · rw [e 6 (by omega)] at b2
    rw [kU_ne (by omega), kU_ne (by omega), kU_ne (by omega), e _ (by omega), e _ (by omega), e _ (by omega)]
    exact hl x b1 b2
theorem evF_lo {n pace : Int} (hn : n ≤ 12) : ∀ (k : Nat) (j : Int), (k : Int) ≤ n → j < 340 → j ≠ 2 → j ≠ 4 → evF R n pace k j = R j
  | 0, j, _, h1, h2, h3 => by simp only [evF]; rw [fU_n h3, fU_n h2]
  | k + 1, j, hk, h1, h2, h3 => by
    have e := (evF_0 (R := R) (pace := pace) hn k (by omega)).2
    simp only [evF]
    unfold putR
    rw [e, fU_n h2, fU_n (by omega), fU_n (by omega), fU_n (by omega)]
    unfold zrR
    rw [if_neg (by omega)]
    exact evF_lo hn k j (by omega) h1 h2 h3
end CVa
section CL3
variable {E : EE} {k : Nat} {G : HG} {d : HD} {K : PQ} {R T im : Int → Int} {S : SS} {tp : Int} {I : Int → Int → Int}
theorem M_changeLength {v : Int} (X : XG G) (C : CI G d R S tp T im I) (W : WI R S tp im I) (hK : ∀ d', FM d d' → CI G d' (ringR R 0 v) S tp T im I → K (some (kI (ringA R 0 v))) G d') : AM E mX6_changeLength (k + 1) 0 0 [kR 1, kI v] G d K := by
  obtain ⟨⟨o1, r0, r1, -⟩, -, -, -, g30, -⟩ := id X
  have ho := g30.1
  obtain ⟨⟨v0, v1, v2, v3, v4, v5, v6⟩, -⟩ := id C.1
  refine AM.of rfl (Nat.le_of_ble_eq_true rfl) ?_
  refine A_iload_n dX6_changeLength_0 rfl rfl ?_
  refine A_bipush dX6_changeLength_1 ⟨by decide, by decide⟩ rfl ?_
  refine A_bipush dX6_changeLength_3 ⟨by decide, by decide⟩ rfl ?_
  refine A_ins3 dX6_changeLength_5 ms_X6_59 (Nat.le_of_ble_eq_true rfl) ?_
  refine C_within ?_
  refine A_if_ne (tgt := 13) dX6_changeLength_8 (by decide) (fun c_8 => ?_) (fun c_8 => ?_)
  · have z := i01n c_8
    have no : (0 < R 2 ∨ 0 < R 5 ∨ 0 < R 6) → K (some (kI (-2))) G d := fun y => by
      have e1 : ringR R 0 v = R := by unfold ringR; rw [if_neg (by omega), if_pos ⟨rfl, y⟩]
      have e2 : ringA R 0 v = -2 := by unfold ringA; rw [if_neg (by omega), if_pos ⟨rfl, y⟩]
      rw [e1, e2] at hK
      exact hK d FM.rf C
    replace c_8 := i01n c_8
    refine A_aload_n dX6_changeLength_13 rfl rfl ?_
    refine A_getR (fi := 1) dX6_changeLength_14 fg_X6_47 rfl rfl (by assumption) (by assumption) ?_
    refine A_get (fi := 4) dX6_changeLength_17 fg_X6_67 rfl rfl (by assumption) ?_
    refine A_if_gt (tgt := 43) dX6_changeLength_20 (by decide) (fun c_20 => ?_) (fun c_20 => ?_)
    · rw [v4] at c_20
      have fin := no (Or.inl c_20)
      refine A_bipush dX6_changeLength_43 ⟨by decide, by decide⟩ rfl ?_
      refine A_iret dX6_changeLength_45 rfl ?_
      exact fin
    · rw [v4] at c_20
      refine A_aload_n dX6_changeLength_23 rfl rfl ?_
      refine A_getR (fi := 1) dX6_changeLength_24 fg_X6_47 rfl rfl (by assumption) (by assumption) ?_
      refine A_get (fi := 5) dX6_changeLength_27 fg_X6_70 rfl rfl (by assumption) ?_
      refine A_if_gt (tgt := 43) dX6_changeLength_30 (by decide) (fun c_30 => ?_) (fun c_30 => ?_)
      · rw [v5] at c_30
        have fin := no (Or.inr (Or.inl c_30))
        refine A_bipush dX6_changeLength_43 ⟨by decide, by decide⟩ rfl ?_
        refine A_iret dX6_changeLength_45 rfl ?_
        exact fin
      · rw [v5] at c_30
        refine A_aload_n dX6_changeLength_33 rfl rfl ?_
        refine A_getR (fi := 1) dX6_changeLength_34 fg_X6_47 rfl rfl (by assumption) (by assumption) ?_
        refine A_get (fi := 6) dX6_changeLength_37 fg_X6_73 rfl rfl (by assumption) ?_
        refine A_if_le (tgt := 46) dX6_changeLength_40 (by decide) (fun c_40 => ?_) (fun c_40 => ?_)
        · rw [v6] at c_40
          have e1 : ringR R 0 v = fU R 0 v := by unfold ringR; rw [if_neg (by omega), if_neg (by omega)]
          have e2 : ringA R 0 v = R 0 := by unfold ringA; rw [if_neg (by omega), if_neg (by omega)]
          rw [e1, e2, ← v0] at hK
          refine A_aload_n dX6_changeLength_46 rfl rfl ?_
          refine A_getR (fi := 1) dX6_changeLength_47 fg_X6_47 rfl rfl (by assumption) (by assumption) ?_
          refine A_get (fi := 0) dX6_changeLength_50 fg_X6_76 rfl rfl (by assumption) ?_
          refine A_istore_n dX6_changeLength_53 rfl (Nat.le_of_ble_eq_true rfl) rfl ?_
          refine A_aload_n dX6_changeLength_54 rfl rfl ?_
          refine A_getR (fi := 1) dX6_changeLength_55 fg_X6_47 rfl rfl (by assumption) (by assumption) ?_
          refine A_iload_n dX6_changeLength_58 rfl rfl ?_
          refine A_put (fi := 0) dX6_changeLength_59 fp_X6_76 rfl rfl (by assumption) ?_
          refine A_iload_n dX6_changeLength_62 rfl rfl ?_
          refine A_iret dX6_changeLength_63 rfl ?_
          refine hK _ ?_ ?_
          · exact FM.rf.u (by omega)
          · exact C.cm W (CM.rf.u (by omega) (by omega)) C.1.h0 (fun j _ _ => fU_n (by omega))
        · rw [v6] at c_40
          have fin := no (Or.inr (Or.inr (by omega)))
          refine A_bipush dX6_changeLength_43 ⟨by decide, by decide⟩ rfl ?_
          refine A_iret dX6_changeLength_45 rfl ?_
          exact fin
  · have z := i01e c_8
    have e1 : ringR R 0 v = R := by unfold ringR; rw [if_pos (by omega)]
    have e2 : ringA R 0 v = -1 := by unfold ringA; rw [if_pos (by omega)]
    rw [e1, e2] at hK
    have fin := hK d FM.rf C
    replace c_8 := i01e c_8
    refine A_iconst dX6_changeLength_11 ⟨by decide, by decide⟩ ?_
    refine A_iret dX6_changeLength_12 rfl ?_
    exact fin
theorem M_ring {what v : Int} (X : XG G) (C : CI G d R S tp T im I) (W : WI R S tp im I) (hK : ∀ d', FM d d' → CI G d' (ringR R what v) S tp T im I → K (some (kI (ringA R what v))) G d') : AM E mX6_ring (k + 2) 0 0 [kR 1, kI what, kI v] G d K := by
  obtain ⟨⟨o1, r0, r1, -⟩, -, -, -, g30, -⟩ := id X
  have ho := g30.1
  obtain ⟨⟨v0, v1, v2, v3, v4, v5, v6⟩, -⟩ := id C.1
  refine AM.of rfl (Nat.le_of_ble_eq_true rfl) ?_
  refine A_iload_n dX6_ring_0 rfl rfl ?_
  refine A_if_ne (tgt := 10) dX6_ring_1 (by decide) (fun c_1 => ?_) (fun c_1 => ?_)
  · have bad : ¬ (what = 1 ∧ 1 ≤ v ∧ v ≤ 9) → K (some (kI (-1))) G d := fun z => by
      have e1 : ringR R what v = R := by unfold ringR; rw [if_pos (by omega)]
      have e2 : ringA R what v = -1 := by unfold ringA; rw [if_pos (by omega)]
      rw [e1, e2] at hK
      exact hK d FM.rf C
    refine A_iload_n dX6_ring_10 rfl rfl ?_
    refine A_iconst dX6_ring_11 ⟨by decide, by decide⟩ ?_
    refine A_icmp_ne (tgt := 25) dX6_ring_12 (by decide) (fun c_12 => ?_) (fun c_12 => ?_)
    · have fin := bad (fun z => c_12 z.1)
      refine A_iconst dX6_ring_25 ⟨by decide, by decide⟩ ?_
      refine A_iret dX6_ring_26 rfl ?_
      exact fin
    · refine A_iload_n dX6_ring_15 rfl rfl ?_
      refine A_iconst dX6_ring_16 ⟨by decide, by decide⟩ ?_
      refine A_bipush dX6_ring_17 ⟨by decide, by decide⟩ rfl ?_
      refine A_ins3 dX6_ring_19 ms_X6_59 (Nat.le_of_ble_eq_true rfl) ?_
      refine C_within ?_
      refine A_if_ne (tgt := 27) dX6_ring_22 (by decide) (fun c_22 => ?_) (fun c_22 => ?_)
      · have z := i01n c_22
        have e1 : ringR R what v = fU R 1 v := by unfold ringR; rw [if_neg (by omega), if_neg (by omega), c_12]
        have e2 : ringA R what v = R 1 := by unfold ringA; rw [if_neg (by omega), if_neg (by omega), c_12]
        rw [e1, e2, ← v1] at hK
        replace c_22 := i01n c_22
        refine A_aload_n dX6_ring_27 rfl rfl ?_
        refine A_getR (fi := 1) dX6_ring_28 fg_X6_47 rfl rfl (by assumption) (by assumption) ?_
        refine A_get (fi := 1) dX6_ring_31 fg_X6_63 rfl rfl (by assumption) ?_
        refine A_istore_n dX6_ring_34 rfl (Nat.le_of_ble_eq_true rfl) rfl ?_
        refine A_aload_n dX6_ring_35 rfl rfl ?_
        refine A_getR (fi := 1) dX6_ring_36 fg_X6_47 rfl rfl (by assumption) (by assumption) ?_
        refine A_iload_n dX6_ring_39 rfl rfl ?_
        refine A_put (fi := 1) dX6_ring_40 fp_X6_63 rfl rfl (by assumption) ?_
        refine A_iload_n dX6_ring_43 rfl rfl ?_
        refine A_iret dX6_ring_44 rfl ?_
        refine hK _ ?_ ?_
        · exact FM.rf.u (by omega)
        · exact C.cm W (CM.rf.u (by omega) (by omega)) (C.1.h (Or.inl ⟨rfl, rfl⟩)) (fun j _ _ => fU_n (by omega))
      · have fin := bad (fun z => i01e c_22 z.2)
        replace c_22 := i01e c_22
        refine A_iconst dX6_ring_25 ⟨by decide, by decide⟩ ?_
        refine A_iret dX6_ring_26 rfl ?_
        exact fin
  · subst c_1
    refine A_aload_n dX6_ring_4 rfl rfl ?_
    refine A_iload_n dX6_ring_5 rfl rfl ?_
    refine A_inv1 dX6_ring_6 mv_X6_55 kCl_6 (Nat.le_of_ble_eq_true rfl) (by assumption) ?_
    refine M_changeLength X C W (fun d' h1 h2 => ?_)
    have fin := hK d' h1 h2
    refine A_iret dX6_ring_9 rfl ?_
    exact fin
theorem M_car {lane cell pace : Int} (X : XG G) (C : CI G d R S tp T im I) (W : WI R S tp im I) (hK : ∀ d', FM d d' → CI G d' (carS R lane cell pace).2 S tp T im I → K (some (kI (carS R lane cell pace).1)) G d') : AM E mX6_car (k + 2) 0 0 [kR 1, kI lane, kI cell, kI pace] G d K := by
  obtain ⟨⟨o1, r0, r1, -⟩, -, -, -, g30, -⟩ := id X
  have ho := g30.1
  obtain ⟨⟨v0, v1, v2, v3, v4, v5, v6⟩, -⟩ := id C.1
  obtain ⟨w0, w1, w2, w3, wc, wb, wp, wv, wd⟩ := id W.1
  unfold carS at hK
  have bad : ¬ (0 ≤ lane ∧ lane ≤ 1 ∧ 0 ≤ cell ∧ cell < R 0 ∧ 0 ≤ pace ∧ pace ≤ 9) → K (some (kI (-1))) G d := fun z => by
    rw [if_pos z] at hK
    exact hK d FM.rf C
  refine AM.of rfl (Nat.le_of_ble_eq_true rfl) ?_
  refine A_iload_n dX6_car_0 rfl rfl ?_
  refine A_iconst dX6_car_1 ⟨by decide, by decide⟩ ?_
  refine A_iconst dX6_car_2 ⟨by decide, by decide⟩ ?_
  refine A_ins3 dX6_car_3 ms_X6_59 (Nat.le_of_ble_eq_true rfl) ?_
  refine C_within ?_
  refine A_if_eq (tgt := 24) dX6_car_6 (by decide) (fun c_6 => ?_) (fun c_6 => ?_)
  · have z := i01e c_6
    have fin := bad (by omega)
    replace c_6 := i01e c_6
    refine A_iconst dX6_car_24 ⟨by decide, by decide⟩ ?_
    refine A_iret dX6_car_25 rfl ?_
    exact fin
  · have z6 := i01n c_6
    replace c_6 := i01n c_6
    refine A_aload_n dX6_car_9 rfl rfl ?_
    refine A_iload_n dX6_car_10 rfl rfl ?_
    refine A_inv1 dX6_car_11 mv_X6_79 kCl_6 (Nat.le_of_ble_eq_true rfl) (by assumption) ?_
    refine C_isCell X C W ?_
    refine A_if_eq (tgt := 24) dX6_car_14 (by decide) (fun c_14 => ?_) (fun c_14 => ?_)
    · have z := i01e c_14
      have fin := bad (by omega)
      replace c_14 := i01e c_14
      refine A_iconst dX6_car_24 ⟨by decide, by decide⟩ ?_
      refine A_iret dX6_car_25 rfl ?_
      exact fin
    · have z14 := i01n c_14
      replace c_14 := i01n c_14
      refine A_iload_n dX6_car_17 rfl rfl ?_
      refine A_ins1 dX6_car_18 ms_X6_83 (Nat.le_of_ble_eq_true rfl) ?_
      refine C_isPace ?_
      refine A_if_ne (tgt := 26) dX6_car_21 (by decide) (fun c_21 => ?_) (fun c_21 => ?_)
      · have z21 := i01n c_21
        rw [if_neg (by omega)] at hK
        replace c_21 := i01n c_21
        refine A_aload_n dX6_car_26 rfl rfl ?_
        refine A_getR (fi := 1) dX6_car_27 fg_X6_47 rfl rfl (by assumption) (by assumption) ?_
        refine A_iload_n dX6_car_30 rfl rfl ?_
        refine A_iload_n dX6_car_31 rfl rfl ?_
        refine A_inv2 dX6_car_32 mv_X6_86 kCl_4 (Nat.le_of_ble_eq_true rfl) (by assumption) ?_
        refine C_isTaken g30 C.1.G w2.1 w2.2 ?_
        by_cases q : 0 ≤ caF R lane cell (R 2).toNat
        · rw [if_pos q] at hK
          have fin := hK d FM.rf C
          rw [if_pos q]
          refine A_if_eq (tgt := 41) dX6_car_35 (by decide) (fun c_35 => absurd c_35 (by omega)) (fun c_35 => ?_)
          refine A_bipush dX6_car_38 ⟨by decide, by decide⟩ rfl ?_
          refine A_iret dX6_car_40 rfl ?_
          exact fin
        · rw [if_neg q] at hK
          rw [if_neg q]
          refine A_if_eq (tgt := 41) dX6_car_35 (by decide) (fun c_35 => ?_) (fun c_35 => absurd c_35 (by omega))
          refine A_aload_n dX6_car_41 rfl rfl ?_
          refine A_getR (fi := 1) dX6_car_42 fg_X6_47 rfl rfl (by assumption) (by assumption) ?_
          refine A_get (fi := 4) dX6_car_45 fg_X6_67 rfl rfl (by assumption) ?_
          refine A_bipush dX6_car_48 ⟨by decide, by decide⟩ rfl ?_
          refine A_icmp_lt (tgt := 58) dX6_car_50 (by decide) (fun c_50 => ?_) (fun c_50 => ?_)
          · rw [v4] at c_50
            rw [if_neg (by omega)] at hK
            refine A_aload_n dX6_car_58 rfl rfl ?_
            refine A_getR (fi := 1) dX6_car_59 fg_X6_47 rfl rfl (by assumption) (by assumption) ?_
            refine A_iload_n dX6_car_62 rfl rfl ?_
            refine A_iload_n dX6_car_63 rfl rfl ?_
            refine A_iload_n dX6_car_64 rfl rfl ?_
            refine A_inv3 dX6_car_65 mv_X6_90 kCl_4 (Nat.le_of_ble_eq_true rfl) (by assumption) ?_
            refine C_addCar g30 C.1 w2.1 c_50 wb.2.1 wp.2.1 (fun d2 m2 p2 => ?_)
            refine A_iret dX6_car_68 rfl ?_
            refine hK d2 (m2.fm (by omega)) (C.cm W m2 p2 (fun j j1 j2 => ?_))
            show putR R lane cell pace j = R j
            unfold putR
            rw [fU_n (by omega), fU_n (by omega), fU_n (by omega), fU_n (by omega)]
            unfold zrR
            rw [if_neg (by omega)]
          · rw [v4] at c_50
            rw [if_pos (by omega)] at hK
            have fin := hK d FM.rf C
            refine A_bipush dX6_car_53 ⟨by decide, by decide⟩ rfl ?_
            refine A_goto (tgt := 68) dX6_car_55 (by decide) ?_
            refine A_iret dX6_car_68 rfl ?_
            exact fin
      · have z := i01e c_21
        have fin := bad (by omega)
        replace c_21 := i01e c_21
        refine A_iconst dX6_car_24 ⟨by decide, by decide⟩ ?_
        refine A_iret dX6_car_25 rfl ?_
        exact fin
theorem M_evenly {n pace : Int} (X : XG G) (C : CI G d R S tp T im I) (W : WI R S tp im I) (hK : ∀ d', FM d d' → CI G d' (evenS R n pace).2 S tp T im I → K (some (kI (evenS R n pace).1)) G d') : AM E mX6_evenly (k + 2) 0 0 [kR 1, kI n, kI pace] G d K := by
  obtain ⟨⟨o1, r0, r1, -⟩, -, -, -, g30, -⟩ := id X
  have ho := g30.1
  obtain ⟨⟨v0, v1, v2, v3, v4, v5, v6⟩, -⟩ := id C.1
  obtain ⟨w0, w1, w2, w3, wc, wb, wp, wv, wd⟩ := id W.1
  unfold evenS at hK
  have bad : ¬ (1 ≤ n ∧ n ≤ 12 ∧ n ≤ R 0 ∧ 0 ≤ pace ∧ pace ≤ 9) → K (some (kI (-1))) G d := fun z => by
    rw [if_pos z] at hK
    exact hK d FM.rf C
  refine AM.of rfl (Nat.le_of_ble_eq_true rfl) ?_
  refine A_iload_n dX6_evenly_0 rfl rfl ?_
  refine A_iconst dX6_evenly_1 ⟨by decide, by decide⟩ ?_
  refine A_bipush dX6_evenly_2 ⟨by decide, by decide⟩ rfl ?_
  refine A_ins3 dX6_evenly_4 ms_X6_59 (Nat.le_of_ble_eq_true rfl) ?_
  refine C_within ?_
  refine A_if_eq (tgt := 28) dX6_evenly_7 (by decide) (fun c_7 => ?_) (fun c_7 => ?_)
  · have z := i01e c_7
    have fin := bad (by omega)
    replace c_7 := i01e c_7
    refine A_iconst dX6_evenly_28 ⟨by decide, by decide⟩ ?_
    refine A_iret dX6_evenly_29 rfl ?_
    exact fin
  · have z7 := i01n c_7
    replace c_7 := i01n c_7
    refine A_iload_n dX6_evenly_10 rfl rfl ?_
    refine A_aload_n dX6_evenly_11 rfl rfl ?_
    refine A_getR (fi := 1) dX6_evenly_12 fg_X6_47 rfl rfl (by assumption) (by assumption) ?_
    refine A_get (fi := 0) dX6_evenly_15 fg_X6_76 rfl rfl (by assumption) ?_
    refine A_icmp_gt (tgt := 28) dX6_evenly_18 (by decide) (fun c_18 => ?_) (fun c_18 => ?_)
    · rw [v0] at c_18
      have fin := bad (by omega)
      refine A_iconst dX6_evenly_28 ⟨by decide, by decide⟩ ?_
      refine A_iret dX6_evenly_29 rfl ?_
      exact fin
    · rw [v0] at c_18
      refine A_iload_n dX6_evenly_21 rfl rfl ?_
      refine A_ins1 dX6_evenly_22 ms_X6_83 (Nat.le_of_ble_eq_true rfl) ?_
      refine C_isPace ?_
      refine A_if_ne (tgt := 30) dX6_evenly_25 (by decide) (fun c_25 => ?_) (fun c_25 => ?_)
      · have z25 := i01n c_25
        rw [if_neg (by omega)] at hK
        obtain ⟨N, hN⟩ : ∃ N : Nat, n = N := ⟨n.toNat, by omega⟩
        subst hN
        rw [show ((N : Int)).toNat = N by omega] at hK
        have loop : ∀ (f j : Nat), j + f = N → ∀ (d' : HD), CM d d' 30 → CV d' 30 (evF R N pace j) → AW E mX6_evenly (k + 2) 0 0 49 [some (kR 1), some (kI N), some (kI pace), some (kI j)] [] G d' K := by
          intro f
          induction f with
          | zero =>
            intro j hj d' hm hv
            have : j = N := by omega
            subst this
            have fin := hK d' (hm.fm (by omega)) (C.cm W hm hv (fun i i1 i2 => evF_lo (by omega) j i (by omega) i2 (by omega) (by omega)))
            refine A_iload_n dX6_evenly_49 rfl rfl ?_
            refine A_iload_n dX6_evenly_50 rfl rfl ?_
            refine A_icmp_ge (tgt := 81) dX6_evenly_51 (by decide) (fun c_51 => ?_) (fun c_51 => absurd c_51 (by omega))
            refine A_iload_n dX6_evenly_81 rfl rfl ?_
            refine A_iret dX6_evenly_82 rfl ?_
            exact fin
          | succ f ih =>
            intro j hj d' hm hv
            have e0 := evF_0 (R := R) (n := N) (pace := pace) (by omega) j (by omega)
            have x0 : d' 30 0 = R 0 := by rw [hv.1.1, e0.1]
            have e5 := evF_lo (R := R) (n := N) (pace := pace) (by omega) j 5 (by omega) (by omega) (by omega) (by omega)
            have e6 := evF_lo (R := R) (n := N) (pace := pace) (by omega) j 6 (by omega) (by omega) (by omega) (by omega)
            have jb : (j : Int) * R 0 ≤ 11 * 99 := by
              have h1 : (j : Int) * R 0 ≤ 11 * R 0 := Int.mul_le_mul_of_nonneg_right (by omega) (by omega)
              omega
            have jb0 : 0 ≤ (j : Int) * R 0 := Int.mul_nonneg (by omega) (by omega)
            refine A_iload_n dX6_evenly_49 rfl rfl ?_
            refine A_iload_n dX6_evenly_50 rfl rfl ?_
            refine A_icmp_ge (tgt := 81) dX6_evenly_51 (by decide) (fun c_51 => absurd c_51 (by omega)) (fun c_51 => ?_)
            refine A_aload_n dX6_evenly_54 rfl rfl ?_
            refine A_getR (fi := 1) dX6_evenly_55 fg_X6_47 rfl rfl (by assumption) (by assumption) ?_
            refine A_iconst dX6_evenly_58 ⟨by decide, by decide⟩ ?_
            refine A_iload_n dX6_evenly_59 rfl rfl ?_
            refine A_aload_n dX6_evenly_60 rfl rfl ?_
            refine A_getR (fi := 1) dX6_evenly_61 fg_X6_47 rfl rfl (by assumption) (by assumption) ?_
            refine A_get (fi := 0) dX6_evenly_64 fg_X6_76 rfl rfl (by assumption) ?_
            rw [x0]
            refine A_imul_ok dX6_evenly_67 (by omega) (by omega) ?_
            refine A_iload_n dX6_evenly_68 rfl rfl ?_
            refine A_idiv_p dX6_evenly_69 (by omega) (by omega) ?_
            refine A_iload_n dX6_evenly_70 rfl rfl ?_
            refine A_inv3 dX6_evenly_71 mv_X6_90 kCl_4 (Nat.le_of_ble_eq_true rfl) (by assumption) ?_
            refine C_addCar g30 hv (by rw [e0.2]; omega) (by rw [e0.2]; omega) (by rw [e5]; exact wb.2.1) (by rw [e6]; exact wp.2.1) (fun d2 m2 p2 => ?_)
            refine A_pop dX6_evenly_74 (fun B => toV_cat B _) ?_
            refine A_iinc_ok dX6_evenly_75 rfl rfl (by omega) (by omega) ?_
            refine A_goto (tgt := 49) dX6_evenly_78 (by decide) ?_
            exact ih (j + 1) (by omega) d2 (hm.tr m2) p2
        replace c_25 := i01n c_25
        refine A_aload_n dX6_evenly_30 rfl rfl ?_
        refine A_getR (fi := 1) dX6_evenly_31 fg_X6_47 rfl rfl (by assumption) (by assumption) ?_
        refine A_iconst dX6_evenly_34 ⟨by decide, by decide⟩ ?_
        refine A_put (fi := 4) dX6_evenly_35 fp_X6_67 rfl rfl (by assumption) ?_
        refine A_aload_n dX6_evenly_38 rfl rfl ?_
        refine A_getR (fi := 1) dX6_evenly_39 fg_X6_47 rfl rfl (by assumption) (by assumption) ?_
        refine A_bipush dX6_evenly_42 ⟨by decide, by decide⟩ rfl ?_
        refine A_put (fi := 3) dX6_evenly_44 fp_X6_94 rfl rfl (by assumption) ?_
        refine A_iconst dX6_evenly_47 ⟨by decide, by decide⟩ ?_
        refine A_istore_n dX6_evenly_48 rfl (Nat.le_of_ble_eq_true rfl) rfl ?_
        refine loop N 0 (by omega) _ ((CM.rf.u (by omega) (by omega)).u (by omega) (by omega)) ?_
        exact C.1.c0.h (Or.inr (Or.inr ⟨rfl, rfl⟩))
      · have z := i01e c_25
        have fin := bad (by omega)
        replace c_25 := i01e c_25
        refine A_iconst dX6_evenly_28 ⟨by decide, by decide⟩ ?_
        refine A_iret dX6_evenly_29 rfl ?_
        exact fin
theorem M_set {car what v : Int} (X : XG G) (C : CI G d R S tp T im I) (W : WI R S tp im I) (hK : ∀ d', FM d d' → CI G d' (setS R car what v).2 S tp T im I → K (some (kI (setS R car what v).1)) G d') : AM E mX6_set (k + 2) 0 0 [kR 1, kI car, kI what, kI v] G d K := by
  obtain ⟨⟨o1, r0, r1, -⟩, -, -, -, g30, -⟩ := id X
  obtain ⟨ho, ⟨e7, a7⟩, -, -, -, -, -, -, -, hcar⟩ := id g30
  obtain ⟨w0, w1, w2, w3, wc, wb, wp, wv, wd⟩ := id W.1
  unfold setS at hK
  have bad : ¬ (0 ≤ car ∧ car < R 2 ∧ (what = 0 ∧ 0 ≤ v ∧ v ≤ 2 ∨ what = 1 ∧ 0 ≤ v ∧ v ≤ 3)) → K (some (kI (-1))) G d := fun z => by
    rw [if_pos z] at hK
    exact hK d FM.rf C
  refine AM.of rfl (Nat.le_of_ble_eq_true rfl) ?_
  refine A_aload_n dX6_set_0 rfl rfl ?_
  refine A_iload_n dX6_set_1 rfl rfl ?_
  refine A_inv1 dX6_set_2 mv_X6_97 kCl_6 (Nat.le_of_ble_eq_true rfl) (by assumption) ?_
  refine C_isCar6 X C W ?_
  refine A_if_ne (tgt := 10) dX6_set_5 (by decide) (fun c_5 => ?_) (fun c_5 => ?_)
  · have z5 := i01n c_5
    obtain ⟨q, hq⟩ : ∃ q : Nat, car = q := ⟨car.toNat, by omega⟩
    subst hq
    obtain ⟨eq, oq, -, -⟩ := hcar q (by omega)
    have xw := (C.1.2.1 q (by omega)).1
    have x3 := xw 3 (by omega) (by omega)
    have x4 := xw 4 (by omega) (by omega)
    have fin : ∀ w : Int, (w = 3 ∨ w = 4) → CI G (kU d (30 + 9 + 2 * q) w v) (fU R (340 + 24 * (q : Int) + w) v) S tp T im I := fun w hw => C.cm W (CM.rf.u (by omega) (by omega)) (C.1.w wb.2.1 wp.2.1 (by omega) (by omega)) (fun j _ _ => fU_n (by omega))
    replace c_5 := i01n c_5
    refine A_aload_n dX6_set_10 rfl rfl ?_
    refine A_getR (fi := 1) dX6_set_11 fg_X6_47 rfl rfl (by assumption) (by assumption) ?_
    refine A_getR (fi := 7) dX6_set_14 fg_X6_100 rfl rfl (by assumption) (by assumption) ?_
    refine A_iload_n dX6_set_17 rfl rfl ?_
    refine A_aald (t := 2) dX6_set_18 (fun _ => rfl) (by decide) (by assumption) (by omega) (by omega) (by assumption) ?_
    refine A_astore dX6_set_19 (Nat.le_of_ble_eq_true rfl) rfl (by omega) ?_
    refine A_iload_n dX6_set_21 rfl rfl ?_
    refine A_if_ne (tgt := 50) dX6_set_22 (by decide) (fun c_22 => ?_) (fun c_22 => ?_)
    · refine A_iload_n dX6_set_50 rfl rfl ?_
      refine A_iconst dX6_set_51 ⟨by decide, by decide⟩ ?_
      refine A_icmp_ne (tgt := 80) dX6_set_52 (by decide) (fun c_52 => ?_) (fun c_52 => ?_)
      · have fin := bad (by omega)
        refine A_iconst dX6_set_80 ⟨by decide, by decide⟩ ?_
        refine A_iret dX6_set_81 rfl ?_
        exact fin
      · refine A_iload_n dX6_set_55 rfl rfl ?_
        refine A_iconst dX6_set_56 ⟨by decide, by decide⟩ ?_
        refine A_iconst dX6_set_57 ⟨by decide, by decide⟩ ?_
        refine A_ins3 dX6_set_58 ms_X6_59 (Nat.le_of_ble_eq_true rfl) ?_
        refine C_within ?_
        refine A_if_eq (tgt := 80) dX6_set_61 (by decide) (fun c_61 => ?_) (fun c_61 => ?_)
        · have z := i01e c_61
          have fin := bad (by omega)
          replace c_61 := i01e c_61
          refine A_iconst dX6_set_80 ⟨by decide, by decide⟩ ?_
          refine A_iret dX6_set_81 rfl ?_
          exact fin
        · have z := i01n c_61
          subst c_52
          rw [if_neg (by omega), show (3 : Int) + 1 = 4 by omega, ← x4] at hK
          replace c_61 := i01n c_61
          refine A_aload dX6_set_64 rfl ?_
          refine A_get (fi := 4) dX6_set_66 fg_X6_109 rfl rfl (by assumption) ?_
          refine A_istore dX6_set_69 (Nat.le_of_ble_eq_true rfl) rfl ?_
          refine A_aload dX6_set_71 rfl ?_
          refine A_iload_n dX6_set_73 rfl rfl ?_
          refine A_put (fi := 4) dX6_set_74 fp_X6_109 rfl rfl (by assumption) ?_
          refine A_iload dX6_set_77 rfl ?_
          refine A_iret dX6_set_79 rfl ?_
          refine hK _ ?_ (fin 4 (Or.inr rfl))
          exact FM.rf.u (by omega)
    · subst c_22
      refine A_iload_n dX6_set_25 rfl rfl ?_
      refine A_iconst dX6_set_26 ⟨by decide, by decide⟩ ?_
      refine A_iconst dX6_set_27 ⟨by decide, by decide⟩ ?_
      refine A_ins3 dX6_set_28 ms_X6_59 (Nat.le_of_ble_eq_true rfl) ?_
      refine C_within ?_
      refine A_if_eq (tgt := 50) dX6_set_31 (by decide) (fun c_31 => ?_) (fun c_31 => ?_)
      · have z := i01e c_31
        have fin := bad (by omega)
        replace c_31 := i01e c_31
        refine A_iload_n dX6_set_50 rfl rfl ?_
        refine A_iconst dX6_set_51 ⟨by decide, by decide⟩ ?_
        refine A_icmp_ne (tgt := 80) dX6_set_52 (by decide) (fun c_52 => ?_) (fun c_52 => absurd c_52 (by omega))
        refine A_iconst dX6_set_80 ⟨by decide, by decide⟩ ?_
        refine A_iret dX6_set_81 rfl ?_
        exact fin
      · have z := i01n c_31
        rw [if_neg (by omega), show (3 : Int) + 0 = 3 by omega, ← x3] at hK
        replace c_31 := i01n c_31
        refine A_aload dX6_set_34 rfl ?_
        refine A_get (fi := 3) dX6_set_36 fg_X6_104 rfl rfl (by assumption) ?_
        refine A_istore dX6_set_39 (Nat.le_of_ble_eq_true rfl) rfl ?_
        refine A_aload dX6_set_41 rfl ?_
        refine A_iload_n dX6_set_43 rfl rfl ?_
        refine A_put (fi := 3) dX6_set_44 fp_X6_104 rfl rfl (by assumption) ?_
        refine A_iload dX6_set_47 rfl ?_
        refine A_iret dX6_set_49 rfl ?_
        refine hK _ ?_ (fin 3 (Or.inl rfl))
        exact FM.rf.u (by omega)
  · have z := i01e c_5
    have fin := bad (by omega)
    replace c_5 := i01e c_5
    refine A_iconst dX6_set_8 ⟨by decide, by decide⟩ ?_
    refine A_iret dX6_set_9 rfl ?_
    exact fin
theorem M_first (X : XG G) (C : CI G d R S tp T im I) (hK : K (some (kI (R 4))) G d) : AM E mX6_first k 0 0 [kR 1] G d K := by
  obtain ⟨⟨o1, r0, r1, -⟩, -, -, -, g30, -⟩ := id X
  have ho := g30.1
  have v3 := C.1.1.2.2.2.1
  refine AM.of rfl (Nat.le_of_ble_eq_true rfl) ?_
  refine A_aload_n dX6_first_0 rfl rfl ?_
  refine A_getR (fi := 1) dX6_first_1 fg_X6_47 rfl rfl (by assumption) (by assumption) ?_
  refine A_get (fi := 3) dX6_first_4 fg_X6_94 rfl rfl (by assumption) ?_
  rw [v3]
  refine A_iret dX6_first_7 rfl ?_
  exact hK
theorem M_board {a b limit : Int} (X : XG G) (C : CI G d R S tp T im I) (W : WI R S tp im I) (hK : ∀ d', FM d d' → CI G d' (boardS R a b limit).2 S tp T im I → K (some (kI (boardS R a b limit).1)) G d') : AM E mX6_board (k + 2) 0 0 [kR 1, kI a, kI b, kI limit] G d K := by
  obtain ⟨⟨o1, r0, r1, -⟩, -, -, -, g30, -⟩ := id X
  have ho := g30.1
  have v5 := C.1.1.2.2.2.2.2.1
  obtain ⟨w0, w1, w2, w3, wc, wb, wp, wv, wd⟩ := id W.1
  have b0 := wb.1
  have b1 := wb.2.1
  unfold boardS at hK
  have bad : ¬ (0 ≤ a ∧ a < R 0 ∧ 0 ≤ b ∧ b < R 0 ∧ 0 ≤ limit ∧ limit ≤ 9) → K (some (kI (-1))) G d := fun z => by
    rw [if_pos z] at hK
    exact hK d FM.rf C
  refine AM.of rfl (Nat.le_of_ble_eq_true rfl) ?_
  refine A_aload_n dX6_board_0 rfl rfl ?_
  refine A_iload_n dX6_board_1 rfl rfl ?_
  refine A_inv1 dX6_board_2 mv_X6_79 kCl_6 (Nat.le_of_ble_eq_true rfl) (by assumption) ?_
  refine C_isCell X C W ?_
  refine A_if_eq (tgt := 23) dX6_board_5 (by decide) (fun c_5 => ?_) (fun c_5 => ?_)
  · have z := i01e c_5
    have fin := bad (by omega)
    replace c_5 := i01e c_5
    refine A_iconst dX6_board_23 ⟨by decide, by decide⟩ ?_
    refine A_iret dX6_board_24 rfl ?_
    exact fin
  · have z5 := i01n c_5
    replace c_5 := i01n c_5
    refine A_aload_n dX6_board_8 rfl rfl ?_
    refine A_iload_n dX6_board_9 rfl rfl ?_
    refine A_inv1 dX6_board_10 mv_X6_79 kCl_6 (Nat.le_of_ble_eq_true rfl) (by assumption) ?_
    refine C_isCell X C W ?_
    refine A_if_eq (tgt := 23) dX6_board_13 (by decide) (fun c_13 => ?_) (fun c_13 => ?_)
    · have z := i01e c_13
      have fin := bad (by omega)
      replace c_13 := i01e c_13
      refine A_iconst dX6_board_23 ⟨by decide, by decide⟩ ?_
      refine A_iret dX6_board_24 rfl ?_
      exact fin
    · have z13 := i01n c_13
      replace c_13 := i01n c_13
      refine A_iload_n dX6_board_16 rfl rfl ?_
      refine A_ins1 dX6_board_17 ms_X6_83 (Nat.le_of_ble_eq_true rfl) ?_
      refine C_isPace ?_
      refine A_if_ne (tgt := 25) dX6_board_20 (by decide) (fun c_20 => ?_) (fun c_20 => ?_)
      · have z20 := i01n c_20
        rw [if_neg (by omega)] at hK
        replace c_20 := i01n c_20
        refine A_aload_n dX6_board_25 rfl rfl ?_
        refine A_getR (fi := 1) dX6_board_26 fg_X6_47 rfl rfl (by assumption) (by assumption) ?_
        refine A_get (fi := 5) dX6_board_29 fg_X6_70 rfl rfl (by assumption) ?_
        refine A_iconst dX6_board_32 ⟨by decide, by decide⟩ ?_
        refine A_icmp_lt (tgt := 41) dX6_board_33 (by decide) (fun c_33 => ?_) (fun c_33 => ?_)
        · rw [v5] at c_33
          rw [if_neg (by omega)] at hK
          refine A_aload_n dX6_board_41 rfl rfl ?_
          refine A_getR (fi := 1) dX6_board_42 fg_X6_47 rfl rfl (by assumption) (by assumption) ?_
          refine A_iload_n dX6_board_45 rfl rfl ?_
          refine A_iload_n dX6_board_46 rfl rfl ?_
          refine A_iload_n dX6_board_47 rfl rfl ?_
          refine A_inv3 dX6_board_48 mv_X6_171 kCl_4 (Nat.le_of_ble_eq_true rfl) (by assumption) ?_
          refine C_addBoard g30 C.1 b0 c_33 wp.2.1 (fun d2 m2 p2 => ?_)
          refine A_iret dX6_board_51 rfl ?_
          exact hK d2 (m2.fm (by omega)) (C.cm W m2 p2 (fun j j1 j2 => by show fU (fU (fU (fU R _ _) _ _) _ _) _ _ j = R j; rw [fU_n (by omega), fU_n (by omega), fU_n (by omega), fU_n (by omega)]))
        · rw [v5] at c_33
          rw [if_pos (by omega)] at hK
          have fin := hK d FM.rf C
          refine A_bipush dX6_board_36 ⟨by decide, by decide⟩ rfl ?_
          refine A_goto (tgt := 51) dX6_board_38 (by decide) ?_
          refine A_iret dX6_board_51 rfl ?_
          exact fin
      · have z := i01e c_20
        have fin := bad (by omega)
        replace c_20 := i01e c_20
        refine A_iconst dX6_board_23 ⟨by decide, by decide⟩ ?_
        refine A_iret dX6_board_24 rfl ?_
        exact fin
theorem M_loop {cell : Int} (X : XG G) (C : CI G d R S tp T im I) (W : WI R S tp im I) (hK : ∀ d', FM d d' → CI G d' (loopS R cell).2 S tp T im I → K (some (kI (loopS R cell).1)) G d') : AM E mX6_loop (k + 2) 0 0 [kR 1, kI cell] G d K := by
  obtain ⟨⟨o1, r0, r1, -⟩, -, -, -, g30, -⟩ := id X
  have ho := g30.1
  have v6 := C.1.1.2.2.2.2.2.2
  obtain ⟨w0, w1, w2, w3, wc, wb, wp, wv, wd⟩ := id W.1
  have b0 := wp.1
  have b1 := wp.2.1
  unfold loopS at hK
  refine AM.of rfl (Nat.le_of_ble_eq_true rfl) ?_
  refine A_aload_n dX6_loop_0 rfl rfl ?_
  refine A_iload_n dX6_loop_1 rfl rfl ?_
  refine A_inv1 dX6_loop_2 mv_X6_79 kCl_6 (Nat.le_of_ble_eq_true rfl) (by assumption) ?_
  refine C_isCell X C W ?_
  refine A_if_ne (tgt := 10) dX6_loop_5 (by decide) (fun c_5 => ?_) (fun c_5 => ?_)
  · have z := i01n c_5
    rw [if_neg (by omega)] at hK
    replace c_5 := i01n c_5
    refine A_aload_n dX6_loop_10 rfl rfl ?_
    refine A_getR (fi := 1) dX6_loop_11 fg_X6_47 rfl rfl (by assumption) (by assumption) ?_
    refine A_get (fi := 6) dX6_loop_14 fg_X6_73 rfl rfl (by assumption) ?_
    refine A_iconst dX6_loop_17 ⟨by decide, by decide⟩ ?_
    refine A_icmp_lt (tgt := 26) dX6_loop_18 (by decide) (fun c_18 => ?_) (fun c_18 => ?_)
    · rw [v6] at c_18
      rw [if_neg (by omega)] at hK
      refine A_aload_n dX6_loop_26 rfl rfl ?_
      refine A_getR (fi := 1) dX6_loop_27 fg_X6_47 rfl rfl (by assumption) (by assumption) ?_
      refine A_iload_n dX6_loop_30 rfl rfl ?_
      refine A_inv1 dX6_loop_31 mv_X6_174 kCl_4 (Nat.le_of_ble_eq_true rfl) (by assumption) ?_
      refine C_addLoop g30 C.1 b0 c_18 wb.2.1 (fun d2 m2 p2 => ?_)
      refine A_iret dX6_loop_34 rfl ?_
      exact hK d2 (m2.fm (by omega)) (C.cm W m2 p2 (fun j j1 j2 => by show fU (fU (fU (fU R _ _) _ _) _ _) _ _ j = R j; rw [fU_n (by omega), fU_n (by omega), fU_n (by omega), fU_n (by omega)]))
    · rw [v6] at c_18
      rw [if_pos (by omega)] at hK
      have fin := hK d FM.rf C
      refine A_bipush dX6_loop_21 ⟨by decide, by decide⟩ rfl ?_
      refine A_goto (tgt := 34) dX6_loop_23 (by decide) ?_
      refine A_iret dX6_loop_34 rfl ?_
      exact fin
  · have z := i01e c_5
    rw [if_pos (by omega)] at hK
    have fin := hK d FM.rf C
    replace c_5 := i01e c_5
    refine A_iconst dX6_loop_8 ⟨by decide, by decide⟩ ?_
    refine A_iret dX6_loop_9 rfl ?_
    exact fin
theorem M_looped {l what : Int} (X : XG G) (C : CI G d R S tp T im I) (W : WI R S tp im I) (hK : K (some (kI (loopedA R l what))) G d) : AM E mX6_looped (k + 2) 0 0 [kR 1, kI l, kI what] G d K := by
  obtain ⟨⟨o1, r0, r1, -⟩, -, -, -, g30, -⟩ := id X
  obtain ⟨ho, -, -, -, -, -, ⟨e12, a12⟩, ⟨e13, a13⟩, ⟨e14, a14⟩, hcar⟩ := id g30
  have v6 := C.1.1.2.2.2.2.2.2
  have vl := C.1.2.2.2
  have b1 := W.1.2.2.2.2.2.2.1.2.1
  unfold loopedA at hK
  refine AM.of rfl (Nat.le_of_ble_eq_true rfl) ?_
  refine A_iload_n dX6_looped_0 rfl rfl ?_
  refine A_if_lt (tgt := 24) dX6_looped_1 (by decide) (fun c_1 => ?_) (fun c_1 => ?_)
  · rw [if_neg (by omega)] at hK
    refine A_iconst dX6_looped_24 ⟨by decide, by decide⟩ ?_
    refine A_iret dX6_looped_25 rfl ?_
    exact hK
  · refine A_iload_n dX6_looped_4 rfl rfl ?_
    refine A_aload_n dX6_looped_5 rfl rfl ?_
    refine A_getR (fi := 1) dX6_looped_6 fg_X6_47 rfl rfl (by assumption) (by assumption) ?_
    refine A_get (fi := 6) dX6_looped_9 fg_X6_73 rfl rfl (by assumption) ?_
    refine A_icmp_ge (tgt := 24) dX6_looped_12 (by decide) (fun c_12 => ?_) (fun c_12 => ?_)
    · rw [v6] at c_12
      rw [if_neg (by omega)] at hK
      refine A_iconst dX6_looped_24 ⟨by decide, by decide⟩ ?_
      refine A_iret dX6_looped_25 rfl ?_
      exact hK
    · rw [v6] at c_12
      refine A_iload_n dX6_looped_15 rfl rfl ?_
      refine A_iconst dX6_looped_16 ⟨by decide, by decide⟩ ?_
      refine A_iconst dX6_looped_17 ⟨by decide, by decide⟩ ?_
      refine A_ins3 dX6_looped_18 ms_X6_59 (Nat.le_of_ble_eq_true rfl) ?_
      refine C_within ?_
      refine A_if_ne (tgt := 26) dX6_looped_21 (by decide) (fun c_21 => ?_) (fun c_21 => ?_)
      · have z := i01n c_21
        rw [if_pos (by omega)] at hK
        obtain ⟨y0, y1, y2⟩ := vl l (by omega) (by omega)
        replace c_21 := i01n c_21
        refine A_iload_n dX6_looped_26 rfl rfl ?_
        refine A_if_ne (tgt := 42) dX6_looped_27 (by decide) (fun c_27 => ?_) (fun c_27 => ?_)
        · have : what = 1 := by omega
          rw [this, show 22 + 3 * l + 1 + 1 = 22 + 3 * l + 2 by omega, ← y2] at hK
          refine A_aload_n dX6_looped_42 rfl rfl ?_
          refine A_getR (fi := 1) dX6_looped_43 fg_X6_47 rfl rfl (by assumption) (by assumption) ?_
          refine A_getR (fi := 14) dX6_looped_46 fg_X6_181 rfl rfl (by assumption) (by assumption) ?_
          refine A_iload_n dX6_looped_49 rfl rfl ?_
          refine A_iald dX6_looped_50 (by assumption) (by omega) (by omega) ?_
          refine A_iret dX6_looped_51 rfl ?_
          exact hK
        · rw [c_27, show 22 + 3 * l + 1 + 0 = 22 + 3 * l + 1 by omega, ← y1] at hK
          refine A_aload_n dX6_looped_30 rfl rfl ?_
          refine A_getR (fi := 1) dX6_looped_31 fg_X6_47 rfl rfl (by assumption) (by assumption) ?_
          refine A_getR (fi := 13) dX6_looped_34 fg_X6_177 rfl rfl (by assumption) (by assumption) ?_
          refine A_iload_n dX6_looped_37 rfl rfl ?_
          refine A_iald dX6_looped_38 (by assumption) (by omega) (by omega) ?_
          refine A_goto (tgt := 51) dX6_looped_39 (by decide) ?_
          refine A_iret dX6_looped_51 rfl ?_
          exact hK
      · have z := i01e c_21
        rw [if_neg (by omega)] at hK
        replace c_21 := i01e c_21
        refine A_iconst dX6_looped_24 ⟨by decide, by decide⟩ ?_
        refine A_iret dX6_looped_25 rfl ?_
        exact hK
theorem M_tap {car : Int} (X : XG G) (C : CI G d R S tp T im I) (W : WI R S tp im I) (hK : ∀ d', FM d d' → CI G d' (tapS R car).2 S tp T im I → K (some (kI (tapS R car).1)) G d') : AM E mX6_tap (k + 2) 0 0 [kR 1, kI car] G d K := by
  obtain ⟨⟨o1, r0, r1, -⟩, -, -, -, g30, -⟩ := id X
  obtain ⟨ho, ⟨e7, a7⟩, -, -, -, -, -, -, -, hcar⟩ := id g30
  obtain ⟨w0, w1, w2, w3, wc, wb, wp, wv, wd⟩ := id W.1
  unfold tapS at hK
  refine AM.of rfl (Nat.le_of_ble_eq_true rfl) ?_
  refine A_aload_n dX6_tap_0 rfl rfl ?_
  refine A_iload_n dX6_tap_1 rfl rfl ?_
  refine A_inv1 dX6_tap_2 mv_X6_97 kCl_6 (Nat.le_of_ble_eq_true rfl) (by assumption) ?_
  refine C_isCar6 X C W ?_
  refine A_if_ne (tgt := 10) dX6_tap_5 (by decide) (fun c_5 => ?_) (fun c_5 => ?_)
  · have z5 := i01n c_5
    rw [if_neg (by omega)] at hK
    obtain ⟨q, hq⟩ : ∃ q : Nat, car = q := ⟨car.toNat, by omega⟩
    subst hq
    obtain ⟨eq, oq, -, -⟩ := hcar q (by omega)
    have x7 := (C.1.2.1 q (by omega)).1 7 (by omega) (by omega)
    have w7 := (wc q (by omega) (by omega)).2.2.2.2.2.2.2.1
    have fin := hK _ (FM.rf.u (a := 30 + 9 + 2 * q) (i := 7) (v := 1) (by omega)) (C.cm W (CM.rf.u (by omega) (by omega)) (C.1.w wb.2.1 wp.2.1 (by omega) (by omega)) (fun j _ _ => fU_n (by omega)))
    replace c_5 := i01n c_5
    refine A_aload_n dX6_tap_10 rfl rfl ?_
    refine A_getR (fi := 1) dX6_tap_11 fg_X6_47 rfl rfl (by assumption) (by assumption) ?_
    refine A_getR (fi := 7) dX6_tap_14 fg_X6_100 rfl rfl (by assumption) (by assumption) ?_
    refine A_iload_n dX6_tap_17 rfl rfl ?_
    refine A_aald (t := 2) dX6_tap_18 (fun _ => rfl) (by decide) (by assumption) (by omega) (by omega) (by assumption) ?_
    refine A_get (fi := 7) dX6_tap_19 fg_X6_184 rfl rfl (by assumption) ?_
    refine A_istore_n dX6_tap_22 rfl (Nat.le_of_ble_eq_true rfl) rfl ?_
    refine A_aload_n dX6_tap_23 rfl rfl ?_
    refine A_getR (fi := 1) dX6_tap_24 fg_X6_47 rfl rfl (by assumption) (by assumption) ?_
    refine A_getR (fi := 7) dX6_tap_27 fg_X6_100 rfl rfl (by assumption) (by assumption) ?_
    refine A_iload_n dX6_tap_30 rfl rfl ?_
    refine A_aald (t := 2) dX6_tap_31 (fun _ => rfl) (by decide) (by assumption) (by omega) (by omega) (by assumption) ?_
    refine A_iconst dX6_tap_32 ⟨by decide, by decide⟩ ?_
    refine A_putZ (fi := 7) dX6_tap_33 fp_X6_184 rfl rfl (by assumption) (by first | exact Or.inl rfl | exact Or.inr rfl | assumption | omega) ?_
    refine A_iload_n dX6_tap_36 rfl rfl ?_
    refine A_if_eq (tgt := 44) dX6_tap_37 (by decide) (fun c_37 => ?_) (fun c_37 => ?_)
    · rw [x7] at c_37
      have fin' : K (some (kI 0)) G (kU d (30 + 9 + 2 * q) 7 1) := by rw [← c_37]; exact fin
      refine A_iconst dX6_tap_44 ⟨by decide, by decide⟩ ?_
      refine A_iret dX6_tap_45 rfl ?_
      exact fin'
    · rw [x7] at c_37
      have e1 : cfR R q 7 = 1 := by omega
      have fin' : K (some (kI 1)) G (kU d (30 + 9 + 2 * q) 7 1) := by rw [← e1]; rw [e1]; rw [show (cfR R (q : Int) 7, fU R (340 + 24 * (q : Int) + 7) 1).1 = 1 from e1] at fin; exact fin
      refine A_iconst dX6_tap_40 ⟨by decide, by decide⟩ ?_
      refine A_goto (tgt := 45) dX6_tap_41 (by decide) ?_
      refine A_iret dX6_tap_45 rfl ?_
      exact fin'
  · have z5 := i01e c_5
    rw [if_pos (by omega)] at hK
    have fin := hK d FM.rf C
    replace c_5 := i01e c_5
    refine A_iconst dX6_tap_8 ⟨by decide, by decide⟩ ?_
    refine A_iret dX6_tap_9 rfl ?_
    exact fin
end CL3
