section CA
variable {A : Nat} {d d' : HD} {R : Int → Int}
theorem CV.add {N : Nat} {lane cell pace : Int} (h : CV d A R) (hN : R 2 = N) (h5 : R 5 ≤ 4) (h6 : R 6 ≤ 4) (e : ∀ a, a ≠ A → a ≠ A + 9 + 2 * N → d' a = d a) (eA : ∀ i, i ≠ 4 → d' A i = d A i) (e4 : d' A 4 = R 2 + 1) (w0 : d' (A + 9 + 2 * N) 0 = cell) (w1 : d' (A + 9 + 2 * N) 1 = lane) (w2 : d' (A + 9 + 2 * N) 2 = pace) (w3 : ∀ w, 3 ≤ w → w ≤ 8 → d' (A + 9 + 2 * N) w = 0) : CV d' A (putR R lane cell pace) := by
  obtain ⟨h0, hc', hb, hl⟩ := h
  have ej : ∀ j, j < 340 → j ≠ 2 → putR R lane cell pace j = R j := fun j j1 j2 => by
    unfold putR
    rw [fU_n j2, fU_n (by omega), fU_n (by omega), fU_n (by omega)]
    unfold zrR
    rw [if_neg (by omega)]
  have e2 : putR R lane cell pace 2 = R 2 + 1 := by unfold putR; rw [fU_s]
  have ec : ∀ c w, 0 ≤ c → c < N → 0 ≤ w → w < 24 → cfR (putR R lane cell pace) c w = cfR R c w := fun c w c1 c2 q1 q2 => by
    unfold cfR putR
    rw [fU_n (by omega), fU_n (by omega), fU_n (by omega), fU_n (by omega)]
    unfold zrR
    rw [if_neg (by omega)]
  have en : ∀ w, 0 ≤ w → w < 24 → cfR (putR R lane cell pace) N w = if w = 0 then cell else if w = 1 then lane else if w = 2 then pace else 0 := fun w q1 q2 => by
    unfold cfR putR
    rw [fU_n (by omega), hN]
    by_cases z2 : w = 2
    · subst z2; rw [fU_s]; rfl
    · rw [fU_n (by omega)]
      by_cases z1 : w = 1
      · subst z1; rw [fU_s]; rfl
      · rw [fU_n (by omega)]
        by_cases z0 : w = 0
        · subst z0; rw [show 340 + 24 * (N : Int) + 0 = 340 + 24 * (N : Int) by omega, fU_s]; rfl
        · rw [fU_n (by omega), if_neg z0, if_neg z1, if_neg z2]
          unfold zrR
          rw [if_pos (by omega)]
  refine ⟨?_, fun c c1 => ⟨fun w q1 q2 => ?_, fun i q i1 i2 i3 q1 q2 => ?_⟩, fun b b1 b2 => ?_, fun b b1 b2 => ?_⟩
  · rw [eA 0 (by decide), eA 1 (by decide), eA 2 (by decide), eA 3 (by decide), eA 5 (by decide), eA 6 (by decide), e4, e2, ej 0 (by omega) (by omega), ej 1 (by omega) (by omega), ej 3 (by omega) (by omega), ej 4 (by omega) (by omega), ej 5 (by omega) (by omega), ej 6 (by omega) (by omega)]
    exact ⟨h0.1, h0.2.1, h0.2.2.1, h0.2.2.2.1, rfl, h0.2.2.2.2.2.1, h0.2.2.2.2.2.2⟩
  · rw [e2] at c1
    by_cases z : c = N
    · subst z
      rw [en w (by omega) (by omega)]
      by_cases z0 : w = 0
      · subst z0; exact w0
      · by_cases z1 : w = 1
        · subst z1; exact w1
        · by_cases z2 : w = 2
          · subst z2; exact w2
          · rw [if_neg z0, if_neg z1, if_neg z2]; exact w3 w (by omega) (by omega)
    · rw [e _ (by omega) (by omega), ec c w (by omega) (by omega) (by omega) (by omega)]
      exact (hc' c (by omega)).1 w q1 q2
  · rw [e2] at c1
    by_cases z : c = N
    · subst z
      rw [en 8 (by omega) (by omega)] at i3
      have : (if (8 : Int) = 0 then cell else if (8 : Int) = 1 then lane else if (8 : Int) = 2 then pace else 0) = 0 := rfl
      omega
    · rw [ec c 8 (by omega) (by omega) (by omega) (by omega)] at i3
      rw [e _ (by omega) (by omega), ec c 8 (by omega) (by omega) (by omega) (by omega), ec c _ (by omega) (by omega) (by omega) (by omega)]
      exact (hc' c (by omega)).2 i q i1 i2 i3 q1 q2
  · rw [ej 5 (by omega) (by omega)] at b2
    rw [e _ (by omega) (by omega), e _ (by omega) (by omega), e _ (by omega) (by omega), ej _ (by omega) (by omega), ej _ (by omega) (by omega), ej _ (by omega) (by omega)]
    exact hb b b1 b2
  · rw [ej 6 (by omega) (by omega)] at b2
    rw [e _ (by omega) (by omega), e _ (by omega) (by omega), e _ (by omega) (by omega), ej _ (by omega) (by omega), ej _ (by omega) (by omega), ej _ (by omega) (by omega)]
    exact hl b b1 b2
end CA
section RA
variable {E : EE} {k A : Nat} {G : HG} {d : HD} {K : PQ} {R : Int → Int}
theorem C_begin {a : Nat} {lane cell pace : Int} (ho : isO G a 0) (hK : K none G (kU (kU (kU (kU (kU (kU (kU (kU (kU d a 1 lane) a 0 cell) a 2 pace) a 3 0) a 4 0) a 5 0) a 6 0) a 7 0) a 8 0)) : AM E mX0_begin k 0 0 [kR a, kI lane, kI cell, kI pace] G d K := by
  refine AM.of rfl (Nat.le_of_ble_eq_true rfl) ?_
  refine A_aload_n dX0_begin_0 rfl rfl ?_
  refine A_iload_n dX0_begin_1 rfl rfl ?_
  refine A_put (fi := 1) dX0_begin_2 fp_X0_13 rfl rfl (by assumption) ?_
  refine A_aload_n dX0_begin_5 rfl rfl ?_
  refine A_iload_n dX0_begin_6 rfl rfl ?_
  refine A_put (fi := 0) dX0_begin_7 fp_X0_17 rfl rfl (by assumption) ?_
  refine A_aload_n dX0_begin_10 rfl rfl ?_
  refine A_iload_n dX0_begin_11 rfl rfl ?_
  refine A_put (fi := 2) dX0_begin_12 fp_X0_20 rfl rfl (by assumption) ?_
  refine A_aload_n dX0_begin_15 rfl rfl ?_
  refine A_iconst dX0_begin_16 ⟨by decide, by decide⟩ ?_
  refine A_put (fi := 3) dX0_begin_17 fp_X0_23 rfl rfl (by assumption) ?_
  refine A_aload_n dX0_begin_20 rfl rfl ?_
  refine A_iconst dX0_begin_21 ⟨by decide, by decide⟩ ?_
  refine A_put (fi := 4) dX0_begin_22 fp_X0_26 rfl rfl (by assumption) ?_
  refine A_aload_n dX0_begin_25 rfl rfl ?_
  refine A_iconst dX0_begin_26 ⟨by decide, by decide⟩ ?_
  refine A_put (fi := 5) dX0_begin_27 fp_X0_29 rfl rfl (by assumption) ?_
  refine A_aload_n dX0_begin_30 rfl rfl ?_
  refine A_iconst dX0_begin_31 ⟨by decide, by decide⟩ ?_
  refine A_put (fi := 6) dX0_begin_32 fp_X0_32 rfl rfl (by assumption) ?_
  refine A_aload_n dX0_begin_35 rfl rfl ?_
  refine A_iconst dX0_begin_36 ⟨by decide, by decide⟩ ?_
  refine A_putZ (fi := 7) dX0_begin_37 fp_X0_35 rfl rfl (by assumption) (by first | exact Or.inl rfl | exact Or.inr rfl | assumption | omega) ?_
  refine A_aload_n dX0_begin_40 rfl rfl ?_
  refine A_iconst dX0_begin_41 ⟨by decide, by decide⟩ ?_
  refine A_put (fi := 8) dX0_begin_42 fp_X0_39 rfl rfl (by assumption) ?_
  refine A_vret dX0_begin_45 rfl ?_
  exact hK
theorem C_addCar {lane cell pace : Int} (hG : RG G A) (hV : CV d A R) (h2 : 0 ≤ R 2) (h22 : R 2 < 12) (h5 : R 5 ≤ 4) (h6 : R 6 ≤ 4) (hK : ∀ d', CM d d' A → CV d' A (putR R lane cell pace) → K (some (kI (R 2))) G d') : AM E mX4_addCar (k + 1) 0 0 [kR A, kI lane, kI cell, kI pace] G d K := by
  obtain ⟨ho, ⟨e7, a7⟩, -, -, -, -, -, -, -, hcar⟩ := id hG
  obtain ⟨N, hN⟩ : ∃ N : Nat, R 2 = N := ⟨(R 2).toNat, by omega⟩
  obtain ⟨ec, oc, -, -⟩ := hcar N (by omega)
  have v4 := hV.1.2.2.2.2.1
  rw [hN] at v4
  refine AM.of rfl (Nat.le_of_ble_eq_true rfl) ?_
  refine A_aload_n dX4_addCar_0 rfl rfl ?_
  refine A_getR (fi := 7) dX4_addCar_1 fg_X4_35 rfl rfl (by assumption) (by assumption) ?_
  refine A_aload_n dX4_addCar_4 rfl rfl ?_
  refine A_get (fi := 4) dX4_addCar_5 fg_X4_24 rfl rfl (by assumption) ?_
  rw [v4]
  refine A_aald (t := 2) dX4_addCar_8 (fun _ => rfl) (by decide) (by assumption) (by omega) (by omega) (by assumption) ?_
  refine A_iload_n dX4_addCar_9 rfl rfl ?_
  refine A_iload_n dX4_addCar_10 rfl rfl ?_
  refine A_iload_n dX4_addCar_11 rfl rfl ?_
  refine A_inv3 dX4_addCar_12 mv_X4_73 kCl_0 (Nat.le_of_ble_eq_true rfl) (by assumption) ?_
  refine C_begin oc ?_
  generalize hD : kU (kU (kU (kU (kU (kU (kU (kU (kU d (A + 9 + 2 * N) 1 lane) (A + 9 + 2 * N) 0 cell) (A + 9 + 2 * N) 2 pace) (A + 9 + 2 * N) 3 0) (A + 9 + 2 * N) 4 0) (A + 9 + 2 * N) 5 0) (A + 9 + 2 * N) 6 0) (A + 9 + 2 * N) 7 0) (A + 9 + 2 * N) 8 0 = d1
  have E1 : ∀ a, a ≠ A + 9 + 2 * N → d1 a = d a := fun a ha => by rw [← hD, kU_ne ha, kU_ne ha, kU_ne ha, kU_ne ha, kU_ne ha, kU_ne ha, kU_ne ha, kU_ne ha, kU_ne ha]
  have W0 : d1 (A + 9 + 2 * N) 0 = cell ∧ d1 (A + 9 + 2 * N) 1 = lane ∧ d1 (A + 9 + 2 * N) 2 = pace ∧ ∀ w, 3 ≤ w → w ≤ 8 → d1 (A + 9 + 2 * N) w = 0 := by
    rw [← hD]
    refine ⟨?_, ?_, ?_, fun w q1 q2 => ?_⟩
    · simp [kU]
    · simp [kU]
    · simp [kU]
    · rcases (show w = 3 ∨ w = 4 ∨ w = 5 ∨ w = 6 ∨ w = 7 ∨ w = 8 by omega) with rfl | rfl | rfl | rfl | rfl | rfl <;> simp [kU]
  clear hD
  have x4 : d1 A 4 = N := by rw [E1 A (by omega)]; exact v4
  refine A_aload_n dX4_addCar_15 rfl rfl ?_
  refine A_dup dX4_addCar_16 (fun B => toV_cat B _) ?_
  refine A_get (fi := 4) dX4_addCar_17 fg_X4_24 rfl rfl (by assumption) ?_
  rw [x4]
  refine A_dup_x1 dX4_addCar_20 (fun B => toV_cat B _) (fun B => toV_cat B _) ?_
  refine A_iconst dX4_addCar_21 ⟨by decide, by decide⟩ ?_
  refine A_iadd_ok dX4_addCar_22 (by omega) (by omega) ?_
  refine A_put (fi := 4) dX4_addCar_23 fp_X4_24 rfl rfl (by assumption) ?_
  refine A_iret dX4_addCar_26 rfl ?_
  rw [← hN]
  refine hK _ (fun a ha => ?_) (hV.add hN h5 h6 (fun a q1 q2 => by rw [kU_ne q1, E1 a q2]) (fun i hi => by rw [kU_f hi, E1 A (by omega)]) kU_s (by rw [kU_ne (by omega)]; exact W0.1) (by rw [kU_ne (by omega)]; exact W0.2.1) (by rw [kU_ne (by omega)]; exact W0.2.2.1) (fun w q1 q2 => by rw [kU_ne (by omega)]; exact W0.2.2.2 w q1 q2))
  rw [kU_ne (by omega), E1 a (by omega)]
theorem C_addBoard {fr to limit : Int} (hG : RG G A) (hV : CV d A R) (h5 : 0 ≤ R 5) (h52 : R 5 < 4) (h6 : R 6 ≤ 4) (hK : ∀ d', CM d d' A → CV d' A (fU (fU (fU (fU R (10 + 3 * R 5) fr) (10 + 3 * R 5 + 1) to) (10 + 3 * R 5 + 2) limit) 5 (R 5 + 1)) → K (some (kI (R 5))) G d') : AM E mX4_addBoard k 0 0 [kR A, kI fr, kI to, kI limit] G d K := by
  obtain ⟨ho, -, -, ⟨e9, a9⟩, ⟨e10, a10⟩, ⟨e11, a11⟩, -, -, -, hcar⟩ := id hG
  obtain ⟨h0, hc', hb, hl⟩ := id hV
  have v5 := h0.2.2.2.2.2.1
  have x1 : ∀ u, kU d (A + 3) (R 5) u A 5 = R 5 := fun u => by rw [kU_ne (by omega)]; exact v5
  have x2 : ∀ u w, kU (kU d (A + 3) (R 5) u) (A + 4) (R 5) w A 5 = R 5 := fun u w => by rw [kU_ne (by omega)]; exact x1 u
  have x3 : ∀ u w z, kU (kU (kU d (A + 3) (R 5) u) (A + 4) (R 5) w) (A + 5) (R 5) z A 5 = R 5 := fun u w z => by rw [kU_ne (by omega)]; exact x2 u w
  refine AM.of rfl (Nat.le_of_ble_eq_true rfl) ?_
  refine A_aload_n dX4_addBoard_0 rfl rfl ?_
  refine A_getR (fi := 9) dX4_addBoard_1 fg_X4_45 rfl rfl (by assumption) (by assumption) ?_
  refine A_aload_n dX4_addBoard_4 rfl rfl ?_
  refine A_get (fi := 5) dX4_addBoard_5 fg_X4_27 rfl rfl (by assumption) ?_
  rw [v5]
  refine A_iload_n dX4_addBoard_8 rfl rfl ?_
  refine A_iast dX4_addBoard_9 (by assumption) (by omega) (by omega) ?_
  refine A_aload_n dX4_addBoard_10 rfl rfl ?_
  refine A_getR (fi := 10) dX4_addBoard_11 fg_X4_49 rfl rfl (by assumption) (by assumption) ?_
  refine A_aload_n dX4_addBoard_14 rfl rfl ?_
  refine A_get (fi := 5) dX4_addBoard_15 fg_X4_27 rfl rfl (by assumption) ?_
  rw [x1]
  refine A_iload_n dX4_addBoard_18 rfl rfl ?_
  refine A_iast dX4_addBoard_19 (by assumption) (by omega) (by omega) ?_
  refine A_aload_n dX4_addBoard_20 rfl rfl ?_
  refine A_getR (fi := 11) dX4_addBoard_21 fg_X4_52 rfl rfl (by assumption) (by assumption) ?_
  refine A_aload_n dX4_addBoard_24 rfl rfl ?_
  refine A_get (fi := 5) dX4_addBoard_25 fg_X4_27 rfl rfl (by assumption) ?_
  rw [x2]
  refine A_iload_n dX4_addBoard_28 rfl rfl ?_
  refine A_iast dX4_addBoard_29 (by assumption) (by omega) (by omega) ?_
  refine A_aload_n dX4_addBoard_30 rfl rfl ?_
  refine A_dup dX4_addBoard_31 (fun B => toV_cat B _) ?_
  refine A_get (fi := 5) dX4_addBoard_32 fg_X4_27 rfl rfl (by assumption) ?_
  rw [x3]
  refine A_dup_x1 dX4_addBoard_35 (fun B => toV_cat B _) (fun B => toV_cat B _) ?_
  refine A_iconst dX4_addBoard_36 ⟨by decide, by decide⟩ ?_
  refine A_iadd_ok dX4_addBoard_37 (by omega) (by omega) ?_
  refine A_put (fi := 5) dX4_addBoard_38 fp_X4_27 rfl rfl (by assumption) ?_
  refine A_iret dX4_addBoard_41 rfl ?_
  have ej : ∀ j, (j < 5 ∨ (5 < j ∧ j < 10) ∨ (10 ≤ j ∧ j < 10 + 3 * R 5) ∨ 22 ≤ j) → fU (fU (fU (fU R (10 + 3 * R 5) fr) (10 + 3 * R 5 + 1) to) (10 + 3 * R 5 + 2) limit) 5 (R 5 + 1) j = R j := fun j hj => by rw [fU_n (by omega), fU_n (by omega), fU_n (by omega), fU_n (by omega)]
  have ec : ∀ c w : Int, 0 ≤ c → 0 ≤ w → cfR (fU (fU (fU (fU R (10 + 3 * R 5) fr) (10 + 3 * R 5 + 1) to) (10 + 3 * R 5 + 2) limit) 5 (R 5 + 1)) c w = cfR R c w := fun c w q1 q2 => ej _ (by omega)
  refine hK _ (fun a ha => by rw [kU_ne (by omega), kU_ne (by omega), kU_ne (by omega), kU_ne (by omega)]) ⟨?_, fun c c1 => ⟨fun w q1 q2 => ?_, fun i q i1 i2 i3 q1 q2 => ?_⟩, fun b b1 b2 => ?_, fun b b1 b2 => ?_⟩
  · rw [ej 0 (by omega), ej 1 (by omega), ej 2 (by omega), ej 3 (by omega), ej 4 (by omega), ej 6 (by omega), fU_s, kU_s, kU_f (by decide), kU_f (by decide), kU_f (by decide), kU_f (by decide), kU_f (by decide), kU_f (by decide), kU_ne (by omega), kU_ne (by omega), kU_ne (by omega)]
    exact ⟨h0.1, h0.2.1, h0.2.2.1, h0.2.2.2.1, h0.2.2.2.2.1, rfl, h0.2.2.2.2.2.2⟩
  · rw [ej 2 (by omega)] at c1
    rw [kU_ne (by omega), kU_ne (by omega), kU_ne (by omega), kU_ne (by omega), ec _ _ (by omega) (by omega)]
    exact (hc' c c1).1 w q1 q2
  · rw [ej 2 (by omega)] at c1
    rw [ec _ 8 (by omega) (by omega)] at i3
    rw [kU_ne (by omega), kU_ne (by omega), kU_ne (by omega), kU_ne (by omega), ec _ 8 (by omega) (by omega), ec _ _ (by omega) (by omega)]
    exact (hc' c c1).2 i q i1 i2 i3 q1 q2
  · rw [fU_s] at b2
    rw [kU_ne (show A + 3 ≠ A by omega), kU_ne (show A + 4 ≠ A by omega), kU_ne (show A + 5 ≠ A by omega), kU_ne (show A + 3 ≠ A + 5 by omega), kU_ne (show A + 4 ≠ A + 5 by omega), kU_ne (show A + 3 ≠ A + 4 by omega)]
    by_cases z : b = R 5
    · subst z
      rw [kU_s, kU_s, kU_s, fU_n (by omega), fU_n (by omega), fU_n (by omega), fU_s, fU_n (by omega), fU_n (by omega), fU_s, fU_n (by omega), fU_s]
      exact ⟨rfl, rfl, rfl⟩
    · rw [kU_f z, kU_f z, kU_f z, kU_ne (by omega), kU_ne (by omega), kU_ne (by omega), ej _ (by omega), ej _ (by omega), ej _ (by omega)]
      exact hb b b1 (by omega)
  · rw [ej 6 (by omega)] at b2
    rw [kU_ne (by omega), kU_ne (by omega), kU_ne (by omega), kU_ne (by omega), kU_ne (by omega), kU_ne (by omega), kU_ne (by omega), kU_ne (by omega), kU_ne (by omega), kU_ne (by omega), kU_ne (by omega), kU_ne (by omega), ej _ (by omega), ej _ (by omega), ej _ (by omega)]
    exact hl b b1 b2
theorem C_addLoop {cell : Int} (hG : RG G A) (hV : CV d A R) (h6 : 0 ≤ R 6) (h62 : R 6 < 4) (h5 : R 5 ≤ 4) (hK : ∀ d', CM d d' A → CV d' A (fU (fU (fU (fU R (22 + 3 * R 6) cell) (22 + 3 * R 6 + 1) 0) (22 + 3 * R 6 + 2) 0) 6 (R 6 + 1)) → K (some (kI (R 6))) G d') : AM E mX4_addLoop k 0 0 [kR A, kI cell] G d K := by
  obtain ⟨ho, -, -, -, -, -, ⟨e12, a12⟩, ⟨e13, a13⟩, ⟨e14, a14⟩, hcar⟩ := id hG
  obtain ⟨h0, hc', hb, hl⟩ := id hV
  have v6 := h0.2.2.2.2.2.2
  have x1 : ∀ u, kU d (A + 6) (R 6) u A 6 = R 6 := fun u => by rw [kU_ne (by omega)]; exact v6
  have x2 : ∀ u w, kU (kU d (A + 6) (R 6) u) (A + 7) (R 6) w A 6 = R 6 := fun u w => by rw [kU_ne (by omega)]; exact x1 u
  have x3 : ∀ u w z, kU (kU (kU d (A + 6) (R 6) u) (A + 7) (R 6) w) (A + 8) (R 6) z A 6 = R 6 := fun u w z => by rw [kU_ne (by omega)]; exact x2 u w
  refine AM.of rfl (Nat.le_of_ble_eq_true rfl) ?_
  refine A_aload_n dX4_addLoop_0 rfl rfl ?_
  refine A_getR (fi := 12) dX4_addLoop_1 fg_X4_55 rfl rfl (by assumption) (by assumption) ?_
  refine A_aload_n dX4_addLoop_4 rfl rfl ?_
  refine A_get (fi := 6) dX4_addLoop_5 fg_X4_30 rfl rfl (by assumption) ?_
  rw [v6]
  refine A_iload_n dX4_addLoop_8 rfl rfl ?_
  refine A_iast dX4_addLoop_9 (by assumption) (by omega) (by omega) ?_
  refine A_aload_n dX4_addLoop_10 rfl rfl ?_
  refine A_getR (fi := 13) dX4_addLoop_11 fg_X4_58 rfl rfl (by assumption) (by assumption) ?_
  refine A_aload_n dX4_addLoop_14 rfl rfl ?_
  refine A_get (fi := 6) dX4_addLoop_15 fg_X4_30 rfl rfl (by assumption) ?_
  rw [x1]
  refine A_iconst dX4_addLoop_18 ⟨by decide, by decide⟩ ?_
  refine A_iast dX4_addLoop_19 (by assumption) (by omega) (by omega) ?_
  refine A_aload_n dX4_addLoop_20 rfl rfl ?_
  refine A_getR (fi := 14) dX4_addLoop_21 fg_X4_61 rfl rfl (by assumption) (by assumption) ?_
  refine A_aload_n dX4_addLoop_24 rfl rfl ?_
  refine A_get (fi := 6) dX4_addLoop_25 fg_X4_30 rfl rfl (by assumption) ?_
  rw [x2]
  refine A_iconst dX4_addLoop_28 ⟨by decide, by decide⟩ ?_
  refine A_iast dX4_addLoop_29 (by assumption) (by omega) (by omega) ?_
  refine A_aload_n dX4_addLoop_30 rfl rfl ?_
  refine A_dup dX4_addLoop_31 (fun B => toV_cat B _) ?_
  refine A_get (fi := 6) dX4_addLoop_32 fg_X4_30 rfl rfl (by assumption) ?_
  rw [x3]
  refine A_dup_x1 dX4_addLoop_35 (fun B => toV_cat B _) (fun B => toV_cat B _) ?_
  refine A_iconst dX4_addLoop_36 ⟨by decide, by decide⟩ ?_
  refine A_iadd_ok dX4_addLoop_37 (by omega) (by omega) ?_
  refine A_put (fi := 6) dX4_addLoop_38 fp_X4_30 rfl rfl (by assumption) ?_
  refine A_iret dX4_addLoop_41 rfl ?_
  have ej : ∀ j, (j < 6 ∨ (6 < j ∧ j < 22) ∨ (22 ≤ j ∧ j < 22 + 3 * R 6) ∨ 34 ≤ j) → fU (fU (fU (fU R (22 + 3 * R 6) cell) (22 + 3 * R 6 + 1) 0) (22 + 3 * R 6 + 2) 0) 6 (R 6 + 1) j = R j := fun j hj => by rw [fU_n (by omega), fU_n (by omega), fU_n (by omega), fU_n (by omega)]
  have ec : ∀ c w : Int, 0 ≤ c → 0 ≤ w → cfR (fU (fU (fU (fU R (22 + 3 * R 6) cell) (22 + 3 * R 6 + 1) 0) (22 + 3 * R 6 + 2) 0) 6 (R 6 + 1)) c w = cfR R c w := fun c w q1 q2 => ej _ (by omega)
  refine hK _ (fun a ha => by rw [kU_ne (by omega), kU_ne (by omega), kU_ne (by omega), kU_ne (by omega)]) ⟨?_, fun c c1 => ⟨fun w q1 q2 => ?_, fun i q i1 i2 i3 q1 q2 => ?_⟩, fun b b1 b2 => ?_, fun b b1 b2 => ?_⟩
  · rw [ej 0 (by omega), ej 1 (by omega), ej 2 (by omega), ej 3 (by omega), ej 4 (by omega), ej 5 (by omega), fU_s, kU_s, kU_f (by decide), kU_f (by decide), kU_f (by decide), kU_f (by decide), kU_f (by decide), kU_f (by decide), kU_ne (by omega), kU_ne (by omega), kU_ne (by omega)]
    exact ⟨h0.1, h0.2.1, h0.2.2.1, h0.2.2.2.1, h0.2.2.2.2.1, h0.2.2.2.2.2.1, rfl⟩
  · rw [ej 2 (by omega)] at c1
    rw [kU_ne (by omega), kU_ne (by omega), kU_ne (by omega), kU_ne (by omega), ec _ _ (by omega) (by omega)]
    exact (hc' c c1).1 w q1 q2
  · rw [ej 2 (by omega)] at c1
    rw [ec _ 8 (by omega) (by omega)] at i3
    rw [kU_ne (by omega), kU_ne (by omega), kU_ne (by omega), kU_ne (by omega), ec _ 8 (by omega) (by omega), ec _ _ (by omega) (by omega)]
    exact (hc' c c1).2 i q i1 i2 i3 q1 q2
  · rw [ej 5 (by omega)] at b2
    rw [kU_ne (by omega), kU_ne (by omega), kU_ne (by omega), kU_ne (by omega), kU_ne (by omega), kU_ne (by omega), kU_ne (by omega), kU_ne (by omega), kU_ne (by omega), kU_ne (by omega), kU_ne (by omega), kU_ne (by omega), ej _ (by omega), ej _ (by omega), ej _ (by omega)]
    exact hb b b1 b2
  · rw [fU_s] at b2
    rw [kU_ne (show A + 6 ≠ A by omega), kU_ne (show A + 7 ≠ A by omega), kU_ne (show A + 8 ≠ A by omega), kU_ne (show A + 6 ≠ A + 8 by omega), kU_ne (show A + 7 ≠ A + 8 by omega), kU_ne (show A + 6 ≠ A + 7 by omega)]
    by_cases z : b = R 6
    · subst z
      rw [kU_s, kU_s, kU_s, fU_n (by omega), fU_n (by omega), fU_n (by omega), fU_s, fU_n (by omega), fU_n (by omega), fU_s, fU_n (by omega), fU_s]
      exact ⟨rfl, rfl, rfl⟩
    · rw [kU_f z, kU_f z, kU_f z, kU_ne (by omega), kU_ne (by omega), kU_ne (by omega), ej _ (by omega), ej _ (by omega), ej _ (by omega)]
      exact hl b b1 (by omega)
theorem C_cellsGone {who B : Int} (hG : RG G A) (hV : CV d A R) (hW : WR R B) (hB : 0 ≤ B) (hB2 : B ≤ 200000) (hw : who = -1 ∨ (0 ≤ who ∧ who < R 2)) (hK : K (some (kI (wentS R who))) G d) : AM E mX4_cellsGone k 0 0 [kR A, kI who] G d K := by
  obtain ⟨ho, ⟨e7, a7⟩, -, -, -, -, -, -, -, hcar⟩ := id hG
  obtain ⟨-, -, w2, -, wc, -⟩ := id hW
  obtain ⟨N, hN⟩ : ∃ N : Nat, R 2 = N := ⟨(R 2).toNat, by omega⟩
  have v4 := hV.1.2.2.2.2.1
  rw [hN] at v4
  unfold wentS at hK
  rw [show (R 2).toNat = N by omega] at hK
  have x5 : ∀ c : Nat, c < N → d (A + 9 + 2 * c) 5 = cfR R c 5 := fun c hc => (hV.2.1 c (by omega)).1 5 (by omega) (by omega)
  refine AM.of rfl (Nat.le_of_ble_eq_true rfl) ?_
  refine A_iload_n dX4_cellsGone_0 rfl rfl ?_
  refine A_if_lt (tgt := 14) dX4_cellsGone_1 (by decide) (fun c_1 => ?_) (fun c_1 => ?_)
  · have loop : ∀ (f j : Nat), j + f = N → AW E mX4_cellsGone k 0 0 18 [some (kR A), some (kI who), some (kI (wenF R who j)), some (kI j)] [] G d K := by
      intro f
      induction f with
      | zero =>
        intro j hj
        have : j = N := by omega
        subst this
        refine A_iload_n dX4_cellsGone_18 rfl rfl ?_
        refine A_aload_n dX4_cellsGone_19 rfl rfl ?_
        refine A_get (fi := 4) dX4_cellsGone_20 fg_X4_24 rfl rfl (by assumption) ?_
        refine A_icmp_ge (tgt := 44) dX4_cellsGone_23 (by decide) (fun c_23 => ?_) (fun c_23 => absurd c_23 (by omega))
        refine A_iload_n dX4_cellsGone_44 rfl rfl ?_
        refine A_iret dX4_cellsGone_45 rfl ?_
        exact hK
      | succ f ih =>
        intro j hj
        obtain ⟨ej, oj, -, -⟩ := hcar j (by omega)
        have rg := wenF_rg (who := who) hW hB j (by omega)
        have wj := (wc j (by omega) (by omega)).2.2.2.2.2.1
        have bd : 9 * B * (j : Int) ≤ 108 * B := by
          have : (j : Int) ≤ 12 := by omega
          have := Int.mul_le_mul_of_nonneg_left this (show 0 ≤ 9 * B by omega)
          omega
        refine A_iload_n dX4_cellsGone_18 rfl rfl ?_
        refine A_aload_n dX4_cellsGone_19 rfl rfl ?_
        refine A_get (fi := 4) dX4_cellsGone_20 fg_X4_24 rfl rfl (by assumption) ?_
        refine A_icmp_ge (tgt := 44) dX4_cellsGone_23 (by decide) (fun c_23 => absurd c_23 (by omega)) (fun c_23 => ?_)
        refine A_iload_n dX4_cellsGone_26 rfl rfl ?_
        refine A_aload_n dX4_cellsGone_27 rfl rfl ?_
        refine A_getR (fi := 7) dX4_cellsGone_28 fg_X4_35 rfl rfl (by assumption) (by assumption) ?_
        refine A_iload_n dX4_cellsGone_31 rfl rfl ?_
        refine A_aald (t := 2) dX4_cellsGone_32 (fun _ => rfl) (by decide) (by assumption) (by omega) (by omega) (by assumption) ?_
        refine A_get (fi := 5) dX4_cellsGone_33 fg_X4_90 rfl rfl (by assumption) ?_
        rw [x5 j (by omega)]
        refine A_iadd_ok dX4_cellsGone_36 (by omega) (by omega) ?_
        refine A_istore_n dX4_cellsGone_37 rfl (Nat.le_of_ble_eq_true rfl) rfl ?_
        refine A_iinc_ok dX4_cellsGone_38 rfl rfl (by omega) (by omega) ?_
        refine A_goto (tgt := 18) dX4_cellsGone_41 (by decide) ?_
        have e : wenF R who (j + 1) = wenF R who j + cfR R j 5 := by simp only [wenF]; rw [if_pos (Or.inl c_1)]
        have next := ih (j + 1) (by omega)
        rw [e] at next
        exact next
    refine A_iconst dX4_cellsGone_14 ⟨by decide, by decide⟩ ?_
    refine A_istore_n dX4_cellsGone_15 rfl (Nat.le_of_ble_eq_true rfl) rfl ?_
    refine A_iconst dX4_cellsGone_16 ⟨by decide, by decide⟩ ?_
    refine A_istore_n dX4_cellsGone_17 rfl (Nat.le_of_ble_eq_true rfl) rfl ?_
    exact loop N 0 (by omega)
  · obtain ⟨c, hc⟩ : ∃ c : Nat, who = c := ⟨who.toNat, by omega⟩
    obtain ⟨ej, oj, -, -⟩ := hcar c (by omega)
    have e : ∀ j : Nat, wenF R who j = if c < j then cfR R c 5 else 0 := by
      intro j
      induction j with
      | zero => simp [wenF]
      | succ j ih =>
        simp only [wenF]
        rw [ih]
        by_cases z : (c : Int) = j
        · have : c = j := by omega
          subst this
          rw [if_neg (by omega), if_pos (Or.inr hc), if_pos (by omega)]
          omega
        · by_cases z2 : c < j
          · rw [if_pos z2, if_neg (by omega), if_pos (by omega)]
            omega
          · rw [if_neg z2, if_neg (by omega), if_neg (by omega)]
            omega
    rw [e N, if_pos (by omega), ← x5 c (by omega)] at hK
    subst hc
    refine A_aload_n dX4_cellsGone_4 rfl rfl ?_
    refine A_getR (fi := 7) dX4_cellsGone_5 fg_X4_35 rfl rfl (by assumption) (by assumption) ?_
    refine A_iload_n dX4_cellsGone_8 rfl rfl ?_
    refine A_aald (t := 2) dX4_cellsGone_9 (fun _ => rfl) (by decide) (by assumption) (by omega) (by omega) (by assumption) ?_
    refine A_get (fi := 5) dX4_cellsGone_10 fg_X4_90 rfl rfl (by assumption) ?_
    refine A_iret dX4_cellsGone_13 rfl ?_
    exact hK
end RA
