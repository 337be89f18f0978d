section R8
variable {E : EE} {k A : Nat} {G : HG} {d : HD} {K : PQ} {R : Int → Int}
/-- a car notes what it has looked up -/
theorem C_noteC {c : Nat} (hG : RG G A) (hV : CV d A R) (h2 : R 2 ≤ 12) (hc2 : (c : Int) < R 2) (h5 : R 5 ≤ 4) (h6 : R 6 ≤ 4) (h8 : 0 ≤ cfR R c 8) (h82 : cfR R c 8 ≤ 1000000) (g1 : d (A + 9 + 2 * c) 10 = gapS R c) (g2 : d (A + 9 + 2 * c) 12 = leadS R c) (g3 : d (A + 9 + 2 * c) 13 = otherS R c) (hK : ∀ d', CM d d' A → CV d' A (noteR R c) → (∀ e : Nat, e < 12 → ∀ w, 10 ≤ w → d' (A + 9 + 2 * e) w = d (A + 9 + 2 * e) w) → K none G d') : AM E mX0_note (k + 1) 0 0 [kR (A + 9 + 2 * c)] G d K := by
  obtain ⟨ho, ⟨e7, a7⟩, -, -, -, -, -, -, -, hcar⟩ := id hG
  obtain ⟨ec, oc, en, an⟩ := hcar c (by omega)
  obtain ⟨v0, vc, vb, vl⟩ := id hV
  have x8 := (vc c hc2).1 8 (by omega) (by omega)
  have m0 := Int.emod_nonneg (cfR R c 8) (show (4 : Int) ≠ 0 by decide)
  have m1 := Int.emod_lt_of_pos (cfR R c 8) (show (0 : Int) < 4 by decide)
  generalize hm : cfR R c 8 % 4 = mm at *
  have y2 : ∀ u, kU d (A + 10 + 2 * c) (mm * 3) u (A + 9 + 2 * c) 12 = leadS R c := fun u => by rw [kU_ne (by omega)]; exact g2
  have y3 : ∀ u w, kU (kU d (A + 10 + 2 * c) (mm * 3) u) (A + 10 + 2 * c) (mm * 3 + 1) w (A + 9 + 2 * c) 13 = otherS R c := fun u w => by rw [kU_ne (by omega), kU_ne (by omega)]; exact g3
  have y8 : ∀ u w z, kU (kU (kU d (A + 10 + 2 * c) (mm * 3) u) (A + 10 + 2 * c) (mm * 3 + 1) w) (A + 10 + 2 * c) (mm * 3 + 2) z (A + 9 + 2 * c) 8 = cfR R c 8 := fun u w z => by rw [kU_ne (by omega), kU_ne (by omega), kU_ne (by omega)]; exact x8
  refine AM.of rfl (Nat.le_of_ble_eq_true rfl) ?_
  refine A_aload_n dX0_note_0 rfl rfl ?_
  refine A_get (fi := 8) dX0_note_1 fg_X0_39 rfl rfl (by assumption) ?_
  rw [x8]
  refine A_ins1 dX0_note_4 ms_X0_48 (Nat.le_of_ble_eq_true rfl) ?_
  refine C_placeOf h8 (by omega) ?_
  rw [hm]
  refine A_istore_n dX0_note_7 rfl (Nat.le_of_ble_eq_true rfl) rfl ?_
  refine A_aload_n dX0_note_8 rfl rfl ?_
  refine A_getR (fi := 9) dX0_note_9 fg_X0_9 rfl rfl (by assumption) (by assumption) ?_
  refine A_iload_n dX0_note_12 rfl rfl ?_
  refine A_aload_n dX0_note_13 rfl rfl ?_
  refine A_get (fi := 10) dX0_note_14 fg_X0_52 rfl rfl (by assumption) ?_
  rw [g1]
  refine A_iast dX0_note_17 (by assumption) (by omega) (by omega) ?_
  refine A_aload_n dX0_note_18 rfl rfl ?_
  refine A_getR (fi := 9) dX0_note_19 fg_X0_9 rfl rfl (by assumption) (by assumption) ?_
  refine A_iload_n dX0_note_22 rfl rfl ?_
  refine A_iconst dX0_note_23 ⟨by decide, by decide⟩ ?_
  refine A_iadd_ok dX0_note_24 (by omega) (by omega) ?_
  refine A_aload_n dX0_note_25 rfl rfl ?_
  refine A_get (fi := 12) dX0_note_26 fg_X0_55 rfl rfl (by assumption) ?_
  rw [y2]
  refine A_iast dX0_note_29 (by assumption) (by omega) (by omega) ?_
  refine A_aload_n dX0_note_30 rfl rfl ?_
  refine A_getR (fi := 9) dX0_note_31 fg_X0_9 rfl rfl (by assumption) (by assumption) ?_
  refine A_iload_n dX0_note_34 rfl rfl ?_
  refine A_iconst dX0_note_35 ⟨by decide, by decide⟩ ?_
  refine A_iadd_ok dX0_note_36 (by omega) (by omega) ?_
  refine A_aload_n dX0_note_37 rfl rfl ?_
  refine A_get (fi := 13) dX0_note_38 fg_X0_58 rfl rfl (by assumption) ?_
  rw [y3]
  refine A_iast dX0_note_41 (by assumption) (by omega) (by omega) ?_
  refine A_aload_n dX0_note_42 rfl rfl ?_
  refine A_dup dX0_note_43 (fun B => toV_cat B _) ?_
  refine A_get (fi := 8) dX0_note_44 fg_X0_39 rfl rfl (by assumption) ?_
  rw [y8]
  refine A_iconst dX0_note_47 ⟨by decide, by decide⟩ ?_
  refine A_iadd_ok dX0_note_48 (by omega) (by omega) ?_
  refine A_put (fi := 8) dX0_note_49 fp_X0_39 rfl rfl (by assumption) ?_
  refine A_vret dX0_note_52 rfl ?_
  refine hK _ ((((CM.rf.u (by omega) (by omega)).u (by omega) (by omega)).u (by omega) (by omega)).u (by omega) (by omega)) ?_ (fun e he w hw => ?_)
  · have n := noteR_n R c
    have ej : ∀ j, j < 340 → noteR R c j = R j := fun j hj => n j (by omega)
    have e8 : cfR (noteR R c) c 8 = cfR R c 8 + 1 := by unfold noteR; show fU _ _ _ (340 + 24 * (c : Int) + 8) = _; rw [fU_s]
    refine ⟨?_, fun e' e1 => ⟨fun w' w1 w2 => ?_, fun i q i1 i2 i3 q1 q2 => ?_⟩, fun b b1 b2 => ?_, fun b b1 b2 => ?_⟩
    · rw [kU_ne (by omega), kU_ne (by omega), kU_ne (by omega), kU_ne (by omega), ej 0 (by omega), ej 1 (by omega), ej 2 (by omega), ej 3 (by omega), ej 4 (by omega), ej 5 (by omega), ej 6 (by omega)]; exact v0
    · rw [ej 2 (by omega)] at e1
      by_cases q : e' = c
      · subst q
        by_cases q8 : w' = 8
        · subst q8; rw [kU_s, e8]
        · rw [kU_f q8, kU_ne (by omega), kU_ne (by omega), kU_ne (by omega), show cfR (noteR R e') e' w' = cfR R e' w' from n _ (by omega)]
          exact (vc e' e1).1 w' w1 w2
      · rw [kU_ne (by omega), kU_ne (by omega), kU_ne (by omega), kU_ne (by omega), show cfR (noteR R c) e' w' = cfR R e' w' from n _ (by omega)]
        exact (vc e' e1).1 w' w1 w2
    · rw [ej 2 (by omega)] at e1
      by_cases z : e' = c
      · subst z
        rw [e8] at i3 ⊢
        rw [kU_ne (by omega), show cfR R e' 8 + 1 - 1 - i = cfR R e' 8 - i by omega]
        by_cases i0 : i = 0
        · subst i0
          rw [show cfR R (e' : Int) 8 - 0 = cfR R e' 8 by omega, hm]
          rcases (show q = 0 ∨ q = 1 ∨ q = 2 by omega) with rfl | rfl | rfl
          · rw [show 3 * mm + 0 = mm * 3 by omega, kU_f (by omega), kU_f (by omega), kU_s]
            show _ = noteR R e' (340 + 24 * (e' : Int) + (9 + 3 * 0 + 0))
            unfold noteR
            rw [show 340 + 24 * (e' : Int) + (9 + 3 * 0 + 0) = 340 + 24 * (e' : Int) + 9 by omega, fU_n (by omega), fU_n (by omega), fU_n (by omega), fU_s]
          · rw [show 3 * mm + 1 = mm * 3 + 1 by omega, kU_f (by omega), kU_s]
            show _ = noteR R e' (340 + 24 * (e' : Int) + (9 + 3 * 0 + 1))
            unfold noteR
            rw [show 340 + 24 * (e' : Int) + (9 + 3 * 0 + 1) = 340 + 24 * (e' : Int) + 10 by omega, fU_n (by omega), fU_n (by omega), fU_s]
          · rw [show 3 * mm + 2 = mm * 3 + 2 by omega, kU_s]
            show _ = noteR R e' (340 + 24 * (e' : Int) + (9 + 3 * 0 + 2))
            unfold noteR
            rw [show 340 + 24 * (e' : Int) + (9 + 3 * 0 + 2) = 340 + 24 * (e' : Int) + 11 by omega, fU_n (by omega), fU_s]
        · have ol := (vc e' e1).2 (i - 1) q (by omega) (by omega) (by omega) (by omega) (by omega)
          rw [show cfR R e' 8 - 1 - (i - 1) = cfR R e' 8 - i by omega] at ol
          have ne : (cfR R (e' : Int) 8 - i) % 4 ≠ mm := by omega
          have r0 := Int.emod_nonneg (cfR R (e' : Int) 8 - i) (show (4 : Int) ≠ 0 by decide)
          generalize (cfR R (e' : Int) 8 - i) % 4 = zz at *
          rw [kU_f (by omega), kU_f (by omega), kU_f (by omega), ol]
          show _ = noteR R e' (340 + 24 * (e' : Int) + (9 + 3 * i + q))
          unfold noteR
          rw [fU_n (by omega), fU_n (by omega), fU_n (by omega), fU_n (by omega)]
          unfold shN cfR
          rw [if_pos (by omega)]
          congr 1
          omega
      · have x : ∀ z, 0 ≤ z → z < 24 → cfR (noteR R c) e' z = cfR R e' z := fun z z1 z2 => n _ (by omega)
        rw [x 8 (by omega) (by omega)] at i3
        rw [x 8 (by omega) (by omega), x _ (by omega) (by omega), kU_ne (by omega), kU_ne (by omega), kU_ne (by omega), kU_ne (by omega)]
        exact (vc e' e1).2 i q i1 i2 i3 q1 q2
    · rw [ej 5 (by omega)] at b2
      rw [kU_ne (by omega), kU_ne (by omega), kU_ne (by omega), kU_ne (by omega), kU_ne (by omega), kU_ne (by omega), kU_ne (by omega), kU_ne (by omega), kU_ne (by omega), kU_ne (by omega), kU_ne (by omega), kU_ne (by omega), ej _ (by omega), ej _ (by omega), ej _ (by omega)]
      exact vb b b1 b2
    · rw [ej 6 (by omega)] at b2
      rw [kU_ne (by omega), kU_ne (by omega), kU_ne (by omega), kU_ne (by omega), kU_ne (by omega), kU_ne (by omega), kU_ne (by omega), kU_ne (by omega), kU_ne (by omega), kU_ne (by omega), kU_ne (by omega), kU_ne (by omega), ej _ (by omega), ej _ (by omega), ej _ (by omega)]
      exact vl b b1 b2
  · unfold kU
    rw [if_neg (by omega), if_neg (by omega), if_neg (by omega), if_neg (by omega)]
end R8
