/-- only ring A has changed -/
def CM (d d' : HD) (A : Nat) : Prop := ∀ a, (a < A ∨ A + 33 ≤ a) → d' a = d a
theorem CM.rf {d : HD} {A : Nat} : CM d d A := fun _ _ => rfl
theorem CM.tr {d d1 d2 : HD} {A : Nat} (h1 : CM d d1 A) (h2 : CM d1 d2 A) : CM d d2 A := fun a h => (h2 a h).trans (h1 a h)
theorem CM.u {d d' : HD} {A a : Nat} {i v : Int} (h : CM d d' A) (h1 : A ≤ a) (h2 : a < A + 33) : CM d (kU d' a i v) A := fun b hb => by
  rw [kU_ne (by omega)]; exact h b hb
theorem SC.M {d d' : HD} {A : Nat} (h : SC d d' A) : CM d d' A := fun a ha => h.o (by omega)
section R5
variable {E : EE} {k A : Nat} {G : HG} {d : HD} {K : PQ} {R : Int → Int}
theorem C_limitAt {cell : Int} (hG : RG G A) (hV : CV d A R) (hn : 12 ≤ R 0) (hn2 : R 0 ≤ 99) (hm1 : 1 ≤ R 1) (hm2 : R 1 ≤ 9) (hB : WB R) (hc : 0 ≤ cell) (hc2 : cell < R 0) (hK : K (some (kI (limF R cell (R 5).toNat))) G d) : AM E mX4_limitAt (k + 1) 0 0 [kR A, kI cell] G d K := by
  obtain ⟨ho, ⟨e7, a7⟩, ⟨e8, a8⟩, ⟨e9, a9⟩, ⟨e10, a10⟩, ⟨e11, a11⟩, -, -, -, hcar⟩ := id hG
  obtain ⟨⟨v0, v1, v2, v3, v4, v5, v6⟩, vc, vb, vl⟩ := id hV
  obtain ⟨b1, b2, b3⟩ := id hB
  obtain ⟨N, hN⟩ : ∃ N : Nat, R 5 = N := ⟨(R 5).toNat, by omega⟩
  rw [hN] at v5
  rw [show (R 5).toNat = N by omega] at hK
  have loop : ∀ (f j : Nat), j + f = N → AW E mX4_limitAt (k + 1) 0 0 7 [some (kR A), some (kI cell), some (kI (limF R cell j)), some (kI j)] [] G d K := by
    intro f
    induction f with
    | zero =>
      intro j hj
      have : j = N := by omega
      subst this
      refine A_iload_n dX4_limitAt_7 rfl rfl ?_
      refine A_aload_n dX4_limitAt_8 rfl rfl ?_
      refine A_get (fi := 5) dX4_limitAt_9 fg_X4_27 rfl rfl (by assumption) ?_
      refine A_icmp_ge (tgt := 62) dX4_limitAt_12 (by decide) (fun c_12 => ?_) (fun c_12 => absurd c_12 (by omega))
      refine A_iload_n dX4_limitAt_62 rfl rfl ?_
      refine A_iret dX4_limitAt_63 rfl ?_
      exact hK
    | succ f ih =>
      intro j hj
      have next := ih (j + 1) (by omega)
      obtain ⟨x0, x1, x2⟩ := vb j (by omega) (by omega)
      obtain ⟨y0, y1, y2⟩ := b3 j (by omega) (by omega)
      refine A_iload_n dX4_limitAt_7 rfl rfl ?_
      refine A_aload_n dX4_limitAt_8 rfl rfl ?_
      refine A_get (fi := 5) dX4_limitAt_9 fg_X4_27 rfl rfl (by assumption) ?_
      refine A_icmp_ge (tgt := 62) dX4_limitAt_12 (by decide) (fun c_12 => absurd c_12 (by omega)) (fun c_12 => ?_)
      refine A_aload_n dX4_limitAt_15 rfl rfl ?_
      refine A_aload_n dX4_limitAt_16 rfl rfl ?_
      refine A_getR (fi := 9) dX4_limitAt_17 fg_X4_45 rfl rfl (by assumption) (by assumption) ?_
      refine A_iload_n dX4_limitAt_20 rfl rfl ?_
      refine A_iald dX4_limitAt_21 (by assumption) (by omega) (by omega) ?_
      refine A_iload_n dX4_limitAt_22 rfl rfl ?_
      refine A_inv2 dX4_limitAt_23 mv_X4_93 kCl_4 (Nat.le_of_ble_eq_true rfl) (by assumption) ?_
      rw [x0]
      refine C_cellsOn hG v0 hn hn2 y0.1 y0.2 hc hc2 ?_
      refine A_aload_n dX4_limitAt_26 rfl rfl ?_
      refine A_aload_n dX4_limitAt_27 rfl rfl ?_
      refine A_getR (fi := 9) dX4_limitAt_28 fg_X4_45 rfl rfl (by assumption) (by assumption) ?_
      refine A_iload_n dX4_limitAt_31 rfl rfl ?_
      refine A_iald dX4_limitAt_32 (by assumption) (by omega) (by omega) ?_
      refine A_aload_n dX4_limitAt_33 rfl rfl ?_
      refine A_getR (fi := 10) dX4_limitAt_34 fg_X4_49 rfl rfl (by assumption) (by assumption) ?_
      refine A_iload_n dX4_limitAt_37 rfl rfl ?_
      refine A_iald dX4_limitAt_38 (by assumption) (by omega) (by omega) ?_
      refine A_inv2 dX4_limitAt_39 mv_X4_93 kCl_4 (Nat.le_of_ble_eq_true rfl) (by assumption) ?_
      rw [x0, x1]
      refine C_cellsOn hG v0 hn hn2 y0.1 y0.2 y1.1 y1.2 ?_
      refine A_icmp_gt (tgt := 56) dX4_limitAt_42 (by decide) (fun c_42 => ?_) (fun c_42 => ?_)
      · refine A_iinc_ok dX4_limitAt_56 rfl rfl (by omega) (by omega) ?_
        refine A_goto (tgt := 7) dX4_limitAt_59 (by decide) ?_
        have e : limF R cell (j + 1) = limF R cell j := by simp only [limF]; rw [if_neg (by omega)]
        rw [e] at next
        exact next
      · refine A_iload_n dX4_limitAt_45 rfl rfl ?_
        refine A_aload_n dX4_limitAt_46 rfl rfl ?_
        refine A_getR (fi := 11) dX4_limitAt_47 fg_X4_52 rfl rfl (by assumption) (by assumption) ?_
        refine A_iload_n dX4_limitAt_50 rfl rfl ?_
        refine A_iald dX4_limitAt_51 (by assumption) (by omega) (by omega) ?_
        refine A_min dX4_limitAt_52 lk_X4_156 ow_mins it_J9 ow_minc (Nat.le_of_ble_eq_true rfl) ?_
        refine A_istore_n dX4_limitAt_55 rfl (Nat.le_of_ble_eq_true rfl) rfl ?_
        refine A_iinc_ok dX4_limitAt_56 rfl rfl (by omega) (by omega) ?_
        refine A_goto (tgt := 7) dX4_limitAt_59 (by decide) ?_
        rw [x2]
        have e : limF R cell (j + 1) = min (limF R cell j) (R (10 + 3 * j + 2)) := by
          simp only [limF]
          by_cases q : R (10 + 3 * (j : Int) + 2) < limF R cell j
          · rw [if_pos (by omega)]; omega
          · rw [if_neg (by omega)]; omega
        rw [e] at next
        exact next
  refine AM.of rfl (Nat.le_of_ble_eq_true rfl) ?_
  refine A_aload_n dX4_limitAt_0 rfl rfl ?_
  refine A_get (fi := 1) dX4_limitAt_1 fg_X4_15 rfl rfl (by assumption) ?_
  rw [v1]
  refine A_istore_n dX4_limitAt_4 rfl (Nat.le_of_ble_eq_true rfl) rfl ?_
  refine A_iconst dX4_limitAt_5 ⟨by decide, by decide⟩ ?_
  refine A_istore_n dX4_limitAt_6 rfl (Nat.le_of_ble_eq_true rfl) rfl ?_
  exact loop N 0 (by omega)
theorem C_settlePace {c : Nat} {limit ta wa ga : Int} (hG : RG G A) (hc : c < 12) (h7 : d (A + 9 + 2 * c) 7 = ta) (ht : ta = 0 ∨ ta = 1) (h14 : d (A + 9 + 2 * c) 14 = wa) (h10 : d (A + 9 + 2 * c) 10 = ga) (hK : K none G (kU (kU d (A + 9 + 2 * c) 2 (if ta = 1 then 0 else max 0 (min wa (min limit ga)))) (A + 9 + 2 * c) 7 0)) : AM E mX0_settlePace (k + 1) 0 0 [kR (A + 9 + 2 * c), kI limit] G d K := by
  obtain ⟨ec, oc, -, -⟩ := hG.2.2.2.2.2.2.2.2.2 c hc
  refine AM.of rfl (Nat.le_of_ble_eq_true rfl) ?_
  refine A_aload_n dX0_settlePace_0 rfl rfl ?_
  refine A_aload_n dX0_settlePace_1 rfl rfl ?_
  refine A_get (fi := 7) dX0_settlePace_2 fg_X0_35 rfl rfl (by assumption) ?_
  refine A_if_eq (tgt := 12) dX0_settlePace_5 (by decide) (fun c_5 => ?_) (fun c_5 => ?_)
  · rw [h7] at c_5
    rw [if_neg (by omega)] at hK
    refine A_iconst dX0_settlePace_12 ⟨by decide, by decide⟩ ?_
    refine A_aload_n dX0_settlePace_13 rfl rfl ?_
    refine A_get (fi := 14) dX0_settlePace_14 fg_X0_76 rfl rfl (by assumption) ?_
    rw [h14]
    refine A_iload_n dX0_settlePace_17 rfl rfl ?_
    refine A_aload_n dX0_settlePace_18 rfl rfl ?_
    refine A_get (fi := 10) dX0_settlePace_19 fg_X0_52 rfl rfl (by assumption) ?_
    rw [h10]
    refine A_min dX0_settlePace_22 lk_X0_86 ow_mins it_J9 ow_minc (Nat.le_of_ble_eq_true rfl) ?_
    refine A_min dX0_settlePace_25 lk_X0_86 ow_mins it_J9 ow_minc (Nat.le_of_ble_eq_true rfl) ?_
    refine A_max dX0_settlePace_28 lk_X0_61 ow_maxs it_J9 ow_maxc (Nat.le_of_ble_eq_true rfl) ?_
    refine A_put (fi := 2) dX0_settlePace_31 fp_X0_20 rfl rfl (by assumption) ?_
    refine A_aload_n dX0_settlePace_34 rfl rfl ?_
    refine A_iconst dX0_settlePace_35 ⟨by decide, by decide⟩ ?_
    refine A_putZ (fi := 7) dX0_settlePace_36 fp_X0_35 rfl rfl (by assumption) (by first | exact Or.inl rfl | exact Or.inr rfl | assumption | omega) ?_
    refine A_vret dX0_settlePace_39 rfl ?_
    exact hK
  · rw [h7] at c_5
    rw [if_pos (by omega)] at hK
    refine A_iconst dX0_settlePace_8 ⟨by decide, by decide⟩ ?_
    refine A_goto (tgt := 31) dX0_settlePace_9 (by decide) ?_
    refine A_put (fi := 2) dX0_settlePace_31 fp_X0_20 rfl rfl (by assumption) ?_
    refine A_aload_n dX0_settlePace_34 rfl rfl ?_
    refine A_iconst dX0_settlePace_35 ⟨by decide, by decide⟩ ?_
    refine A_putZ (fi := 7) dX0_settlePace_36 fp_X0_35 rfl rfl (by assumption) (by first | exact Or.inl rfl | exact Or.inr rfl | assumption | omega) ?_
    refine A_vret dX0_settlePace_39 rfl ?_
    exact hK
end R5
