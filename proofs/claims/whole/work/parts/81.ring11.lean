section RB
variable {E : EE} {k A B : Nat} {G : HG} {d : HD} {K : PQ} {R : Int → Int}
theorem C_carTake {a b na nb : Nat} (oa : isO G a 0) (ob : isO G b 0) (ea : G.2.2 a 9 = na) (eb : G.2.2 b 9 = nb) (ia : isA G na 8 12) (ib : isA G nb 8 12) (hab : a ≠ b) (h1 : na ≠ a) (h2 : na ≠ b) (h3 : na ≠ nb) (h4 : nb ≠ a) (ht : d b 7 = 0 ∨ d b 7 = 1) (hK : ∀ d', (∀ q, q ≠ a → q ≠ na → d' q = d q) → (∀ w, 8 < w → d' a w = d a w) → (∀ w, 0 ≤ w → w ≤ 8 → d' a w = d b w) → (∀ j, 0 ≤ j → j < 12 → d' na j = d nb j) → K none G d') : AM E mX0_takeFrom (k + 1) 0 0 [kR a, kR b] G d K := by
  have hba : b ≠ a := fun z => hab z.symm
  refine AM.of rfl (Nat.le_of_ble_eq_true rfl) ?_
  refine A_aload_n dX0_takeFrom_0 rfl rfl ?_
  refine A_aload_n dX0_takeFrom_1 rfl rfl ?_
  refine A_get (fi := 0) dX0_takeFrom_2 fg_X0_17 rfl rfl (by assumption) ?_
  refine A_put (fi := 0) dX0_takeFrom_5 fp_X0_17 rfl rfl (by assumption) ?_
  refine A_aload_n dX0_takeFrom_8 rfl rfl ?_
  refine A_aload_n dX0_takeFrom_9 rfl rfl ?_
  refine A_get (fi := 1) dX0_takeFrom_10 fg_X0_13 rfl rfl (by assumption) ?_
  simp only [kU_ne hba]
  refine A_put (fi := 1) dX0_takeFrom_13 fp_X0_13 rfl rfl (by assumption) ?_
  refine A_aload_n dX0_takeFrom_16 rfl rfl ?_
  refine A_aload_n dX0_takeFrom_17 rfl rfl ?_
  refine A_get (fi := 2) dX0_takeFrom_18 fg_X0_20 rfl rfl (by assumption) ?_
  simp only [kU_ne hba]
  refine A_put (fi := 2) dX0_takeFrom_21 fp_X0_20 rfl rfl (by assumption) ?_
  refine A_aload_n dX0_takeFrom_24 rfl rfl ?_
  refine A_aload_n dX0_takeFrom_25 rfl rfl ?_
  refine A_get (fi := 3) dX0_takeFrom_26 fg_X0_23 rfl rfl (by assumption) ?_
  simp only [kU_ne hba]
  refine A_put (fi := 3) dX0_takeFrom_29 fp_X0_23 rfl rfl (by assumption) ?_
  refine A_aload_n dX0_takeFrom_32 rfl rfl ?_
  refine A_aload_n dX0_takeFrom_33 rfl rfl ?_
  refine A_get (fi := 4) dX0_takeFrom_34 fg_X0_26 rfl rfl (by assumption) ?_
  simp only [kU_ne hba]
  refine A_put (fi := 4) dX0_takeFrom_37 fp_X0_26 rfl rfl (by assumption) ?_
  refine A_aload_n dX0_takeFrom_40 rfl rfl ?_
  refine A_aload_n dX0_takeFrom_41 rfl rfl ?_
  refine A_get (fi := 5) dX0_takeFrom_42 fg_X0_29 rfl rfl (by assumption) ?_
  simp only [kU_ne hba]
  refine A_put (fi := 5) dX0_takeFrom_45 fp_X0_29 rfl rfl (by assumption) ?_
  refine A_aload_n dX0_takeFrom_48 rfl rfl ?_
  refine A_aload_n dX0_takeFrom_49 rfl rfl ?_
  refine A_get (fi := 6) dX0_takeFrom_50 fg_X0_32 rfl rfl (by assumption) ?_
  simp only [kU_ne hba]
  refine A_put (fi := 6) dX0_takeFrom_53 fp_X0_32 rfl rfl (by assumption) ?_
  refine A_aload_n dX0_takeFrom_56 rfl rfl ?_
  refine A_aload_n dX0_takeFrom_57 rfl rfl ?_
  refine A_get (fi := 7) dX0_takeFrom_58 fg_X0_35 rfl rfl (by assumption) ?_
  simp only [kU_ne hba]
  refine A_putZ (fi := 7) dX0_takeFrom_61 fp_X0_35 rfl rfl (by assumption) (by first | exact Or.inl rfl | exact Or.inr rfl | assumption | omega) ?_
  refine A_aload_n dX0_takeFrom_64 rfl rfl ?_
  refine A_aload_n dX0_takeFrom_65 rfl rfl ?_
  refine A_get (fi := 8) dX0_takeFrom_66 fg_X0_39 rfl rfl (by assumption) ?_
  simp only [kU_ne hba]
  refine A_put (fi := 8) dX0_takeFrom_69 fp_X0_39 rfl rfl (by assumption) ?_
  refine A_aload_n dX0_takeFrom_72 rfl rfl ?_
  refine A_getR (fi := 9) dX0_takeFrom_73 fg_X0_9 rfl rfl (by assumption) (by assumption) ?_
  refine A_iconst dX0_takeFrom_76 ⟨by decide, by decide⟩ ?_
  refine A_aload_n dX0_takeFrom_77 rfl rfl ?_
  refine A_getR (fi := 9) dX0_takeFrom_78 fg_X0_9 rfl rfl (by assumption) (by assumption) ?_
  refine A_iconst dX0_takeFrom_81 ⟨by decide, by decide⟩ ?_
  refine A_aload_n dX0_takeFrom_82 rfl rfl ?_
  refine A_getR (fi := 9) dX0_takeFrom_83 fg_X0_9 rfl rfl (by assumption) (by assumption) ?_
  refine A_alen (t := 0) dX0_takeFrom_86 (fun _ => rfl) (Or.inl rfl) (by assumption) ?_
  refine A_acp dX0_takeFrom_87 lk_X0_42 ow_acn ow_acs it_J10 (Nat.le_of_ble_eq_true rfl) (by assumption) (by assumption) (by omega) (by omega) (by omega) (by omega) (by omega) ?_
  refine A_vret dX0_takeFrom_90 rfl ?_
  refine hK _ (fun q q1 q2 => ?_) (fun w hw => ?_) (fun w w1 w2 => ?_) (fun j j1 j2 => ?_)
  · funext j
    show (if q = na ∧ _ then _ else _) = _
    rw [if_neg (fun z => q2 z.1)]
    simp only [kU_ne q1]
  · show (if a = na ∧ _ then _ else _) = _
    rw [if_neg (fun z => h1 z.1.symm)]
    rw [kU_f (by omega), kU_f (by omega), kU_f (by omega), kU_f (by omega), kU_f (by omega), kU_f (by omega), kU_f (by omega), kU_f (by omega), kU_f (by omega)]
  · show (if a = na ∧ _ then _ else _) = _
    rw [if_neg (fun z => h1 z.1.symm)]
    rcases (show w = 0 ∨ w = 1 ∨ w = 2 ∨ w = 3 ∨ w = 4 ∨ w = 5 ∨ w = 6 ∨ w = 7 ∨ w = 8 by omega) with rfl | rfl | rfl | rfl | rfl | rfl | rfl | rfl | rfl <;> simp [kU]
  · show (if na = na ∧ 0 ≤ j ∧ j < 0 + ((12 : Nat) : Int) then _ else _) = _
    rw [if_pos ⟨rfl, j1, by omega⟩, show 0 + (j - 0) = j by omega]
    simp only [kU_ne h4]
theorem C_takeBL (hA : RG G A) (hB : RG G B) (hd : B + 33 ≤ A ∨ A + 33 ≤ B) {N5 N6 : Nat} (h5 : d B 5 = N5) (h6 : d B 6 = N6) (n5 : N5 ≤ 4) (n6 : N6 ≤ 4) (hK : ∀ (d' : HD), (∀ a, a ≠ A → (a < A + 3 ∨ A + 8 < a) → d' a = d a) → (∀ i, i ≠ 5 → i ≠ 6 → d' A i = d A i) → d' A 5 = N5 → d' A 6 = N6 → (∀ b : Int, 0 ≤ b → b < N5 → d' (A + 3) b = d (B + 3) b ∧ d' (A + 4) b = d (B + 4) b ∧ d' (A + 5) b = d (B + 5) b) → (∀ b : Int, 0 ≤ b → b < N6 → d' (A + 6) b = d (B + 6) b ∧ d' (A + 7) b = d (B + 7) b ∧ d' (A + 8) b = d (B + 8) b) → K none G d') : AM E mX4_takeBoardsAndLoops k 0 0 [kR A, kR B] G d K := by
  obtain ⟨ho, -, -, ⟨e9, a9⟩, ⟨e10, a10⟩, ⟨e11, a11⟩, ⟨e12, a12⟩, ⟨e13, a13⟩, ⟨e14, a14⟩, -⟩ := id hA
  obtain ⟨hoB, -, -, ⟨f9, b9⟩, ⟨f10, b10⟩, ⟨f11, b11⟩, ⟨f12, b12⟩, ⟨f13, b13⟩, ⟨f14, b14⟩, -⟩ := id hB
  have l2 : ∀ (f j : Nat), j + f = N6 → ∀ (d' : HD), (∀ a, a ≠ A → (a < A + 3 ∨ A + 8 < a) → d' a = d a) → (∀ i, i ≠ 5 → i ≠ 6 → d' A i = d A i) → d' A 5 = N5 → d' A 6 = N6 → (∀ b : Int, 0 ≤ b → b < N5 → d' (A + 3) b = d (B + 3) b ∧ d' (A + 4) b = d (B + 4) b ∧ d' (A + 5) b = d (B + 5) b) → (∀ b : Int, 0 ≤ b → b < j → d' (A + 6) b = d (B + 6) b ∧ d' (A + 7) b = d (B + 7) b ∧ d' (A + 8) b = d (B + 8) b) → AW E mX4_takeBoardsAndLoops k 0 0 70 [some (kR A), some (kR B), some (kI j)] [] G d' K := by
    intro f
    induction f with
    | zero =>
      intro j hj d' q1 q2 q3 q4 q5 q6
      have : j = N6 := by omega
      subst this
      refine A_iload_n dX4_takeBoardsAndLoops_70 rfl rfl ?_
      refine A_aload_n dX4_takeBoardsAndLoops_71 rfl rfl ?_
      refine A_get (fi := 6) dX4_takeBoardsAndLoops_72 fg_X4_30 rfl rfl (by assumption) ?_
      refine A_icmp_ge (tgt := 120) dX4_takeBoardsAndLoops_75 (by decide) (fun c_75 => ?_) (fun c_75 => absurd c_75 (by omega))
      refine A_vret dX4_takeBoardsAndLoops_120 rfl ?_
      exact hK d' q1 q2 q3 q4 q5 q6
    | succ f ih =>
      intro j hj d' q1 q2 q3 q4 q5 q6
      have eB : ∀ i, 3 ≤ i → i ≤ 8 → d' (B + i) = d (B + i) := fun i i1 i2 => q1 _ (by omega) (by omega)
      have x6 : d' (B + 6) j = d (B + 6) j := by rw [eB 6 (by omega) (by omega)]
      have x7 : ∀ u, kU d' (A + 6) j u (B + 7) j = d (B + 7) j := fun u => by rw [kU_ne (by omega), eB 7 (by omega) (by omega)]
      have x8 : ∀ u v, kU (kU d' (A + 6) j u) (A + 7) j v (B + 8) j = d (B + 8) j := fun u v => by rw [kU_ne (by omega), kU_ne (by omega), eB 8 (by omega) (by omega)]
      refine A_iload_n dX4_takeBoardsAndLoops_70 rfl rfl ?_
      refine A_aload_n dX4_takeBoardsAndLoops_71 rfl rfl ?_
      refine A_get (fi := 6) dX4_takeBoardsAndLoops_72 fg_X4_30 rfl rfl (by assumption) ?_
      refine A_icmp_ge (tgt := 120) dX4_takeBoardsAndLoops_75 (by decide) (fun c_75 => absurd c_75 (by omega)) (fun c_75 => ?_)
      refine A_aload_n dX4_takeBoardsAndLoops_78 rfl rfl ?_
      refine A_getR (fi := 12) dX4_takeBoardsAndLoops_79 fg_X4_55 rfl rfl (by assumption) (by assumption) ?_
      refine A_iload_n dX4_takeBoardsAndLoops_82 rfl rfl ?_
      refine A_aload_n dX4_takeBoardsAndLoops_83 rfl rfl ?_
      refine A_getR (fi := 12) dX4_takeBoardsAndLoops_84 fg_X4_55 rfl rfl (by assumption) (by assumption) ?_
      refine A_iload_n dX4_takeBoardsAndLoops_87 rfl rfl ?_
      refine A_iald dX4_takeBoardsAndLoops_88 (by assumption) (by omega) (by omega) ?_
      rw [x6]
      refine A_iast dX4_takeBoardsAndLoops_89 (by assumption) (by omega) (by omega) ?_
      refine A_aload_n dX4_takeBoardsAndLoops_90 rfl rfl ?_
      refine A_getR (fi := 13) dX4_takeBoardsAndLoops_91 fg_X4_58 rfl rfl (by assumption) (by assumption) ?_
      refine A_iload_n dX4_takeBoardsAndLoops_94 rfl rfl ?_
      refine A_aload_n dX4_takeBoardsAndLoops_95 rfl rfl ?_
      refine A_getR (fi := 13) dX4_takeBoardsAndLoops_96 fg_X4_58 rfl rfl (by assumption) (by assumption) ?_
      refine A_iload_n dX4_takeBoardsAndLoops_99 rfl rfl ?_
      refine A_iald dX4_takeBoardsAndLoops_100 (by assumption) (by omega) (by omega) ?_
      rw [x7]
      refine A_iast dX4_takeBoardsAndLoops_101 (by assumption) (by omega) (by omega) ?_
      refine A_aload_n dX4_takeBoardsAndLoops_102 rfl rfl ?_
      refine A_getR (fi := 14) dX4_takeBoardsAndLoops_103 fg_X4_61 rfl rfl (by assumption) (by assumption) ?_
      refine A_iload_n dX4_takeBoardsAndLoops_106 rfl rfl ?_
      refine A_aload_n dX4_takeBoardsAndLoops_107 rfl rfl ?_
      refine A_getR (fi := 14) dX4_takeBoardsAndLoops_108 fg_X4_61 rfl rfl (by assumption) (by assumption) ?_
      refine A_iload_n dX4_takeBoardsAndLoops_111 rfl rfl ?_
      refine A_iald dX4_takeBoardsAndLoops_112 (by assumption) (by omega) (by omega) ?_
      rw [x8]
      refine A_iast dX4_takeBoardsAndLoops_113 (by assumption) (by omega) (by omega) ?_
      refine A_iinc_ok dX4_takeBoardsAndLoops_114 rfl rfl (by omega) (by omega) ?_
      refine A_goto (tgt := 70) dX4_takeBoardsAndLoops_117 (by decide) ?_
      refine ih (j + 1) (by omega) _ (fun a z1 z2 => by rw [kU_ne (by omega), kU_ne (by omega), kU_ne (by omega)]; exact q1 a z1 z2) (fun i z1 z2 => by rw [kU_ne (by omega), kU_ne (by omega), kU_ne (by omega)]; exact q2 i z1 z2) (by rw [kU_ne (by omega), kU_ne (by omega), kU_ne (by omega)]; exact q3) (by rw [kU_ne (by omega), kU_ne (by omega), kU_ne (by omega)]; exact q4) (fun b z1 z2 => by rw [kU_ne (by omega), kU_ne (by omega), kU_ne (by omega), kU_ne (by omega), kU_ne (by omega), kU_ne (by omega), kU_ne (by omega), kU_ne (by omega), kU_ne (by omega)]; exact q5 b z1 z2) (fun b z1 z2 => ?_)
      rw [kU_ne (show A + 6 ≠ A + 8 by omega), kU_ne (show A + 7 ≠ A + 8 by omega), kU_ne (show A + 6 ≠ A + 7 by omega)]
      by_cases z : b = j
      · subst z
        rw [kU_s, kU_s, kU_s]
        exact ⟨rfl, rfl, rfl⟩
      · rw [kU_f z, kU_f z, kU_f z, kU_ne (by omega), kU_ne (by omega), kU_ne (by omega)]
        exact q6 b z1 (by omega)
  have l1 : ∀ (f j : Nat), j + f = N5 → ∀ (d' : HD), (∀ a, a ≠ A → (a < A + 3 ∨ A + 8 < a) → d' a = d a) → (∀ i, i ≠ 5 → i ≠ 6 → d' A i = d A i) → d' A 5 = N5 → (∀ b : Int, 0 ≤ b → b < j → d' (A + 3) b = d (B + 3) b ∧ d' (A + 4) b = d (B + 4) b ∧ d' (A + 5) b = d (B + 5) b) → AW E mX4_takeBoardsAndLoops k 0 0 10 [some (kR A), some (kR B), some (kI j)] [] G d' K := by
    intro f
    induction f with
    | zero =>
      intro j hj d' q1 q2 q3 q5
      have : j = N5 := by omega
      subst this
      have x6 : d' B 6 = N6 := by rw [q1 B (by omega) (by omega)]; exact h6
      refine A_iload_n dX4_takeBoardsAndLoops_10 rfl rfl ?_
      refine A_aload_n dX4_takeBoardsAndLoops_11 rfl rfl ?_
      refine A_get (fi := 5) dX4_takeBoardsAndLoops_12 fg_X4_27 rfl rfl (by assumption) ?_
      refine A_icmp_ge (tgt := 60) dX4_takeBoardsAndLoops_15 (by decide) (fun c_15 => ?_) (fun c_15 => absurd c_15 (by omega))
      refine A_aload_n dX4_takeBoardsAndLoops_60 rfl rfl ?_
      refine A_aload_n dX4_takeBoardsAndLoops_61 rfl rfl ?_
      refine A_get (fi := 6) dX4_takeBoardsAndLoops_62 fg_X4_30 rfl rfl (by assumption) ?_
      rw [x6]
      refine A_put (fi := 6) dX4_takeBoardsAndLoops_65 fp_X4_30 rfl rfl (by assumption) ?_
      refine A_iconst dX4_takeBoardsAndLoops_68 ⟨by decide, by decide⟩ ?_
      refine A_istore_n dX4_takeBoardsAndLoops_69 rfl (Nat.le_of_ble_eq_true rfl) rfl ?_
      exact l2 N6 0 (by omega) _ (fun a z1 z2 => by rw [kU_ne z1]; exact q1 a z1 z2) (fun i z1 z2 => by rw [kU_f z2]; exact q2 i z1 z2) (by rw [kU_f (by decide)]; exact q3) kU_s (fun b z1 z2 => by rw [kU_ne (by omega), kU_ne (by omega), kU_ne (by omega)]; exact q5 b z1 z2) (fun b z1 z2 => by omega)
    | succ f ih =>
      intro j hj d' q1 q2 q3 q5
      have eB : ∀ i, 3 ≤ i → i ≤ 8 → d' (B + i) = d (B + i) := fun i i1 i2 => q1 _ (by omega) (by omega)
      have x6 : d' (B + 3) j = d (B + 3) j := by rw [eB 3 (by omega) (by omega)]
      have x7 : ∀ u, kU d' (A + 3) j u (B + 4) j = d (B + 4) j := fun u => by rw [kU_ne (by omega), eB 4 (by omega) (by omega)]
      have x8 : ∀ u v, kU (kU d' (A + 3) j u) (A + 4) j v (B + 5) j = d (B + 5) j := fun u v => by rw [kU_ne (by omega), kU_ne (by omega), eB 5 (by omega) (by omega)]
      refine A_iload_n dX4_takeBoardsAndLoops_10 rfl rfl ?_
      refine A_aload_n dX4_takeBoardsAndLoops_11 rfl rfl ?_
      refine A_get (fi := 5) dX4_takeBoardsAndLoops_12 fg_X4_27 rfl rfl (by assumption) ?_
      refine A_icmp_ge (tgt := 60) dX4_takeBoardsAndLoops_15 (by decide) (fun c_15 => absurd c_15 (by omega)) (fun c_15 => ?_)
      refine A_aload_n dX4_takeBoardsAndLoops_18 rfl rfl ?_
      refine A_getR (fi := 9) dX4_takeBoardsAndLoops_19 fg_X4_45 rfl rfl (by assumption) (by assumption) ?_
      refine A_iload_n dX4_takeBoardsAndLoops_22 rfl rfl ?_
      refine A_aload_n dX4_takeBoardsAndLoops_23 rfl rfl ?_
      refine A_getR (fi := 9) dX4_takeBoardsAndLoops_24 fg_X4_45 rfl rfl (by assumption) (by assumption) ?_
      refine A_iload_n dX4_takeBoardsAndLoops_27 rfl rfl ?_
      refine A_iald dX4_takeBoardsAndLoops_28 (by assumption) (by omega) (by omega) ?_
      rw [x6]
      refine A_iast dX4_takeBoardsAndLoops_29 (by assumption) (by omega) (by omega) ?_
      refine A_aload_n dX4_takeBoardsAndLoops_30 rfl rfl ?_
      refine A_getR (fi := 10) dX4_takeBoardsAndLoops_31 fg_X4_49 rfl rfl (by assumption) (by assumption) ?_
      refine A_iload_n dX4_takeBoardsAndLoops_34 rfl rfl ?_
      refine A_aload_n dX4_takeBoardsAndLoops_35 rfl rfl ?_
      refine A_getR (fi := 10) dX4_takeBoardsAndLoops_36 fg_X4_49 rfl rfl (by assumption) (by assumption) ?_
      refine A_iload_n dX4_takeBoardsAndLoops_39 rfl rfl ?_
      refine A_iald dX4_takeBoardsAndLoops_40 (by assumption) (by omega) (by omega) ?_
      rw [x7]
      refine A_iast dX4_takeBoardsAndLoops_41 (by assumption) (by omega) (by omega) ?_
      refine A_aload_n dX4_takeBoardsAndLoops_42 rfl rfl ?_
      refine A_getR (fi := 11) dX4_takeBoardsAndLoops_43 fg_X4_52 rfl rfl (by assumption) (by assumption) ?_
      refine A_iload_n dX4_takeBoardsAndLoops_46 rfl rfl ?_
      refine A_aload_n dX4_takeBoardsAndLoops_47 rfl rfl ?_
      refine A_getR (fi := 11) dX4_takeBoardsAndLoops_48 fg_X4_52 rfl rfl (by assumption) (by assumption) ?_
      refine A_iload_n dX4_takeBoardsAndLoops_51 rfl rfl ?_
      refine A_iald dX4_takeBoardsAndLoops_52 (by assumption) (by omega) (by omega) ?_
      rw [x8]
      refine A_iast dX4_takeBoardsAndLoops_53 (by assumption) (by omega) (by omega) ?_
      refine A_iinc_ok dX4_takeBoardsAndLoops_54 rfl rfl (by omega) (by omega) ?_
      refine A_goto (tgt := 10) dX4_takeBoardsAndLoops_57 (by decide) ?_
      refine ih (j + 1) (by omega) _ (fun a z1 z2 => by rw [kU_ne (by omega), kU_ne (by omega), kU_ne (by omega)]; exact q1 a z1 z2) (fun i z1 z2 => by rw [kU_ne (by omega), kU_ne (by omega), kU_ne (by omega)]; exact q2 i z1 z2) (by rw [kU_ne (by omega), kU_ne (by omega), kU_ne (by omega)]; exact q3) (fun b z1 z2 => ?_)
      rw [kU_ne (show A + 3 ≠ A + 5 by omega), kU_ne (show A + 4 ≠ A + 5 by omega), kU_ne (show A + 3 ≠ A + 4 by omega)]
      by_cases z : b = j
      · subst z
        rw [kU_s, kU_s, kU_s]
        exact ⟨rfl, rfl, rfl⟩
      · rw [kU_f z, kU_f z, kU_f z, kU_ne (by omega), kU_ne (by omega), kU_ne (by omega)]
        exact q5 b z1 (by omega)
  refine AM.of rfl (Nat.le_of_ble_eq_true rfl) ?_
  refine A_aload_n dX4_takeBoardsAndLoops_0 rfl rfl ?_
  refine A_aload_n dX4_takeBoardsAndLoops_1 rfl rfl ?_
  refine A_get (fi := 5) dX4_takeBoardsAndLoops_2 fg_X4_27 rfl rfl (by assumption) ?_
  rw [h5]
  refine A_put (fi := 5) dX4_takeBoardsAndLoops_5 fp_X4_27 rfl rfl (by assumption) ?_
  refine A_iconst dX4_takeBoardsAndLoops_8 ⟨by decide, by decide⟩ ?_
  refine A_istore_n dX4_takeBoardsAndLoops_9 rfl (Nat.le_of_ble_eq_true rfl) rfl ?_
  exact l1 N5 0 (by omega) _ (fun a z1 z2 => by rw [kU_ne z1]) (fun i z1 z2 => by rw [kU_f z1]) kU_s (fun b z1 z2 => by omega)
end RB
/-- ring A has taken so many habits of ring B -/
def GH (G G' : HG) (A B j : Nat) : Prop := G'.1 = G.1 ∧ G'.2.1 = G.2.1 ∧ (∀ a, a ≠ A + 2 → G'.2.2 a = G.2.2 a) ∧ ∀ h : Nat, h < j → G'.2.2 (A + 2) (h : Int) = G.2.2 (B + 2) (h : Int)
section RB2
variable {G G' : HG} {A B X j : Nat}
theorem GH.O {a k : Nat} (h : GH G G' A B j) (ho : isO G a k) : isO G' a k := ⟨ho.1, by rw [h.1]; exact ho.2.1, by rw [h.2.1]; exact ho.2.2⟩
theorem GH.Ar {a k n : Nat} (h : GH G G' A B j) (ho : isA G a k n) : isA G' a k n := ⟨ho.1, by rw [h.1]; exact ho.2.1, by rw [h.2.1]; exact ho.2.2.1, ho.2.2.2⟩
theorem GH.RG (h : GH G G' A B j) (hG : RG G X) (hx : X = A ∨ X + 33 ≤ A ∨ A + 33 ≤ X) : RG G' X := by
  obtain ⟨ho, ⟨e7, a7⟩, ⟨e8, a8⟩, ⟨e9, a9⟩, ⟨e10, a10⟩, ⟨e11, a11⟩, ⟨e12, a12⟩, ⟨e13, a13⟩, ⟨e14, a14⟩, hcar⟩ := hG
  have r : G'.2.2 X = G.2.2 X := h.2.2.1 X (by omega)
  refine ⟨h.O ho, ⟨by rw [r]; exact e7, h.Ar a7⟩, ⟨by rw [r]; exact e8, h.Ar a8⟩, ⟨by rw [r]; exact e9, h.Ar a9⟩, ⟨by rw [r]; exact e10, h.Ar a10⟩, ⟨by rw [r]; exact e11, h.Ar a11⟩, ⟨by rw [r]; exact e12, h.Ar a12⟩, ⟨by rw [r]; exact e13, h.Ar a13⟩, ⟨by rw [r]; exact e14, h.Ar a14⟩, fun c hc => ?_⟩
  obtain ⟨x1, x2, x3, x4⟩ := hcar c hc
  exact ⟨by rw [h.2.2.1 (X + 1) (by omega)]; exact x1, h.O x2, by rw [h.2.2.1 (X + 9 + 2 * c) (by omega)]; exact x3, h.Ar x4⟩
end RB2
