section RB3
variable {E : EE} {k A B : Nat} {G : HG} {d : HD} {K : PQ} {R : Int → Int}
theorem C_takeFrom {bb : Int} (hA : RG G A) (hB : RG G B) (hd : B + 33 ≤ A ∨ A + 33 ≤ B) (hV : CV d B R) (hW : WR R bb) (hO : ∀ h : Nat, h < 3 → isO G (G.2.2 (B + 2) (h : Int)) 1) (hK : ∀ (G' : HG) (d' : HD), GH G G' A B 3 → CM d d' A → CV d' A R → K none G' d') : AM E mX4_takeFrom (k + 2) 0 0 [kR A, kR B] G d K := by
  obtain ⟨ho, ⟨e7, a7⟩, ⟨e8, a8⟩, -, -, -, -, -, -, hcA⟩ := id hA
  obtain ⟨hoB, ⟨f7, b7⟩, ⟨f8, b8⟩, -, -, -, -, -, -, hcB⟩ := id hB
  obtain ⟨⟨v0, v1, v2, v3, v4, v5, v6⟩, vc, vb, vl⟩ := id hV
  obtain ⟨w0, w1, w2, w3, wc, wb, wp, wv, wd⟩ := id hW
  obtain ⟨N, hN⟩ : ∃ N : Nat, R 2 = N := ⟨(R 2).toNat, by omega⟩
  obtain ⟨N5, hN5⟩ : ∃ N : Nat, R 5 = N := ⟨(R 5).toNat, by have := wb.1; omega⟩
  obtain ⟨N6, hN6⟩ : ∃ N : Nat, R 6 = N := ⟨(R 6).toNat, by have := wp.1; omega⟩
  have n5 := wb.2.1
  have n6 := wp.2.1
  have hBA : B ≠ A := by omega
  have l2 : ∀ (f j : Nat), j + f = 3 → ∀ (G' : HG) (d' : HD), GH G G' A B j → (∀ a, a ≠ A → (a < A + 9 ∨ A + 9 + 2 * N ≤ a) → d' a = d a) → (∀ i : Int, 0 ≤ i → i ≤ 4 → d' A i = d B i) → (∀ c : Nat, c < N → (∀ w : Int, 0 ≤ w → w ≤ 8 → d' (A + 9 + 2 * c) w = d (B + 9 + 2 * c) w) ∧ ∀ q : Int, 0 ≤ q → q < 12 → d' (A + 10 + 2 * c) q = d (B + 10 + 2 * c) q) → AW E mX4_takeFrom (k + 2) 0 0 73 [some (kR A), some (kR B), some (kI j)] [] G' d' K := by
    intro f
    induction f with
    | zero =>
      intro j hj G' d' hg q1 q2 q3
      have : j = 3 := by omega
      subst this
      have gA := hg.RG hA (Or.inl rfl)
      have gB := hg.RG hB (by omega)
      have oA := gA.1
      refine A_iload_n dX4_takeFrom_73 rfl rfl ?_
      refine A_iconst dX4_takeFrom_74 ⟨by decide, by decide⟩ ?_
      refine A_icmp_ge (tgt := 96) dX4_takeFrom_75 (by decide) (fun c_75 => ?_) (fun c_75 => absurd c_75 (by omega))
      refine A_aload_n dX4_takeFrom_96 rfl rfl ?_
      refine A_aload_n dX4_takeFrom_97 rfl rfl ?_
      refine A_inv1 dX4_takeFrom_98 mv_X4_69 kCl_4 (Nat.le_of_ble_eq_true rfl) (by assumption) ?_
      refine C_takeBL gA gB hd (N5 := N5) (N6 := N6) (by rw [q1 B hBA (by omega)]; omega) (by rw [q1 B hBA (by omega)]; omega) (by omega) (by omega) (fun d2 z1 z2 z3 z4 z5 z6 => ?_)
      refine A_vret dX4_takeFrom_101 rfl ?_
      have c2 : ∀ c : Nat, c < N → (∀ w : Int, 0 ≤ w → w ≤ 8 → d2 (A + 9 + 2 * c) w = d (B + 9 + 2 * c) w) ∧ ∀ q : Int, 0 ≤ q → q < 12 → d2 (A + 10 + 2 * c) q = d (B + 10 + 2 * c) q := fun c hc => by
        rw [z1 (A + 9 + 2 * c) (by omega) (by omega), z1 (A + 10 + 2 * c) (by omega) (by omega)]
        exact q3 c hc
      have bB : ∀ i, 3 ≤ i → i ≤ 8 → d' (B + i) = d (B + i) := fun i i1 i2 => q1 (B + i) (by omega) (by omega)
      refine hK G' d2 hg (fun a ha => ?_) ⟨?_, fun c c1 => ⟨fun w p1 p2 => ?_, fun i q i1 i2 i3 p1 p2 => ?_⟩, fun b p1 p2 => ?_, fun b p1 p2 => ?_⟩
      · rw [z1 a (by omega) (by omega), q1 a (by omega) (by omega)]
      · rw [z2 0 (by omega) (by omega), z2 1 (by omega) (by omega), z2 2 (by omega) (by omega), z2 3 (by omega) (by omega), z2 4 (by omega) (by omega), z3, z4, q2 0 (by omega) (by omega), q2 1 (by omega) (by omega), q2 2 (by omega) (by omega), q2 3 (by omega) (by omega), q2 4 (by omega) (by omega)]
        exact ⟨v0, v1, v2, v3, v4, hN5.symm, hN6.symm⟩
      · rw [(c2 c (by omega)).1 w p1 p2]
        exact (vc c c1).1 w p1 p2
      · rw [(c2 c (by omega)).2 _ (by omega) (by omega)]
        exact (vc c c1).2 i q i1 i2 i3 p1 p2
      · obtain ⟨y1, y2, y3⟩ := z5 b p1 (by omega)
        rw [y1, y2, y3, bB 3 (by omega) (by omega), bB 4 (by omega) (by omega), bB 5 (by omega) (by omega)]
        exact vb b p1 p2
      · obtain ⟨y1, y2, y3⟩ := z6 b p1 (by omega)
        rw [y1, y2, y3, bB 6 (by omega) (by omega), bB 7 (by omega) (by omega), bB 8 (by omega) (by omega)]
        exact vl b p1 p2
    | succ f ih =>
      intro j hj G' d' hg q1 q2 q3
      have gA := hg.RG hA (Or.inl rfl)
      have gB := hg.RG hB (by omega)
      obtain ⟨oA, -, ⟨x8, y8⟩, -⟩ := id gA
      obtain ⟨oB, -, ⟨t8, u8⟩, -⟩ := id gB
      have eH : G'.2.2 (B + 2) (j : Int) = G.2.2 (B + 2) (j : Int) := by rw [hg.2.2.1 (B + 2) (by omega)]
      have oH : isO G' (G.2.2 (B + 2) (j : Int)) 1 := hg.O (hO j (by omega))
      refine A_iload_n dX4_takeFrom_73 rfl rfl ?_
      refine A_iconst dX4_takeFrom_74 ⟨by decide, by decide⟩ ?_
      refine A_icmp_ge (tgt := 96) dX4_takeFrom_75 (by decide) (fun c_75 => absurd c_75 (by omega)) (fun c_75 => ?_)
      refine A_aload_n dX4_takeFrom_78 rfl rfl ?_
      refine A_getR (fi := 8) dX4_takeFrom_79 fg_X4_41 rfl rfl (by assumption) (by assumption) ?_
      refine A_iload_n dX4_takeFrom_82 rfl rfl ?_
      refine A_aload_n dX4_takeFrom_83 rfl rfl ?_
      refine A_getR (fi := 8) dX4_takeFrom_84 fg_X4_41 rfl rfl (by assumption) (by assumption) ?_
      refine A_iload_n dX4_takeFrom_87 rfl rfl ?_
      refine A_aald (t := 3) dX4_takeFrom_88 (fun _ => rfl) (by decide) (by assumption) (by omega) (by omega) (by assumption) ?_
      refine A_aast (t := 3) dX4_takeFrom_89 (fun _ => rfl) kCl_1 (by decide) (by assumption) (by assumption) (by omega) (by omega) ?_
      refine A_iinc_ok dX4_takeFrom_90 rfl rfl (by omega) (by omega) ?_
      refine A_goto (tgt := 73) dX4_takeFrom_93 (by decide) ?_
      refine ih (j + 1) (by omega) _ d' ⟨hg.1, hg.2.1, fun a ha => ?_, fun h hh => ?_⟩ q1 q2 q3
      · rw [ur_r ha]; exact hg.2.2.1 a ha
      · by_cases z : h = j
        · subst z; rw [ur_e]
        · rw [ur_f (by omega)]; exact hg.2.2.2 h (by omega)
  have l1 : ∀ (f j : Nat), j + f = N → ∀ (d' : HD), (∀ a, a ≠ A → (a < A + 9 ∨ A + 9 + 2 * j ≤ a) → d' a = d a) → (∀ i : Int, 0 ≤ i → i ≤ 4 → d' A i = d B i) → (∀ c : Nat, c < j → (∀ w : Int, 0 ≤ w → w ≤ 8 → d' (A + 9 + 2 * c) w = d (B + 9 + 2 * c) w) ∧ ∀ q : Int, 0 ≤ q → q < 12 → d' (A + 10 + 2 * c) q = d (B + 10 + 2 * c) q) → AW E mX4_takeFrom (k + 2) 0 0 42 [some (kR A), some (kR B), some (kI j)] [] G d' K := by
    intro f
    induction f with
    | zero =>
      intro j hj d' q1 q2 q3
      have : j = N := by omega
      subst this
      have x4 : d' A 4 = j := by rw [q2 4 (by omega) (by omega)]; omega
      refine A_iload_n dX4_takeFrom_42 rfl rfl ?_
      refine A_aload_n dX4_takeFrom_43 rfl rfl ?_
      refine A_get (fi := 4) dX4_takeFrom_44 fg_X4_24 rfl rfl (by assumption) ?_
      refine A_icmp_ge (tgt := 71) dX4_takeFrom_47 (by decide) (fun c_47 => ?_) (fun c_47 => absurd c_47 (by omega))
      refine A_iconst dX4_takeFrom_71 ⟨by decide, by decide⟩ ?_
      refine A_istore_n dX4_takeFrom_72 rfl (Nat.le_of_ble_eq_true rfl) rfl ?_
      exact l2 3 0 rfl G d' ⟨rfl, rfl, fun _ _ => rfl, fun h hh => by omega⟩ q1 q2 q3
    | succ f ih =>
      intro j hj d' q1 q2 q3
      have x4 : d' A 4 = N := by rw [q2 4 (by omega) (by omega)]; omega
      obtain ⟨ea, oa, ena, ia⟩ := hcA j (by omega)
      obtain ⟨eb, ob, enb, ib⟩ := hcB j (by omega)
      have eB9 : d' (B + 9 + 2 * j) = d (B + 9 + 2 * j) := q1 _ (by omega) (by omega)
      have eB10 : d' (B + 10 + 2 * j) = d (B + 10 + 2 * j) := q1 _ (by omega) (by omega)
      refine A_iload_n dX4_takeFrom_42 rfl rfl ?_
      refine A_aload_n dX4_takeFrom_43 rfl rfl ?_
      refine A_get (fi := 4) dX4_takeFrom_44 fg_X4_24 rfl rfl (by assumption) ?_
      refine A_icmp_ge (tgt := 71) dX4_takeFrom_47 (by decide) (fun c_47 => absurd c_47 (by omega)) (fun c_47 => ?_)
      refine A_aload_n dX4_takeFrom_50 rfl rfl ?_
      refine A_getR (fi := 7) dX4_takeFrom_51 fg_X4_35 rfl rfl (by assumption) (by assumption) ?_
      refine A_iload_n dX4_takeFrom_54 rfl rfl ?_
      refine A_aald (t := 2) dX4_takeFrom_55 (fun _ => rfl) (by decide) (by assumption) (by omega) (by omega) (by assumption) ?_
      refine A_aload_n dX4_takeFrom_56 rfl rfl ?_
      refine A_getR (fi := 7) dX4_takeFrom_57 fg_X4_35 rfl rfl (by assumption) (by assumption) ?_
      refine A_iload_n dX4_takeFrom_60 rfl rfl ?_
      refine A_aald (t := 2) dX4_takeFrom_61 (fun _ => rfl) (by decide) (by assumption) (by omega) (by omega) (by assumption) ?_
      refine A_inv1 dX4_takeFrom_62 mv_X4_65 kCl_0 (Nat.le_of_ble_eq_true rfl) (by assumption) ?_
      refine C_carTake oa ob ena enb ia ib (by omega) (by omega) (by omega) (by omega) (by omega) (by rw [eB9, (vc j (by omega)).1 7 (by omega) (by omega)]; exact (wc j (by omega) (by omega)).2.2.2.2.2.2.2.1) (fun d2 z1 z2 z3 z4 => ?_)
      refine A_iinc_ok dX4_takeFrom_65 rfl rfl (by omega) (by omega) ?_
      refine A_goto (tgt := 42) dX4_takeFrom_68 (by decide) ?_
      refine ih (j + 1) (by omega) d2 (fun a p1 p2 => ?_) (fun i p1 p2 => ?_) (fun c hc => ?_)
      · rw [z1 a (by omega) (by omega)]; exact q1 a p1 (by omega)
      · rw [z1 A (by omega) (by omega)]; exact q2 i p1 p2
      · by_cases z : c = j
        · subst z
          refine ⟨fun w p1 p2 => ?_, fun q p1 p2 => ?_⟩
          · rw [z3 w p1 p2, eB9]
          · rw [z4 q p1 p2, eB10]
        · rw [z1 (A + 9 + 2 * c) (by omega) (by omega), z1 (A + 10 + 2 * c) (by omega) (by omega)]
          exact q3 c (by omega)
  refine AM.of rfl (Nat.le_of_ble_eq_true rfl) ?_
  refine A_aload_n dX4_takeFrom_0 rfl rfl ?_
  refine A_aload_n dX4_takeFrom_1 rfl rfl ?_
  refine A_get (fi := 0) dX4_takeFrom_2 fg_X4_9 rfl rfl (by assumption) ?_
  refine A_put (fi := 0) dX4_takeFrom_5 fp_X4_9 rfl rfl (by assumption) ?_
  refine A_aload_n dX4_takeFrom_8 rfl rfl ?_
  refine A_aload_n dX4_takeFrom_9 rfl rfl ?_
  refine A_get (fi := 1) dX4_takeFrom_10 fg_X4_15 rfl rfl (by assumption) ?_
  simp only [kU_ne hBA]
  refine A_put (fi := 1) dX4_takeFrom_13 fp_X4_15 rfl rfl (by assumption) ?_
  refine A_aload_n dX4_takeFrom_16 rfl rfl ?_
  refine A_aload_n dX4_takeFrom_17 rfl rfl ?_
  refine A_get (fi := 2) dX4_takeFrom_18 fg_X4_18 rfl rfl (by assumption) ?_
  simp only [kU_ne hBA]
  refine A_put (fi := 2) dX4_takeFrom_21 fp_X4_18 rfl rfl (by assumption) ?_
  refine A_aload_n dX4_takeFrom_24 rfl rfl ?_
  refine A_aload_n dX4_takeFrom_25 rfl rfl ?_
  refine A_get (fi := 3) dX4_takeFrom_26 fg_X4_21 rfl rfl (by assumption) ?_
  simp only [kU_ne hBA]
  refine A_put (fi := 3) dX4_takeFrom_29 fp_X4_21 rfl rfl (by assumption) ?_
  refine A_aload_n dX4_takeFrom_32 rfl rfl ?_
  refine A_aload_n dX4_takeFrom_33 rfl rfl ?_
  refine A_get (fi := 4) dX4_takeFrom_34 fg_X4_24 rfl rfl (by assumption) ?_
  simp only [kU_ne hBA]
  refine A_put (fi := 4) dX4_takeFrom_37 fp_X4_24 rfl rfl (by assumption) ?_
  refine A_iconst dX4_takeFrom_40 ⟨by decide, by decide⟩ ?_
  refine A_istore_n dX4_takeFrom_41 rfl (Nat.le_of_ble_eq_true rfl) rfl ?_
  refine l1 N 0 (by omega) _ (fun a p1 _ => by simp only [kU_ne p1]) (fun i p1 p2 => ?_) (fun c hc => by omega)
  rcases (show i = 0 ∨ i = 1 ∨ i = 2 ∨ i = 3 ∨ i = 4 by omega) with rfl | rfl | rfl | rfl | rfl <;> simp [kU]
end RB3
