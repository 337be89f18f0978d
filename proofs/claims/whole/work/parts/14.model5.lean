section M5
variable {E : EE} {k m : Nat} {G : HG} {d : HD} {K : PQ} {R : Int → Int} {S : SS}
theorem SZ.l {d : HD} {s v : Int} (h : SZ d m S) : SZ (kU d (m + 5) s v) m (fU S.1 s v, S.2.1, S.2.2) := by
  intro t h1 h2
  obtain ⟨g1, g2, g3⟩ := h t h1 h2
  refine ⟨?_, by rw [kU_ne (by omega)]; exact g2, fun i i1 i2 => by rw [kU_ne (by omega)]; exact g3 i i1 i2⟩
  show kU d (m + 5) s v (m + 5) t = fU S.1 s v t
  unfold kU fU
  by_cases hj : t = s
  · rw [if_pos ⟨rfl, hj⟩, if_pos hj]
  · rw [if_neg (by omega), if_neg hj]; exact g1
theorem SZ.n {d : HD} {s v : Int} (h : SZ d m S) : SZ (kU d (m + 6) s v) m (S.1, fU S.2.1 s v, S.2.2) := by
  intro t h1 h2
  obtain ⟨g1, g2, g3⟩ := h t h1 h2
  refine ⟨by rw [kU_ne (by omega)]; exact g1, ?_, fun i i1 i2 => by rw [kU_ne (by omega)]; exact g3 i i1 i2⟩
  show kU d (m + 6) s v (m + 6) t = fU S.2.1 s v t
  unfold kU fU
  by_cases hj : t = s
  · rw [if_pos ⟨rfl, hj⟩, if_pos hj]
  · rw [if_neg (by omega), if_neg hj]; exact g2
theorem SZ.ne {d : HD} {a : Nat} {s v : Int} (h : SZ d m S) (h1 : a ≠ m + 4) (h2 : a ≠ m + 5) (h3 : a ≠ m + 6) : SZ (kU d a s v) m S := by
  intro t g1 g2
  rw [kU_ne h1.symm, kU_ne h2.symm, kU_ne h3.symm]
  exact h t g1 g2
def iU (f : Int → Int → Int) (s i v : Int) : Int → Int → Int := fun t q => if t = s ∧ q = i then v else f t q
theorem SZ.iu {d : HD} {s i v x : Int} (h : SZ d m S) (h1 : 0 ≤ s) (h2 : s < 4) (h3 : 0 ≤ i) (h4 : i < 36) (e : x = 36 * s + i) : SZ (kU d (m + 4) x v) m (S.1, S.2.1, iU S.2.2 s i v) := by
  subst e
  intro t g1 g2
  obtain ⟨q1, q2, q3⟩ := h t g1 g2
  refine ⟨by rw [kU_ne (by omega)]; exact q1, by rw [kU_ne (by omega)]; exact q2, fun j j1 j2 => ?_⟩
  show kU d (m + 4) (36 * s + i) v (m + 4) (36 * t + j) = iU S.2.2 s i v t j
  unfold kU iU
  by_cases hj : t = s ∧ j = i
  · rw [if_pos ⟨rfl, by omega⟩, if_pos hj]
  · rw [if_neg (by omega), if_neg hj]; exact q3 j j1 j2
theorem C_sheet {s lane n : Int} (hM : MO G m) (hS : SZ d m S) (hK : ∀ d', MZ d d' m → SZ d' m (sheetS S s lane n).2 → K (some (kI (sheetS S s lane n).1)) G d') : AM E mX7_sheet (k + 2) 0 0 [kR m, kI s, kI lane, kI n] G d K := by
  obtain ⟨ho, e0, a0, e1, a1, e2, a2, e4, a4, e5, a5, e6, a6, -⟩ := id hM
  have bad : ¬ (0 ≤ s ∧ s ≤ 3 ∧ 0 ≤ lane ∧ lane ≤ 2 ∧ n ≤ 36) → K (some (kI (-1))) G d := fun h => by
    have e : sheetS S s lane n = (-1, S) := by unfold sheetS; rw [if_pos h]
    rw [e] at hK
    exact hK d MZ.rf hS
  have loop : (0 ≤ s ∧ s ≤ 3 ∧ 0 ≤ lane ∧ lane ≤ 2 ∧ n ≤ 36) → 0 ≤ n → ∀ (q j : Nat), 36 - j < q → j ≤ 36 → ∀ d', MZ d d' m → SZ d' m (fU S.1 s lane, fU S.2.1 s n, fun t i => if t = s ∧ i < j then 0 else S.2.2 t i) → AW E mX7_sheet (k + 2) 0 0 51 [some (kR m), some (kI s), some (kI lane), some (kI n), some (kI j)] [] G d' K := by
    intro hg hn q
    induction q with
    | zero => intro j h; omega
    | succ q ih =>
      intro j hj hjN d' hc hz
      refine A_iload dX7_sheet_51 rfl ?_
      refine A_bipush dX7_sheet_53 ⟨by decide, by decide⟩ rfl ?_
      refine A_icmp_ge (tgt := 77) dX7_sheet_55 (by decide) (fun c_55 => ?_) (fun c_55 => ?_)
      · refine A_iload_n dX7_sheet_77 rfl rfl ?_
        refine A_iret dX7_sheet_78 rfl ?_
        have : j = 36 := by omega
        subst this
        have e : sheetS S s lane n = (n, fU S.1 s lane, fU S.2.1 s n, fun t i => if t = s then 0 else S.2.2 t i) := by unfold sheetS; rw [if_neg (by omega), if_neg (by omega)]
        rw [e] at hK
        refine hK d' hc ?_
        intro t g1 g2
        obtain ⟨q1, q2, q3⟩ := hz t g1 g2
        refine ⟨q1, q2, fun i i1 i2 => ?_⟩
        rw [q3 i i1 i2]
        show (if t = s ∧ i < ((36 : Nat) : Int) then 0 else S.2.2 t i) = (if t = s then 0 else S.2.2 t i)
        by_cases ht : t = s
        · rw [if_pos ⟨ht, by omega⟩, if_pos ht]
        · rw [if_neg (by omega), if_neg ht]
      · refine A_aload_n dX7_sheet_58 rfl rfl ?_
        refine A_getR (fi := 4) dX7_sheet_59 fg_X7_20 rfl rfl (by assumption) (by assumption) ?_
        refine A_bipush dX7_sheet_62 ⟨by decide, by decide⟩ rfl ?_
        refine A_iload_n dX7_sheet_64 rfl rfl ?_
        refine A_imul_ok dX7_sheet_65 (by omega) (by omega) ?_
        refine A_iload dX7_sheet_66 rfl ?_
        refine A_iadd_ok dX7_sheet_68 (by omega) (by omega) ?_
        refine A_iconst dX7_sheet_69 ⟨by decide, by decide⟩ ?_
        refine A_iast dX7_sheet_70 (by assumption) (by omega) (by omega) ?_
        refine A_iinc_ok dX7_sheet_71 rfl rfl (by omega) (by omega) ?_
        refine A_goto (tgt := 51) dX7_sheet_74 (by decide) ?_
        refine ih (j + 1) (by omega) (by omega) _ (hc.u (by omega) (by omega)) ?_
        have := hz.iu (s := s) (i := j) (v := 0) (x := 36 * s + j) (by omega) (by omega) (by omega) (by omega) (by omega)
        intro t g1 g2
        obtain ⟨q1, q2, q3⟩ := this t g1 g2
        refine ⟨q1, q2, fun i i1 i2 => ?_⟩
        rw [q3 i i1 i2]
        show iU (fun t i => if t = s ∧ i < (j : Int) then 0 else S.2.2 t i) s j 0 t i = (if t = s ∧ i < ((j + 1 : Nat) : Int) then 0 else S.2.2 t i)
        unfold iU
        by_cases h1 : t = s ∧ i = j
        · rw [if_pos h1, if_pos (by omega)]
        · rw [if_neg h1]
          dsimp only
          by_cases h2 : t = s ∧ i < j
          · rw [if_pos h2, if_pos (by omega)]
          · rw [if_neg h2, if_neg (by omega)]
  have go : (0 ≤ s ∧ s ≤ 3 ∧ 0 ≤ lane ∧ lane ≤ 2 ∧ n ≤ 36) → AW E mX7_sheet (k + 2) 0 0 27 [some (kR m), some (kI s), some (kI lane), some (kI n), none] [] G d K := fun hg => by
    refine A_iload_n dX7_sheet_27 rfl rfl ?_
    refine A_if_ge (tgt := 34) dX7_sheet_28 (by decide) (fun c_28 => ?_) (fun c_28 => ?_)
    · refine A_aload_n dX7_sheet_34 rfl rfl ?_
      refine A_getR (fi := 5) dX7_sheet_35 fg_X7_23 rfl rfl (by assumption) (by assumption) ?_
      refine A_iload_n dX7_sheet_38 rfl rfl ?_
      refine A_iload_n dX7_sheet_39 rfl rfl ?_
      refine A_iast dX7_sheet_40 (by assumption) (by omega) (by omega) ?_
      refine A_aload_n dX7_sheet_41 rfl rfl ?_
      refine A_getR (fi := 6) dX7_sheet_42 fg_X7_26 rfl rfl (by assumption) (by assumption) ?_
      refine A_iload_n dX7_sheet_45 rfl rfl ?_
      refine A_iload_n dX7_sheet_46 rfl rfl ?_
      refine A_iast dX7_sheet_47 (by assumption) (by omega) (by omega) ?_
      refine A_iconst dX7_sheet_48 ⟨by decide, by decide⟩ ?_
      refine A_istore dX7_sheet_49 (Nat.le_of_ble_eq_true rfl) rfl ?_
      refine loop hg (by omega) 37 0 (by omega) (by omega) _ ((MZ.rf.u (by omega) (by omega)).u (by omega) (by omega)) ?_
      have := (hS.l (s := s) (v := lane)).n (s := s) (v := n)
      intro t g1 g2
      obtain ⟨q1, q2, q3⟩ := this t g1 g2
      refine ⟨q1, q2, fun i i1 i2 => ?_⟩
      rw [q3 i i1 i2]
      show _ = (if t = s ∧ i < ((0 : Nat) : Int) then 0 else S.2.2 t i)
      rw [if_neg (by omega)]
    · refine A_bipush dX7_sheet_31 ⟨by decide, by decide⟩ rfl ?_
      refine A_iret dX7_sheet_33 rfl ?_
      have e : sheetS S s lane n = (-14, S) := by unfold sheetS; rw [if_neg (by omega), if_pos (by omega)]
      rw [e] at hK
      exact hK d MZ.rf hS
  refine AM.of rfl (Nat.le_of_ble_eq_true rfl) ?_
  refine A_iload_n dX7_sheet_0 rfl rfl ?_
  refine A_ins1 dX7_sheet_1 ms_X7_237 (Nat.le_of_ble_eq_true rfl) ?_
  refine C_isSheet ?_
  refine A_if_eq (tgt := 25) dX7_sheet_4 (by decide) (fun c_4 => ?_) (fun c_4 => ?_)
  · replace c_4 := i01e c_4
    refine A_iconst dX7_sheet_25 ⟨by decide, by decide⟩ ?_
    refine A_iret dX7_sheet_26 rfl ?_
    exact bad (by omega)
  · replace c_4 := i01n c_4
    refine A_iload_n dX7_sheet_7 rfl rfl ?_
    refine A_i2l dX7_sheet_8 ?_
    refine A_lconst (x := 0) dX7_sheet_9 ⟨by decide, by decide⟩ rfl ?_
    refine A_ldc2 (x := 2) dX7_sheet_10 cs_X7_88 rfl ⟨by decide, by decide⟩ ?_
    refine A_ins3 dX7_sheet_13 ms_X7_53 (Nat.le_of_ble_eq_true rfl) ?_
    refine C_in ?_
    refine A_if_eq (tgt := 25) dX7_sheet_16 (by decide) (fun c_16 => ?_) (fun c_16 => ?_)
    · replace c_16 := i01e c_16
      refine A_iconst dX7_sheet_25 ⟨by decide, by decide⟩ ?_
      refine A_iret dX7_sheet_26 rfl ?_
      exact bad (by omega)
    · replace c_16 := i01n c_16
      refine A_iload_n dX7_sheet_19 rfl rfl ?_
      refine A_bipush dX7_sheet_20 ⟨by decide, by decide⟩ rfl ?_
      refine A_icmp_le (tgt := 27) dX7_sheet_22 (by decide) (fun c_22 => ?_) (fun c_22 => ?_)
      · skip
        exact go (by omega)
      · refine A_iconst dX7_sheet_25 ⟨by decide, by decide⟩ ?_
        refine A_iret dX7_sheet_26 rfl ?_
        exact bad (by omega)
theorem C_drop {s : Int} (hM : MO G m) (hS : SZ d m S) (hK : ∀ d', MZ d d' m → SZ d' m (dropS S s).2 → K (some (kI (dropS S s).1)) G d') : AM E mX7_drop (k + 2) 0 0 [kR m, kI s] G d K := by
  obtain ⟨ho, e0, a0, e1, a1, e2, a2, e4, a4, e5, a5, e6, a6, -⟩ := id hM
  refine AM.of rfl (Nat.le_of_ble_eq_true rfl) ?_
  refine A_iload_n dX7_drop_0 rfl rfl ?_
  refine A_ins1 dX7_drop_1 ms_X7_237 (Nat.le_of_ble_eq_true rfl) ?_
  refine C_isSheet ?_
  refine A_if_ne (tgt := 9) dX7_drop_4 (by decide) (fun c_4 => ?_) (fun c_4 => ?_)
  · replace c_4 := i01n c_4
    obtain ⟨s1, s2, -⟩ := hS s (by omega) (by omega)
    refine A_aload_n dX7_drop_9 rfl rfl ?_
    refine A_getR (fi := 5) dX7_drop_10 fg_X7_23 rfl rfl (by assumption) (by assumption) ?_
    refine A_iload_n dX7_drop_13 rfl rfl ?_
    refine A_iald dX7_drop_14 (by assumption) (by omega) (by omega) ?_
    refine A_if_ge (tgt := 21) dX7_drop_15 (by decide) (fun c_15 => ?_) (fun c_15 => ?_)
    · rw [s1] at c_15
      refine A_aload_n dX7_drop_21 rfl rfl ?_
      refine A_getR (fi := 5) dX7_drop_22 fg_X7_23 rfl rfl (by assumption) (by assumption) ?_
      refine A_iload_n dX7_drop_25 rfl rfl ?_
      refine A_iconst dX7_drop_26 ⟨by decide, by decide⟩ ?_
      refine A_iast dX7_drop_27 (by assumption) (by omega) (by omega) ?_
      refine A_aload_n dX7_drop_28 rfl rfl ?_
      refine A_getR (fi := 6) dX7_drop_29 fg_X7_26 rfl rfl (by assumption) (by assumption) ?_
      refine A_iload_n dX7_drop_32 rfl rfl ?_
      refine A_iald dX7_drop_33 (by assumption) (by omega) (by omega) ?_
      refine A_iret dX7_drop_34 rfl ?_
      have e : dropS S s = (S.2.1 s, fU S.1 s (-1), S.2.1, S.2.2) := by unfold dropS; rw [if_neg (by omega), if_neg (by omega)]
      rw [e] at hK
      rw [kU_ne (by omega), s2]
      exact hK _ (MZ.rf.u (by omega) (by omega)) hS.l
    · rw [s1] at c_15
      refine A_bipush dX7_drop_18 ⟨by decide, by decide⟩ rfl ?_
      refine A_iret dX7_drop_20 rfl ?_
      have e : dropS S s = (-11, S) := by unfold dropS; rw [if_neg (by omega), if_pos (by omega)]
      rw [e] at hK
      exact hK d MZ.rf hS
  · replace c_4 := i01e c_4
    refine A_iconst dX7_drop_7 ⟨by decide, by decide⟩ ?_
    refine A_iret dX7_drop_8 rfl ?_
    have e : dropS S s = (-1, S) := by unfold dropS; rw [if_pos (by omega)]
    rw [e] at hK
    exact hK d MZ.rf hS
theorem C_item {s lane i v : Int} (hM : MO G m) (hS : SZ d m S) (hw : WS S) (hK : ∀ d', MZ d d' m → SZ d' m (itemS S s lane i v).2 → K (some (kI (itemS S s lane i v).1)) G d') : AM E mX7_item (k + 2) 0 0 [kR m, kI s, kI lane, kI i, kI v] G d K := by
  obtain ⟨ho, e0, a0, e1, a1, e2, a2, e4, a4, e5, a5, e6, a6, -⟩ := id hM
  have bad : ¬ (0 ≤ s ∧ s ≤ 3 ∧ 0 ≤ lane ∧ lane ≤ 2) → K (some (kI (-1))) G d := fun h => by
    have e : itemS S s lane i v = (-1, S) := by unfold itemS; rw [if_pos h]
    rw [e] at hK
    exact hK d MZ.rf hS
  have done : (0 ≤ s ∧ s ≤ 3 ∧ 0 ≤ lane ∧ lane ≤ 2) → ¬ rowA S s lane i 1 < 0 → ∀ x, x = (if lane = 0 then (if v = 0 then 0 else 1) else if lane = 1 then kByte v else v) → K (some (kI 1)) G (kU d (m + 4) (36 * s + i) x) := by
    intro hg hr x hx
    obtain ⟨g1, g2, g3, g4, g5⟩ := rowA_ok hr
    have hsz := hw s (by omega) (by omega)
    have e : itemS S s lane i v = (1, S.1, S.2.1, fun t q => if t = s ∧ q = i then (if lane = 0 then (if v = 0 then 0 else 1) else if lane = 1 then kByte v else v) else S.2.2 t q) := by unfold itemS; rw [if_neg (by omega), if_neg hr]
    rw [e] at hK
    refine hK _ (MZ.rf.u (by omega) (by omega)) ?_
    have := hS.iu (s := s) (i := i) (v := x) (x := 36 * s + i) (by omega) (by omega) (by omega) (by omega) (by omega)
    rw [hx] at this ⊢
    exact this
  have go : (0 ≤ s ∧ s ≤ 3 ∧ 0 ≤ lane ∧ lane ≤ 2) → AW E mX7_item (k + 2) 0 0 21 [some (kR m), some (kI s), some (kI lane), some (kI i), some (kI v), none] [] G d K := fun hg => by
    refine A_aload_n dX7_item_21 rfl rfl ?_
    refine A_iload_n dX7_item_22 rfl rfl ?_
    refine A_iload_n dX7_item_23 rfl rfl ?_
    refine A_iload_n dX7_item_24 rfl rfl ?_
    refine A_iconst dX7_item_25 ⟨by decide, by decide⟩ ?_
    refine A_inv4 dX7_item_26 mv_X7_240 kCl_7 (Nat.le_of_ble_eq_true rfl) (by assumption) ?_
    refine C_row hM hS (by omega) (by omega) ?_
    refine A_istore dX7_item_29 (Nat.le_of_ble_eq_true rfl) rfl ?_
    refine A_iload dX7_item_31 rfl ?_
    refine A_if_ge (tgt := 39) dX7_item_33 (by decide) (fun c_33 => ?_) (fun c_33 => ?_)
    · obtain ⟨g1, g2, g3, g4, g5⟩ := rowA_ok (Int.not_lt.mpr c_33)
      have hsz := hw s (by omega) (by omega)
      have hdone := done hg (by omega)
      refine A_aload_n dX7_item_39 rfl rfl ?_
      refine A_getR (fi := 4) dX7_item_40 fg_X7_20 rfl rfl (by assumption) (by assumption) ?_
      refine A_bipush dX7_item_43 ⟨by decide, by decide⟩ rfl ?_
      refine A_iload_n dX7_item_45 rfl rfl ?_
      refine A_imul_ok dX7_item_46 (by omega) (by omega) ?_
      refine A_iload_n dX7_item_47 rfl rfl ?_
      refine A_iadd_ok dX7_item_48 (by omega) (by omega) ?_
      refine A_iload_n dX7_item_49 rfl rfl ?_
      refine A_if_ne (tgt := 66) dX7_item_50 (by decide) (fun c_50 => ?_) (fun c_50 => ?_)
      · refine A_iload_n dX7_item_66 rfl rfl ?_
        refine A_iconst dX7_item_67 ⟨by decide, by decide⟩ ?_
        refine A_icmp_ne (tgt := 77) dX7_item_68 (by decide) (fun c_68 => ?_) (fun c_68 => ?_)
        · refine A_iload dX7_item_77 rfl ?_
          refine A_iast dX7_item_79 (by assumption) (by omega) (by omega) ?_
          refine A_iconst dX7_item_80 ⟨by decide, by decide⟩ ?_
          refine A_iret dX7_item_81 rfl ?_
          refine hdone _ ?_
          rw [if_neg (by omega), if_neg (by omega)]
        · refine A_iload dX7_item_71 rfl ?_
          refine A_i2b dX7_item_73 ?_
          refine A_goto (tgt := 79) dX7_item_74 (by decide) ?_
          refine A_iast dX7_item_79 (by assumption) (by omega) (by omega) ?_
          refine A_iconst dX7_item_80 ⟨by decide, by decide⟩ ?_
          refine A_iret dX7_item_81 rfl ?_
          refine hdone _ ?_
          rw [if_neg (by omega), if_pos (by omega)]
      · refine A_iload dX7_item_53 rfl ?_
        refine A_if_eq (tgt := 62) dX7_item_55 (by decide) (fun c_55 => ?_) (fun c_55 => ?_)
        · refine A_iconst dX7_item_62 ⟨by decide, by decide⟩ ?_
          refine A_goto (tgt := 79) dX7_item_63 (by decide) ?_
          refine A_iast dX7_item_79 (by assumption) (by omega) (by omega) ?_
          refine A_iconst dX7_item_80 ⟨by decide, by decide⟩ ?_
          refine A_iret dX7_item_81 rfl ?_
          refine hdone _ ?_
          rw [if_pos (by omega), if_pos (by omega)]
        · refine A_iconst dX7_item_58 ⟨by decide, by decide⟩ ?_
          refine A_goto (tgt := 79) dX7_item_59 (by decide) ?_
          refine A_iast dX7_item_79 (by assumption) (by omega) (by omega) ?_
          refine A_iconst dX7_item_80 ⟨by decide, by decide⟩ ?_
          refine A_iret dX7_item_81 rfl ?_
          refine hdone _ ?_
          rw [if_pos (by omega), if_neg (by omega)]
    · refine A_iload dX7_item_36 rfl ?_
      refine A_iret dX7_item_38 rfl ?_
      have e : itemS S s lane i v = (rowA S s lane i 1, S) := by unfold itemS; rw [if_neg (by omega), if_pos (by omega)]
      rw [e] at hK
      exact hK d MZ.rf hS
  refine AM.of rfl (Nat.le_of_ble_eq_true rfl) ?_
  refine A_iload_n dX7_item_0 rfl rfl ?_
  refine A_ins1 dX7_item_1 ms_X7_237 (Nat.le_of_ble_eq_true rfl) ?_
  refine C_isSheet ?_
  refine A_if_eq (tgt := 19) dX7_item_4 (by decide) (fun c_4 => ?_) (fun c_4 => ?_)
  · replace c_4 := i01e c_4
    refine A_iconst dX7_item_19 ⟨by decide, by decide⟩ ?_
    refine A_iret dX7_item_20 rfl ?_
    exact bad (by omega)
  · replace c_4 := i01n c_4
    refine A_iload_n dX7_item_7 rfl rfl ?_
    refine A_i2l dX7_item_8 ?_
    refine A_lconst (x := 0) dX7_item_9 ⟨by decide, by decide⟩ rfl ?_
    refine A_ldc2 (x := 2) dX7_item_10 cs_X7_88 rfl ⟨by decide, by decide⟩ ?_
    refine A_ins3 dX7_item_13 ms_X7_53 (Nat.le_of_ble_eq_true rfl) ?_
    refine C_in ?_
    refine A_if_ne (tgt := 21) dX7_item_16 (by decide) (fun c_16 => ?_) (fun c_16 => ?_)
    · replace c_16 := i01n c_16
      exact go (by omega)
    · replace c_16 := i01e c_16
      refine A_iconst dX7_item_19 ⟨by decide, by decide⟩ ?_
      refine A_iret dX7_item_20 rfl ?_
      exact bad (by omega)
theorem C_copy {a i b j n : Int} (hM : MO G m) (hS : SZ d m S) (hw : WS S) (hK : ∀ d', MZ d d' m → SZ d' m (copyS S a i b j n).2 → K (some (kI (copyS S a i b j n).1)) G d') : AM E mX7_copy (k + 2) 0 0 [kR m, kI a, kI i, kI b, kI j, kI n] G d K := by
  obtain ⟨ho, e0, a0, e1, a1, e2, a2, e4, a4, e5, a5, e6, a6, e7, a7, -⟩ := id hM
  have loop2 : (0 ≤ a ∧ a ≤ 3 ∧ 0 ≤ b ∧ b ≤ 3) → ¬ (S.1 a < 0 ∨ S.1 b < 0) → S.1 a = S.1 b → ¬ rowA S a (S.1 a) i n < 0 → ¬ rowA S b (S.1 b) j n < 0 → ∀ (N : Nat), n = N → ∀ (q x : Nat), N - x < q → x ≤ N → ∀ d', MZ d d' m → (∀ y, 0 ≤ y → y < n → d' (m + 7) y = S.2.2 a (i + y)) → SZ d' m (S.1, S.2.1, fun t q => if t = b ∧ j ≤ q ∧ q < j + x then S.2.2 a (i + (q - j)) else S.2.2 t q) → AW E mX7_copy (k + 2) 0 0 133 [some (kR m), some (kI a), some (kI i), some (kI b), some (kI j), some (kI n), some (kI x)] [] G d' K := by
    intro hg hl hl2 hr1 hr2 N hN q
    obtain ⟨p1, p2, p3, p4, p5⟩ := rowA_ok hr1
    obtain ⟨q1, q2, q3, q4, q5⟩ := rowA_ok hr2
    have ha := hw a (by omega) (by omega)
    have hb := hw b (by omega) (by omega)
    induction q with
    | zero => intro x h; omega
    | succ q ih =>
      intro x hj hjN d' hc hs hz
      refine A_iload dX7_copy_133 rfl ?_
      refine A_iload dX7_copy_135 rfl ?_
      refine A_icmp_ge (tgt := 168) dX7_copy_137 (by decide) (fun c_137 => ?_) (fun c_137 => ?_)
      · refine A_iload dX7_copy_168 rfl ?_
        refine A_iret dX7_copy_170 rfl ?_
        have : x = N := by omega
        subst this
        have e : copyS S a i b j n = (n, S.1, S.2.1, fun t q => if t = b ∧ j ≤ q ∧ q < j + n then S.2.2 a (i + (q - j)) else S.2.2 t q) := by unfold copyS; rw [if_neg (by omega), if_neg hl, if_neg (by omega), if_neg (by omega)]
        rw [e] at hK
        refine hK d' hc ?_
        rw [hN]
        exact hz
      · have v := hs x (by omega) (by omega)
        refine A_aload_n dX7_copy_140 rfl rfl ?_
        refine A_getR (fi := 4) dX7_copy_141 fg_X7_20 rfl rfl (by assumption) (by assumption) ?_
        refine A_bipush dX7_copy_144 ⟨by decide, by decide⟩ rfl ?_
        refine A_iload_n dX7_copy_146 rfl rfl ?_
        refine A_imul_ok dX7_copy_147 (by omega) (by omega) ?_
        refine A_iload dX7_copy_148 rfl ?_
        refine A_iadd_ok dX7_copy_150 (by omega) (by omega) ?_
        refine A_iload dX7_copy_151 rfl ?_
        refine A_iadd_ok dX7_copy_153 (by omega) (by omega) ?_
        refine A_aload_n dX7_copy_154 rfl rfl ?_
        refine A_getR (fi := 7) dX7_copy_155 fg_X7_29 rfl rfl (by assumption) (by assumption) ?_
        refine A_iload dX7_copy_158 rfl ?_
        refine A_iald dX7_copy_160 (by assumption) (by omega) (by omega) ?_
        refine A_iast dX7_copy_161 (by assumption) (by omega) (by omega) ?_
        refine A_iinc_ok dX7_copy_162 rfl rfl (by omega) (by omega) ?_
        refine A_goto (tgt := 133) dX7_copy_165 (by decide) ?_
        rw [v]
        refine ih (x + 1) (by omega) (by omega) _ (hc.u (by omega) (by omega)) (fun y y1 y2 => by rw [kU_ne (by omega)]; exact hs y y1 y2) ?_
        have := hz.iu (s := b) (i := j + x) (v := S.2.2 a (i + x)) (x := 36 * b + j + x) (by omega) (by omega) (by omega) (by omega) (by omega)
        intro t g1 g2
        obtain ⟨r1, r2, r3⟩ := this t g1 g2
        refine ⟨r1, r2, fun y y1 y2 => ?_⟩
        rw [r3 y y1 y2]
        show iU (fun t q => if t = b ∧ j ≤ q ∧ q < j + (x : Int) then S.2.2 a (i + (q - j)) else S.2.2 t q) b (j + x) (S.2.2 a (i + x)) t y = (if t = b ∧ j ≤ y ∧ y < j + ((x + 1 : Nat) : Int) then S.2.2 a (i + (y - j)) else S.2.2 t y)
        unfold iU
        by_cases h1 : t = b ∧ y = j + x
        · rw [if_pos h1, if_pos (by omega), h1.2, show i + (j + (x : Int) - j) = i + x by omega]
        · rw [if_neg h1]
          dsimp only
          by_cases h2 : t = b ∧ j ≤ y ∧ y < j + x
          · rw [if_pos h2, if_pos (by omega)]
          · rw [if_neg h2, if_neg (by omega)]
  have loop1 : (0 ≤ a ∧ a ≤ 3 ∧ 0 ≤ b ∧ b ≤ 3) → ¬ (S.1 a < 0 ∨ S.1 b < 0) → S.1 a = S.1 b → ¬ rowA S a (S.1 a) i n < 0 → ¬ rowA S b (S.1 b) j n < 0 → ∀ (N : Nat), n = N → ∀ (q x : Nat), N - x < q → x ≤ N → ∀ d', MZ d d' m → SZ d' m S → (∀ y : Int, 0 ≤ y → y < x → d' (m + 7) y = S.2.2 a (i + y)) → AW E mX7_copy (k + 2) 0 0 96 [some (kR m), some (kI a), some (kI i), some (kI b), some (kI j), some (kI n), some (kI x)] [] G d' K := by
    intro hg hl hl2 hr1 hr2 N hN q
    obtain ⟨p1, p2, p3, p4, p5⟩ := rowA_ok hr1
    have ha := hw a (by omega) (by omega)
    induction q with
    | zero => intro x h; omega
    | succ q ih =>
      intro x hj hjN d' hc hz hs
      refine A_iload dX7_copy_96 rfl ?_
      refine A_iload dX7_copy_98 rfl ?_
      refine A_icmp_ge (tgt := 130) dX7_copy_100 (by decide) (fun c_100 => ?_) (fun c_100 => ?_)
      · refine A_iconst dX7_copy_130 ⟨by decide, by decide⟩ ?_
        refine A_istore dX7_copy_131 (Nat.le_of_ble_eq_true rfl) rfl ?_
        have : x = N := by omega
        subst this
        refine loop2 hg hl hl2 hr1 hr2 x hN (x + 1) 0 (by omega) (by omega) d' hc (fun y y1 y2 => hs y y1 (by omega)) ?_
        intro t g1 g2
        obtain ⟨r1, r2, r3⟩ := hz t g1 g2
        refine ⟨r1, r2, fun y y1 y2 => ?_⟩
        rw [r3 y y1 y2]
        show _ = (if t = b ∧ j ≤ y ∧ y < j + ((0 : Nat) : Int) then S.2.2 a (i + (y - j)) else S.2.2 t y)
        rw [if_neg (by omega)]
      · have v : d' (m + 4) (36 * a + i + x) = S.2.2 a (i + x) := hz.i (by omega) (by omega) (by omega) (by omega) (by omega)
        refine A_aload_n dX7_copy_103 rfl rfl ?_
        refine A_getR (fi := 7) dX7_copy_104 fg_X7_29 rfl rfl (by assumption) (by assumption) ?_
        refine A_iload dX7_copy_107 rfl ?_
        refine A_aload_n dX7_copy_109 rfl rfl ?_
        refine A_getR (fi := 4) dX7_copy_110 fg_X7_20 rfl rfl (by assumption) (by assumption) ?_
        refine A_bipush dX7_copy_113 ⟨by decide, by decide⟩ rfl ?_
        refine A_iload_n dX7_copy_115 rfl rfl ?_
        refine A_imul_ok dX7_copy_116 (by omega) (by omega) ?_
        refine A_iload_n dX7_copy_117 rfl rfl ?_
        refine A_iadd_ok dX7_copy_118 (by omega) (by omega) ?_
        refine A_iload dX7_copy_119 rfl ?_
        refine A_iadd_ok dX7_copy_121 (by omega) (by omega) ?_
        refine A_iald dX7_copy_122 (by assumption) (by omega) (by omega) ?_
        refine A_iast dX7_copy_123 (by assumption) (by omega) (by omega) ?_
        refine A_iinc_ok dX7_copy_124 rfl rfl (by omega) (by omega) ?_
        refine A_goto (tgt := 96) dX7_copy_127 (by decide) ?_
        rw [v]
        refine ih (x + 1) (by omega) (by omega) _ (hc.u (by omega) (by omega)) (hz.ne (by omega) (by omega) (by omega)) (fun y y1 y2 => ?_)
        unfold kU
        by_cases hy : y = x
        · rw [if_pos ⟨rfl, hy⟩, hy]
        · rw [if_neg (by omega)]
          exact hs y y1 (by omega)
  have row1 : (0 ≤ a ∧ a ≤ 3 ∧ 0 ≤ b ∧ b ≤ 3) → AW E mX7_copy (k + 2) 0 0 16 [some (kR m), some (kI a), some (kI i), some (kI b), some (kI j), some (kI n), none] [] G d K := fun hg => by
    obtain ⟨la, -, -⟩ := hS a (by omega) (by omega)
    obtain ⟨lb, -, -⟩ := hS b (by omega) (by omega)
    have nul : (S.1 a < 0 ∨ S.1 b < 0) → K (some (kI (-11))) G d := fun h => by
      have e : copyS S a i b j n = (-11, S) := by unfold copyS; rw [if_neg (by omega), if_pos h]
      rw [e] at hK
      exact hK d MZ.rf hS
    have ind : ¬ (S.1 a < 0 ∨ S.1 b < 0) → S.1 a = S.1 b → (rowA S a (S.1 a) i n < 0 ∨ rowA S b (S.1 b) j n < 0) → K (some (kI (-13))) G d := fun h h' h2 => by
      have e : copyS S a i b j n = (-13, S) := by unfold copyS; rw [if_neg (by omega), if_neg h, if_neg (by omega), if_pos h2]
      rw [e] at hK
      exact hK d MZ.rf hS
    refine A_aload_n dX7_copy_16 rfl rfl ?_
    refine A_getR (fi := 5) dX7_copy_17 fg_X7_23 rfl rfl (by assumption) (by assumption) ?_
    refine A_iload_n dX7_copy_20 rfl rfl ?_
    refine A_iald dX7_copy_21 (by assumption) (by omega) (by omega) ?_
    refine A_if_lt (tgt := 34) dX7_copy_22 (by decide) (fun c_22 => ?_) (fun c_22 => ?_)
    · refine A_bipush dX7_copy_34 ⟨by decide, by decide⟩ rfl ?_
      refine A_iret dX7_copy_36 rfl ?_
      exact nul (by omega)
    · refine A_aload_n dX7_copy_25 rfl rfl ?_
      refine A_getR (fi := 5) dX7_copy_26 fg_X7_23 rfl rfl (by assumption) (by assumption) ?_
      refine A_iload_n dX7_copy_29 rfl rfl ?_
      refine A_iald dX7_copy_30 (by assumption) (by omega) (by omega) ?_
      refine A_if_ge (tgt := 37) dX7_copy_31 (by decide) (fun c_31 => ?_) (fun c_31 => ?_)
      · refine A_aload_n dX7_copy_37 rfl rfl ?_
        refine A_getR (fi := 5) dX7_copy_38 fg_X7_23 rfl rfl (by assumption) (by assumption) ?_
        refine A_iload_n dX7_copy_41 rfl rfl ?_
        refine A_iald dX7_copy_42 (by assumption) (by omega) (by omega) ?_
        refine A_aload_n dX7_copy_43 rfl rfl ?_
        refine A_getR (fi := 5) dX7_copy_44 fg_X7_23 rfl rfl (by assumption) (by assumption) ?_
        refine A_iload_n dX7_copy_47 rfl rfl ?_
        refine A_iald dX7_copy_48 (by assumption) (by omega) (by omega) ?_
        refine A_icmp_eq (tgt := 55) dX7_copy_49 (by decide) (fun c_49 => ?_) (fun c_49 => ?_)
        · refine A_aload_n dX7_copy_55 rfl rfl ?_
          refine A_iload_n dX7_copy_56 rfl rfl ?_
          refine A_aload_n dX7_copy_57 rfl rfl ?_
          refine A_getR (fi := 5) dX7_copy_58 fg_X7_23 rfl rfl (by assumption) (by assumption) ?_
          refine A_iload_n dX7_copy_61 rfl rfl ?_
          refine A_iald dX7_copy_62 (by assumption) (by omega) (by omega) ?_
          refine A_iload_n dX7_copy_63 rfl rfl ?_
          refine A_iload dX7_copy_64 rfl ?_
          refine A_inv4 dX7_copy_66 mv_X7_240 kCl_7 (Nat.le_of_ble_eq_true rfl) (by assumption) ?_
          refine C_row hM hS (by omega) (by omega) ?_
          rw [la]
          refine A_if_lt (tgt := 90) dX7_copy_69 (by decide) (fun c_69 => ?_) (fun c_69 => ?_)
          · refine A_bipush dX7_copy_90 ⟨by decide, by decide⟩ rfl ?_
            refine A_iret dX7_copy_92 rfl ?_
            exact ind (by omega) (by omega) (by omega)
          · refine A_aload_n dX7_copy_72 rfl rfl ?_
            refine A_iload_n dX7_copy_73 rfl rfl ?_
            refine A_aload_n dX7_copy_74 rfl rfl ?_
            refine A_getR (fi := 5) dX7_copy_75 fg_X7_23 rfl rfl (by assumption) (by assumption) ?_
            refine A_iload_n dX7_copy_78 rfl rfl ?_
            refine A_iald dX7_copy_79 (by assumption) (by omega) (by omega) ?_
            refine A_iload dX7_copy_80 rfl ?_
            refine A_iload dX7_copy_82 rfl ?_
            refine A_inv4 dX7_copy_84 mv_X7_240 kCl_7 (Nat.le_of_ble_eq_true rfl) (by assumption) ?_
            refine C_row hM hS (by omega) (by omega) ?_
            rw [lb]
            refine A_if_ge (tgt := 93) dX7_copy_87 (by decide) (fun c_87 => ?_) (fun c_87 => ?_)
            · have hr := rowA_ok (S := S) (s := a) (Int.not_lt.mpr c_69)
              refine A_iconst dX7_copy_93 ⟨by decide, by decide⟩ ?_
              refine A_istore dX7_copy_94 (Nat.le_of_ble_eq_true rfl) rfl ?_
              exact loop1 hg (by omega) (by omega) (by omega) (by omega) n.toNat (by omega) (n.toNat + 1) 0 (by omega) (by omega) d MZ.rf hS (fun y y1 y2 => by omega)
            · refine A_bipush dX7_copy_90 ⟨by decide, by decide⟩ rfl ?_
              refine A_iret dX7_copy_92 rfl ?_
              exact ind (by omega) (by omega) (by omega)
        · refine A_bipush dX7_copy_52 ⟨by decide, by decide⟩ rfl ?_
          refine A_iret dX7_copy_54 rfl ?_
          have e : copyS S a i b j n = (-12, S) := by unfold copyS; rw [if_neg (by omega), if_neg (by omega), if_pos (by omega)]
          rw [e] at hK
          exact hK d MZ.rf hS
      · refine A_bipush dX7_copy_34 ⟨by decide, by decide⟩ rfl ?_
        refine A_iret dX7_copy_36 rfl ?_
        exact nul (by omega)
  have bad : ¬ (0 ≤ a ∧ a ≤ 3 ∧ 0 ≤ b ∧ b ≤ 3) → K (some (kI (-1))) G d := fun h => by
    have e : copyS S a i b j n = (-1, S) := by unfold copyS; rw [if_pos h]
    rw [e] at hK
    exact hK d MZ.rf hS
  refine AM.of rfl (Nat.le_of_ble_eq_true rfl) ?_
  refine A_iload_n dX7_copy_0 rfl rfl ?_
  refine A_ins1 dX7_copy_1 ms_X7_237 (Nat.le_of_ble_eq_true rfl) ?_
  refine C_isSheet ?_
  refine A_if_eq (tgt := 14) dX7_copy_4 (by decide) (fun c_4 => ?_) (fun c_4 => ?_)
  · replace c_4 := i01e c_4
    refine A_iconst dX7_copy_14 ⟨by decide, by decide⟩ ?_
    refine A_iret dX7_copy_15 rfl ?_
    exact bad (by omega)
  · replace c_4 := i01n c_4
    refine A_iload_n dX7_copy_7 rfl rfl ?_
    refine A_ins1 dX7_copy_8 ms_X7_237 (Nat.le_of_ble_eq_true rfl) ?_
    refine C_isSheet ?_
    refine A_if_ne (tgt := 16) dX7_copy_11 (by decide) (fun c_11 => ?_) (fun c_11 => ?_)
    · replace c_11 := i01n c_11
      exact row1 (by omega)
    · replace c_11 := i01e c_11
      refine A_iconst dX7_copy_14 ⟨by decide, by decide⟩ ?_
      refine A_iret dX7_copy_15 rfl ?_
      exact bad (by omega)
end M5
