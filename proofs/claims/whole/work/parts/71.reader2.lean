section RD2
variable {E : EE} {k : Nat} {G : HG} {d : HD} {K : PQ} {n : Int} {t : Int → Int}
theorem C_readComparison {p c : Int} (hM : RO G) (hT : RT d n t) (hn : n ≤ 100) (h0 : 0 ≤ p) (h1 : p ≤ n) (hc : d 9 3 = c) (c0 : 0 ≤ c) (c1 : (clP t n (sk t n p)).1 = true → c < 100) (hs : ch t n (sk t n p) ≠ 42) (hF : (clP t n (sk t n p)).1 = false → K (some (kI 0)) G (kU d 9 2 (clP t n (sk t n p)).2)) (hS : (clP t n (sk t n p)).1 = true → K (some (kI 1)) G (adC (kU d 9 2 (clP t n (sk t n p)).2) c (ch t n (sk t n p)) (ch t n (sk t n (sk t n p + 1))) (cVal t n (sk t n p)))) : AM E mX3_readComparison (k + 2) 0 0 [kR 9] G (kU d 9 2 p) K := by
  have ho := hM.1
  have g1 := sk_ge (t := t) (n := n) p
  have l1 := sk_le (t := t) h1
  have f2 : ∀ x, kU d 9 2 x 9 2 = x := fun x => kU_s
  have f3 : ∀ x, kU d 9 2 x 9 3 = c := fun x => by rw [kU_f (by decide)]; exact hc
  generalize hy : sk t n p = y at *
  have rest : (ch t n y = 103 ∨ ch t n y = 100 ∨ ch t n y = 111 ∨ ch t n y = 118) → AW E mX3_readComparison (k + 2) 0 0 31 [some (kR 9), some (kI (ch t n y)), none, none, none] [] G (kU d 9 2 y) K := by
    intro hcc
    have y1 := ch_lt (t := t) (n := n) (p := y) (by omega)
    have g2 := sk_ge (t := t) (n := n) (y + 1)
    have l2 := sk_le (t := t) (n := n) (p := y + 1) (by omega)
    have tail : (ch t n (sk t n (y + 1)) = 60 ∨ ch t n (sk t n (y + 1)) = 62 ∨ ch t n (sk t n (y + 1)) = 61) → AW E mX3_readComparison (k + 2) 0 0 66 [some (kR 9), some (kI (ch t n y)), some (kI (ch t n (sk t n (y + 1)))), none, none] [] G (kU d 9 2 (sk t n (y + 1))) K := by
      intro hb
      have y2 := ch_lt (t := t) (n := n) (p := sk t n (y + 1)) (by omega)
      have g3 := sk_ge (t := t) (n := n) (sk t n (y + 1) + 1)
      have l3 := sk_le (t := t) (n := n) (p := sk t n (y + 1) + 1) (by omega)
      have dig : ∀ x bl : Int, 0 ≤ x → x ≤ n → sk t n x = c3 t n y → (bl = 0 ∧ cVal t n y = cNum t n y ∨ bl = 1 ∧ cVal t n y = - cNum t n y) → AW E mX3_readComparison (k + 2) 0 0 83 [some (kR 9), some (kI (ch t n y)), some (kI (ch t n (sk t n (y + 1)))), some (kI bl), none] [] G (kU d 9 2 x) K := by
        intro x bl x0 xn hx hbl
        have l4 := sk_le (t := t) xn
        have g4 := sk_ge (t := t) (n := n) x
        rw [hx] at l4 g4
        refine A_aload_n dX3_readComparison_83 rfl rfl ?_
        refine A_inv0 dX3_readComparison_84 mv_X3_81 kCl_3 (Nat.le_of_ble_eq_true rfl) (by assumption) ?_
        refine C_next hM hT hn x0 xn ?_
        rw [hx]
        refine A_ins1 dX3_readComparison_87 ms_X3_90 (Nat.le_of_ble_eq_true rfl) ?_
        refine C_rdig ?_
        refine A_if_ne (tgt := 95) dX3_readComparison_90 (by decide) (fun c_90 => ?_) (fun c_90 => ?_)
        · have z90 := i01n c_90
          have hlt := ch_lt (t := t) (n := n) (p := c3 t n y) (by omega)
          rw [ch_at hlt] at z90
          have hD : isD t n (c3 t n y) := ⟨hlt, z90.1, z90.2⟩
          have e : clP t n y = (true, c5 t n y) := by
            unfold clP
            rw [if_neg (by omega), if_neg (by omega), if_neg (by omega), if_neg (Classical.not_not.mpr hD)]
          rw [e] at hS c1
          have fin := hS rfl
          have c1 := c1 rfl
          replace c_90 := i01n c_90
          refine A_aload_n dX3_readComparison_95 rfl rfl ?_
          refine A_inv0 dX3_readComparison_96 mv_X3_109 kCl_3 (Nat.le_of_ble_eq_true rfl) (by assumption) ?_
          refine C_readNumber hM hT hn (by omega) hD ?_
          have e5 : (if isD t n (c3 t n y + 1) then c3 t n y + 1 + 1 else c3 t n y + 1) = c5 t n y := rfl
          have eN : (if isD t n (c3 t n y + 1) then 10 * (t (c3 t n y) - 48) + t (c3 t n y + 1) - 48 else t (c3 t n y) - 48) = cNum t n y := rfl
          have rN : 0 ≤ cNum t n y ∧ cNum t n y ≤ 1000 := by
            unfold cNum
            by_cases q : isD t n (c3 t n y + 1)
            · rw [if_pos q]; have := q.2; omega
            · rw [if_neg q]; omega
          rw [e5, eN]
          refine A_istore dX3_readComparison_99 (Nat.le_of_ble_eq_true rfl) rfl ?_
          refine A_aload_n dX3_readComparison_101 rfl rfl ?_
          refine A_iload_n dX3_readComparison_102 rfl rfl ?_
          refine A_iload_n dX3_readComparison_103 rfl rfl ?_
          refine A_iload_n dX3_readComparison_104 rfl rfl ?_
          refine A_if_eq (tgt := 114) dX3_readComparison_105 (by decide) (fun c_105 => ?_) (fun c_105 => ?_)
          · rcases hbl with ⟨b1, b2⟩ | ⟨b1, b2⟩
            · refine A_iload dX3_readComparison_114 rfl ?_
              refine A_inv3 dX3_readComparison_116 mv_X3_102 kCl_3 (Nat.le_of_ble_eq_true rfl) (by assumption) ?_
              refine C_addClaim hM (f3 _) c0 c1 ?_
              refine A_iconst dX3_readComparison_119 ⟨by decide, by decide⟩ ?_
              refine A_zret dX3_readComparison_120 rfl (by first | exact Or.inl rfl | exact Or.inr rfl | assumption | omega) ?_
              rw [← b2]
              exact fin
            · omega
          · rcases hbl with ⟨b1, b2⟩ | ⟨b1, b2⟩
            · omega
            · refine A_iload dX3_readComparison_108 rfl ?_
              refine A_ineg_ok dX3_readComparison_110 (by omega) (by omega) ?_
              refine A_goto (tgt := 116) dX3_readComparison_111 (by decide) ?_
              refine A_inv3 dX3_readComparison_116 mv_X3_102 kCl_3 (Nat.le_of_ble_eq_true rfl) (by assumption) ?_
              refine C_addClaim hM (f3 _) c0 c1 ?_
              refine A_iconst dX3_readComparison_119 ⟨by decide, by decide⟩ ?_
              refine A_zret dX3_readComparison_120 rfl (by first | exact Or.inl rfl | exact Or.inr rfl | assumption | omega) ?_
              rw [← b2]
              exact fin
        · have hD : ¬ isD t n (c3 t n y) := fun z => i01e c_90 (by rw [ch_at z.1]; exact z.2)
          have e : clP t n y = (false, c3 t n y) := by
            unfold clP
            rw [if_neg (by omega), if_neg (by omega), if_neg (by omega), if_pos hD]
          rw [e] at hF
          have fin := hF rfl
          replace c_90 := i01e c_90
          refine A_iconst dX3_readComparison_93 ⟨by decide, by decide⟩ ?_
          refine A_zret dX3_readComparison_94 rfl (by first | exact Or.inl rfl | exact Or.inr rfl | assumption | omega) ?_
          exact fin
      refine A_aload_n dX3_readComparison_66 rfl rfl ?_
      refine A_dup dX3_readComparison_67 (fun B => toV_cat B _) ?_
      refine A_get (fi := 2) dX3_readComparison_68 fg_X3_19 rfl rfl (by assumption) ?_
      rw [f2]
      refine A_iconst dX3_readComparison_71 ⟨by decide, by decide⟩ ?_
      refine A_iadd_ok dX3_readComparison_72 (by omega) (by omega) ?_
      refine A_put (fi := 2) dX3_readComparison_73 fp_X3_19 rfl rfl (by assumption) ?_
      rw [kU_2]
      refine A_aload_n dX3_readComparison_76 rfl rfl ?_
      refine A_bipush dX3_readComparison_77 ⟨by decide, by decide⟩ rfl ?_
      refine A_inv1 dX3_readComparison_79 mv_X3_69 kCl_3 (Nat.le_of_ble_eq_true rfl) (by assumption) ?_
      refine C_rtake hM hT hn (by omega) (by omega) (fun c45 => ?_) (fun c45 => ?_)
      · have y3 := ch_lt (t := t) (n := n) (p := sk t n (sk t n (y + 1) + 1)) (by omega)
        have e3 : c3 t n y = sk t n (sk t n (sk t n (y + 1) + 1) + 1) := by unfold c3; rw [if_pos c45]
        have ev : cVal t n y = - cNum t n y := by unfold cVal; rw [if_pos c45]
        refine A_istore_n dX3_readComparison_82 rfl (Nat.le_of_ble_eq_true rfl) rfl ?_
        exact dig _ 1 (by omega) (by omega) e3.symm (Or.inr ⟨rfl, ev⟩)
      · have e3 : c3 t n y = sk t n (sk t n (y + 1) + 1) := by unfold c3; rw [if_neg c45]
        have ev : cVal t n y = cNum t n y := by unfold cVal; rw [if_neg c45]
        refine A_istore_n dX3_readComparison_82 rfl (Nat.le_of_ble_eq_true rfl) rfl ?_
        exact dig _ 0 (by omega) (by omega) (by rw [sk_sk]; exact e3.symm) (Or.inl ⟨rfl, ev⟩)
    refine A_aload_n dX3_readComparison_31 rfl rfl ?_
    refine A_dup dX3_readComparison_32 (fun B => toV_cat B _) ?_
    refine A_get (fi := 2) dX3_readComparison_33 fg_X3_19 rfl rfl (by assumption) ?_
    rw [f2]
    refine A_iconst dX3_readComparison_36 ⟨by decide, by decide⟩ ?_
    refine A_iadd_ok dX3_readComparison_37 (by omega) (by omega) ?_
    refine A_put (fi := 2) dX3_readComparison_38 fp_X3_19 rfl rfl (by assumption) ?_
    rw [kU_2]
    refine A_aload_n dX3_readComparison_41 rfl rfl ?_
    refine A_inv0 dX3_readComparison_42 mv_X3_81 kCl_3 (Nat.le_of_ble_eq_true rfl) (by assumption) ?_
    refine C_next hM hT hn (by omega) (by omega) ?_
    refine A_istore_n dX3_readComparison_45 rfl (Nat.le_of_ble_eq_true rfl) rfl ?_
    refine A_iload_n dX3_readComparison_46 rfl rfl ?_
    refine A_bipush dX3_readComparison_47 ⟨by decide, by decide⟩ rfl ?_
    refine A_icmp_eq (tgt := 66) dX3_readComparison_49 (by decide) (fun c_49 => ?_) (fun c_49 => ?_)
    · skip
      exact tail (by omega)
    · refine A_iload_n dX3_readComparison_52 rfl rfl ?_
      refine A_bipush dX3_readComparison_53 ⟨by decide, by decide⟩ rfl ?_
      refine A_icmp_eq (tgt := 66) dX3_readComparison_55 (by decide) (fun c_55 => ?_) (fun c_55 => ?_)
      · skip
        exact tail (by omega)
      · refine A_iload_n dX3_readComparison_58 rfl rfl ?_
        refine A_bipush dX3_readComparison_59 ⟨by decide, by decide⟩ rfl ?_
        refine A_icmp_eq (tgt := 66) dX3_readComparison_61 (by decide) (fun c_61 => ?_) (fun c_61 => ?_)
        · skip
          exact tail (by omega)
        · have e : clP t n y = (false, sk t n (y + 1)) := by
            unfold clP
            rw [if_neg (by omega), if_neg (by omega), if_pos (by omega)]
          rw [e] at hF
          have fin := hF rfl
          refine A_iconst dX3_readComparison_64 ⟨by decide, by decide⟩ ?_
          refine A_zret dX3_readComparison_65 rfl (by first | exact Or.inl rfl | exact Or.inr rfl | assumption | omega) ?_
          exact fin
  refine AM.of rfl (Nat.le_of_ble_eq_true rfl) ?_
  refine A_aload_n dX3_readComparison_0 rfl rfl ?_
  refine A_inv0 dX3_readComparison_1 mv_X3_81 kCl_3 (Nat.le_of_ble_eq_true rfl) (by assumption) ?_
  refine C_next hM hT hn (by omega) (by omega) ?_
  rw [hy]
  refine A_istore_n dX3_readComparison_4 rfl (Nat.le_of_ble_eq_true rfl) rfl ?_
  refine A_iload_n dX3_readComparison_5 rfl rfl ?_
  refine A_bipush dX3_readComparison_6 ⟨by decide, by decide⟩ rfl ?_
  refine A_icmp_eq (tgt := 31) dX3_readComparison_8 (by decide) (fun c_8 => ?_) (fun c_8 => ?_)
  · skip
    exact rest (by omega)
  · refine A_iload_n dX3_readComparison_11 rfl rfl ?_
    refine A_bipush dX3_readComparison_12 ⟨by decide, by decide⟩ rfl ?_
    refine A_icmp_eq (tgt := 31) dX3_readComparison_14 (by decide) (fun c_14 => ?_) (fun c_14 => ?_)
    · skip
      exact rest (by omega)
    · refine A_iload_n dX3_readComparison_17 rfl rfl ?_
      refine A_bipush dX3_readComparison_18 ⟨by decide, by decide⟩ rfl ?_
      refine A_icmp_eq (tgt := 31) dX3_readComparison_20 (by decide) (fun c_20 => ?_) (fun c_20 => ?_)
      · skip
        exact rest (by omega)
      · refine A_iload_n dX3_readComparison_23 rfl rfl ?_
        refine A_bipush dX3_readComparison_24 ⟨by decide, by decide⟩ rfl ?_
        refine A_icmp_eq (tgt := 31) dX3_readComparison_26 (by decide) (fun c_26 => ?_) (fun c_26 => ?_)
        · skip
          exact rest (by omega)
        · have e : clP t n y = (false, y) := by
            unfold clP
            rw [if_neg (by omega), if_pos (by omega)]
          rw [e] at hF
          have fin := hF rfl
          refine A_iconst dX3_readComparison_29 ⟨by decide, by decide⟩ ?_
          refine A_zret dX3_readComparison_30 rfl (by first | exact Or.inl rfl | exact Or.inr rfl | assumption | omega) ?_
          exact fin
end RD2
