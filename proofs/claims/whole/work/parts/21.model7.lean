theorem kU_s {d : HD} {a : Nat} {i v : Int} : kU d a i v a i = v := by simp [kU]
theorem kU_f {d : HD} {a : Nat} {i j v : Int} (h : j ≠ i) : kU d a i v a j = d a j := by simp [kU, h]
theorem kU_2 {d : HD} {a : Nat} {i v w : Int} : kU (kU d a i v) a i w = kU d a i w := by
  funext b j
  unfold kU
  by_cases h : b = a ∧ j = i
  · rw [if_pos h, if_pos h]
  · rw [if_neg h, if_neg h, if_neg h]
theorem kU_id {d : HD} {a : Nat} {i v : Int} (h : d a i = v) : kU d a i v = d := by
  funext b j
  unfold kU
  by_cases q : b = a ∧ j = i
  · rw [if_pos q, q.1, q.2, h]
  · rw [if_neg q]
section M7
variable {E : EE} {k m : Nat} {G : HG} {d : HD} {K : PQ} {n : Int} {t : Int → Int}
theorem C_look {p : Int} (hM : MO G m) (hT : TZ d m n t) (hn : n ≤ 100) (h0 : 0 ≤ p) (h1 : p ≤ n) (hK : K (some (kI (ch t n (sk t n p)))) G (kU d m 10 (sk t n p))) : AM E mX7_look k 0 0 [kR m] G (kU d m 10 p) K := by
  obtain ⟨ho, e0, a0, e1, a1, e2, a2, -⟩ := id hM
  have loop : ∀ (q : Nat) (x : Int), (n - x).toNat < q → 0 ≤ x → x ≤ n → sk t n x = sk t n p → AW E mX7_look k 0 0 0 [some (kR m)] [] G (kU d m 10 x) K := by
    intro q
    induction q with
    | zero => intro x h; omega
    | succ q ih =>
      intro x hq hx hxn hs
      have f3 : kU d m 10 x m 3 = n := by rw [kU_f (by decide)]; exact hT.1
      have f10 : kU d m 10 x m 10 = x := kU_s
      have tx : x < n → kU d m 10 x (m + 3) x = t x := fun h => by rw [kU_ne (by omega)]; exact hT.2 x hx h
      have fin : ¬ (x < n ∧ t x = 32) → AW E mX7_look k 0 0 38 [some (kR m)] [] G (kU d m 10 x) K := fun h => by
        rw [sk_s h] at hs
        subst hs
        refine A_aload_n dX7_look_38 rfl rfl ?_
        refine A_get (fi := 10) dX7_look_39 fg_X7_110 rfl rfl (by assumption) ?_
        refine A_aload_n dX7_look_42 rfl rfl ?_
        refine A_get (fi := 3) dX7_look_43 fg_X7_106 rfl rfl (by assumption) ?_
        refine A_icmp_ge (tgt := 61) dX7_look_46 (by decide) (fun c_46 => ?_) (fun c_46 => ?_)
        · refine A_iconst dX7_look_61 ⟨by decide, by decide⟩ ?_
          refine A_iret dX7_look_62 rfl ?_
          unfold ch at hK
          rw [if_neg (by omega)] at hK
          exact hK
        · refine A_aload_n dX7_look_49 rfl rfl ?_
          refine A_getR (fi := 2) dX7_look_50 fg_X7_17 rfl rfl (by assumption) (by assumption) ?_
          refine A_aload_n dX7_look_53 rfl rfl ?_
          refine A_get (fi := 10) dX7_look_54 fg_X7_110 rfl rfl (by assumption) ?_
          refine A_iald dX7_look_57 (by assumption) (by omega) (by omega) ?_
          refine A_goto (tgt := 62) dX7_look_58 (by decide) ?_
          refine A_iret dX7_look_62 rfl ?_
          unfold ch at hK
          rw [if_pos (by omega), ← tx (by omega)] at hK
          rw [f10]
          exact hK
      refine A_aload_n dX7_look_0 rfl rfl ?_
      refine A_get (fi := 10) dX7_look_1 fg_X7_110 rfl rfl (by assumption) ?_
      refine A_aload_n dX7_look_4 rfl rfl ?_
      refine A_get (fi := 3) dX7_look_5 fg_X7_106 rfl rfl (by assumption) ?_
      refine A_icmp_ge (tgt := 38) dX7_look_8 (by decide) (fun c_8 => ?_) (fun c_8 => ?_)
      · skip
        exact fin (by omega)
      · refine A_aload_n dX7_look_11 rfl rfl ?_
        refine A_getR (fi := 2) dX7_look_12 fg_X7_17 rfl rfl (by assumption) (by assumption) ?_
        refine A_aload_n dX7_look_15 rfl rfl ?_
        refine A_get (fi := 10) dX7_look_16 fg_X7_110 rfl rfl (by assumption) ?_
        refine A_iald dX7_look_19 (by assumption) (by omega) (by omega) ?_
        refine A_bipush dX7_look_20 ⟨by decide, by decide⟩ rfl ?_
        refine A_icmp_ne (tgt := 38) dX7_look_22 (by decide) (fun c_22 => ?_) (fun c_22 => ?_)
        · rw [f10, tx (by omega)] at c_22
          exact fin (by omega)
        · rw [f10, tx (by omega)] at c_22
          refine A_aload_n dX7_look_25 rfl rfl ?_
          refine A_dup dX7_look_26 (fun B => toV_cat B _) ?_
          refine A_get (fi := 10) dX7_look_27 fg_X7_110 rfl rfl (by assumption) ?_
          refine A_iconst dX7_look_30 ⟨by decide, by decide⟩ ?_
          refine A_iadd_ok dX7_look_31 (by omega) (by omega) ?_
          refine A_put (fi := 10) dX7_look_32 fp_X7_110 rfl rfl (by assumption) ?_
          refine A_goto (tgt := 0) dX7_look_35 (by decide) ?_
          rw [f10, kU_2]
          exact ih (x + 1) (by omega) (by omega) (by omega) (by rw [← sk_b (by omega) c_22]; exact hs)
  refine AM.of rfl (Nat.le_of_ble_eq_true rfl) ?_
  exact loop _ p (Nat.lt_succ_self _) h0 h1 rfl
theorem C_isDigit {p x : Int} (hM : MO G m) (hT : TZ d m n t) (hn : n ≤ 100) (h0 : 0 ≤ x) (hK : K (some (kI (if isD t n x then 1 else 0))) G (kU d m 10 p)) : AM E mX7_isDigit (k + 1) 0 0 [kR m, kI x] G (kU d m 10 p) K := by
  obtain ⟨ho, e0, a0, e1, a1, e2, a2, -⟩ := id hM
  have f3 : kU d m 10 p m 3 = n := by rw [kU_f (by decide)]; exact hT.1
  have tx : x < n → kU d m 10 p (m + 3) x = t x := fun h => by rw [kU_ne (by omega)]; exact hT.2 x h0 h
  refine AM.of rfl (Nat.le_of_ble_eq_true rfl) ?_
  refine A_iload_n dX7_isDigit_0 rfl rfl ?_
  refine A_aload_n dX7_isDigit_1 rfl rfl ?_
  refine A_get (fi := 3) dX7_isDigit_2 fg_X7_106 rfl rfl (by assumption) ?_
  refine A_icmp_ge (tgt := 31) dX7_isDigit_5 (by decide) (fun c_5 => ?_) (fun c_5 => ?_)
  · refine A_iconst dX7_isDigit_31 ⟨by decide, by decide⟩ ?_
    refine A_zret dX7_isDigit_32 rfl (by first | exact Or.inl rfl | exact Or.inr rfl | assumption | omega) ?_
    rw [if_neg (by omega)] at hK
    exact hK
  · refine A_aload_n dX7_isDigit_8 rfl rfl ?_
    refine A_getR (fi := 2) dX7_isDigit_9 fg_X7_17 rfl rfl (by assumption) (by assumption) ?_
    refine A_iload_n dX7_isDigit_12 rfl rfl ?_
    refine A_iald dX7_isDigit_13 (by assumption) (by omega) (by omega) ?_
    refine A_i2l dX7_isDigit_14 ?_
    refine A_ldc2 (x := 48) dX7_isDigit_15 cs_X7_113 rfl ⟨by decide, by decide⟩ ?_
    refine A_ldc2 (x := 57) dX7_isDigit_18 cs_X7_115 rfl ⟨by decide, by decide⟩ ?_
    refine A_ins3 dX7_isDigit_21 ms_X7_53 (Nat.le_of_ble_eq_true rfl) ?_
    refine C_in ?_
    refine A_if_eq (tgt := 31) dX7_isDigit_24 (by decide) (fun c_24 => ?_) (fun c_24 => ?_)
    · rw [tx (by omega)] at c_24
      replace c_24 := i01e c_24
      refine A_iconst dX7_isDigit_31 ⟨by decide, by decide⟩ ?_
      refine A_zret dX7_isDigit_32 rfl (by first | exact Or.inl rfl | exact Or.inr rfl | assumption | omega) ?_
      rw [if_neg (by omega)] at hK
      exact hK
    · rw [tx (by omega)] at c_24
      replace c_24 := i01n c_24
      refine A_iconst dX7_isDigit_27 ⟨by decide, by decide⟩ ?_
      refine A_goto (tgt := 32) dX7_isDigit_28 (by decide) ?_
      refine A_zret dX7_isDigit_32 rfl (by first | exact Or.inl rfl | exact Or.inr rfl | assumption | omega) ?_
      rw [if_pos ⟨by omega, c_24.1, c_24.2⟩] at hK
      exact hK
theorem C_claim {p : Int} (hM : MO G m) (hT : TZ d m n t) (hn : n ≤ 100) (h0 : 0 ≤ p) (h1 : p ≤ n) (hK : K (some (kI (if (clP t n (sk t n p)).1 = true then 1 else 0))) G (kU d m 10 (clP t n (sk t n p)).2)) : AM E mX7_claim (k + 2) 0 0 [kR m] G (kU d m 10 p) K := by
  obtain ⟨ho, e0, a0, e1, a1, e2, a2, -⟩ := id hM
  have g1 := sk_ge (t := t) (n := n) p
  have l1 := sk_le (t := t) h1
  have fU10 : ∀ x, kU d m 10 x m 10 = x := fun x => kU_s
  have f1 := fU10 (sk t n p)
  generalize hy : sk t n p = y at *
  have rest : (ch t n y = 103 ∨ ch t n y = 100 ∨ ch t n y = 111 ∨ ch t n y = 118) → ∀ q1 : Int, AW E mX7_claim (k + 2) 0 0 49 [some (kR m), some (kI q1), none] [] G (kU d m 10 y) K := by
    intro hc q1
    have y1 := ch_lt (t := t) (n := n) (p := y) (by omega)
    have g2 := sk_ge (t := t) (n := n) (y + 1)
    have l2 := sk_le (t := t) (n := n) (p := y + 1) (by omega)
    have f2 := fU10 (sk t n (y + 1))
    refine A_aload_n dX7_claim_49 rfl rfl ?_
    refine A_dup dX7_claim_50 (fun B => toV_cat B _) ?_
    refine A_get (fi := 10) dX7_claim_51 fg_X7_110 rfl rfl (by assumption) ?_
    refine A_iconst dX7_claim_54 ⟨by decide, by decide⟩ ?_
    refine A_iadd_ok dX7_claim_55 (by omega) (by omega) ?_
    refine A_put (fi := 10) dX7_claim_56 fp_X7_110 rfl rfl (by assumption) ?_
    rw [f1, kU_2]
    refine A_aload_n dX7_claim_59 rfl rfl ?_
    refine A_inv0 dX7_claim_60 mv_X7_117 kCl_7 (Nat.le_of_ble_eq_true rfl) (by assumption) ?_
    refine C_look hM hT hn (by omega) (by omega) ?_
    have tail : (ch t n (sk t n (y + 1)) = 60 ∨ ch t n (sk t n (y + 1)) = 62 ∨ ch t n (sk t n (y + 1)) = 61) → ∀ q2 : Int, AW E mX7_claim (k + 2) 0 0 84 [some (kR m), some (kI q1), some (kI q2)] [] G (kU d m 10 (sk t n (y + 1))) K := by
      intro hb q2
      have y2 := ch_lt (t := t) (n := n) (p := sk t n (y + 1)) (by omega)
      have g3 := sk_ge (t := t) (n := n) (sk t n (y + 1) + 1)
      have l3 := sk_le (t := t) (n := n) (p := sk t n (y + 1) + 1) (by omega)
      have f3 := fU10 (sk t n (sk t n (y + 1) + 1))
      have dig : c3 t n y ≤ n → AW E mX7_claim (k + 2) 0 0 118 [some (kR m), some (kI q1), some (kI q2)] [] G (kU d m 10 (c3 t n y)) K := by
        intro l4
        have g4 := c3_ge (t := t) (n := n) y
        have f4 := fU10 (c3 t n y)
        have f5 := fU10 (c3 t n y + 1)
        refine A_aload_n dX7_claim_118 rfl rfl ?_
        refine A_aload_n dX7_claim_119 rfl rfl ?_
        refine A_get (fi := 10) dX7_claim_120 fg_X7_110 rfl rfl (by assumption) ?_
        refine A_inv1 dX7_claim_123 mv_X7_121 kCl_7 (Nat.le_of_ble_eq_true rfl) (by assumption) ?_
        rw [f4]
        refine C_isDigit hM hT hn (by omega) ?_
        refine A_if_ne (tgt := 131) dX7_claim_126 (by decide) (fun c_126 => ?_) (fun c_126 => ?_)
        · replace c_126 := i01n c_126
          refine A_aload_n dX7_claim_131 rfl rfl ?_
          refine A_dup dX7_claim_132 (fun B => toV_cat B _) ?_
          refine A_get (fi := 10) dX7_claim_133 fg_X7_110 rfl rfl (by assumption) ?_
          refine A_iconst dX7_claim_136 ⟨by decide, by decide⟩ ?_
          refine A_iadd_ok dX7_claim_137 (by omega) (by omega) ?_
          refine A_put (fi := 10) dX7_claim_138 fp_X7_110 rfl rfl (by assumption) ?_
          rw [f4, kU_2]
          have e : clP t n y = (true, c5 t n y) := by
            unfold clP
            rw [if_neg (by omega), if_neg (by omega), if_neg (by omega), if_neg (Classical.not_not.mpr c_126)]
          rw [e] at hK
          have hlt := c_126.1
          refine A_aload_n dX7_claim_141 rfl rfl ?_
          refine A_aload_n dX7_claim_142 rfl rfl ?_
          refine A_aload_n dX7_claim_143 rfl rfl ?_
          refine A_get (fi := 10) dX7_claim_144 fg_X7_110 rfl rfl (by assumption) ?_
          refine A_inv1 dX7_claim_147 mv_X7_121 kCl_7 (Nat.le_of_ble_eq_true rfl) (by assumption) ?_
          rw [f5]
          refine C_isDigit hM hT hn (by omega) ?_
          refine A_if_eq (tgt := 162) dX7_claim_150 (by decide) (fun c_150 => ?_) (fun c_150 => ?_)
          · replace c_150 := i01e c_150
            refine A_aload_n dX7_claim_162 rfl rfl ?_
            refine A_get (fi := 10) dX7_claim_163 fg_X7_110 rfl rfl (by assumption) ?_
            refine A_put (fi := 10) dX7_claim_166 fp_X7_110 rfl rfl (by assumption) ?_
            refine A_iconst dX7_claim_169 ⟨by decide, by decide⟩ ?_
            refine A_zret dX7_claim_170 rfl (by first | exact Or.inl rfl | exact Or.inr rfl | assumption | omega) ?_
            rw [f5, kU_2]
            unfold c5 at hK
            rw [if_neg c_150] at hK
            exact hK
          · have hlt2 := c_150
            replace c_150 := i01n c_150
            refine A_aload_n dX7_claim_153 rfl rfl ?_
            refine A_get (fi := 10) dX7_claim_154 fg_X7_110 rfl rfl (by assumption) ?_
            refine A_iconst dX7_claim_157 ⟨by decide, by decide⟩ ?_
            refine A_iadd_ok dX7_claim_158 (by omega) (by omega) ?_
            refine A_goto (tgt := 166) dX7_claim_159 (by decide) ?_
            refine A_put (fi := 10) dX7_claim_166 fp_X7_110 rfl rfl (by assumption) ?_
            refine A_iconst dX7_claim_169 ⟨by decide, by decide⟩ ?_
            refine A_zret dX7_claim_170 rfl (by first | exact Or.inl rfl | exact Or.inr rfl | assumption | omega) ?_
            rw [f5, kU_2]
            unfold c5 at hK
            rw [if_pos c_150] at hK
            exact hK
        · replace c_126 := i01e c_126
          refine A_iconst dX7_claim_129 ⟨by decide, by decide⟩ ?_
          refine A_zret dX7_claim_130 rfl (by first | exact Or.inl rfl | exact Or.inr rfl | assumption | omega) ?_
          have e : clP t n y = (false, c3 t n y) := by
            unfold clP
            rw [if_neg (by omega), if_neg (by omega), if_neg (by omega), if_pos c_126]
          rw [e] at hK
          exact hK
      refine A_aload_n dX7_claim_84 rfl rfl ?_
      refine A_dup dX7_claim_85 (fun B => toV_cat B _) ?_
      refine A_get (fi := 10) dX7_claim_86 fg_X7_110 rfl rfl (by assumption) ?_
      refine A_iconst dX7_claim_89 ⟨by decide, by decide⟩ ?_
      refine A_iadd_ok dX7_claim_90 (by omega) (by omega) ?_
      refine A_put (fi := 10) dX7_claim_91 fp_X7_110 rfl rfl (by assumption) ?_
      rw [f2, kU_2]
      refine A_aload_n dX7_claim_94 rfl rfl ?_
      refine A_inv0 dX7_claim_95 mv_X7_117 kCl_7 (Nat.le_of_ble_eq_true rfl) (by assumption) ?_
      refine C_look hM hT hn (by omega) (by omega) ?_
      refine A_bipush dX7_claim_98 ⟨by decide, by decide⟩ rfl ?_
      refine A_icmp_ne (tgt := 113) dX7_claim_100 (by decide) (fun c_100 => ?_) (fun c_100 => ?_)
      · have e3 : c3 t n y = sk t n (sk t n (y + 1) + 1) := by unfold c3; rw [if_neg c_100]
        refine A_aload_n dX7_claim_113 rfl rfl ?_
        refine A_inv0 dX7_claim_114 mv_X7_117 kCl_7 (Nat.le_of_ble_eq_true rfl) (by assumption) ?_
        refine C_look hM hT hn (by omega) (by omega) ?_
        rw [sk_sk]
        refine A_pop dX7_claim_117 (fun B => toV_cat B _) ?_
        have := dig (by omega)
        rw [e3] at this
        exact this
      · have y3 := ch_lt (t := t) (n := n) (p := sk t n (sk t n (y + 1) + 1)) (by omega)
        have e3 : c3 t n y = sk t n (sk t n (sk t n (y + 1) + 1) + 1) := by unfold c3; rw [if_pos c_100]
        have l4 := sk_le (t := t) (n := n) (p := sk t n (sk t n (y + 1) + 1) + 1) (by omega)
        refine A_aload_n dX7_claim_103 rfl rfl ?_
        refine A_dup dX7_claim_104 (fun B => toV_cat B _) ?_
        refine A_get (fi := 10) dX7_claim_105 fg_X7_110 rfl rfl (by assumption) ?_
        refine A_iconst dX7_claim_108 ⟨by decide, by decide⟩ ?_
        refine A_iadd_ok dX7_claim_109 (by omega) (by omega) ?_
        refine A_put (fi := 10) dX7_claim_110 fp_X7_110 rfl rfl (by assumption) ?_
        rw [f3, kU_2]
        refine A_aload_n dX7_claim_113 rfl rfl ?_
        refine A_inv0 dX7_claim_114 mv_X7_117 kCl_7 (Nat.le_of_ble_eq_true rfl) (by assumption) ?_
        refine C_look hM hT hn (by omega) (by omega) ?_
        refine A_pop dX7_claim_117 (fun B => toV_cat B _) ?_
        have := dig (by omega)
        rw [e3] at this
        exact this
    refine A_istore_n dX7_claim_63 rfl (Nat.le_of_ble_eq_true rfl) rfl ?_
    refine A_iload_n dX7_claim_64 rfl rfl ?_
    refine A_bipush dX7_claim_65 ⟨by decide, by decide⟩ rfl ?_
    refine A_icmp_eq (tgt := 84) dX7_claim_67 (by decide) (fun c_67 => ?_) (fun c_67 => ?_)
    · skip
      exact tail (by omega) _
    · refine A_iload_n dX7_claim_70 rfl rfl ?_
      refine A_bipush dX7_claim_71 ⟨by decide, by decide⟩ rfl ?_
      refine A_icmp_eq (tgt := 84) dX7_claim_73 (by decide) (fun c_73 => ?_) (fun c_73 => ?_)
      · skip
        exact tail (by omega) _
      · refine A_iload_n dX7_claim_76 rfl rfl ?_
        refine A_bipush dX7_claim_77 ⟨by decide, by decide⟩ rfl ?_
        refine A_icmp_eq (tgt := 84) dX7_claim_79 (by decide) (fun c_79 => ?_) (fun c_79 => ?_)
        · skip
          exact tail (by omega) _
        · refine A_iconst dX7_claim_82 ⟨by decide, by decide⟩ ?_
          refine A_zret dX7_claim_83 rfl (by first | exact Or.inl rfl | exact Or.inr rfl | assumption | omega) ?_
          have e : clP t n y = (false, sk t n (y + 1)) := by
            unfold clP
            rw [if_neg (by omega), if_neg (by omega), if_pos (by omega)]
          rw [e] at hK
          exact hK
  refine AM.of rfl (Nat.le_of_ble_eq_true rfl) ?_
  refine A_aload_n dX7_claim_0 rfl rfl ?_
  refine A_inv0 dX7_claim_1 mv_X7_117 kCl_7 (Nat.le_of_ble_eq_true rfl) (by assumption) ?_
  refine C_look hM hT hn (by omega) (by omega) ?_
  rw [hy]
  refine A_istore_n dX7_claim_4 rfl (Nat.le_of_ble_eq_true rfl) rfl ?_
  refine A_iload_n dX7_claim_5 rfl rfl ?_
  refine A_bipush dX7_claim_6 ⟨by decide, by decide⟩ rfl ?_
  refine A_icmp_ne (tgt := 23) dX7_claim_8 (by decide) (fun c_8 => ?_) (fun c_8 => ?_)
  · refine A_iload_n dX7_claim_23 rfl rfl ?_
    refine A_bipush dX7_claim_24 ⟨by decide, by decide⟩ rfl ?_
    refine A_icmp_eq (tgt := 49) dX7_claim_26 (by decide) (fun c_26 => ?_) (fun c_26 => ?_)
    · skip
      exact rest (by omega) _
    · refine A_iload_n dX7_claim_29 rfl rfl ?_
      refine A_bipush dX7_claim_30 ⟨by decide, by decide⟩ rfl ?_
      refine A_icmp_eq (tgt := 49) dX7_claim_32 (by decide) (fun c_32 => ?_) (fun c_32 => ?_)
      · skip
        exact rest (by omega) _
      · refine A_iload_n dX7_claim_35 rfl rfl ?_
        refine A_bipush dX7_claim_36 ⟨by decide, by decide⟩ rfl ?_
        refine A_icmp_eq (tgt := 49) dX7_claim_38 (by decide) (fun c_38 => ?_) (fun c_38 => ?_)
        · skip
          exact rest (by omega) _
        · refine A_iload_n dX7_claim_41 rfl rfl ?_
          refine A_bipush dX7_claim_42 ⟨by decide, by decide⟩ rfl ?_
          refine A_icmp_eq (tgt := 49) dX7_claim_44 (by decide) (fun c_44 => ?_) (fun c_44 => ?_)
          · skip
            exact rest (by omega) _
          · refine A_iconst dX7_claim_47 ⟨by decide, by decide⟩ ?_
            refine A_zret dX7_claim_48 rfl (by first | exact Or.inl rfl | exact Or.inr rfl | assumption | omega) ?_
            have e : clP t n y = (false, y) := by
              unfold clP
              rw [if_neg (by omega), if_pos (by omega)]
            rw [e] at hK
            exact hK
  · have y1 := ch_lt (t := t) (n := n) (p := y) (by omega)
    refine A_aload_n dX7_claim_11 rfl rfl ?_
    refine A_dup dX7_claim_12 (fun B => toV_cat B _) ?_
    refine A_get (fi := 10) dX7_claim_13 fg_X7_110 rfl rfl (by assumption) ?_
    refine A_iconst dX7_claim_16 ⟨by decide, by decide⟩ ?_
    refine A_iadd_ok dX7_claim_17 (by omega) (by omega) ?_
    refine A_put (fi := 10) dX7_claim_18 fp_X7_110 rfl rfl (by assumption) ?_
    refine A_iconst dX7_claim_21 ⟨by decide, by decide⟩ ?_
    refine A_zret dX7_claim_22 rfl (by first | exact Or.inl rfl | exact Or.inr rfl | assumption | omega) ?_
    rw [f1, kU_2]
    have e : clP t n y = (true, y + 1) := by
      unfold clP
      rw [if_pos (by omega)]
    rw [e] at hK
    exact hK
theorem C_test {p : Int} (hM : MO G m) (hT : TZ d m n t) (hn : n ≤ 100) (h0 : 0 ≤ p) (h1 : p ≤ n) (hK : K (some (kI (if (tE t n false 0 p).1 = true then 1 else 0))) G (kU d m 10 (tE t n false 0 p).2)) : AM E mX7_test (k + 3) 0 0 [kR m] G (kU d m 10 p) K := by
  obtain ⟨ho, e0, a0, e1, a1, e2, a2, -⟩ := id hM
  have fU10 : ∀ x, kU d m 10 x m 10 = x := fun x => kU_s
  have loop : ∀ (q : Nat), (∀ (o x : Int), (n - x).toNat < q → 0 ≤ x → x ≤ n → 0 ≤ o → o ≤ 4 → tE t n false o x = tE t n false 0 p → ∀ q2 : Option AV, AW E mX7_test (k + 3) 0 0 2 [some (kR m), some (kI o), q2] [] G (kU d m 10 x) K) ∧ (∀ (o x : Int), (n - x).toNat < q → 0 ≤ x → x ≤ n → 0 ≤ o → o ≤ 4 → tE t n true o x = tE t n false 0 p → ∀ q2 : Option AV, AW E mX7_test (k + 3) 0 0 62 [some (kR m), some (kI o), q2] [] G (kU d m 10 x) K) := by
    intro q
    induction q with
    | zero => exact ⟨fun o x h => by omega, fun o x h => by omega⟩
    | succ q ih =>
      obtain ⟨ihF, ihA⟩ := ih
      constructor
      · intro o x hq hx hxn ho1 ho2 he q2
        rw [tE_F hxn] at he
        have g1 := sk_ge (t := t) (n := n) x
        have l1 := sk_le (t := t) hxn
        have gn := nb_ge (t := t) (n := n) x
        have ln := nb_le (t := t) hxn
        have f1 := fU10 (sk t n x)
        have f2 := fU10 (nb t n x)
        have bare : ∀ y, sk t n y = nb t n x → 0 ≤ y → y ≤ n → AW E mX7_test (k + 3) 0 0 21 [some (kR m), some (kI o), q2] [] G (kU d m 10 y) K := by
          intro y hy y0 yn
          refine A_aload_n dX7_test_21 rfl rfl ?_
          refine A_inv0 dX7_test_22 mv_X7_117 kCl_7 (Nat.le_of_ble_eq_true rfl) (by assumption) ?_
          refine C_look hM hT hn y0 yn ?_
          rw [hy]
          refine A_bipush dX7_test_25 ⟨by decide, by decide⟩ rfl ?_
          refine A_icmp_ne (tgt := 53) dX7_test_27 (by decide) (fun c_27 => ?_) (fun c_27 => ?_)
          · rw [if_neg c_27] at he
            refine A_aload_n dX7_test_53 rfl rfl ?_
            refine A_inv0 dX7_test_54 mv_X7_124 kCl_7 (Nat.le_of_ble_eq_true rfl) (by assumption) ?_
            refine C_claim hM hT hn (by omega) (by omega) ?_
            rw [nb_sk]
            refine A_if_ne (tgt := 62) dX7_test_57 (by decide) (fun c_57 => ?_) (fun c_57 => ?_)
            · replace c_57 := i01n c_57
              rw [if_pos c_57] at he
              have := clP_ok c_57
              exact ihA o _ (by omega) (by omega) (by omega) (by omega) (by omega) he q2
            · replace c_57 := i01e c_57
              rw [if_neg c_57] at he
              refine A_iconst dX7_test_60 ⟨by decide, by decide⟩ ?_
              refine A_zret dX7_test_61 rfl (by first | exact Or.inl rfl | exact Or.inr rfl | assumption | omega) ?_
              rw [← he] at hK
              exact hK
          · rw [if_pos c_27] at he
            have y1 := ch_lt (t := t) (n := n) (p := nb t n x) (by omega)
            refine A_iload_n dX7_test_30 rfl rfl ?_
            refine A_iconst dX7_test_31 ⟨by decide, by decide⟩ ?_
            refine A_icmp_ne (tgt := 37) dX7_test_32 (by decide) (fun c_32 => ?_) (fun c_32 => ?_)
            · rw [if_neg c_32] at he
              refine A_iinc_ok dX7_test_37 rfl rfl (by omega) (by omega) ?_
              refine A_aload_n dX7_test_40 rfl rfl ?_
              refine A_dup dX7_test_41 (fun B => toV_cat B _) ?_
              refine A_get (fi := 10) dX7_test_42 fg_X7_110 rfl rfl (by assumption) ?_
              refine A_iconst dX7_test_45 ⟨by decide, by decide⟩ ?_
              refine A_iadd_ok dX7_test_46 (by omega) (by omega) ?_
              refine A_put (fi := 10) dX7_test_47 fp_X7_110 rfl rfl (by assumption) ?_
              refine A_goto (tgt := 2) dX7_test_50 (by decide) ?_
              rw [f2, kU_2]
              exact ihF (o + 1) (nb t n x + 1) (by omega) (by omega) (by omega) (by omega) (by omega) he q2
            · rw [if_pos c_32] at he
              refine A_iconst dX7_test_35 ⟨by decide, by decide⟩ ?_
              refine A_zret dX7_test_36 rfl (by first | exact Or.inl rfl | exact Or.inr rfl | assumption | omega) ?_
              rw [← he] at hK
              exact hK
        refine A_aload_n dX7_test_2 rfl rfl ?_
        refine A_inv0 dX7_test_3 mv_X7_117 kCl_7 (Nat.le_of_ble_eq_true rfl) (by assumption) ?_
        refine C_look hM hT hn hx hxn ?_
        refine A_bipush dX7_test_6 ⟨by decide, by decide⟩ rfl ?_
        refine A_icmp_ne (tgt := 21) dX7_test_8 (by decide) (fun c_8 => ?_) (fun c_8 => ?_)
        · skip
          exact bare (sk t n x) (by rw [sk_sk]; unfold nb; rw [if_neg c_8]) (by omega) (by omega)
        · have y1 := ch_lt (t := t) (n := n) (p := sk t n x) (by omega)
          refine A_aload_n dX7_test_11 rfl rfl ?_
          refine A_dup dX7_test_12 (fun B => toV_cat B _) ?_
          refine A_get (fi := 10) dX7_test_13 fg_X7_110 rfl rfl (by assumption) ?_
          refine A_iconst dX7_test_16 ⟨by decide, by decide⟩ ?_
          refine A_iadd_ok dX7_test_17 (by omega) (by omega) ?_
          refine A_put (fi := 10) dX7_test_18 fp_X7_110 rfl rfl (by assumption) ?_
          rw [f1, kU_2]
          exact bare (sk t n x + 1) (by unfold nb; rw [if_pos c_8]) (by omega) (by omega)
      · intro o x hq hx hxn ho1 ho2 he q2
        rw [tE_A hxn] at he
        have g1 := sk_ge (t := t) (n := n) x
        have l1 := sk_le (t := t) hxn
        have f1 := fU10 (sk t n x)
        have tail : ¬ (ch t n (sk t n x) = 41 ∧ 0 < o) → AW E mX7_test (k + 3) 0 0 91 [some (kR m), some (kI o), q2] [] G (kU d m 10 (sk t n x)) K := by
          intro hne
          rw [if_neg hne] at he
          refine A_aload_n dX7_test_91 rfl rfl ?_
          refine A_inv0 dX7_test_92 mv_X7_117 kCl_7 (Nat.le_of_ble_eq_true rfl) (by assumption) ?_
          refine C_look hM hT hn (by omega) (by omega) ?_
          rw [sk_sk]
          have go : (ch t n (sk t n x) = 38 ∨ ch t n (sk t n x) = 124) → AW E mX7_test (k + 3) 0 0 120 [some (kR m), some (kI o), some (kI (ch t n (sk t n x)))] [] G (kU d m 10 (sk t n x)) K := by
            intro hc
            rw [if_pos hc] at he
            have y1 := ch_lt (t := t) (n := n) (p := sk t n x) (by omega)
            refine A_aload_n dX7_test_120 rfl rfl ?_
            refine A_dup dX7_test_121 (fun B => toV_cat B _) ?_
            refine A_get (fi := 10) dX7_test_122 fg_X7_110 rfl rfl (by assumption) ?_
            refine A_iconst dX7_test_125 ⟨by decide, by decide⟩ ?_
            refine A_iadd_ok dX7_test_126 (by omega) (by omega) ?_
            refine A_put (fi := 10) dX7_test_127 fp_X7_110 rfl rfl (by assumption) ?_
            refine A_iload_n dX7_test_130 rfl rfl ?_
            refine A_bipush dX7_test_131 ⟨by decide, by decide⟩ rfl ?_
            refine A_icmp_ne (tgt := 138) dX7_test_133 (by decide) (fun c_133 => ?_) (fun c_133 => absurd c_133 (by omega))
            refine A_goto (tgt := 2) dX7_test_138 (by decide) ?_
            rw [f1, kU_2]
            exact ihF o _ (by omega) (by omega) (by omega) (by omega) (by omega) he _
          refine A_istore_n dX7_test_95 rfl (Nat.le_of_ble_eq_true rfl) rfl ?_
          refine A_iload_n dX7_test_96 rfl rfl ?_
          refine A_bipush dX7_test_97 ⟨by decide, by decide⟩ rfl ?_
          refine A_icmp_eq (tgt := 120) dX7_test_99 (by decide) (fun c_99 => ?_) (fun c_99 => ?_)
          · skip
            exact go (by omega)
          · refine A_iload_n dX7_test_102 rfl rfl ?_
            refine A_bipush dX7_test_103 ⟨by decide, by decide⟩ rfl ?_
            refine A_icmp_eq (tgt := 120) dX7_test_105 (by decide) (fun c_105 => ?_) (fun c_105 => ?_)
            · skip
              exact go (by omega)
            · rw [if_neg (by omega)] at he
              refine A_iload_n dX7_test_108 rfl rfl ?_
              refine A_bipush dX7_test_109 ⟨by decide, by decide⟩ rfl ?_
              refine A_icmp_ne (tgt := 118) dX7_test_111 (by decide) (fun c_111 => ?_) (fun c_111 => ?_)
              · refine A_iconst dX7_test_118 ⟨by decide, by decide⟩ ?_
                refine A_zret dX7_test_119 rfl (by first | exact Or.inl rfl | exact Or.inr rfl | assumption | omega) ?_
                rw [if_neg (by omega)] at he
                rw [← he] at hK
                exact hK
              · have y1 := ch_lt (t := t) (n := n) (p := sk t n x) (by omega)
                refine A_iload_n dX7_test_114 rfl rfl ?_
                refine A_if_le (tgt := 120) dX7_test_115 (by decide) (fun c_115 => ?_) (fun c_115 => ?_)
                · refine A_aload_n dX7_test_120 rfl rfl ?_
                  refine A_dup dX7_test_121 (fun B => toV_cat B _) ?_
                  refine A_get (fi := 10) dX7_test_122 fg_X7_110 rfl rfl (by assumption) ?_
                  refine A_iconst dX7_test_125 ⟨by decide, by decide⟩ ?_
                  refine A_iadd_ok dX7_test_126 (by omega) (by omega) ?_
                  refine A_put (fi := 10) dX7_test_127 fp_X7_110 rfl rfl (by assumption) ?_
                  refine A_iload_n dX7_test_130 rfl rfl ?_
                  refine A_bipush dX7_test_131 ⟨by decide, by decide⟩ rfl ?_
                  refine A_icmp_ne (tgt := 138) dX7_test_133 (by decide) (fun c_133 => absurd c_133 (by omega)) (fun c_133 => ?_)
                  refine A_iconst dX7_test_136 ⟨by decide, by decide⟩ ?_
                  refine A_zret dX7_test_137 rfl (by first | exact Or.inl rfl | exact Or.inr rfl | assumption | omega) ?_
                  rw [if_pos (by omega)] at he
                  rw [← he] at hK
                  rw [f1, kU_2]
                  exact hK
                · refine A_iconst dX7_test_118 ⟨by decide, by decide⟩ ?_
                  refine A_zret dX7_test_119 rfl (by first | exact Or.inl rfl | exact Or.inr rfl | assumption | omega) ?_
                  rw [if_neg (by omega)] at he
                  rw [← he] at hK
                  exact hK
        refine A_aload_n dX7_test_62 rfl rfl ?_
        refine A_inv0 dX7_test_63 mv_X7_117 kCl_7 (Nat.le_of_ble_eq_true rfl) (by assumption) ?_
        refine C_look hM hT hn hx hxn ?_
        refine A_bipush dX7_test_66 ⟨by decide, by decide⟩ rfl ?_
        refine A_icmp_ne (tgt := 91) dX7_test_68 (by decide) (fun c_68 => ?_) (fun c_68 => ?_)
        · skip
          exact tail (by omega)
        · refine A_iload_n dX7_test_71 rfl rfl ?_
          refine A_if_le (tgt := 91) dX7_test_72 (by decide) (fun c_72 => ?_) (fun c_72 => ?_)
          · skip
            exact tail (by omega)
          · have y1 := ch_lt (t := t) (n := n) (p := sk t n x) (by omega)
            rw [if_pos (by omega)] at he
            refine A_iinc_ok dX7_test_75 rfl rfl (by omega) (by omega) ?_
            refine A_aload_n dX7_test_78 rfl rfl ?_
            refine A_dup dX7_test_79 (fun B => toV_cat B _) ?_
            refine A_get (fi := 10) dX7_test_80 fg_X7_110 rfl rfl (by assumption) ?_
            refine A_iconst dX7_test_83 ⟨by decide, by decide⟩ ?_
            refine A_iadd_ok dX7_test_84 (by omega) (by omega) ?_
            refine A_put (fi := 10) dX7_test_85 fp_X7_110 rfl rfl (by assumption) ?_
            refine A_goto (tgt := 62) dX7_test_88 (by decide) ?_
            rw [f1, kU_2]
            exact ihA (o + (-1)) _ (by omega) (by omega) (by omega) (by omega) (by omega) he q2
  refine AM.of rfl (Nat.le_of_ble_eq_true rfl) ?_
  refine A_iconst dX7_test_0 ⟨by decide, by decide⟩ ?_
  refine A_istore_n dX7_test_1 rfl (Nat.le_of_ble_eq_true rfl) rfl ?_
  exact (loop _).1 0 p (Nat.lt_succ_self _) h0 h1 (by omega) (by omega) rfl none
theorem C_act {p : Int} (hM : MO G m) (hT : TZ d m n t) (hn : n ≤ 100) (h0 : 0 ≤ p) (h1 : p ≤ n) (hK : K (some (kI (if (acP t n p).1 = true then 1 else 0))) G (kU d m 10 (acP t n p).2)) : AM E mX7_act (k + 2) 0 0 [kR m] G (kU d m 10 p) K := by
  obtain ⟨ho, e0, a0, e1, a1, e2, a2, -⟩ := id hM
  have fU10 : ∀ x, kU d m 10 x m 10 = x := fun x => kU_s
  have g1 := sk_ge (t := t) (n := n) p
  have l1 := sk_le (t := t) h1
  have f1 := fU10 (sk t n p)
  have rest : (ch t n (sk t n p) = 43 ∨ ch t n (sk t n p) = 45 ∨ ch t n (sk t n p) = 61) → ∀ q1 : Int, AW E mX7_act (k + 2) 0 0 25 [some (kR m), some (kI q1)] [] G (kU d m 10 (sk t n p)) K := by
    intro hc q1
    have y1 := ch_lt (t := t) (n := n) (p := sk t n p) (by omega)
    have g2 := sk_ge (t := t) (n := n) (sk t n p + 1)
    have l2 := sk_le (t := t) (n := n) (p := sk t n p + 1) (by omega)
    have f2 := fU10 (sk t n (sk t n p + 1))
    refine A_aload_n dX7_act_25 rfl rfl ?_
    refine A_dup dX7_act_26 (fun B => toV_cat B _) ?_
    refine A_get (fi := 10) dX7_act_27 fg_X7_110 rfl rfl (by assumption) ?_
    refine A_iconst dX7_act_30 ⟨by decide, by decide⟩ ?_
    refine A_iadd_ok dX7_act_31 (by omega) (by omega) ?_
    refine A_put (fi := 10) dX7_act_32 fp_X7_110 rfl rfl (by assumption) ?_
    rw [f1, kU_2]
    refine A_aload_n dX7_act_35 rfl rfl ?_
    refine A_inv0 dX7_act_36 mv_X7_117 kCl_7 (Nat.le_of_ble_eq_true rfl) (by assumption) ?_
    refine C_look hM hT hn (by omega) (by omega) ?_
    refine A_pop dX7_act_39 (fun B => toV_cat B _) ?_
    refine A_aload_n dX7_act_40 rfl rfl ?_
    refine A_aload_n dX7_act_41 rfl rfl ?_
    refine A_get (fi := 10) dX7_act_42 fg_X7_110 rfl rfl (by assumption) ?_
    refine A_inv1 dX7_act_45 mv_X7_121 kCl_7 (Nat.le_of_ble_eq_true rfl) (by assumption) ?_
    rw [f2]
    refine C_isDigit hM hT hn (by omega) ?_
    refine A_if_ne (tgt := 53) dX7_act_48 (by decide) (fun c_48 => ?_) (fun c_48 => ?_)
    · have y2 := (i01n c_48).1
      have g3 := sk_ge (t := t) (n := n) (sk t n (sk t n p + 1) + 1)
      have l3 := sk_le (t := t) (n := n) (p := sk t n (sk t n p + 1) + 1) (by omega)
      have f3 := fU10 (sk t n (sk t n (sk t n p + 1) + 1))
      replace c_48 := i01n c_48
      refine A_aload_n dX7_act_53 rfl rfl ?_
      refine A_dup dX7_act_54 (fun B => toV_cat B _) ?_
      refine A_get (fi := 10) dX7_act_55 fg_X7_110 rfl rfl (by assumption) ?_
      refine A_iconst dX7_act_58 ⟨by decide, by decide⟩ ?_
      refine A_iadd_ok dX7_act_59 (by omega) (by omega) ?_
      refine A_put (fi := 10) dX7_act_60 fp_X7_110 rfl rfl (by assumption) ?_
      rw [f2, kU_2]
      refine A_aload_n dX7_act_63 rfl rfl ?_
      refine A_inv0 dX7_act_64 mv_X7_117 kCl_7 (Nat.le_of_ble_eq_true rfl) (by assumption) ?_
      refine C_look hM hT hn (by omega) (by omega) ?_
      refine A_bipush dX7_act_67 ⟨by decide, by decide⟩ rfl ?_
      refine A_icmp_ne (tgt := 82) dX7_act_69 (by decide) (fun c_69 => ?_) (fun c_69 => ?_)
      · refine A_iconst dX7_act_82 ⟨by decide, by decide⟩ ?_
        refine A_zret dX7_act_83 rfl (by first | exact Or.inl rfl | exact Or.inr rfl | assumption | omega) ?_
        have e : acP t n p = (true, sk t n (sk t n (sk t n p + 1) + 1)) := by
          unfold acP
          rw [if_neg (by omega), if_neg (Classical.not_not.mpr c_48), if_neg c_69]
        rw [e] at hK
        exact hK
      · have y3 := ch_lt (t := t) (n := n) (p := sk t n (sk t n (sk t n p + 1) + 1)) (by omega)
        refine A_aload_n dX7_act_72 rfl rfl ?_
        refine A_dup dX7_act_73 (fun B => toV_cat B _) ?_
        refine A_get (fi := 10) dX7_act_74 fg_X7_110 rfl rfl (by assumption) ?_
        refine A_iconst dX7_act_77 ⟨by decide, by decide⟩ ?_
        refine A_iadd_ok dX7_act_78 (by omega) (by omega) ?_
        refine A_put (fi := 10) dX7_act_79 fp_X7_110 rfl rfl (by assumption) ?_
        refine A_iconst dX7_act_82 ⟨by decide, by decide⟩ ?_
        refine A_zret dX7_act_83 rfl (by first | exact Or.inl rfl | exact Or.inr rfl | assumption | omega) ?_
        have e : acP t n p = (true, sk t n (sk t n (sk t n p + 1) + 1) + 1) := by
          unfold acP
          rw [if_neg (by omega), if_neg (Classical.not_not.mpr c_48), if_pos c_69]
        rw [e] at hK
        rw [f3, kU_2]
        exact hK
    · replace c_48 := i01e c_48
      refine A_iconst dX7_act_51 ⟨by decide, by decide⟩ ?_
      refine A_zret dX7_act_52 rfl (by first | exact Or.inl rfl | exact Or.inr rfl | assumption | omega) ?_
      have e : acP t n p = (false, sk t n (sk t n p + 1)) := by
        unfold acP
        rw [if_neg (by omega), if_pos c_48]
      rw [e] at hK
      exact hK
  refine AM.of rfl (Nat.le_of_ble_eq_true rfl) ?_
  refine A_aload_n dX7_act_0 rfl rfl ?_
  refine A_inv0 dX7_act_1 mv_X7_117 kCl_7 (Nat.le_of_ble_eq_true rfl) (by assumption) ?_
  refine C_look hM hT hn h0 h1 ?_
  refine A_istore_n dX7_act_4 rfl (Nat.le_of_ble_eq_true rfl) rfl ?_
  refine A_iload_n dX7_act_5 rfl rfl ?_
  refine A_bipush dX7_act_6 ⟨by decide, by decide⟩ rfl ?_
  refine A_icmp_eq (tgt := 25) dX7_act_8 (by decide) (fun c_8 => ?_) (fun c_8 => ?_)
  · skip
    exact rest (by omega) _
  · refine A_iload_n dX7_act_11 rfl rfl ?_
    refine A_bipush dX7_act_12 ⟨by decide, by decide⟩ rfl ?_
    refine A_icmp_eq (tgt := 25) dX7_act_14 (by decide) (fun c_14 => ?_) (fun c_14 => ?_)
    · skip
      exact rest (by omega) _
    · refine A_iload_n dX7_act_17 rfl rfl ?_
      refine A_bipush dX7_act_18 ⟨by decide, by decide⟩ rfl ?_
      refine A_icmp_eq (tgt := 25) dX7_act_20 (by decide) (fun c_20 => ?_) (fun c_20 => ?_)
      · skip
        exact rest (by omega) _
      · refine A_iconst dX7_act_23 ⟨by decide, by decide⟩ ?_
        refine A_zret dX7_act_24 rfl (by first | exact Or.inl rfl | exact Or.inr rfl | assumption | omega) ?_
        have e : acP t n p = (false, sk t n p) := by
          unfold acP
          rw [if_pos (by omega)]
        rw [e] at hK
        exact hK
theorem acP_rg {p : Int} (h : p ≤ n) : p ≤ (acP t n p).2 ∧ (acP t n p).2 ≤ n := by
  have g1 := sk_ge (t := t) (n := n) p
  have l1 := sk_le (t := t) h
  unfold acP
  by_cases c1 : ¬ (ch t n (sk t n p) = 43 ∨ ch t n (sk t n p) = 45 ∨ ch t n (sk t n p) = 61)
  · rw [if_pos c1]; exact ⟨g1, l1⟩
  · rw [if_neg c1]
    have y1 := ch_lt (t := t) (n := n) (p := sk t n p) (by omega)
    have g2 := sk_ge (t := t) (n := n) (sk t n p + 1)
    have l2 := sk_le (t := t) (n := n) (p := sk t n p + 1) (by omega)
    by_cases c2 : ¬ isD t n (sk t n (sk t n p + 1))
    · rw [if_pos c2]; exact ⟨by show p ≤ sk t n (sk t n p + 1); omega, l2⟩
    · rw [if_neg c2]
      have y2 := (Classical.not_not.mp c2).1
      have g3 := sk_ge (t := t) (n := n) (sk t n (sk t n p + 1) + 1)
      have l3 := sk_le (t := t) (n := n) (p := sk t n (sk t n p + 1) + 1) (by omega)
      by_cases c3 : ch t n (sk t n (sk t n (sk t n p + 1) + 1)) = 99
      · rw [if_pos c3]
        have y3 := ch_lt (t := t) (n := n) (p := sk t n (sk t n (sk t n p + 1) + 1)) (by omega)
        exact ⟨by show p ≤ sk t n (sk t n (sk t n p + 1) + 1) + 1; omega, by show sk t n (sk t n (sk t n p + 1) + 1) + 1 ≤ n; omega⟩
      · rw [if_neg c3]; exact ⟨by show p ≤ sk t n (sk t n (sk t n p + 1) + 1); omega, l3⟩
/-- where a test or an act can't be read, it stands behind blanks -/
theorem clP_sk {p : Int} (h : (clP t n p).1 = false) (hp : sk t n p = p) : sk t n (clP t n p).2 = (clP t n p).2 := by
  unfold clP at h ⊢
  by_cases h1 : ch t n p = 42
  · rw [if_pos h1] at h; cases h
  · rw [if_neg h1] at h ⊢
    by_cases h2 : ¬ (ch t n p = 103 ∨ ch t n p = 100 ∨ ch t n p = 111 ∨ ch t n p = 118)
    · rw [if_pos h2]; exact hp
    · rw [if_neg h2] at h ⊢
      by_cases h3 : ¬ (ch t n (sk t n (p + 1)) = 60 ∨ ch t n (sk t n (p + 1)) = 62 ∨ ch t n (sk t n (p + 1)) = 61)
      · rw [if_pos h3]; exact sk_sk _
      · rw [if_neg h3] at h ⊢
        by_cases h4 : ¬ isD t n (c3 t n p)
        · rw [if_pos h4]
          show sk t n (c3 t n p) = c3 t n p
          unfold c3
          split <;> exact sk_sk _
        · rw [if_neg h4] at h; cases h
theorem tE_sk : ∀ (f : Nat) (b : Bool) (o p : Int), (n - p).toNat < f → p ≤ n → (tE t n b o p).1 = false → sk t n (tE t n b o p).2 = (tE t n b o p).2
  | 0, b, o, p, h, _ => by omega
  | f + 1, false, o, p, h, hp => by
    have hnb := nb_ge (t := t) (n := n) p
    rw [tE_F hp]
    by_cases c1 : ch t n (nb t n p) = 40
    · have := ch_lt (t := t) (n := n) (p := nb t n p) (by omega)
      rw [if_pos c1]
      by_cases c2 : o = 4
      · rw [if_pos c2]; exact fun _ => nb_sk p
      · rw [if_neg c2]
        exact tE_sk f false (o + 1) (nb t n p + 1) (by omega) (by omega)
    · rw [if_neg c1]
      by_cases c2 : (clP t n (nb t n p)).1 = true
      · have := clP_ok c2
        rw [if_pos c2]
        exact tE_sk f true o (clP t n (nb t n p)).2 (by omega) (by omega)
      · rw [if_neg c2]
        intro _
        exact clP_sk (by simpa using c2) (nb_sk p)
  | f + 1, true, o, p, h, hp => by
    have hnb := sk_ge (t := t) (n := n) p
    rw [tE_A hp]
    by_cases c1 : ch t n (sk t n p) = 41 ∧ 0 < o
    · have := ch_lt (t := t) (n := n) (p := sk t n p) (by omega)
      rw [if_pos c1]
      exact tE_sk f true (o - 1) (sk t n p + 1) (by omega) (by omega)
    · rw [if_neg c1]
      by_cases c2 : ch t n (sk t n p) = 38 ∨ ch t n (sk t n p) = 124
      · have := ch_lt (t := t) (n := n) (p := sk t n p) (by omega)
        rw [if_pos c2]
        exact tE_sk f false o (sk t n p + 1) (by omega) (by omega)
      · rw [if_neg c2]
        by_cases c3 : ch t n (sk t n p) = 58 ∧ o = 0
        · rw [if_pos c3]; exact fun h => by cases h
        · rw [if_neg c3]; exact fun _ => sk_sk p
theorem acP_sk {p : Int} (h : (acP t n p).1 = false) : sk t n (acP t n p).2 = (acP t n p).2 := by
  unfold acP at h ⊢
  by_cases c1 : ¬ (ch t n (sk t n p) = 43 ∨ ch t n (sk t n p) = 45 ∨ ch t n (sk t n p) = 61)
  · rw [if_pos c1]; exact sk_sk _
  · rw [if_neg c1] at h ⊢
    by_cases c2 : ¬ isD t n (sk t n (sk t n p + 1))
    · rw [if_pos c2]; exact sk_sk _
    · rw [if_neg c2] at h ⊢
      by_cases c3 : ch t n (sk t n (sk t n (sk t n p + 1) + 1)) = 99
      · rw [if_pos c3] at h; cases h
      · rw [if_neg c3] at h; cases h
theorem C_clauses {p : Int} (hM : MO G m) (hT : TZ d m n t) (hn0 : 0 ≤ n) (hn : n ≤ 100) (hK : K (some (kI (csP t n).1)) G (kU d m 10 (csP t n).2)) : AM E mX7_clauses (k + 4) 0 0 [kR m] G (kU d m 10 p) K := by
  obtain ⟨ho, e0, a0, e1, a1, e2, a2, -⟩ := id hM
  have fU10 : ∀ x, kU d m 10 x m 10 = x := fun x => kU_s
  have loop : ∀ (f : Nat) (c x : Int), c + f = 6 → 0 ≤ c → c < 6 → 0 ≤ x → x ≤ n → csF t n f c x = csP t n → ∀ q2 : Option AV, AW E mX7_clauses (k + 4) 0 0 7 [some (kR m), some (kI c), q2] [] G (kU d m 10 x) K := by
    intro f
    induction f with
    | zero => intro c x h; omega
    | succ f ih =>
      intro c x hc c0 c6 hx hxn he q2
      simp only [csF] at he
      have tl := tE_le (t := t) (n := n) _ false 0 x (Nat.lt_succ_self _) hxn
      refine A_aload_n dX7_clauses_7 rfl rfl ?_
      refine A_inv0 dX7_clauses_8 mv_X7_128 kCl_7 (Nat.le_of_ble_eq_true rfl) (by assumption) ?_
      refine C_test hM hT hn hx hxn ?_
      refine A_if_eq (tgt := 21) dX7_clauses_11 (by decide) (fun c_11 => ?_) (fun c_11 => ?_)
      · replace c_11 := i01e c_11
        have c11 : (tE t n false 0 x).1 = false := by simpa using c_11
        rw [if_pos c11] at he
        refine A_aload_n dX7_clauses_21 rfl rfl ?_
        refine A_inv0 dX7_clauses_22 mv_X7_117 kCl_7 (Nat.le_of_ble_eq_true rfl) (by assumption) ?_
        refine C_look hM hT hn (by omega) (by omega) ?_
        rw [tE_sk _ false 0 x (Nat.lt_succ_self _) hxn c11]
        refine A_pop dX7_clauses_25 (fun B => toV_cat B _) ?_
        refine A_iconst dX7_clauses_26 ⟨by decide, by decide⟩ ?_
        refine A_iret dX7_clauses_27 rfl ?_
        rw [← he] at hK
        exact hK
      · replace c_11 := i01n c_11
        rw [if_neg (by rw [c_11]; decide)] at he
        have al := acP_rg (t := t) (n := n) (p := (tE t n false 0 x).2) tl.2.1
        refine A_aload_n dX7_clauses_14 rfl rfl ?_
        refine A_inv0 dX7_clauses_15 mv_X7_131 kCl_7 (Nat.le_of_ble_eq_true rfl) (by assumption) ?_
        refine C_act hM hT hn (by omega) (by omega) ?_
        refine A_if_ne (tgt := 28) dX7_clauses_18 (by decide) (fun c_18 => ?_) (fun c_18 => ?_)
        · replace c_18 := i01n c_18
          rw [if_neg (by rw [c_18]; decide)] at he
          have g3 := sk_ge (t := t) (n := n) (acP t n (tE t n false 0 x).2).2
          have l3 := sk_le (t := t) (n := n) (p := (acP t n (tE t n false 0 x).2).2) (by omega)
          have f3 := fU10 (sk t n (acP t n (tE t n false 0 x).2).2)
          refine A_iinc_ok dX7_clauses_28 rfl rfl (by omega) (by omega) ?_
          refine A_aload_n dX7_clauses_31 rfl rfl ?_
          refine A_inv0 dX7_clauses_32 mv_X7_117 kCl_7 (Nat.le_of_ble_eq_true rfl) (by assumption) ?_
          refine C_look hM hT hn (by omega) (by omega) ?_
          refine A_istore_n dX7_clauses_35 rfl (Nat.le_of_ble_eq_true rfl) rfl ?_
          refine A_iload_n dX7_clauses_36 rfl rfl ?_
          refine A_iconst dX7_clauses_37 ⟨by decide, by decide⟩ ?_
          refine A_icmp_ne (tgt := 43) dX7_clauses_38 (by decide) (fun c_38 => ?_) (fun c_38 => ?_)
          · rw [if_neg c_38] at he
            have y3 := ch_lt c_38
            refine A_iload_n dX7_clauses_43 rfl rfl ?_
            refine A_bipush dX7_clauses_44 ⟨by decide, by decide⟩ rfl ?_
            refine A_icmp_ne (tgt := 55) dX7_clauses_46 (by decide) (fun c_46 => ?_) (fun c_46 => ?_)
            · rw [if_pos (by omega)] at he
              refine A_iconst dX7_clauses_55 ⟨by decide, by decide⟩ ?_
              refine A_iret dX7_clauses_56 rfl ?_
              rw [← he] at hK
              exact hK
            · refine A_iload_n dX7_clauses_49 rfl rfl ?_
              refine A_bipush dX7_clauses_50 ⟨by decide, by decide⟩ rfl ?_
              refine A_icmp_ne (tgt := 57) dX7_clauses_52 (by decide) (fun c_52 => ?_) (fun c_52 => ?_)
              · rw [if_neg (by omega)] at he
                refine A_aload_n dX7_clauses_57 rfl rfl ?_
                refine A_dup dX7_clauses_58 (fun B => toV_cat B _) ?_
                refine A_get (fi := 10) dX7_clauses_59 fg_X7_110 rfl rfl (by assumption) ?_
                refine A_iconst dX7_clauses_62 ⟨by decide, by decide⟩ ?_
                refine A_iadd_ok dX7_clauses_63 (by omega) (by omega) ?_
                refine A_put (fi := 10) dX7_clauses_64 fp_X7_110 rfl rfl (by assumption) ?_
                refine A_goto (tgt := 7) dX7_clauses_67 (by decide) ?_
                rw [f3, kU_2]
                exact ih (c + 1) _ (by omega) (by omega) (by omega) (by omega) (by omega) he _
              · rw [if_pos (by omega)] at he
                refine A_iconst dX7_clauses_55 ⟨by decide, by decide⟩ ?_
                refine A_iret dX7_clauses_56 rfl ?_
                rw [← he] at hK
                exact hK
          · rw [if_pos c_38] at he
            refine A_iload_n dX7_clauses_41 rfl rfl ?_
            refine A_iret dX7_clauses_42 rfl ?_
            rw [← he] at hK
            exact hK
        · replace c_18 := i01e c_18
          have c18 : (acP t n (tE t n false 0 x).2).1 = false := by simpa using c_18
          rw [if_pos c18] at he
          refine A_aload_n dX7_clauses_21 rfl rfl ?_
          refine A_inv0 dX7_clauses_22 mv_X7_117 kCl_7 (Nat.le_of_ble_eq_true rfl) (by assumption) ?_
          refine C_look hM hT hn (by omega) (by omega) ?_
          rw [acP_sk c18]
          refine A_pop dX7_clauses_25 (fun B => toV_cat B _) ?_
          refine A_iconst dX7_clauses_26 ⟨by decide, by decide⟩ ?_
          refine A_iret dX7_clauses_27 rfl ?_
          rw [← he] at hK
          exact hK
  refine AM.of rfl (Nat.le_of_ble_eq_true rfl) ?_
  refine A_aload_n dX7_clauses_0 rfl rfl ?_
  refine A_iconst dX7_clauses_1 ⟨by decide, by decide⟩ ?_
  refine A_put (fi := 10) dX7_clauses_2 fp_X7_110 rfl rfl (by assumption) ?_
  refine A_iconst dX7_clauses_5 ⟨by decide, by decide⟩ ?_
  refine A_istore_n dX7_clauses_6 rfl (Nat.le_of_ble_eq_true rfl) rfl ?_
  rw [kU_2]
  exact loop 6 0 0 (by omega) (by omega) (by omega) (by omega) (by omega) rfl none
end M7
