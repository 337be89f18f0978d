section M9
variable {E : EE} {k m : Nat} {G : HG} {d : HD} {K : PQ} {n B : Int} {t : Int → Int}
theorem C_claimHolds {p g dd oo v : Int} (hM : MO G m) (hT : ZT d m B n t) (hB : 0 ≤ B) (hB2 : B + n ≤ 3200) (h0 : 0 ≤ p) (h1 : p ≤ n) (hC : (clP t n (sk t n p)).1 = true) (hK : K (some (kI (cvS t n g dd oo v (sk t n p)))) G (kU d m 11 (B + (clP t n (sk t n p)).2))) : AM E mX7_claimHolds (k + 3) 0 0 [kR m, kI g, kI dd, kI oo, kI v] G (kU d m 11 (B + p)) K := by
  obtain ⟨ho, e0, a0, -⟩ := id hM
  have l1 := sk_le (t := t) h1
  have g1 := sk_ge (t := t) (n := n) p
  generalize hy : sk t n p = y at *
  have fU11 : ∀ x, kU d m 11 x m 11 = x := fun x => kU_s
  have hcl := clP_ok hC
  have rest : ch t n y ≠ 42 → ∀ q5 : Int, AW E mX7_claimHolds (k + 3) 0 0 52 [some (kR m), some (kI g), some (kI dd), some (kI oo), some (kI v), some (kI q5), some (kI (cHas t n y g dd oo v)), none, none, none] [] G (kU d m 11 (B + (y + 1))) K := by
    intro h42 q5
    unfold clP at hC hK
    rw [if_neg h42] at hC hK
    have hs : ch t n y = 103 ∨ ch t n y = 100 ∨ ch t n y = 111 ∨ ch t n y = 118 := by
      by_cases q : ¬ (ch t n y = 103 ∨ ch t n y = 100 ∨ ch t n y = 111 ∨ ch t n y = 118)
      · rw [if_pos q] at hC; cases hC
      · exact Classical.not_not.mp q
    rw [if_neg (Classical.not_not.mpr hs)] at hC hK
    have hb : ch t n (sk t n (y + 1)) = 60 ∨ ch t n (sk t n (y + 1)) = 62 ∨ ch t n (sk t n (y + 1)) = 61 := by
      by_cases q : ¬ (ch t n (sk t n (y + 1)) = 60 ∨ ch t n (sk t n (y + 1)) = 62 ∨ ch t n (sk t n (y + 1)) = 61)
      · rw [if_pos q] at hC; cases hC
      · exact Classical.not_not.mp q
    rw [if_neg (Classical.not_not.mpr hb)] at hC hK
    have hD : isD t n (c3 t n y) := by
      by_cases q : ¬ isD t n (c3 t n y)
      · rw [if_pos q] at hC; cases hC
      · exact Classical.not_not.mp q
    rw [if_neg (Classical.not_not.mpr hD)] at hK
    have y1 := ch_lt (t := t) (n := n) (p := y) (by omega)
    have l2 := sk_le (t := t) (n := n) (p := y + 1) (by omega)
    have g2 := sk_ge (t := t) (n := n) (y + 1)
    have y2 := ch_lt (t := t) (n := n) (p := sk t n (y + 1)) (by omega)
    have l3 := sk_le (t := t) (n := n) (p := sk t n (y + 1) + 1) (by omega)
    have g3 := sk_ge (t := t) (n := n) (sk t n (y + 1) + 1)
    have f3 := fU11 (B + sk t n (sk t n (y + 1) + 1))
    have cn : 0 ≤ cNum t n y ∧ cNum t n y ≤ 99 := by
      obtain ⟨q1, q2, q3⟩ := hD
      unfold cNum
      split
      · rename_i q; obtain ⟨r1, r2, r3⟩ := q; omega
      · omega
    have hK' : K (some (kI (if ch t n (sk t n (y + 1)) = 60 then (if cHas t n y g dd oo v < cVal t n y then 1 else 0) else if ch t n (sk t n (y + 1)) = 62 then (if cVal t n y < cHas t n y g dd oo v then 1 else 0) else (if cHas t n y g dd oo v = cVal t n y then 1 else 0)))) G (kU d m 11 (B + c5 t n y)) := by
      unfold cvS at hK
      rw [if_neg h42] at hK
      exact hK
    generalize hhas : cHas t n y g dd oo v = has at *
    have cmp : ∀ (q8 : Int), AW E mX7_claimHolds (k + 3) 0 0 117 [some (kR m), some (kI g), some (kI dd), some (kI oo), some (kI v), some (kI q5), some (kI has), some (kI (ch t n (sk t n (y + 1)))), some (kI q8), some (kI (cVal t n y))] [] G (kU d m 11 (B + c5 t n y)) K := by
      intro q8
      refine A_iload dX7_claimHolds_117 rfl ?_
      refine A_bipush dX7_claimHolds_119 ⟨by decide, by decide⟩ rfl ?_
      refine A_icmp_ne (tgt := 139) dX7_claimHolds_121 (by decide) (fun c_121 => ?_) (fun c_121 => ?_)
      · rw [if_neg c_121] at hK'
        refine A_iload dX7_claimHolds_139 rfl ?_
        refine A_bipush dX7_claimHolds_141 ⟨by decide, by decide⟩ rfl ?_
        refine A_icmp_ne (tgt := 161) dX7_claimHolds_143 (by decide) (fun c_143 => ?_) (fun c_143 => ?_)
        · rw [if_neg c_143] at hK'
          refine A_iload dX7_claimHolds_161 rfl ?_
          refine A_iload dX7_claimHolds_163 rfl ?_
          refine A_icmp_ne (tgt := 172) dX7_claimHolds_165 (by decide) (fun c_165 => ?_) (fun c_165 => ?_)
          · refine A_iconst dX7_claimHolds_172 ⟨by decide, by decide⟩ ?_
            refine A_zret dX7_claimHolds_173 rfl (by first | exact Or.inl rfl | exact Or.inr rfl | assumption | omega) ?_
            rw [if_neg c_165] at hK'
            exact hK'
          · refine A_iconst dX7_claimHolds_168 ⟨by decide, by decide⟩ ?_
            refine A_goto (tgt := 173) dX7_claimHolds_169 (by decide) ?_
            refine A_zret dX7_claimHolds_173 rfl (by first | exact Or.inl rfl | exact Or.inr rfl | assumption | omega) ?_
            rw [if_pos c_165] at hK'
            exact hK'
        · rw [if_pos c_143] at hK'
          refine A_iload dX7_claimHolds_146 rfl ?_
          refine A_iload dX7_claimHolds_148 rfl ?_
          refine A_icmp_le (tgt := 157) dX7_claimHolds_150 (by decide) (fun c_150 => ?_) (fun c_150 => ?_)
          · refine A_iconst dX7_claimHolds_157 ⟨by decide, by decide⟩ ?_
            refine A_goto (tgt := 173) dX7_claimHolds_158 (by decide) ?_
            refine A_zret dX7_claimHolds_173 rfl (by first | exact Or.inl rfl | exact Or.inr rfl | assumption | omega) ?_
            rw [if_neg (by omega)] at hK'
            exact hK'
          · refine A_iconst dX7_claimHolds_153 ⟨by decide, by decide⟩ ?_
            refine A_goto (tgt := 173) dX7_claimHolds_154 (by decide) ?_
            refine A_zret dX7_claimHolds_173 rfl (by first | exact Or.inl rfl | exact Or.inr rfl | assumption | omega) ?_
            rw [if_pos (by omega)] at hK'
            exact hK'
      · rw [if_pos c_121] at hK'
        refine A_iload dX7_claimHolds_124 rfl ?_
        refine A_iload dX7_claimHolds_126 rfl ?_
        refine A_icmp_ge (tgt := 135) dX7_claimHolds_128 (by decide) (fun c_128 => ?_) (fun c_128 => ?_)
        · refine A_iconst dX7_claimHolds_135 ⟨by decide, by decide⟩ ?_
          refine A_goto (tgt := 173) dX7_claimHolds_136 (by decide) ?_
          refine A_zret dX7_claimHolds_173 rfl (by first | exact Or.inl rfl | exact Or.inr rfl | assumption | omega) ?_
          rw [if_neg (by omega)] at hK'
          exact hK'
        · refine A_iconst dX7_claimHolds_131 ⟨by decide, by decide⟩ ?_
          refine A_goto (tgt := 173) dX7_claimHolds_132 (by decide) ?_
          refine A_zret dX7_claimHolds_173 rfl (by first | exact Or.inl rfl | exact Or.inr rfl | assumption | omega) ?_
          rw [if_pos (by omega)] at hK'
          exact hK'
    refine A_aload_n dX7_claimHolds_52 rfl rfl ?_
    refine A_inv0 dX7_claimHolds_53 mv_X7_146 kCl_7 (Nat.le_of_ble_eq_true rfl) (by assumption) ?_
    refine C_take hM hT hB hB2 (by omega) (by omega) ?_
    refine A_istore dX7_claimHolds_56 (Nat.le_of_ble_eq_true rfl) rfl ?_
    refine A_aload_n dX7_claimHolds_58 rfl rfl ?_
    refine A_inv0 dX7_claimHolds_59 mv_X7_143 kCl_7 (Nat.le_of_ble_eq_true rfl) (by assumption) ?_
    refine C_sign hM hT hB hB2 (by omega) (by omega) ?_
    refine A_bipush dX7_claimHolds_62 ⟨by decide, by decide⟩ rfl ?_
    refine A_icmp_ne (tgt := 71) dX7_claimHolds_64 (by decide) (fun c_64 => ?_) (fun c_64 => ?_)
    · have ec : c3 t n y = sk t n (sk t n (y + 1) + 1) := by unfold c3; rw [if_neg c_64]
      refine A_iconst dX7_claimHolds_71 ⟨by decide, by decide⟩ ?_
      refine A_istore dX7_claimHolds_72 (Nat.le_of_ble_eq_true rfl) rfl ?_
      refine A_aload_n dX7_claimHolds_74 rfl rfl ?_
      refine A_iload dX7_claimHolds_75 rfl ?_
      refine A_if_eq (tgt := 89) dX7_claimHolds_77 (by decide) (fun c_77 => ?_) (fun c_77 => absurd c_77 (by omega))
      refine A_aload_n dX7_claimHolds_89 rfl rfl ?_
      refine A_get (fi := 11) dX7_claimHolds_90 fg_X7_137 rfl rfl (by assumption) ?_
      refine A_put (fi := 11) dX7_claimHolds_93 fp_X7_137 rfl rfl (by assumption) ?_
      refine A_aload_n dX7_claimHolds_96 rfl rfl ?_
      refine A_inv0 dX7_claimHolds_97 mv_X7_149 kCl_7 (Nat.le_of_ble_eq_true rfl) (by assumption) ?_
      rw [f3, kU_2]
      have hD' : isD t n (sk t n (sk t n (sk t n (y + 1) + 1))) := by rw [sk_sk, ← ec]; exact hD
      refine C_digits hM hT hB hB2 (by omega) (by omega) hD' ?_
      rw [sk_sk, ← ec]
      have e5 : (if isD t n (c3 t n y + 1) then c3 t n y + 1 + 1 else c3 t n y + 1) = c5 t n y := rfl
      have e6 : (if isD t n (c3 t n y + 1) then 10 * (t (c3 t n y) - 48) + t (c3 t n y + 1) - 48 else t (c3 t n y) - 48) = cNum t n y := rfl
      rw [e5, e6]
      have ev : cVal t n y = cNum t n y := by unfold cVal; rw [if_neg c_64]
      rw [ev] at cmp
      refine A_istore dX7_claimHolds_100 (Nat.le_of_ble_eq_true rfl) rfl ?_
      refine A_iload dX7_claimHolds_102 rfl ?_
      refine A_if_eq (tgt := 113) dX7_claimHolds_104 (by decide) (fun c_104 => ?_) (fun c_104 => absurd c_104 (by omega))
      refine A_iload dX7_claimHolds_113 rfl ?_
      refine A_istore dX7_claimHolds_115 (Nat.le_of_ble_eq_true rfl) rfl ?_
      exact cmp _
    · have y3 := ch_lt (t := t) (n := n) (p := sk t n (sk t n (y + 1) + 1)) (by omega)
      have ec : c3 t n y = sk t n (sk t n (sk t n (y + 1) + 1) + 1) := by unfold c3; rw [if_pos c_64]
      refine A_iconst dX7_claimHolds_67 ⟨by decide, by decide⟩ ?_
      refine A_goto (tgt := 72) dX7_claimHolds_68 (by decide) ?_
      refine A_istore dX7_claimHolds_72 (Nat.le_of_ble_eq_true rfl) rfl ?_
      refine A_aload_n dX7_claimHolds_74 rfl rfl ?_
      refine A_iload dX7_claimHolds_75 rfl ?_
      refine A_if_eq (tgt := 89) dX7_claimHolds_77 (by decide) (fun c_77 => absurd c_77 (by omega)) (fun c_77 => ?_)
      refine A_aload_n dX7_claimHolds_80 rfl rfl ?_
      refine A_get (fi := 11) dX7_claimHolds_81 fg_X7_137 rfl rfl (by assumption) ?_
      refine A_iconst dX7_claimHolds_84 ⟨by decide, by decide⟩ ?_
      refine A_iadd_ok dX7_claimHolds_85 (by omega) (by omega) ?_
      refine A_goto (tgt := 93) dX7_claimHolds_86 (by decide) ?_
      refine A_put (fi := 11) dX7_claimHolds_93 fp_X7_137 rfl rfl (by assumption) ?_
      refine A_aload_n dX7_claimHolds_96 rfl rfl ?_
      refine A_inv0 dX7_claimHolds_97 mv_X7_149 kCl_7 (Nat.le_of_ble_eq_true rfl) (by assumption) ?_
      rw [f3, kU_2, show B + sk t n (sk t n (y + 1) + 1) + 1 = B + (sk t n (sk t n (y + 1) + 1) + 1) by omega]
      have hD' : isD t n (sk t n (sk t n (sk t n (y + 1) + 1) + 1)) := by rw [← ec]; exact hD
      refine C_digits hM hT hB hB2 (by omega) (by omega) hD' ?_
      rw [← ec]
      have e5 : (if isD t n (c3 t n y + 1) then c3 t n y + 1 + 1 else c3 t n y + 1) = c5 t n y := rfl
      have e6 : (if isD t n (c3 t n y + 1) then 10 * (t (c3 t n y) - 48) + t (c3 t n y + 1) - 48 else t (c3 t n y) - 48) = cNum t n y := rfl
      rw [e5, e6]
      have ev : cVal t n y = -(cNum t n y) := by unfold cVal; rw [if_pos c_64]
      rw [ev] at cmp
      refine A_istore dX7_claimHolds_100 (Nat.le_of_ble_eq_true rfl) rfl ?_
      refine A_iload dX7_claimHolds_102 rfl ?_
      refine A_if_eq (tgt := 113) dX7_claimHolds_104 (by decide) (fun c_104 => absurd c_104 (by omega)) (fun c_104 => ?_)
      refine A_iload dX7_claimHolds_107 rfl ?_
      refine A_ineg_ok dX7_claimHolds_109 (by omega) (by omega) ?_
      refine A_goto (tgt := 115) dX7_claimHolds_110 (by decide) ?_
      refine A_istore dX7_claimHolds_115 (Nat.le_of_ble_eq_true rfl) rfl ?_
      exact cmp _
  refine AM.of rfl (Nat.le_of_ble_eq_true rfl) ?_
  refine A_aload_n dX7_claimHolds_0 rfl rfl ?_
  refine A_inv0 dX7_claimHolds_1 mv_X7_146 kCl_7 (Nat.le_of_ble_eq_true rfl) (by assumption) ?_
  refine C_take hM hT hB hB2 h0 h1 ?_
  rw [hy]
  refine A_istore dX7_claimHolds_4 (Nat.le_of_ble_eq_true rfl) rfl ?_
  refine A_iload dX7_claimHolds_6 rfl ?_
  refine A_bipush dX7_claimHolds_8 ⟨by decide, by decide⟩ rfl ?_
  refine A_icmp_ne (tgt := 15) dX7_claimHolds_10 (by decide) (fun c_10 => ?_) (fun c_10 => ?_)
  · refine A_iload dX7_claimHolds_15 rfl ?_
    refine A_bipush dX7_claimHolds_17 ⟨by decide, by decide⟩ rfl ?_
    refine A_icmp_ne (tgt := 26) dX7_claimHolds_19 (by decide) (fun c_19 => ?_) (fun c_19 => ?_)
    · refine A_iload dX7_claimHolds_26 rfl ?_
      refine A_bipush dX7_claimHolds_28 ⟨by decide, by decide⟩ rfl ?_
      refine A_icmp_ne (tgt := 37) dX7_claimHolds_30 (by decide) (fun c_30 => ?_) (fun c_30 => ?_)
      · refine A_iload dX7_claimHolds_37 rfl ?_
        refine A_bipush dX7_claimHolds_39 ⟨by decide, by decide⟩ rfl ?_
        refine A_icmp_ne (tgt := 48) dX7_claimHolds_41 (by decide) (fun c_41 => ?_) (fun c_41 => ?_)
        · refine A_iload dX7_claimHolds_48 rfl ?_
          refine A_istore dX7_claimHolds_50 (Nat.le_of_ble_eq_true rfl) rfl ?_
          have e : cHas t n y g dd oo v = v := by unfold cHas; rw [if_neg (by omega), if_neg (by omega), if_neg (by omega)]
          have := rest (by omega) (ch t n y)
          rw [e] at this
          exact this
        · refine A_iload_n dX7_claimHolds_44 rfl rfl ?_
          refine A_goto (tgt := 50) dX7_claimHolds_45 (by decide) ?_
          refine A_istore dX7_claimHolds_50 (Nat.le_of_ble_eq_true rfl) rfl ?_
          have e : cHas t n y g dd oo v = oo := by unfold cHas; rw [if_neg (by omega), if_neg (by omega), if_pos (by omega)]
          have := rest (by omega) (ch t n y)
          rw [e] at this
          exact this
      · refine A_iload_n dX7_claimHolds_33 rfl rfl ?_
        refine A_goto (tgt := 50) dX7_claimHolds_34 (by decide) ?_
        refine A_istore dX7_claimHolds_50 (Nat.le_of_ble_eq_true rfl) rfl ?_
        have e : cHas t n y g dd oo v = dd := by unfold cHas; rw [if_neg (by omega), if_pos (by omega)]
        have := rest (by omega) (ch t n y)
        rw [e] at this
        exact this
    · refine A_iload_n dX7_claimHolds_22 rfl rfl ?_
      refine A_goto (tgt := 50) dX7_claimHolds_23 (by decide) ?_
      refine A_istore dX7_claimHolds_50 (Nat.le_of_ble_eq_true rfl) rfl ?_
      have e : cHas t n y g dd oo v = g := by unfold cHas; rw [if_pos (by omega)]
      have := rest (by omega) (ch t n y)
      rw [e] at this
      exact this
  · refine A_iconst dX7_claimHolds_13 ⟨by decide, by decide⟩ ?_
    refine A_zret dX7_claimHolds_14 rfl (by first | exact Or.inl rfl | exact Or.inr rfl | assumption | omega) ?_
    unfold cvS clP at hK
    rw [if_pos (by omega), if_pos (by omega)] at hK
    exact hK
end M9
