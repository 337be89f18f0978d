theorem kShl_1 {n : Int} (h1 : 0 ≤ n) (h2 : n ≤ 8) : 1 ≤ kShl 1 n ∧ kShl 1 n ≤ 256 := by
  rcases (show n = 0 ∨ n = 1 ∨ n = 2 ∨ n = 3 ∨ n = 4 ∨ n = 5 ∨ n = 6 ∨ n = 7 ∨ n = 8 by omega) with rfl | rfl | rfl | rfl | rfl | rfl | rfl | rfl | rfl <;> decide
theorem clI_rg {R : Int → Int} {car n many : Int} : ∀ (f s : Nat), clI R car n many f s = -1 ∨ ((s : Int) ≤ clI R car n many f s ∧ clI R car n many f s < s + f)
  | 0, s => Or.inl rfl
  | f + 1, s => by
    simp only [clI]
    split
    · exact Or.inr ⟨by omega, by omega⟩
    · rcases clI_rg (R := R) (car := car) (n := n) (many := many) f (s + 1) with h | h
      · exact Or.inl h
      · exact Or.inr ⟨by omega, by omega⟩
section K6
variable {E : EE} {k m : Nat} {G : HG} {d : HD} {K : PQ} {R : Int → Int}
theorem C_calmed {car n B : Int} (hM : MO G m) (hR : PZ d m 0 R) (hW : WR R B) (hB : 0 ≤ B) (hB2 : B ≤ 100000) (hK : ∀ d', MF d d' m → K (some (kI (calmedA R car n))) G d') : AM E mX7_calmed (k + 9) 0 0 [kR m, kI car, kI n] G d K := by
  obtain ⟨ho, e0, a0, -⟩ := id hM
  have z2 := hR.z 2 (by omega) (by omega)
  have w2 := hW.2.2.1
  unfold calmedA at hK
  have bad : ¬ ((0 ≤ car ∧ car < R 2) ∧ 1 ≤ n ∧ n ≤ 200) → AW E mX7_calmed (k + 9) 0 0 20 [some (kR m), some (kI car), some (kI n), none, none] [] G d K := by
    intro h
    rw [if_pos h] at hK
    refine A_iconst dX7_calmed_20 ⟨by decide, by decide⟩ ?_
    refine A_iret dX7_calmed_21 rfl ?_
    exact hK d MF.rf
  have good : ((0 ≤ car ∧ car < R 2) ∧ 1 ≤ n ∧ n ≤ 200) → AW E mX7_calmed (k + 9) 0 0 22 [some (kR m), some (kI car), some (kI n), none, none] [] G d K := by
    intro h
    rw [if_neg (fun z => z h)] at hK
    obtain ⟨N, hN⟩ : ∃ N : Nat, R 2 = N := ⟨(R 2).toNat, by omega⟩
    refine A_aload_n dX7_calmed_22 rfl rfl ?_
    refine A_getR (fi := 0) dX7_calmed_23 fg_X7_7 rfl rfl (by assumption) (by assumption) ?_
    refine A_iconst dX7_calmed_26 ⟨by decide, by decide⟩ ?_
    refine A_iald dX7_calmed_27 (by assumption) (by omega) (by omega) ?_
    refine A_bipush dX7_calmed_28 ⟨by decide, by decide⟩ rfl ?_
    rw [z2]
    refine A_icmp_le (tgt := 36) dX7_calmed_30 (by decide) (fun c_30 => ?_) (fun c_30 => ?_)
    · rw [if_neg (by omega)] at hK
      have hM8 := kShl_1 (n := R 2) (by omega) (by omega)
      obtain ⟨M, hM'⟩ : ∃ M : Nat, kShl 1 (R 2) = M := ⟨(kShl 1 (R 2)).toNat, by omega⟩
      rw [show (kShl 1 (R 2)).toNat = M by omega, show (R 2).toNat = N by omega] at hK
      generalize hv : clO R car n M (N + 1) 0 = v at *
      have outer : ∀ (f j : Nat), j + f = N + 1 → clO R car n M f j = v → ∀ d', MF d d' m → ∀ q4 : Option AV, AW E mX7_calmed (k + 9) 0 0 38 [some (kR m), some (kI car), some (kI n), some (kI j), q4] [] G d' K := by
        intro f
        induction f with
        | zero =>
          intro j hj he d' hc q4
          have z2 := (hc.PZ (q := 0) (by omega) hR).z 2 (by omega) (by omega)
          rw [hN] at z2
          simp only [clO] at he
          refine A_iload_n dX7_calmed_38 rfl rfl ?_
          refine A_aload_n dX7_calmed_39 rfl rfl ?_
          refine A_getR (fi := 0) dX7_calmed_40 fg_X7_7 rfl rfl (by assumption) (by assumption) ?_
          refine A_iconst dX7_calmed_43 ⟨by decide, by decide⟩ ?_
          refine A_iald dX7_calmed_44 (by assumption) (by omega) (by omega) ?_
          refine A_icmp_gt (tgt := 99) dX7_calmed_45 (by decide) (fun c_45 => ?_) (fun c_45 => absurd c_45 (by omega))
          refine A_bipush dX7_calmed_99 ⟨by decide, by decide⟩ rfl ?_
          refine A_iret dX7_calmed_101 rfl ?_
          rw [← he] at hK
          exact hK d' hc
        | succ f ih =>
          intro j hj he d' hc q4
          have z2 := (hc.PZ (q := 0) (by omega) hR).z 2 (by omega) (by omega)
          have z2' := z2
          rw [hN] at z2'
          simp only [clO] at he
          have inner : ∀ (g s : Nat), s + g = M → clI R car n j g s = clI R car n j M 0 → ∀ d', MF d d' m → AW E mX7_calmed (k + 9) 0 0 51 [some (kR m), some (kI car), some (kI n), some (kI j), some (kI s)] [] G d' K := by
            intro g
            induction g with
            | zero =>
              intro s hs hi d' hc
              have z2 := (hc.PZ (q := 0) (by omega) hR).z 2 (by omega) (by omega)
              simp only [clI] at hi
              rw [← hi, if_neg (by omega)] at he
              refine A_iload dX7_calmed_51 rfl ?_
              refine A_iconst dX7_calmed_53 ⟨by decide, by decide⟩ ?_
              refine A_aload_n dX7_calmed_54 rfl rfl ?_
              refine A_getR (fi := 0) dX7_calmed_55 fg_X7_7 rfl rfl (by assumption) (by assumption) ?_
              refine A_iconst dX7_calmed_58 ⟨by decide, by decide⟩ ?_
              refine A_iald dX7_calmed_59 (by assumption) (by omega) (by omega) ?_
              refine A_ishl dX7_calmed_60 ?_
              rw [z2, hM']
              refine A_icmp_ge (tgt := 93) dX7_calmed_61 (by decide) (fun c_61 => ?_) (fun c_61 => absurd c_61 (by omega))
              refine A_iinc_ok dX7_calmed_93 rfl rfl (by omega) (by omega) ?_
              refine A_goto (tgt := 38) dX7_calmed_96 (by decide) ?_
              exact ih (j + 1) (by omega) he d' hc _
            | succ g ihg =>
              intro s hs hi d' hc
              have hR' := hc.PZ (q := 0) (by omega) hR
              have z2 := hR'.z 2 (by omega) (by omega)
              simp only [clI] at hi
              have nx := ihg (s + 1) (by omega)
              refine A_iload dX7_calmed_51 rfl ?_
              refine A_iconst dX7_calmed_53 ⟨by decide, by decide⟩ ?_
              refine A_aload_n dX7_calmed_54 rfl rfl ?_
              refine A_getR (fi := 0) dX7_calmed_55 fg_X7_7 rfl rfl (by assumption) (by assumption) ?_
              refine A_iconst dX7_calmed_58 ⟨by decide, by decide⟩ ?_
              refine A_iald dX7_calmed_59 (by assumption) (by omega) (by omega) ?_
              refine A_ishl dX7_calmed_60 ?_
              rw [z2, hM']
              refine A_icmp_ge (tgt := 93) dX7_calmed_61 (by decide) (fun c_61 => absurd c_61 (by omega)) (fun c_61 => ?_)
              refine A_iload dX7_calmed_64 rfl ?_
              refine A_ins1 dX7_calmed_66 ms_X7_228 (Nat.le_of_ble_eq_true rfl) ?_
              refine C_bits ?_
              refine A_iload_n dX7_calmed_69 rfl rfl ?_
              refine A_icmp_ne (tgt := 87) dX7_calmed_70 (by decide) (fun c_70 => ?_) (fun c_70 => ?_)
              · rw [if_neg (fun z => c_70 z.1)] at hi
                refine A_iinc_ok dX7_calmed_87 rfl rfl (by omega) (by omega) ?_
                refine A_goto (tgt := 51) dX7_calmed_90 (by decide) ?_
                exact nx hi d' hc
              · refine A_aload_n dX7_calmed_73 rfl rfl ?_
                refine A_iload_n dX7_calmed_74 rfl rfl ?_
                refine A_iload_n dX7_calmed_75 rfl rfl ?_
                refine A_iload dX7_calmed_76 rfl ?_
                refine A_inv3 dX7_calmed_78 mv_X7_225 kCl_7 (Nat.le_of_ble_eq_true rfl) (by assumption) ?_
                refine C_knotsAfter hM hR' hW hB hB2 (by omega) (by omega) (by omega) (by omega) (fun d2 g2 => ?_)
                refine A_if_ne (tgt := 87) dX7_calmed_81 (by decide) (fun c_81 => ?_) (fun c_81 => ?_)
                · rw [if_neg (fun z => c_81 z.2)] at hi
                  refine A_iinc_ok dX7_calmed_87 rfl rfl (by omega) (by omega) ?_
                  refine A_goto (tgt := 51) dX7_calmed_90 (by decide) ?_
                  exact nx hi d2 (hc.tr g2)
                · rw [if_pos ⟨c_70, c_81⟩] at hi
                  rw [← hi, if_pos (by omega)] at he
                  refine A_iload dX7_calmed_84 rfl ?_
                  refine A_iret dX7_calmed_86 rfl ?_
                  rw [← he] at hK
                  exact hK d2 (hc.tr g2)
          refine A_iload_n dX7_calmed_38 rfl rfl ?_
          refine A_aload_n dX7_calmed_39 rfl rfl ?_
          refine A_getR (fi := 0) dX7_calmed_40 fg_X7_7 rfl rfl (by assumption) (by assumption) ?_
          refine A_iconst dX7_calmed_43 ⟨by decide, by decide⟩ ?_
          refine A_iald dX7_calmed_44 (by assumption) (by omega) (by omega) ?_
          refine A_icmp_gt (tgt := 99) dX7_calmed_45 (by decide) (fun c_45 => absurd c_45 (by omega)) (fun c_45 => ?_)
          refine A_iconst dX7_calmed_48 ⟨by decide, by decide⟩ ?_
          refine A_istore dX7_calmed_49 (Nat.le_of_ble_eq_true rfl) rfl ?_
          exact inner M 0 (by omega) rfl d' hc
      refine A_iconst dX7_calmed_36 ⟨by decide, by decide⟩ ?_
      refine A_istore_n dX7_calmed_37 rfl (Nat.le_of_ble_eq_true rfl) rfl ?_
      exact outer (N + 1) 0 (by omega) hv d MF.rf _
    · rw [if_pos (by omega)] at hK
      refine A_bipush dX7_calmed_33 ⟨by decide, by decide⟩ rfl ?_
      refine A_iret dX7_calmed_35 rfl ?_
      exact hK d MF.rf
  refine AM.of rfl (Nat.le_of_ble_eq_true rfl) ?_
  refine A_aload_n dX7_calmed_0 rfl rfl ?_
  refine A_iload_n dX7_calmed_1 rfl rfl ?_
  refine A_inv1 dX7_calmed_2 mv_X7_84 kCl_7 (Nat.le_of_ble_eq_true rfl) (by assumption) ?_
  refine C_isCar hM (by omega) (by omega) ?_
  rw [z2]
  refine A_if_eq (tgt := 20) dX7_calmed_5 (by decide) (fun c_5 => ?_) (fun c_5 => ?_)
  · replace c_5 := i01e c_5
    exact bad (by omega)
  · replace c_5 := i01n c_5
    refine A_iload_n dX7_calmed_8 rfl rfl ?_
    refine A_i2l dX7_calmed_9 ?_
    refine A_lconst (x := 1) dX7_calmed_10 ⟨by decide, by decide⟩ rfl ?_
    refine A_ldc2 (x := 200) dX7_calmed_11 cs_X7_197 rfl ⟨by decide, by decide⟩ ?_
    refine A_ins3 dX7_calmed_14 ms_X7_53 (Nat.le_of_ble_eq_true rfl) ?_
    refine C_in ?_
    refine A_if_ne (tgt := 22) dX7_calmed_17 (by decide) (fun c_17 => ?_) (fun c_17 => ?_)
    · replace c_17 := i01n c_17
      exact good (by omega)
    · replace c_17 := i01e c_17
      exact bad (by omega)
theorem C_count {what B : Int} (hM : MO G m) (hR : PZ d m 0 R) (hW : WR R B) (hK0 : ¬ (0 ≤ what ∧ what ≤ 9) → K (some (kI (-1))) G d) (hK : 0 ≤ what ∧ what ≤ 9 → ∀ (d' : HD) (n : Nat) (h s : Int → Int), MK d d' m → KS R (knP R) n h s → K (some (kI (countA R n s what))) G d') : AM E mX7_count (k + 4) 0 0 [kR m, kI what] G d K := by
  obtain ⟨ho, e0, a0, e1, a1, e2, a2, e4, a4, e5, a5, e6, a6, e7, a7, e8, a8, e9, a9, e13, a13, e14, a14, e15, a15, e18, a18, e19, a19⟩ := id hM
  obtain ⟨w0, w1, w2, w3, wc, wb, wp, wv, wd⟩ := id hW
  refine AM.of rfl (Nat.le_of_ble_eq_true rfl) ?_
  refine A_iload_n dX7_count_0 rfl rfl ?_
  refine A_i2l dX7_count_1 ?_
  refine A_lconst (x := 0) dX7_count_2 ⟨by decide, by decide⟩ rfl ?_
  refine A_ldc2 (x := 9) dX7_count_3 cs_X7_72 rfl ⟨by decide, by decide⟩ ?_
  refine A_ins3 dX7_count_6 ms_X7_53 (Nat.le_of_ble_eq_true rfl) ?_
  refine C_in ?_
  refine A_if_ne (tgt := 14) dX7_count_9 (by decide) (fun c_9 => ?_) (fun c_9 => ?_)
  · replace c_9 := i01n c_9
    refine A_aload_n dX7_count_14 rfl rfl ?_
    refine A_iconst dX7_count_15 ⟨by decide, by decide⟩ ?_
    refine A_inv1 dX7_count_16 mv_X7_215 kCl_7 (Nat.le_of_ble_eq_true rfl) (by assumption) ?_
    have hin : 0 ≤ what ∧ what ≤ 9 := c_9
    refine C_findKnots hM hR (by omega) (by omega) hW.G wd (fun c c1 c2 => (wc c c1 c2).2.1) (fun d2 n g1 g2 g3 => ?_)
    have hK' := hK hin d2 n _ _ g1 g3
    have hz := g1.PZ hR
    have z0 := hz.z
    have kn := KS_n g3
    have kr := knN_rg (R := R) w2.1
    unfold countA at hK'
    rw [if_neg (by omega)] at hK'
    have sw : AW E mX7_count (k + 4) 0 0 46 [some (kR m), some (kI what), some (kI (suF (d2 (m + 14)) n)), some (kI n)] [] G d2 K := by
      refine A_iload_n dX7_count_46 rfl rfl ?_
      -- switch at 47: .tableswitch 97 0 8 #[49, 56, 56, 56, 68, 75, 83, 88, 90]
      rcases (show what = 0 ∨ (1 ≤ what ∧ what ≤ 3) ∨ what = 4 ∨ what = 5 ∨ what = 6 ∨ what = 7 ∨ what = 8 ∨ what = 9 by omega) with rfl | q | rfl | rfl | rfl | rfl | rfl | rfl
      · refine A_tsI (tgt := 96) dX7_count_47 (by omega) (by omega) rfl (by decide) ?_
        refine A_aload_n dX7_count_96 rfl rfl ?_
        refine A_getR (fi := 0) dX7_count_97 fg_X7_7 rfl rfl (by assumption) (by assumption) ?_
        refine A_iconst dX7_count_100 ⟨by decide, by decide⟩ ?_
        refine A_iald dX7_count_101 (by assumption) (by omega) (by omega) ?_
        rw [z0 2 (by omega) (by omega)]
        refine A_iret dX7_count_102 rfl ?_
        exact hK'
      · rw [if_neg (by omega), if_pos (by omega)] at hK'
        have go : AW E mX7_count (k + 4) 0 0 103 [some (kR m), some (kI what), some (kI (suF (d2 (m + 14)) n)), some (kI n)] [] G d2 K := by
          refine A_aload_n dX7_count_103 rfl rfl ?_
          refine A_getR (fi := 0) dX7_count_104 fg_X7_7 rfl rfl (by assumption) (by assumption) ?_
          refine A_bipush dX7_count_107 ⟨by decide, by decide⟩ rfl ?_
          refine A_iload_n dX7_count_109 rfl rfl ?_
          refine A_iadd_ok dX7_count_110 (by omega) (by omega) ?_
          refine A_iconst dX7_count_111 ⟨by decide, by decide⟩ ?_
          refine A_isub_ok dX7_count_112 (by omega) (by omega) ?_
          refine A_iald dX7_count_113 (by assumption) (by omega) (by omega) ?_
          rw [z0 (37 + what - 1) (by omega) (by omega)]
          refine A_iret dX7_count_114 rfl ?_
          exact hK'
        rcases (show what = 1 ∨ what = 2 ∨ what = 3 by omega) with rfl | rfl | rfl
        · exact A_tsI (tgt := 103) dX7_count_47 (by omega) (by omega) rfl (by decide) go
        · exact A_tsI (tgt := 103) dX7_count_47 (by omega) (by omega) rfl (by decide) go
        · exact A_tsI (tgt := 103) dX7_count_47 (by omega) (by omega) rfl (by decide) go
      · refine A_tsI (tgt := 115) dX7_count_47 (by omega) (by omega) rfl (by decide) ?_
        refine A_aload_n dX7_count_115 rfl rfl ?_
        refine A_getR (fi := 0) dX7_count_116 fg_X7_7 rfl rfl (by assumption) (by assumption) ?_
        refine A_iconst dX7_count_119 ⟨by decide, by decide⟩ ?_
        refine A_iald dX7_count_120 (by assumption) (by omega) (by omega) ?_
        rw [z0 5 (by omega) (by omega)]
        refine A_iret dX7_count_121 rfl ?_
        exact hK'
      · refine A_tsI (tgt := 122) dX7_count_47 (by omega) (by omega) rfl (by decide) ?_
        refine A_aload_n dX7_count_122 rfl rfl ?_
        refine A_getR (fi := 0) dX7_count_123 fg_X7_7 rfl rfl (by assumption) (by assumption) ?_
        refine A_bipush dX7_count_126 ⟨by decide, by decide⟩ rfl ?_
        refine A_iald dX7_count_128 (by assumption) (by omega) (by omega) ?_
        rw [z0 6 (by omega) (by omega)]
        refine A_iret dX7_count_129 rfl ?_
        exact hK'
      · refine A_tsI (tgt := 130) dX7_count_47 (by omega) (by omega) rfl (by decide) ?_
        refine A_aload_n dX7_count_130 rfl rfl ?_
        refine A_get (fi := 20) dX7_count_131 fg_X7_203 rfl rfl (by assumption) ?_
        rw [g2]
        refine A_iret dX7_count_134 rfl ?_
        exact hK'
      · refine A_tsI (tgt := 135) dX7_count_47 (by omega) (by omega) rfl (by decide) ?_
        refine A_iload_n dX7_count_135 rfl rfl ?_
        refine A_iret dX7_count_136 rfl ?_
        exact hK'
      · refine A_tsI (tgt := 137) dX7_count_47 (by omega) (by omega) rfl (by decide) ?_
        refine A_aload_n dX7_count_137 rfl rfl ?_
        refine A_getR (fi := 0) dX7_count_138 fg_X7_7 rfl rfl (by assumption) (by assumption) ?_
        refine A_iconst dX7_count_141 ⟨by decide, by decide⟩ ?_
        refine A_iald dX7_count_142 (by assumption) (by omega) (by omega) ?_
        rw [z0 3 (by omega) (by omega)]
        refine A_iret dX7_count_143 rfl ?_
        exact hK'
      · refine A_tsO (tgt := 144) dX7_count_47 (by decide) (by omega) ?_
        refine A_aload_n dX7_count_144 rfl rfl ?_
        refine A_iconst dX7_count_145 ⟨by decide, by decide⟩ ?_
        refine A_inv1 dX7_count_146 mv_X7_194 kCl_7 (Nat.le_of_ble_eq_true rfl) (by assumption) ?_
        refine C_isEven hM hz (by omega) (by omega) w2.1 w2.2 ?_
        have eb := evnF_b R (R 2).toNat
        have eb' : evnS R = 0 ∨ evnS R = 1 := eb
        refine A_if_eq (tgt := 156) dX7_count_149 (by decide) (fun c_149 => ?_) (fun c_149 => ?_)
        · refine A_iconst dX7_count_156 ⟨by decide, by decide⟩ ?_
          refine A_iret dX7_count_157 rfl ?_
          rw [c_149] at hK'
          exact hK'
        · refine A_iconst dX7_count_152 ⟨by decide, by decide⟩ ?_
          refine A_goto (tgt := 157) dX7_count_153 (by decide) ?_
          refine A_iret dX7_count_157 rfl ?_
          rw [show evnS R = 1 by omega] at hK'
          exact hK'
    have loop : ∀ (f j : Nat), j + f = n → AW E mX7_count (k + 4) 0 0 23 [some (kR m), some (kI what), some (kI (suF (d2 (m + 14)) j)), some (kI j)] [] G d2 K := by
      intro f
      induction f with
      | zero =>
        intro j hj
        have : j = n := by omega
        subst this
        refine A_iload_n dX7_count_23 rfl rfl ?_
        refine A_aload_n dX7_count_24 rfl rfl ?_
        refine A_get (fi := 20) dX7_count_25 fg_X7_203 rfl rfl (by assumption) ?_
        refine A_icmp_ge (tgt := 46) dX7_count_28 (by decide) (fun c_28 => ?_) (fun c_28 => absurd c_28 (by omega))
        exact sw
      | succ f ih =>
        intro j hj
        have u := KS_su w2.1 w2.2 g3 j (by omega)
        have u2 := KS_su w2.1 w2.2 g3 (j + 1) (by omega)
        simp only [suF] at u2
        refine A_iload_n dX7_count_23 rfl rfl ?_
        refine A_aload_n dX7_count_24 rfl rfl ?_
        refine A_get (fi := 20) dX7_count_25 fg_X7_203 rfl rfl (by assumption) ?_
        refine A_icmp_ge (tgt := 46) dX7_count_28 (by decide) (fun c_28 => absurd c_28 (by omega)) (fun c_28 => ?_)
        refine A_iload_n dX7_count_31 rfl rfl ?_
        refine A_aload_n dX7_count_32 rfl rfl ?_
        refine A_getR (fi := 19) dX7_count_33 fg_X7_50 rfl rfl (by assumption) (by assumption) ?_
        refine A_iload_n dX7_count_36 rfl rfl ?_
        refine A_iald dX7_count_37 (by assumption) (by omega) (by omega) ?_
        refine A_iadd_ok dX7_count_38 (by omega) (by omega) ?_
        refine A_istore_n dX7_count_39 rfl (Nat.le_of_ble_eq_true rfl) rfl ?_
        refine A_iinc_ok dX7_count_40 rfl rfl (by omega) (by omega) ?_
        refine A_goto (tgt := 23) dX7_count_43 (by decide) ?_
        exact ih (j + 1) (by omega)
    refine A_iconst dX7_count_19 ⟨by decide, by decide⟩ ?_
    refine A_istore_n dX7_count_20 rfl (Nat.le_of_ble_eq_true rfl) rfl ?_
    refine A_iconst dX7_count_21 ⟨by decide, by decide⟩ ?_
    refine A_istore_n dX7_count_22 rfl (Nat.le_of_ble_eq_true rfl) rfl ?_
    exact loop n 0 (by omega)
  · replace c_9 := i01e c_9
    refine A_iconst dX7_count_12 ⟨by decide, by decide⟩ ?_
    refine A_iret dX7_count_13 rfl ?_
    exact hK0 c_9
theorem C_knot {i what B : Int} (hM : MO G m) (hR : PZ d m 0 R) (hW : WR R B) (hK0 : (i < 0 ∨ ¬ (0 ≤ what ∧ what ≤ 1)) → K (some (kI (-1))) G d) (hK : ¬ (i < 0 ∨ ¬ (0 ≤ what ∧ what ≤ 1)) → ∀ (d' : HD) (n : Nat) (h s : Int → Int), MK d d' m → KS R (knP R) n h s → K (some (kI (knotA n h s i what))) G d') : AM E mX7_knot (k + 4) 0 0 [kR m, kI i, kI what] G d K := by
  obtain ⟨ho, e0, a0, e1, a1, e2, a2, e4, a4, e5, a5, e6, a6, e7, a7, e8, a8, e9, a9, e13, a13, e14, a14, e15, a15, e18, a18, e19, a19⟩ := id hM
  obtain ⟨w0, w1, w2, w3, wc, wb, wp, wv, wd⟩ := id hW
  refine AM.of rfl (Nat.le_of_ble_eq_true rfl) ?_
  refine A_iload_n dX7_knot_0 rfl rfl ?_
  refine A_if_lt (tgt := 14) dX7_knot_1 (by decide) (fun c_1 => ?_) (fun c_1 => ?_)
  · refine A_iconst dX7_knot_14 ⟨by decide, by decide⟩ ?_
    refine A_iret dX7_knot_15 rfl ?_
    exact hK0 (Or.inl c_1)
  · refine A_iload_n dX7_knot_4 rfl rfl ?_
    refine A_i2l dX7_knot_5 ?_
    refine A_lconst (x := 0) dX7_knot_6 ⟨by decide, by decide⟩ rfl ?_
    refine A_lconst (x := 1) dX7_knot_7 ⟨by decide, by decide⟩ rfl ?_
    refine A_ins3 dX7_knot_8 ms_X7_53 (Nat.le_of_ble_eq_true rfl) ?_
    refine C_in ?_
    refine A_if_ne (tgt := 16) dX7_knot_11 (by decide) (fun c_11 => ?_) (fun c_11 => ?_)
    · replace c_11 := i01n c_11
      refine A_aload_n dX7_knot_16 rfl rfl ?_
      refine A_iconst dX7_knot_17 ⟨by decide, by decide⟩ ?_
      refine A_inv1 dX7_knot_18 mv_X7_215 kCl_7 (Nat.le_of_ble_eq_true rfl) (by assumption) ?_
      refine C_findKnots hM hR (by omega) (by omega) hW.G wd (fun c c1 c2 => (wc c c1 c2).2.1) (fun d2 n g1 g2 g3 => ?_)
      have hK' := hK (by omega) d2 n _ _ g1 g3
      have kn := KS_n g3
      have kr := knN_rg (R := R) w2.1
      unfold knotA at hK'
      rw [if_neg (by omega)] at hK'
      refine A_iload_n dX7_knot_21 rfl rfl ?_
      refine A_aload_n dX7_knot_22 rfl rfl ?_
      refine A_get (fi := 20) dX7_knot_23 fg_X7_203 rfl rfl (by assumption) ?_
      refine A_icmp_lt (tgt := 34) dX7_knot_26 (by decide) (fun c_26 => ?_) (fun c_26 => ?_)
      · rw [if_neg (by omega)] at hK'
        refine A_iload_n dX7_knot_34 rfl rfl ?_
        refine A_if_ne (tgt := 47) dX7_knot_35 (by decide) (fun c_35 => ?_) (fun c_35 => ?_)
        · rw [if_neg (by omega)] at hK'
          refine A_aload_n dX7_knot_47 rfl rfl ?_
          refine A_getR (fi := 19) dX7_knot_48 fg_X7_50 rfl rfl (by assumption) (by assumption) ?_
          refine A_iload_n dX7_knot_51 rfl rfl ?_
          refine A_iald dX7_knot_52 (by assumption) (by omega) (by omega) ?_
          refine A_iret dX7_knot_53 rfl ?_
          exact hK'
        · rw [if_pos (by omega)] at hK'
          refine A_aload_n dX7_knot_38 rfl rfl ?_
          refine A_getR (fi := 18) dX7_knot_39 fg_X7_47 rfl rfl (by assumption) (by assumption) ?_
          refine A_iload_n dX7_knot_42 rfl rfl ?_
          refine A_iald dX7_knot_43 (by assumption) (by omega) (by omega) ?_
          refine A_goto (tgt := 53) dX7_knot_44 (by decide) ?_
          refine A_iret dX7_knot_53 rfl ?_
          exact hK'
      · rw [if_pos (by omega)] at hK'
        refine A_bipush dX7_knot_29 ⟨by decide, by decide⟩ rfl ?_
        refine A_goto (tgt := 53) dX7_knot_31 (by decide) ?_
        refine A_iret dX7_knot_53 rfl ?_
        exact hK'
    · replace c_11 := i01e c_11
      refine A_iconst dX7_knot_14 ⟨by decide, by decide⟩ ?_
      refine A_iret dX7_knot_15 rfl ?_
      exact hK0 (Or.inr c_11)
end K6
