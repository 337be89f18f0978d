/-- loops that a car of this cell and pace comes to or passes -/
def lpF (R : Int → Int) (cell pace : Int) : Nat → (Int → Int)
  | 0 => R
  | b + 1 => if 1 ≤ onS (R 0) cell (R (22 + 3 * b)) ∧ onS (R 0) cell (R (22 + 3 * b)) ≤ pace then fU (fU (lpF R cell pace b) (22 + 3 * b + 1) (R (22 + 3 * b + 1) + 1)) (22 + 3 * b + 2) (R (22 + 3 * b + 2) + pace) else lpF R cell pace b
def goR (R : Int → Int) (c : Int) : Int → Int := fU (fU (fU (lpF R (cfR R c 0) (cfR R c 2) (R 6).toNat) (340 + 24 * c + 0) ((cfR R c 0 + cfR R c 2) % R 0)) (340 + 24 * c + 5) (cfR R c 5 + cfR R c 2)) (340 + 24 * c + 7) 0
theorem lpF_at {R : Int → Int} {cell pace : Int} : ∀ (b : Nat) (j : Int), (j < 22 ∨ 22 + 3 * b ≤ j ∨ (j - 22) % 3 = 0) → lpF R cell pace b j = R j
  | 0, j, _ => rfl
  | b + 1, j, h => by
    have ih := lpF_at (R := R) (cell := cell) (pace := pace) b j (by omega)
    simp only [lpF]
    split
    · rw [fU_n (by omega), fU_n (by omega)]; exact ih
    · exact ih
def evnF (R : Int → Int) : Nat → Int
  | 0 => 1
  | k + 1 => if evnF R k ≠ 0 ∧ 0 < cfR R k 2 ∧ cfR R k 2 = cfR R 0 2 then 1 else 0
def evnS (R : Int → Int) : Int := evnF R (R 2).toNat
theorem evnF_b (R : Int → Int) : ∀ k : Nat, evnF R k = 0 ∨ evnF R k = 1
  | 0 => Or.inr rfl
  | k + 1 => by simp only [evnF]; split <;> simp
/-- the first who stands, from the top down -/
def nfF (R : Int → Int) (nn x N : Int) : Nat → Int
  | 0 => x
  | i + 1 => if nn ≠ 0 ∧ cfR R (N - 1 - i) 2 = 0 then N - 1 - i else nfF R nn x N i
def nf1 (R : Int → Int) : Int → Int := if evnS R ≠ 0 then fU R 4 (-4) else R
def nfN (R : Int → Int) : Int := if nf1 R 4 = -4 ∧ evnS R = 0 then 1 else 0
def nfR (R : Int → Int) : Int → Int := fU (nf1 R) 4 (nfF R (nfN R) (nf1 R 4) (R 2) (R 2).toNat)
section T3
variable {E : EE} {k m : Nat} {G : HG} {d : HD} {K : PQ} {R : Int → Int}
theorem C_goOn {r c : Int} (hM : MO G m) (hR : PZ d m r R) (h1 : 0 ≤ r) (h2 : r ≤ 4) (hW : WG R) (hL : WL R) (hc : 0 ≤ c) (hc2 : c < R 2) (hp : 0 ≤ cfR R c 2) (hp2 : cfR R c 2 ≤ 9) (h5 : 0 ≤ cfR R c 5) (h52 : cfR R c 5 ≤ 100000000) (hK : ∀ d', MR d d' m r → PZ d' m r (goR R c) → K none G d') : AM E mX7_goOn (k + 2) 0 0 [kR m, kI r, kI c] G d K := by
  obtain ⟨w1, w2, w3, w4, w5⟩ := id hW
  obtain ⟨b1, b2, b3⟩ := id hL
  obtain ⟨ho, e0, a0, -⟩ := id hM
  obtain ⟨N, hN⟩ : ∃ N : Nat, R 6 = N := ⟨(R 6).toNat, by omega⟩
  have wc := w5 c hc hc2
  generalize hcell : cfR R c 0 = cell at *
  generalize hpace : cfR R c 2 = pace at *
  have loop : ∀ (n j : Nat), N - j < n → j ≤ N → ∀ d', MR d d' m r → PZ d' m r (lpF R cell pace j) → ∀ q6 : Option AV, AW E mX7_goOn (k + 2) 0 0 20 [some (kR m), some (kI r), some (kI c), some (kI pace), some (kI cell), some (kI j), q6] [] G d' K := by
    intro n
    induction n with
    | zero => intro j h; omega
    | succ n ih =>
      intro j hj hjN d' hc' hz q6
      have z6 := hz 6 (by omega) (by omega)
      rw [lpF_at j 6 (by omega)] at z6
      have z0 := hz 0 (by omega) (by omega)
      rw [lpF_at j 0 (by omega)] at z0
      refine A_iload dX7_goOn_20 rfl ?_
      refine A_aload_n dX7_goOn_22 rfl rfl ?_
      refine A_getR (fi := 0) dX7_goOn_23 fg_X7_7 rfl rfl (by assumption) (by assumption) ?_
      refine A_sipush dX7_goOn_26 ⟨by decide, by decide⟩ rfl ?_
      refine A_iload_n dX7_goOn_29 rfl rfl ?_
      refine A_imul_ok dX7_goOn_30 (by omega) (by omega) ?_
      refine A_bipush dX7_goOn_31 ⟨by decide, by decide⟩ rfl ?_
      refine A_iadd_ok dX7_goOn_33 (by omega) (by omega) ?_
      refine A_iald dX7_goOn_34 (by assumption) (by omega) (by omega) ?_
      refine A_icmp_ge (tgt := 109) dX7_goOn_35 (by decide) (fun c_35 => ?_) (fun c_35 => ?_)
      · have : j = N := by omega
        subst this
        have e : (R 6).toNat = j := by omega
        have p1 := hz.u (i := 640 * r + 340 + 24 * c + 0) (q := 340 + 24 * c + 0) (v := (cell + pace) % R 0) (by omega)
        have p2 := p1.u (i := 640 * r + 340 + 24 * c + 5) (q := 340 + 24 * c + 5) (v := cfR R c 5 + pace) (by omega)
        have v5 : ∀ w, kU d' (m + 1) (640 * r + 340 + 24 * c + 0) w (m + 1) (640 * r + 340 + 24 * c + 5) = cfR R c 5 := fun w => by
          unfold kU
          rw [if_neg (by omega)]
          have := hz (340 + 24 * c + 5) (by omega) (by omega)
          rw [lpF_at j _ (by omega)] at this
          rw [show 640 * r + 340 + 24 * c + 5 = 640 * r + (340 + 24 * c + 5) by omega, this]
          rfl
        refine A_aload_n dX7_goOn_109 rfl rfl ?_
        refine A_getR (fi := 0) dX7_goOn_110 fg_X7_7 rfl rfl (by assumption) (by assumption) ?_
        refine A_iload_n dX7_goOn_113 rfl rfl ?_
        refine A_iload_n dX7_goOn_114 rfl rfl ?_
        refine A_iconst dX7_goOn_115 ⟨by decide, by decide⟩ ?_
        refine A_ins3 dX7_goOn_116 ms_X7_74 (Nat.le_of_ble_eq_true rfl) ?_
        refine C_at (by omega) (by omega) (by omega) (by omega) (by omega) (by omega) ?_
        refine A_iload dX7_goOn_119 rfl ?_
        refine A_iload_n dX7_goOn_121 rfl rfl ?_
        refine A_iadd_ok dX7_goOn_122 (by omega) (by omega) ?_
        refine A_aload_n dX7_goOn_123 rfl rfl ?_
        refine A_getR (fi := 0) dX7_goOn_124 fg_X7_7 rfl rfl (by assumption) (by assumption) ?_
        refine A_sipush dX7_goOn_127 ⟨by decide, by decide⟩ rfl ?_
        refine A_iload_n dX7_goOn_130 rfl rfl ?_
        refine A_imul_ok dX7_goOn_131 (by omega) (by omega) ?_
        refine A_iconst dX7_goOn_132 ⟨by decide, by decide⟩ ?_
        refine A_iadd_ok dX7_goOn_133 (by omega) (by omega) ?_
        refine A_iald dX7_goOn_134 (by assumption) (by omega) (by omega) ?_
        refine A_irem_p dX7_goOn_135 (by omega) (by omega) ?_
        refine A_iast dX7_goOn_136 (by assumption) (by omega) (by omega) ?_
        rw [z0]
        refine A_aload_n dX7_goOn_137 rfl rfl ?_
        refine A_getR (fi := 0) dX7_goOn_138 fg_X7_7 rfl rfl (by assumption) (by assumption) ?_
        refine A_iload_n dX7_goOn_141 rfl rfl ?_
        refine A_iload_n dX7_goOn_142 rfl rfl ?_
        refine A_iconst dX7_goOn_143 ⟨by decide, by decide⟩ ?_
        refine A_ins3 dX7_goOn_144 ms_X7_74 (Nat.le_of_ble_eq_true rfl) ?_
        refine C_at (by omega) (by omega) (by omega) (by omega) (by omega) (by omega) ?_
        refine A_dup2 dX7_goOn_147 (fun B => toV_cat B _) (fun B => toV_cat B _) ?_
        refine A_iald dX7_goOn_148 (by assumption) (by omega) (by omega) ?_
        rw [v5]
        refine A_iload_n dX7_goOn_149 rfl rfl ?_
        refine A_iadd_ok dX7_goOn_150 (by omega) (by omega) ?_
        refine A_iast dX7_goOn_151 (by assumption) (by omega) (by omega) ?_
        refine A_aload_n dX7_goOn_152 rfl rfl ?_
        refine A_getR (fi := 0) dX7_goOn_153 fg_X7_7 rfl rfl (by assumption) (by assumption) ?_
        refine A_iload_n dX7_goOn_156 rfl rfl ?_
        refine A_iload_n dX7_goOn_157 rfl rfl ?_
        refine A_bipush dX7_goOn_158 ⟨by decide, by decide⟩ rfl ?_
        refine A_ins3 dX7_goOn_160 ms_X7_74 (Nat.le_of_ble_eq_true rfl) ?_
        refine C_at (by omega) (by omega) (by omega) (by omega) (by omega) (by omega) ?_
        refine A_iconst dX7_goOn_163 ⟨by decide, by decide⟩ ?_
        refine A_iast dX7_goOn_164 (by assumption) (by omega) (by omega) ?_
        refine A_vret dX7_goOn_165 rfl ?_
        refine hK _ (((hc'.z (by omega) (by omega)).z (by omega) (by omega)).z (by omega) (by omega)) ?_
        unfold goR
        rw [hcell, hpace, e]
        exact p2.u (i := 640 * r + 340 + 24 * c + 7) (q := 340 + 24 * c + 7) (v := 0) (by omega)
      · obtain ⟨wj1, wj2, wj3⟩ := b3 j (by omega) (by omega)
        have v0 : d' (m + 1) (640 * r + 22 + 3 * j) = R (22 + 3 * j) := by
          have := hz (22 + 3 * j) (by omega) (by omega)
          rw [lpF_at j _ (by omega)] at this
          rw [← this]; congr 1; omega
        have v1 : d' (m + 1) (640 * r + 22 + 3 * j + 1) = R (22 + 3 * j + 1) := by
          have := hz (22 + 3 * j + 1) (by omega) (by omega)
          rw [lpF_at j _ (by omega)] at this
          rw [← this]; congr 1; omega
        have v2 : ∀ w, kU d' (m + 1) (640 * r + 22 + 3 * j + 1) w (m + 1) (640 * r + 22 + 3 * j + 2) = R (22 + 3 * j + 2) := fun w => by
          unfold kU
          rw [if_neg (by omega)]
          have := hz (22 + 3 * j + 2) (by omega) (by omega)
          rw [lpF_at j _ (by omega)] at this
          rw [← this]; congr 1; omega
        have next := ih (j + 1) (by omega) (by omega)
        have hon : 12 ≤ lpF R cell pace j 0 ∧ lpF R cell pace j 0 ≤ 99 := by rw [lpF_at j 0 (by omega)]; omega
        have e0' : lpF R cell pace j 0 = R 0 := lpF_at j 0 (by omega)
        refine A_sipush dX7_goOn_38 ⟨by decide, by decide⟩ rfl ?_
        refine A_iload_n dX7_goOn_41 rfl rfl ?_
        refine A_imul_ok dX7_goOn_42 (by omega) (by omega) ?_
        refine A_bipush dX7_goOn_43 ⟨by decide, by decide⟩ rfl ?_
        refine A_iadd_ok dX7_goOn_45 (by omega) (by omega) ?_
        refine A_iconst dX7_goOn_46 ⟨by decide, by decide⟩ ?_
        refine A_iload dX7_goOn_47 rfl ?_
        refine A_imul_ok dX7_goOn_49 (by omega) (by omega) ?_
        refine A_iadd_ok dX7_goOn_50 (by omega) (by omega) ?_
        refine A_istore dX7_goOn_51 (Nat.le_of_ble_eq_true rfl) rfl ?_
        refine A_aload_n dX7_goOn_53 rfl rfl ?_
        refine A_iload_n dX7_goOn_54 rfl rfl ?_
        refine A_iload dX7_goOn_55 rfl ?_
        refine A_aload_n dX7_goOn_57 rfl rfl ?_
        refine A_getR (fi := 0) dX7_goOn_58 fg_X7_7 rfl rfl (by assumption) (by assumption) ?_
        refine A_iload dX7_goOn_61 rfl ?_
        refine A_iald dX7_goOn_63 (by assumption) (by omega) (by omega) ?_
        refine A_inv3 dX7_goOn_64 mv_X7_61 kCl_7 (Nat.le_of_ble_eq_true rfl) (by assumption) ?_
        rw [v0]
        refine C_on hM hz h1 h2 hon.1 hon.2 wc.1 (by rw [e0']; exact wc.2) wj1.1 (by rw [e0']; exact wj1.2) ?_
        rw [e0']
        refine A_i2l dX7_goOn_67 ?_
        refine A_lconst (x := 1) dX7_goOn_68 ⟨by decide, by decide⟩ rfl ?_
        refine A_iload_n dX7_goOn_69 rfl rfl ?_
        refine A_i2l dX7_goOn_70 ?_
        refine A_ins3 dX7_goOn_71 ms_X7_53 (Nat.le_of_ble_eq_true rfl) ?_
        refine C_in ?_
        refine A_if_eq (tgt := 103) dX7_goOn_74 (by decide) (fun c_74 => ?_) (fun c_74 => ?_)
        · replace c_74 := i01e c_74
          refine A_iinc_ok dX7_goOn_103 rfl rfl (by omega) (by omega) ?_
          refine A_goto (tgt := 20) dX7_goOn_106 (by decide) ?_
          refine next d' hc' ?_ _
          simp only [lpF]
          rw [if_neg (by omega)]
          exact hz
        · replace c_74 := i01n c_74
          refine A_aload_n dX7_goOn_77 rfl rfl ?_
          refine A_getR (fi := 0) dX7_goOn_78 fg_X7_7 rfl rfl (by assumption) (by assumption) ?_
          refine A_iload dX7_goOn_81 rfl ?_
          refine A_iconst dX7_goOn_83 ⟨by decide, by decide⟩ ?_
          refine A_iadd_ok dX7_goOn_84 (by omega) (by omega) ?_
          refine A_dup2 dX7_goOn_85 (fun B => toV_cat B _) (fun B => toV_cat B _) ?_
          refine A_iald dX7_goOn_86 (by assumption) (by omega) (by omega) ?_
          refine A_iconst dX7_goOn_87 ⟨by decide, by decide⟩ ?_
          rw [v1]
          refine A_iadd_ok dX7_goOn_88 (by omega) (by omega) ?_
          refine A_iast dX7_goOn_89 (by assumption) (by omega) (by omega) ?_
          refine A_aload_n dX7_goOn_90 rfl rfl ?_
          refine A_getR (fi := 0) dX7_goOn_91 fg_X7_7 rfl rfl (by assumption) (by assumption) ?_
          refine A_iload dX7_goOn_94 rfl ?_
          refine A_iconst dX7_goOn_96 ⟨by decide, by decide⟩ ?_
          refine A_iadd_ok dX7_goOn_97 (by omega) (by omega) ?_
          refine A_dup2 dX7_goOn_98 (fun B => toV_cat B _) (fun B => toV_cat B _) ?_
          refine A_iald dX7_goOn_99 (by assumption) (by omega) (by omega) ?_
          refine A_iload_n dX7_goOn_100 rfl rfl ?_
          rw [v2]
          refine A_iadd_ok dX7_goOn_101 (by omega) (by omega) ?_
          refine A_iast dX7_goOn_102 (by assumption) (by omega) (by omega) ?_
          refine A_iinc_ok dX7_goOn_103 rfl rfl (by omega) (by omega) ?_
          refine A_goto (tgt := 20) dX7_goOn_106 (by decide) ?_
          refine next _ ((hc'.z (by omega) (by omega)).z (by omega) (by omega)) ?_ _
          simp only [lpF]
          rw [if_pos (by omega)]
          exact (hz.u (by omega)).u (by omega)
  refine AM.of rfl (Nat.le_of_ble_eq_true rfl) ?_
  refine A_aload_n dX7_goOn_0 rfl rfl ?_
  refine A_iload_n dX7_goOn_1 rfl rfl ?_
  refine A_iload_n dX7_goOn_2 rfl rfl ?_
  refine A_iconst dX7_goOn_3 ⟨by decide, by decide⟩ ?_
  refine A_inv3 dX7_goOn_4 mv_X7_57 kCl_7 (Nat.le_of_ble_eq_true rfl) (by assumption) ?_
  refine C_of hM hR (by omega) (by omega) (by omega) (by omega) (by omega) (by omega) ?_
  refine A_istore_n dX7_goOn_7 rfl (Nat.le_of_ble_eq_true rfl) rfl ?_
  refine A_aload_n dX7_goOn_8 rfl rfl ?_
  refine A_iload_n dX7_goOn_9 rfl rfl ?_
  refine A_iload_n dX7_goOn_10 rfl rfl ?_
  refine A_iconst dX7_goOn_11 ⟨by decide, by decide⟩ ?_
  refine A_inv3 dX7_goOn_12 mv_X7_57 kCl_7 (Nat.le_of_ble_eq_true rfl) (by assumption) ?_
  refine C_of hM hR (by omega) (by omega) (by omega) (by omega) (by omega) (by omega) ?_
  refine A_istore dX7_goOn_15 (Nat.le_of_ble_eq_true rfl) rfl ?_
  refine A_iconst dX7_goOn_17 ⟨by decide, by decide⟩ ?_
  refine A_istore dX7_goOn_18 (Nat.le_of_ble_eq_true rfl) rfl ?_
  rw [hcell, hpace]
  exact loop (N + 1) 0 (by omega) (by omega) d MR.rf hR none
theorem C_isEven {r : Int} (hM : MO G m) (hR : PZ d m r R) (h1 : 0 ≤ r) (h2 : r ≤ 4) (hc : 0 ≤ R 2) (hc2 : R 2 ≤ 12) (hK : K (some (kI (evnS R))) G d) : AM E mX7_isEven (k + 1) 0 0 [kR m, kI r] G d K := by
  obtain ⟨ho, e0, a0, -⟩ := id hM
  obtain ⟨N, hN⟩ : ∃ N : Nat, R 2 = N := ⟨(R 2).toNat, by omega⟩
  have z2 := hR 2 (by omega) (by omega)
  have loop : ∀ (n j : Nat), N - j < n → j ≤ N → AW E mX7_isEven (k + 1) 0 0 4 [some (kR m), some (kI r), some (kI (evnF R j)), some (kI j)] [] G d K := by
    intro n
    induction n with
    | zero => intro j h; omega
    | succ n ih =>
      intro j hj hjN
      have hb := evnF_b R j
      refine A_iload_n dX7_isEven_4 rfl rfl ?_
      refine A_aload_n dX7_isEven_5 rfl rfl ?_
      refine A_getR (fi := 0) dX7_isEven_6 fg_X7_7 rfl rfl (by assumption) (by assumption) ?_
      refine A_sipush dX7_isEven_9 ⟨by decide, by decide⟩ rfl ?_
      refine A_iload_n dX7_isEven_12 rfl rfl ?_
      refine A_imul_ok dX7_isEven_13 (by omega) (by omega) ?_
      refine A_iconst dX7_isEven_14 ⟨by decide, by decide⟩ ?_
      refine A_iadd_ok dX7_isEven_15 (by omega) (by omega) ?_
      refine A_iald dX7_isEven_16 (by assumption) (by omega) (by omega) ?_
      refine A_icmp_ge (tgt := 63) dX7_isEven_17 (by decide) (fun c_17 => ?_) (fun c_17 => ?_)
      · refine A_iload_n dX7_isEven_63 rfl rfl ?_
        refine A_zret dX7_isEven_64 rfl (by first | exact Or.inl rfl | exact Or.inr rfl | assumption | omega) ?_
        have : j = N := by omega
        subst this
        have e : (R 2).toNat = j := by omega
        unfold evnS at hK
        rw [e] at hK
        exact hK
      · have next := ih (j + 1) (by omega) (by omega)
        refine A_iload_n dX7_isEven_20 rfl rfl ?_
        refine A_if_eq (tgt := 55) dX7_isEven_21 (by decide) (fun c_21 => ?_) (fun c_21 => ?_)
        · refine A_iconst dX7_isEven_55 ⟨by decide, by decide⟩ ?_
          refine A_istore_n dX7_isEven_56 rfl (Nat.le_of_ble_eq_true rfl) rfl ?_
          refine A_iinc_ok dX7_isEven_57 rfl rfl (by omega) (by omega) ?_
          refine A_goto (tgt := 4) dX7_isEven_60 (by decide) ?_
          have e : evnF R (j + 1) = 0 := by simp only [evnF]; rw [if_neg (by omega)]
          rw [e] at next
          exact next
        · refine A_aload_n dX7_isEven_24 rfl rfl ?_
          refine A_iload_n dX7_isEven_25 rfl rfl ?_
          refine A_iload_n dX7_isEven_26 rfl rfl ?_
          refine A_iconst dX7_isEven_27 ⟨by decide, by decide⟩ ?_
          refine A_inv3 dX7_isEven_28 mv_X7_57 kCl_7 (Nat.le_of_ble_eq_true rfl) (by assumption) ?_
          refine C_of hM hR (by omega) (by omega) (by omega) (by omega) (by omega) (by omega) ?_
          refine A_if_le (tgt := 55) dX7_isEven_31 (by decide) (fun c_31 => ?_) (fun c_31 => ?_)
          · refine A_iconst dX7_isEven_55 ⟨by decide, by decide⟩ ?_
            refine A_istore_n dX7_isEven_56 rfl (Nat.le_of_ble_eq_true rfl) rfl ?_
            refine A_iinc_ok dX7_isEven_57 rfl rfl (by omega) (by omega) ?_
            refine A_goto (tgt := 4) dX7_isEven_60 (by decide) ?_
            have e : evnF R (j + 1) = 0 := by simp only [evnF]; rw [if_neg (by omega)]
            rw [e] at next
            exact next
          · refine A_aload_n dX7_isEven_34 rfl rfl ?_
            refine A_iload_n dX7_isEven_35 rfl rfl ?_
            refine A_iload_n dX7_isEven_36 rfl rfl ?_
            refine A_iconst dX7_isEven_37 ⟨by decide, by decide⟩ ?_
            refine A_inv3 dX7_isEven_38 mv_X7_57 kCl_7 (Nat.le_of_ble_eq_true rfl) (by assumption) ?_
            refine C_of hM hR (by omega) (by omega) (by omega) (by omega) (by omega) (by omega) ?_
            refine A_aload_n dX7_isEven_41 rfl rfl ?_
            refine A_iload_n dX7_isEven_42 rfl rfl ?_
            refine A_iconst dX7_isEven_43 ⟨by decide, by decide⟩ ?_
            refine A_iconst dX7_isEven_44 ⟨by decide, by decide⟩ ?_
            refine A_inv3 dX7_isEven_45 mv_X7_57 kCl_7 (Nat.le_of_ble_eq_true rfl) (by assumption) ?_
            refine C_of hM hR (by omega) (by omega) (by omega) (by omega) (by omega) (by omega) ?_
            refine A_icmp_ne (tgt := 55) dX7_isEven_48 (by decide) (fun c_48 => ?_) (fun c_48 => ?_)
            · refine A_iconst dX7_isEven_55 ⟨by decide, by decide⟩ ?_
              refine A_istore_n dX7_isEven_56 rfl (Nat.le_of_ble_eq_true rfl) rfl ?_
              refine A_iinc_ok dX7_isEven_57 rfl rfl (by omega) (by omega) ?_
              refine A_goto (tgt := 4) dX7_isEven_60 (by decide) ?_
              have e : evnF R (j + 1) = 0 := by simp only [evnF]; rw [if_neg (by omega)]
              rw [e] at next
              exact next
            · refine A_iconst dX7_isEven_51 ⟨by decide, by decide⟩ ?_
              refine A_goto (tgt := 56) dX7_isEven_52 (by decide) ?_
              refine A_istore_n dX7_isEven_56 rfl (Nat.le_of_ble_eq_true rfl) rfl ?_
              refine A_iinc_ok dX7_isEven_57 rfl rfl (by omega) (by omega) ?_
              refine A_goto (tgt := 4) dX7_isEven_60 (by decide) ?_
              have e : evnF R (j + 1) = 1 := by simp only [evnF]; rw [if_pos (by omega)]
              rw [e] at next
              exact next
  refine AM.of rfl (Nat.le_of_ble_eq_true rfl) ?_
  refine A_iconst dX7_isEven_0 ⟨by decide, by decide⟩ ?_
  refine A_istore_n dX7_isEven_1 rfl (Nat.le_of_ble_eq_true rfl) rfl ?_
  refine A_iconst dX7_isEven_2 ⟨by decide, by decide⟩ ?_
  refine A_istore_n dX7_isEven_3 rfl (Nat.le_of_ble_eq_true rfl) rfl ?_
  exact loop (N + 1) 0 (by omega) (by omega)
theorem evnF_cg {R' : Int → Int} (h : ∀ c, 0 ≤ c → cfR R' c 2 = cfR R c 2) : ∀ k : Nat, evnF R' k = evnF R k
  | 0 => rfl
  | k + 1 => by simp only [evnF, evnF_cg h k, h k (by omega), h 0 (by omega)]
theorem C_noteFirst {r : Int} (hM : MO G m) (hR : PZ d m r R) (h1 : 0 ≤ r) (h2 : r ≤ 4) (hc : 0 ≤ R 2) (hc2 : R 2 ≤ 12) (hK : ∀ d', MR d d' m r → PZ d' m r (nfR R) → K none G d') : AM E mX7_noteFirst (k + 2) 0 0 [kR m, kI r] G d K := by
  obtain ⟨ho, e0, a0, -⟩ := id hM
  obtain ⟨N, hN⟩ : ∃ N : Nat, R 2 = N := ⟨(R 2).toNat, by omega⟩
  have eN : (R 2).toNat = N := by omega
  have n12 : nf1 R 2 = R 2 := by unfold nf1; split; (rw [fU_n (by omega)]); rfl
  have n1c : ∀ c, 0 ≤ c → cfR (nf1 R) c 2 = cfR R c 2 := fun c c1 => by unfold nf1 cfR; split; (rw [fU_n (by omega)]); rfl
  have loop : ∀ (q i : Nat), N - i < q → i ≤ N → ∀ d', MR d d' m r → PZ d' m r (fU (nf1 R) 4 (nfF R (nfN R) (nf1 R 4) (R 2) i)) → AW E mX7_noteFirst (k + 2) 0 0 68 [some (kR m), some (kI r), some (kI (nfN R)), some (kI (N - 1 - i))] [] G d' K := by
    intro q
    induction q with
    | zero => intro i h; omega
    | succ q ih =>
      intro i hi hiN d' hc' hz
      have v4 := hz 4 (by omega) (by omega)
      rw [fU_s] at v4
      refine A_iload_n dX7_noteFirst_68 rfl rfl ?_
      refine A_if_lt (tgt := 120) dX7_noteFirst_69 (by decide) (fun c_69 => ?_) (fun c_69 => ?_)
      · refine A_vret dX7_noteFirst_120 rfl ?_
        have : i = N := by omega
        subst this
        refine hK d' hc' ?_
        unfold nfR
        rw [eN]
        exact hz
      · have next := ih (i + 1) (by omega) (by omega)
        have hpc : cfR (fU (nf1 R) 4 (nfF R (nfN R) (nf1 R 4) (R 2) i)) (N - 1 - i) 2 = cfR R (N - 1 - i) 2 := by
          rw [← n1c _ (by omega)]
          unfold cfR
          rw [fU_n (by omega)]
        have st : ∀ x : Int, x = nfF R (nfN R) (nf1 R 4) (R 2) (i + 1) → AW E mX7_noteFirst (k + 2) 0 0 113 [some (kR m), some (kI r), some (kI (nfN R)), some (kI (N - 1 - i))] [kI x, kI (640 * r + 4), kR (m + 1)] G d' K := by
          intro x hx
          refine A_iast dX7_noteFirst_113 (by assumption) (by omega) (by omega) ?_
          refine A_iinc_ok dX7_noteFirst_114 rfl rfl (by omega) (by omega) ?_
          refine A_goto (tgt := 68) dX7_noteFirst_117 (by decide) ?_
          rw [hx]
          have hz2 := hz.u (i := 640 * r + 4) (q := 4) (v := nfF R (nfN R) (nf1 R 4) (R 2) (i + 1)) (by omega)
          rw [show fU (fU (nf1 R) 4 (nfF R (nfN R) (nf1 R 4) (R 2) i)) 4 (nfF R (nfN R) (nf1 R 4) (R 2) (i + 1)) = fU (nf1 R) 4 (nfF R (nfN R) (nf1 R 4) (R 2) (i + 1)) by funext z; unfold fU; split <;> rfl] at hz2
          have := next _ (hc'.z (by omega) (by omega)) hz2
          rw [show (N : Int) - 1 - ((i + 1 : Nat) : Int) = (N : Int) - 1 - i + -1 by omega] at this
          exact this
        refine A_aload_n dX7_noteFirst_72 rfl rfl ?_
        refine A_getR (fi := 0) dX7_noteFirst_73 fg_X7_7 rfl rfl (by assumption) (by assumption) ?_
        refine A_sipush dX7_noteFirst_76 ⟨by decide, by decide⟩ rfl ?_
        refine A_iload_n dX7_noteFirst_79 rfl rfl ?_
        refine A_imul_ok dX7_noteFirst_80 (by omega) (by omega) ?_
        refine A_iconst dX7_noteFirst_81 ⟨by decide, by decide⟩ ?_
        refine A_iadd_ok dX7_noteFirst_82 (by omega) (by omega) ?_
        refine A_iload_n dX7_noteFirst_83 rfl rfl ?_
        refine A_if_eq (tgt := 101) dX7_noteFirst_84 (by decide) (fun c_84 => ?_) (fun c_84 => ?_)
        · refine A_aload_n dX7_noteFirst_101 rfl rfl ?_
          refine A_getR (fi := 0) dX7_noteFirst_102 fg_X7_7 rfl rfl (by assumption) (by assumption) ?_
          refine A_sipush dX7_noteFirst_105 ⟨by decide, by decide⟩ rfl ?_
          refine A_iload_n dX7_noteFirst_108 rfl rfl ?_
          refine A_imul_ok dX7_noteFirst_109 (by omega) (by omega) ?_
          refine A_iconst dX7_noteFirst_110 ⟨by decide, by decide⟩ ?_
          refine A_iadd_ok dX7_noteFirst_111 (by omega) (by omega) ?_
          refine A_iald dX7_noteFirst_112 (by assumption) (by omega) (by omega) ?_
          rw [v4]
          exact st _ (by simp only [nfF]; rw [if_neg (by omega)])
        · rw [show (N : Int) - 1 - i = (N : Int) - 1 - i from rfl]
          refine A_aload_n dX7_noteFirst_87 rfl rfl ?_
          refine A_iload_n dX7_noteFirst_88 rfl rfl ?_
          refine A_iload_n dX7_noteFirst_89 rfl rfl ?_
          refine A_iconst dX7_noteFirst_90 ⟨by decide, by decide⟩ ?_
          refine A_inv3 dX7_noteFirst_91 mv_X7_57 kCl_7 (Nat.le_of_ble_eq_true rfl) (by assumption) ?_
          refine C_of hM hz (by omega) (by omega) (by omega) (by omega) (by omega) (by omega) ?_
          rw [hpc]
          refine A_if_ne (tgt := 101) dX7_noteFirst_94 (by decide) (fun c_94 => ?_) (fun c_94 => ?_)
          · refine A_aload_n dX7_noteFirst_101 rfl rfl ?_
            refine A_getR (fi := 0) dX7_noteFirst_102 fg_X7_7 rfl rfl (by assumption) (by assumption) ?_
            refine A_sipush dX7_noteFirst_105 ⟨by decide, by decide⟩ rfl ?_
            refine A_iload_n dX7_noteFirst_108 rfl rfl ?_
            refine A_imul_ok dX7_noteFirst_109 (by omega) (by omega) ?_
            refine A_iconst dX7_noteFirst_110 ⟨by decide, by decide⟩ ?_
            refine A_iadd_ok dX7_noteFirst_111 (by omega) (by omega) ?_
            refine A_iald dX7_noteFirst_112 (by assumption) (by omega) (by omega) ?_
            rw [v4]
            exact st _ (by simp only [nfF]; rw [hN, if_neg (by omega)])
          · refine A_iload_n dX7_noteFirst_97 rfl rfl ?_
            refine A_goto (tgt := 113) dX7_noteFirst_98 (by decide) ?_
            exact st _ (by simp only [nfF]; rw [hN, if_pos (by omega)])
  have mid : ∀ d', MR d d' m r → PZ d' m r (nf1 R) → AW E mX7_noteFirst (k + 2) 0 0 22 [some (kR m), some (kI r), none, none] [] G d' K := by
    intro d' hc' hz
    have v4 := hz 4 (by omega) (by omega)
    have v2 := hz 2 (by omega) (by omega)
    rw [n12, hN] at v2
    have go : ∀ x : Int, x = nfN R → AW E mX7_noteFirst (k + 2) 0 0 52 [some (kR m), some (kI r), none, none] [kI x] G d' K := by
      intro x hx
      refine A_istore_n dX7_noteFirst_52 rfl (Nat.le_of_ble_eq_true rfl) rfl ?_
      refine A_aload_n dX7_noteFirst_53 rfl rfl ?_
      refine A_getR (fi := 0) dX7_noteFirst_54 fg_X7_7 rfl rfl (by assumption) (by assumption) ?_
      refine A_sipush dX7_noteFirst_57 ⟨by decide, by decide⟩ rfl ?_
      refine A_iload_n dX7_noteFirst_60 rfl rfl ?_
      refine A_imul_ok dX7_noteFirst_61 (by omega) (by omega) ?_
      refine A_iconst dX7_noteFirst_62 ⟨by decide, by decide⟩ ?_
      refine A_iadd_ok dX7_noteFirst_63 (by omega) (by omega) ?_
      refine A_iald dX7_noteFirst_64 (by assumption) (by omega) (by omega) ?_
      refine A_iconst dX7_noteFirst_65 ⟨by decide, by decide⟩ ?_
      refine A_isub_ok dX7_noteFirst_66 (by omega) (by omega) ?_
      refine A_istore_n dX7_noteFirst_67 rfl (Nat.le_of_ble_eq_true rfl) rfl ?_
      rw [hx, v2]
      have e4 : fU (nf1 R) 4 (nf1 R 4) = nf1 R := by funext z; unfold fU; split; (rename_i q; rw [q]); rfl
      have := loop (N + 1) 0 (by omega) (by omega) d' hc' (by show PZ d' m r (fU (nf1 R) 4 (nf1 R 4)); rw [e4]; exact hz)
      rw [show (N : Int) - 1 - ((0 : Nat) : Int) = (N : Int) - 1 by omega] at this
      exact this
    have ev : evnS (nf1 R) = evnS R := by unfold evnS; rw [n12, evnF_cg n1c]
    refine A_aload_n dX7_noteFirst_22 rfl rfl ?_
    refine A_getR (fi := 0) dX7_noteFirst_23 fg_X7_7 rfl rfl (by assumption) (by assumption) ?_
    refine A_sipush dX7_noteFirst_26 ⟨by decide, by decide⟩ rfl ?_
    refine A_iload_n dX7_noteFirst_29 rfl rfl ?_
    refine A_imul_ok dX7_noteFirst_30 (by omega) (by omega) ?_
    refine A_iconst dX7_noteFirst_31 ⟨by decide, by decide⟩ ?_
    refine A_iadd_ok dX7_noteFirst_32 (by omega) (by omega) ?_
    refine A_iald dX7_noteFirst_33 (by assumption) (by omega) (by omega) ?_
    refine A_bipush dX7_noteFirst_34 ⟨by decide, by decide⟩ rfl ?_
    refine A_icmp_ne (tgt := 51) dX7_noteFirst_36 (by decide) (fun c_36 => ?_) (fun c_36 => ?_)
    · refine A_iconst dX7_noteFirst_51 ⟨by decide, by decide⟩ ?_
      exact go 0 (by unfold nfN; rw [if_neg (by omega)])
    · refine A_aload_n dX7_noteFirst_39 rfl rfl ?_
      refine A_iload_n dX7_noteFirst_40 rfl rfl ?_
      refine A_inv1 dX7_noteFirst_41 mv_X7_194 kCl_7 (Nat.le_of_ble_eq_true rfl) (by assumption) ?_
      refine C_isEven hM hz h1 h2 (by omega) (by omega) ?_
      rw [ev]
      refine A_if_ne (tgt := 51) dX7_noteFirst_44 (by decide) (fun c_44 => ?_) (fun c_44 => ?_)
      · refine A_iconst dX7_noteFirst_51 ⟨by decide, by decide⟩ ?_
        exact go 0 (by unfold nfN; rw [if_neg (by omega)])
      · refine A_iconst dX7_noteFirst_47 ⟨by decide, by decide⟩ ?_
        refine A_goto (tgt := 52) dX7_noteFirst_48 (by decide) ?_
        exact go 1 (by unfold nfN; rw [if_pos (by omega)])
  refine AM.of rfl (Nat.le_of_ble_eq_true rfl) ?_
  refine A_aload_n dX7_noteFirst_0 rfl rfl ?_
  refine A_iload_n dX7_noteFirst_1 rfl rfl ?_
  refine A_inv1 dX7_noteFirst_2 mv_X7_194 kCl_7 (Nat.le_of_ble_eq_true rfl) (by assumption) ?_
  refine C_isEven hM hR h1 h2 (by omega) (by omega) ?_
  refine A_if_eq (tgt := 22) dX7_noteFirst_5 (by decide) (fun c_5 => ?_) (fun c_5 => ?_)
  · skip
    have e : nf1 R = R := by unfold nf1; rw [if_neg (by omega)]
    rw [e] at mid
    exact mid d MR.rf hR
  · refine A_aload_n dX7_noteFirst_8 rfl rfl ?_
    refine A_getR (fi := 0) dX7_noteFirst_9 fg_X7_7 rfl rfl (by assumption) (by assumption) ?_
    refine A_sipush dX7_noteFirst_12 ⟨by decide, by decide⟩ rfl ?_
    refine A_iload_n dX7_noteFirst_15 rfl rfl ?_
    refine A_imul_ok dX7_noteFirst_16 (by omega) (by omega) ?_
    refine A_iconst dX7_noteFirst_17 ⟨by decide, by decide⟩ ?_
    refine A_iadd_ok dX7_noteFirst_18 (by omega) (by omega) ?_
    refine A_bipush dX7_noteFirst_19 ⟨by decide, by decide⟩ rfl ?_
    refine A_iast dX7_noteFirst_21 (by assumption) (by omega) (by omega) ?_
    have e : nf1 R = fU R 4 (-4) := by unfold nf1; rw [if_pos (by omega)]
    rw [e] at mid
    exact mid _ (MR.rf.z (by omega) (by omega)) (hR.u (by omega))
end T3
