/-! sheets: lanes, sizes, items -/
abbrev SS : Type := (Int → Int) × (Int → Int) × (Int → Int → Int)
def SZ (d : HD) (m : Nat) (S : SS) : Prop := ∀ s, 0 ≤ s → s < 4 → d (m + 5) s = S.1 s ∧ d (m + 6) s = S.2.1 s ∧ ∀ i, 0 ≤ i → i < 36 → d (m + 4) (36 * s + i) = S.2.2 s i
def WS (S : SS) : Prop := ∀ s, 0 ≤ s → s < 4 → -1 ≤ S.1 s ∧ S.1 s ≤ 2 ∧ 0 ≤ S.2.1 s ∧ S.2.1 s ≤ 36 ∧ (S.1 s = 0 → ∀ i, 0 ≤ i → i < 36 → S.2.2 s i = 0 ∨ S.2.2 s i = 1)
/-- of the model's cells no more has changed than the sheets, and what no later call looks at -/
def MZ (d d' : HD) (m : Nat) : Prop := (∀ a, (a < m ∨ m + 14 < a ∨ (m + 1 ≤ a ∧ a ≤ m + 3)) → d' a = d a) ∧ d' m 3 = d m 3
theorem MZ.rf {d : HD} {m : Nat} : MZ d d m := ⟨fun _ _ => rfl, rfl⟩
theorem MZ.u {d d' : HD} {m a : Nat} {i v : Int} (h : MZ d d' m) (h1 : m + 4 ≤ a) (h2 : a ≤ m + 14) : MZ d (kU d' a i v) m :=
  ⟨fun b hb => by rw [kU_ne (by omega)]; exact h.1 b hb, by rw [kU_ne (by omega)]; exact h.2⟩
theorem SZ.i {d : HD} {m : Nat} {S : SS} (h : SZ d m S) {s q x : Int} (h1 : 0 ≤ s) (h2 : s < 4) (h3 : 0 ≤ q) (h4 : q < 36) (e : x = 36 * s + q) : d (m + 4) x = S.2.2 s q := by
  rw [e]
  exact (h s h1 h2).2.2 q h3 h4
def rowA (S : SS) (s lane i n : Int) : Int := if S.1 s < 0 then -11 else if S.1 s ≠ lane then -12 else if i < 0 ∨ n < 0 ∨ S.2.1 s < i + n then -13 else 0
def pokF (S : SS) (s i : Int) : Nat → Bool
  | 0 => true
  | k + 1 => pokF S s i k && decide (0 ≤ S.2.2 s (i + k) ∧ S.2.2 s (i + k) ≤ 9)
def pcF (R : Int → Int) (S : SS) (s i : Int) : Nat → (Int → Int)
  | 0 => R
  | k + 1 => fU (pcF R S s i k) (340 + 24 * k + 2) (S.2.2 s (i + k))
def pacS (R : Int → Int) (S : SS) (s lane i : Int) : Int × (Int → Int) := if ¬ (0 ≤ s ∧ s ≤ 3 ∧ 1 ≤ lane ∧ lane ≤ 2) then (-1, R) else if rowA S s lane i (R 2) < 0 then (rowA S s lane i (R 2), R) else if pokF S s i (R 2).toNat = false then (-2, R) else (R 2, pcF R S s i (R 2).toNat)
def tpF (R : Int → Int) (S : SS) (s i : Int) : Nat → (Int → Int)
  | 0 => R
  | k + 1 => fU (tpF R S s i k) (340 + 24 * k + 7) (S.2.2 s (i + k))
def tsF (S : SS) (s i : Int) : Nat → Int
  | 0 => 0
  | k + 1 => tsF S s i k + S.2.2 s (i + k)
def tpsS (R : Int → Int) (S : SS) (s i : Int) : Int × (Int → Int) := if ¬ (0 ≤ s ∧ s ≤ 3) then (-1, R) else if rowA S s 0 i (R 2) < 0 then (rowA S s 0 i (R 2), R) else (tsF S s i (R 2).toNat, tpF R S s i (R 2).toNat)
def sheetS (S : SS) (s lane n : Int) : Int × SS := if ¬ (0 ≤ s ∧ s ≤ 3 ∧ 0 ≤ lane ∧ lane ≤ 2 ∧ n ≤ 36) then (-1, S) else if n < 0 then (-14, S) else (n, fU S.1 s lane, fU S.2.1 s n, fun t i => if t = s then 0 else S.2.2 t i)
def dropS (S : SS) (s : Int) : Int × SS := if ¬ (0 ≤ s ∧ s ≤ 3) then (-1, S) else if S.1 s < 0 then (-11, S) else (S.2.1 s, fU S.1 s (-1), S.2.1, S.2.2)
def itemS (S : SS) (s lane i v : Int) : Int × SS := if ¬ (0 ≤ s ∧ s ≤ 3 ∧ 0 ≤ lane ∧ lane ≤ 2) then (-1, S) else if rowA S s lane i 1 < 0 then (rowA S s lane i 1, S) else (1, S.1, S.2.1, fun t q => if t = s ∧ q = i then (if lane = 0 then (if v = 0 then 0 else 1) else if lane = 1 then kByte v else v) else S.2.2 t q)
def copyS (S : SS) (a i b j n : Int) : Int × SS := if ¬ (0 ≤ a ∧ a ≤ 3 ∧ 0 ≤ b ∧ b ≤ 3) then (-1, S) else if S.1 a < 0 ∨ S.1 b < 0 then (-11, S) else if S.1 a ≠ S.1 b then (-12, S) else if rowA S a (S.1 a) i n < 0 ∨ rowA S b (S.1 b) j n < 0 then (-13, S) else (n, S.1, S.2.1, fun t q => if t = b ∧ j ≤ q ∧ q < j + n then S.2.2 a (i + (q - j)) else S.2.2 t q)
theorem kLadd_ok {x y : Int} (hx : kN x) (hy : kN y) : kLadd x y = x + y := by
  unfold kLadd
  rw [Int64.toInt_add, kTJ (kN_J hx), kTJ (kN_J hy)]
  have h1 := hx.1; have h2 := hx.2; have h3 := hy.1; have h4 := hy.2
  exact Int.bmod_eq_of_le (by omega) (by omega)
theorem lc_le (x y : Int) : ((if x < y then -1 else if x = y then 0 else 1) ≤ (0 : Int)) ↔ x ≤ y := by
  split
  · omega
  · split <;> omega
theorem rowA_ok {S : SS} {s lane i n : Int} (h : ¬ rowA S s lane i n < 0) : S.1 s = lane ∧ 0 ≤ S.1 s ∧ 0 ≤ i ∧ 0 ≤ n ∧ i + n ≤ S.2.1 s := by
  unfold rowA at h
  by_cases h1 : S.1 s < 0
  · rw [if_pos h1] at h; omega
  · rw [if_neg h1] at h
    by_cases h2 : S.1 s ≠ lane
    · rw [if_pos h2] at h; omega
    · rw [if_neg h2] at h
      by_cases h3 : i < 0 ∨ n < 0 ∨ S.2.1 s < i + n
      · rw [if_pos h3] at h; omega
      · omega
theorem tsF_rg {S : SS} {s i : Int} (h : ∀ q, 0 ≤ q → q < 36 → S.2.2 s q = 0 ∨ S.2.2 s q = 1) (hi : 0 ≤ i) : ∀ k : Nat, i + k ≤ 36 → 0 ≤ tsF S s i k ∧ tsF S s i k ≤ k
  | 0, _ => by simp [tsF]
  | k + 1, hk => by
    have ih := tsF_rg h hi k (by omega)
    have := h (i + k) (by omega) (by omega)
    simp only [tsF]
    omega
section M4
variable {E : EE} {k m : Nat} {G : HG} {d : HD} {K : PQ} {R : Int → Int} {S : SS}
theorem C_isSheet {s : Int} (hK : K (some (kI (if 0 ≤ s ∧ s ≤ 3 then 1 else 0))) G d) : AM E mX7_isSheet (k + 1) 0 0 [kI s] G d K := by
  have hb : (if 0 ≤ s ∧ s ≤ 3 then (1 : Int) else 0) = 0 ∨ (if 0 ≤ s ∧ s ≤ 3 then (1 : Int) else 0) = 1 := by split <;> simp
  refine AM.of rfl (Nat.le_of_ble_eq_true rfl) ?_
  refine A_iload_n dX7_isSheet_0 rfl rfl ?_
  refine A_i2l dX7_isSheet_1 ?_
  refine A_lconst (x := 0) dX7_isSheet_2 ⟨by decide, by decide⟩ rfl ?_
  refine A_ldc2 (x := 3) dX7_isSheet_3 cs_X7_90 rfl ⟨by decide, by decide⟩ ?_
  refine A_ins3 dX7_isSheet_6 ms_X7_53 (Nat.le_of_ble_eq_true rfl) ?_
  refine C_in ?_
  refine A_zret dX7_isSheet_9 rfl (by first | exact Or.inl rfl | exact Or.inr rfl | assumption | omega) ?_
  exact hK
theorem C_row {s lane i n : Int} (hM : MO G m) (hS : SZ d m S) (h1 : 0 ≤ s) (h2 : s ≤ 3) (hK : K (some (kI (rowA S s lane i n))) G d) : AM E mX7_row k 0 0 [kR m, kI s, kI lane, kI i, kI n] G d K := by
  obtain ⟨ho, e0, a0, e1, a1, e2, a2, e4, a4, e5, a5, e6, a6, -⟩ := id hM
  obtain ⟨s1, s2, -⟩ := hS s h1 (by omega)
  unfold rowA at hK
  refine AM.of rfl (Nat.le_of_ble_eq_true rfl) ?_
  refine AW.nm 3 rfl (fun ni => ?_)
  refine AW.nm 4 rfl (fun nn => ?_)
  refine A_aload_n dX7_row_0 rfl rfl ?_
  refine A_getR (fi := 5) dX7_row_1 fg_X7_23 rfl rfl (by assumption) (by assumption) ?_
  refine A_iload_n dX7_row_4 rfl rfl ?_
  refine A_iald dX7_row_5 (by assumption) (by omega) (by omega) ?_
  refine A_if_ge (tgt := 12) dX7_row_6 (by decide) (fun c_6 => ?_) (fun c_6 => ?_)
  · rw [s1] at c_6
    rw [if_neg (by omega)] at hK
    refine A_aload_n dX7_row_12 rfl rfl ?_
    refine A_getR (fi := 5) dX7_row_13 fg_X7_23 rfl rfl (by assumption) (by assumption) ?_
    refine A_iload_n dX7_row_16 rfl rfl ?_
    refine A_iald dX7_row_17 (by assumption) (by omega) (by omega) ?_
    refine A_iload_n dX7_row_18 rfl rfl ?_
    refine A_icmp_eq (tgt := 25) dX7_row_19 (by decide) (fun c_19 => ?_) (fun c_19 => ?_)
    · rw [s1] at c_19
      rw [if_neg (by omega)] at hK
      refine A_iload_n dX7_row_25 rfl rfl ?_
      refine A_if_lt (tgt := 51) dX7_row_26 (by decide) (fun c_26 => ?_) (fun c_26 => ?_)
      · refine A_bipush dX7_row_51 ⟨by decide, by decide⟩ rfl ?_
        refine A_goto (tgt := 57) dX7_row_53 (by decide) ?_
        refine A_iret dX7_row_57 rfl ?_
        rw [if_pos (by omega)] at hK
        exact hK
      · refine A_iload dX7_row_29 rfl ?_
        refine A_if_lt (tgt := 51) dX7_row_31 (by decide) (fun c_31 => ?_) (fun c_31 => ?_)
        · refine A_bipush dX7_row_51 ⟨by decide, by decide⟩ rfl ?_
          refine A_goto (tgt := 57) dX7_row_53 (by decide) ?_
          refine A_iret dX7_row_57 rfl ?_
          rw [if_pos (by omega)] at hK
          exact hK
        · refine A_iload_n dX7_row_34 rfl rfl ?_
          refine A_i2l dX7_row_35 ?_
          refine A_iload dX7_row_36 rfl ?_
          refine A_i2l dX7_row_38 ?_
          refine A_ladd dX7_row_39 ?_
          refine A_aload_n dX7_row_40 rfl rfl ?_
          refine A_getR (fi := 6) dX7_row_41 fg_X7_26 rfl rfl (by assumption) (by assumption) ?_
          refine A_iload_n dX7_row_44 rfl rfl ?_
          refine A_iald dX7_row_45 (by assumption) (by omega) (by omega) ?_
          refine A_i2l dX7_row_46 ?_
          refine A_lcmp dX7_row_47 ?_
          refine A_if_le (tgt := 56) dX7_row_48 (by decide) (fun c_48 => ?_) (fun c_48 => ?_)
          · rw [lc_le, kLadd_ok ni nn, s2] at c_48
            rw [if_neg (by omega)] at hK
            refine A_iconst dX7_row_56 ⟨by decide, by decide⟩ ?_
            refine A_iret dX7_row_57 rfl ?_
            exact hK
          · have c48 : ¬ kLadd i n ≤ d (m + 6) s := fun q => Int.not_le.mpr c_48 ((lc_le _ _).mpr q)
            rw [kLadd_ok ni nn, s2] at c48
            rw [if_pos (by omega)] at hK
            refine A_bipush dX7_row_51 ⟨by decide, by decide⟩ rfl ?_
            refine A_goto (tgt := 57) dX7_row_53 (by decide) ?_
            refine A_iret dX7_row_57 rfl ?_
            exact hK
    · rw [s1] at c_19
      rw [if_pos c_19] at hK
      refine A_bipush dX7_row_22 ⟨by decide, by decide⟩ rfl ?_
      refine A_iret dX7_row_24 rfl ?_
      exact hK
  · rw [s1] at c_6
    rw [if_pos c_6] at hK
    refine A_bipush dX7_row_9 ⟨by decide, by decide⟩ rfl ?_
    refine A_iret dX7_row_11 rfl ?_
    exact hK
theorem pokF_st {s i : Int} {j : Nat} (h : pokF S s i j = false) : ∀ n : Nat, pokF S s i (j + n) = false
  | 0 => h
  | n + 1 => by
    show pokF S s i (j + n + 1) = false
    simp only [pokF, pokF_st h n, Bool.false_and]
theorem pcF_2 {s i : Int} : ∀ k : Nat, pcF R S s i k 2 = R 2
  | 0 => rfl
  | k + 1 => by simp only [pcF]; rw [fU_n (by omega), pcF_2 k]
theorem tpF_2 {s i : Int} : ∀ k : Nat, tpF R S s i k 2 = R 2
  | 0 => rfl
  | k + 1 => by simp only [tpF]; rw [fU_n (by omega), tpF_2 k]
theorem C_paces {s lane i : Int} (hM : MO G m) (hR : PZ d m 0 R) (hS : SZ d m S) (hw : WS S) (h1 : 0 ≤ R 2) (h2 : R 2 ≤ 12) (hK : ∀ d', MC d d' m 0 → PZ d' m 0 (pacS R S s lane i).2 → K (some (kI (pacS R S s lane i).1)) G d') : AM E mX7_paces (k + 2) 0 0 [kR m, kI s, kI lane, kI i] G d K := by
  obtain ⟨ho, e0, a0, e1, a1, e2, a2, e4, a4, e5, a5, e6, a6, -⟩ := id hM
  have z2 := hR.z 2 (by omega) (by omega)
  obtain ⟨N, hN⟩ : ∃ N : Nat, R 2 = N := ⟨(R 2).toNat, by omega⟩
  have eN : (R 2).toNat = N := by omega
  have bad : ¬ (0 ≤ s ∧ s ≤ 3 ∧ 1 ≤ lane ∧ lane ≤ 2) → K (some (kI (-1))) G d := fun h => by
    have e : pacS R S s lane i = (-1, R) := by unfold pacS; rw [if_pos h]
    rw [e] at hK
    exact hK d MC.rf hR
  have loop2 : (0 ≤ s ∧ s ≤ 3 ∧ 1 ≤ lane ∧ lane ≤ 2) → ¬ rowA S s lane i (R 2) < 0 → pokF S s i N = true → ∀ (q j : Nat), N - j < q → j ≤ N → ∀ d', MC d d' m 0 → PZ d' m 0 (pcF R S s i j) → ∀ q4 : Int, AW E mX7_paces (k + 2) 0 0 95 [some (kR m), some (kI s), some (kI lane), some (kI i), some (kI q4), some (kI j)] [] G d' K := by
    intro hg hr hp q
    obtain ⟨g1, g2, g3, g4, g5⟩ := rowA_ok hr
    have hsz := hw s (by omega) (by omega)
    induction q with
    | zero => intro j h; omega
    | succ q ih =>
      intro j hj hjN d' hc hz q4
      have z2' := hz.z 2 (by omega) (by omega)
      rw [pcF_2] at z2'
      refine A_iload dX7_paces_95 rfl ?_
      refine A_aload_n dX7_paces_97 rfl rfl ?_
      refine A_getR (fi := 0) dX7_paces_98 fg_X7_7 rfl rfl (by assumption) (by assumption) ?_
      refine A_iconst dX7_paces_101 ⟨by decide, by decide⟩ ?_
      refine A_iald dX7_paces_102 (by assumption) (by omega) (by omega) ?_
      refine A_icmp_ge (tgt := 138) dX7_paces_103 (by decide) (fun c_103 => ?_) (fun c_103 => ?_)
      · refine A_aload_n dX7_paces_138 rfl rfl ?_
        refine A_getR (fi := 0) dX7_paces_139 fg_X7_7 rfl rfl (by assumption) (by assumption) ?_
        refine A_iconst dX7_paces_142 ⟨by decide, by decide⟩ ?_
        refine A_iald dX7_paces_143 (by assumption) (by omega) (by omega) ?_
        refine A_iret dX7_paces_144 rfl ?_
        have : j = N := by omega
        subst this
        have e : pacS R S s lane i = (R 2, pcF R S s i j) := by unfold pacS; rw [if_neg (by omega), if_neg hr, eN, if_neg (by rw [hp]; decide)]
        rw [e] at hK
        rw [z2']
        exact hK d' hc hz
      · have v : d' (m + 4) (36 * s + i + j) = S.2.2 s (i + j) := by rw [hc.1 (m + 4) (by omega)]; exact hS.i (by omega) (by omega) (by omega) (by omega) (by omega)
        refine A_aload_n dX7_paces_106 rfl rfl ?_
        refine A_getR (fi := 0) dX7_paces_107 fg_X7_7 rfl rfl (by assumption) (by assumption) ?_
        refine A_iconst dX7_paces_110 ⟨by decide, by decide⟩ ?_
        refine A_iload dX7_paces_111 rfl ?_
        refine A_iconst dX7_paces_113 ⟨by decide, by decide⟩ ?_
        refine A_ins3 dX7_paces_114 ms_X7_74 (Nat.le_of_ble_eq_true rfl) ?_
        refine C_at (by omega) (by omega) (by omega) (by omega) (by omega) (by omega) ?_
        refine A_aload_n dX7_paces_117 rfl rfl ?_
        refine A_getR (fi := 4) dX7_paces_118 fg_X7_20 rfl rfl (by assumption) (by assumption) ?_
        refine A_bipush dX7_paces_121 ⟨by decide, by decide⟩ rfl ?_
        refine A_iload_n dX7_paces_123 rfl rfl ?_
        refine A_imul_ok dX7_paces_124 (by omega) (by omega) ?_
        refine A_iload_n dX7_paces_125 rfl rfl ?_
        refine A_iadd_ok dX7_paces_126 (by omega) (by omega) ?_
        refine A_iload dX7_paces_127 rfl ?_
        refine A_iadd_ok dX7_paces_129 (by omega) (by omega) ?_
        refine A_iald dX7_paces_130 (by assumption) (by omega) (by omega) ?_
        refine A_iast dX7_paces_131 (by assumption) (by omega) (by omega) ?_
        refine A_iinc_ok dX7_paces_132 rfl rfl (by omega) (by omega) ?_
        refine A_goto (tgt := 95) dX7_paces_135 (by decide) ?_
        rw [v]
        refine ih (j + 1) (by omega) (by omega) _ (hc.z (by omega) (by omega)) ?_ _
        exact hz.u (by omega)
  have loop1 : (0 ≤ s ∧ s ≤ 3 ∧ 1 ≤ lane ∧ lane ≤ 2) → ¬ rowA S s lane i (R 2) < 0 → ∀ (q j : Nat), N - j < q → j ≤ N → pokF S s i j = true → ∀ q4 : Int, AW E mX7_paces (k + 2) 0 0 47 [some (kR m), some (kI s), some (kI lane), some (kI i), some (kI q4), some (kI j)] [] G d K := by
    intro hg hr q
    obtain ⟨g1, g2, g3, g4, g5⟩ := rowA_ok hr
    have hsz := hw s (by omega) (by omega)
    induction q with
    | zero => intro j h; omega
    | succ q ih =>
      intro j hj hjN hp q4
      refine A_iload dX7_paces_47 rfl ?_
      refine A_aload_n dX7_paces_49 rfl rfl ?_
      refine A_getR (fi := 0) dX7_paces_50 fg_X7_7 rfl rfl (by assumption) (by assumption) ?_
      refine A_iconst dX7_paces_53 ⟨by decide, by decide⟩ ?_
      refine A_iald dX7_paces_54 (by assumption) (by omega) (by omega) ?_
      refine A_icmp_ge (tgt := 92) dX7_paces_55 (by decide) (fun c_55 => ?_) (fun c_55 => ?_)
      · refine A_iconst dX7_paces_92 ⟨by decide, by decide⟩ ?_
        refine A_istore dX7_paces_93 (Nat.le_of_ble_eq_true rfl) rfl ?_
        have : j = N := by omega
        subst this
        exact loop2 hg hr hp (j + 1) 0 (by omega) (by omega) d MC.rf hR _
      · have v : d (m + 4) (36 * s + i + j) = S.2.2 s (i + j) := hS.i (by omega) (by omega) (by omega) (by omega) (by omega)
        refine A_aload_n dX7_paces_58 rfl rfl ?_
        refine A_getR (fi := 4) dX7_paces_59 fg_X7_20 rfl rfl (by assumption) (by assumption) ?_
        refine A_bipush dX7_paces_62 ⟨by decide, by decide⟩ rfl ?_
        refine A_iload_n dX7_paces_64 rfl rfl ?_
        refine A_imul_ok dX7_paces_65 (by omega) (by omega) ?_
        refine A_iload_n dX7_paces_66 rfl rfl ?_
        refine A_iadd_ok dX7_paces_67 (by omega) (by omega) ?_
        refine A_iload dX7_paces_68 rfl ?_
        refine A_iadd_ok dX7_paces_70 (by omega) (by omega) ?_
        refine A_iald dX7_paces_71 (by assumption) (by omega) (by omega) ?_
        refine A_i2l dX7_paces_72 ?_
        refine A_lconst (x := 0) dX7_paces_73 ⟨by decide, by decide⟩ rfl ?_
        refine A_ldc2 (x := 9) dX7_paces_74 cs_X7_72 rfl ⟨by decide, by decide⟩ ?_
        refine A_ins3 dX7_paces_77 ms_X7_53 (Nat.le_of_ble_eq_true rfl) ?_
        refine C_in ?_
        refine A_if_ne (tgt := 86) dX7_paces_80 (by decide) (fun c_80 => ?_) (fun c_80 => ?_)
        · rw [v] at c_80
          replace c_80 := i01n c_80
          refine A_iinc_ok dX7_paces_86 rfl rfl (by omega) (by omega) ?_
          refine A_goto (tgt := 47) dX7_paces_89 (by decide) ?_
          refine ih (j + 1) (by omega) (by omega) ?_ _
          simp only [pokF, hp, Bool.true_and, decide_eq_true_eq]
          exact c_80
        · rw [v] at c_80
          replace c_80 := i01e c_80
          refine A_bipush dX7_paces_83 ⟨by decide, by decide⟩ rfl ?_
          refine A_iret dX7_paces_85 rfl ?_
          have e1 : pokF S s i (j + 1) = false := by
            simp only [pokF, hp, Bool.true_and, decide_eq_false_iff_not]
            exact c_80
          have e2 := pokF_st e1 (N - (j + 1))
          rw [show j + 1 + (N - (j + 1)) = N by omega] at e2
          have e : pacS R S s lane i = (-2, R) := by unfold pacS; rw [if_neg (by omega), if_neg hr, eN, if_pos e2]
          rw [e] at hK
          exact hK d MC.rf hR
  have go : (0 ≤ s ∧ s ≤ 3 ∧ 1 ≤ lane ∧ lane ≤ 2) → AW E mX7_paces (k + 2) 0 0 21 [some (kR m), some (kI s), some (kI lane), some (kI i), none, none] [] G d K := fun hg => by
    refine A_aload_n dX7_paces_21 rfl rfl ?_
    refine A_iload_n dX7_paces_22 rfl rfl ?_
    refine A_iload_n dX7_paces_23 rfl rfl ?_
    refine A_iload_n dX7_paces_24 rfl rfl ?_
    refine A_aload_n dX7_paces_25 rfl rfl ?_
    refine A_getR (fi := 0) dX7_paces_26 fg_X7_7 rfl rfl (by assumption) (by assumption) ?_
    refine A_iconst dX7_paces_29 ⟨by decide, by decide⟩ ?_
    refine A_iald dX7_paces_30 (by assumption) (by omega) (by omega) ?_
    refine A_inv4 dX7_paces_31 mv_X7_240 kCl_7 (Nat.le_of_ble_eq_true rfl) (by assumption) ?_
    refine C_row hM hS (by omega) (by omega) ?_
    rw [z2]
    refine A_istore dX7_paces_34 (Nat.le_of_ble_eq_true rfl) rfl ?_
    refine A_iload dX7_paces_36 rfl ?_
    refine A_if_ge (tgt := 44) dX7_paces_38 (by decide) (fun c_38 => ?_) (fun c_38 => ?_)
    · refine A_iconst dX7_paces_44 ⟨by decide, by decide⟩ ?_
      refine A_istore dX7_paces_45 (Nat.le_of_ble_eq_true rfl) rfl ?_
      exact loop1 hg (by omega) (N + 1) 0 (by omega) (by omega) rfl _
    · refine A_iload dX7_paces_41 rfl ?_
      refine A_iret dX7_paces_43 rfl ?_
      have e : pacS R S s lane i = (rowA S s lane i (R 2), R) := by unfold pacS; rw [if_neg (by omega), if_pos (by omega)]
      rw [e] at hK
      exact hK d MC.rf hR
  refine AM.of rfl (Nat.le_of_ble_eq_true rfl) ?_
  refine A_iload_n dX7_paces_0 rfl rfl ?_
  refine A_ins1 dX7_paces_1 ms_X7_237 (Nat.le_of_ble_eq_true rfl) ?_
  refine C_isSheet ?_
  refine A_if_eq (tgt := 19) dX7_paces_4 (by decide) (fun c_4 => ?_) (fun c_4 => ?_)
  · replace c_4 := i01e c_4
    refine A_iconst dX7_paces_19 ⟨by decide, by decide⟩ ?_
    refine A_iret dX7_paces_20 rfl ?_
    exact bad (by omega)
  · replace c_4 := i01n c_4
    refine A_iload_n dX7_paces_7 rfl rfl ?_
    refine A_i2l dX7_paces_8 ?_
    refine A_lconst (x := 1) dX7_paces_9 ⟨by decide, by decide⟩ rfl ?_
    refine A_ldc2 (x := 2) dX7_paces_10 cs_X7_88 rfl ⟨by decide, by decide⟩ ?_
    refine A_ins3 dX7_paces_13 ms_X7_53 (Nat.le_of_ble_eq_true rfl) ?_
    refine C_in ?_
    refine A_if_ne (tgt := 21) dX7_paces_16 (by decide) (fun c_16 => ?_) (fun c_16 => ?_)
    · replace c_16 := i01n c_16
      exact go (by omega)
    · replace c_16 := i01e c_16
      refine A_iconst dX7_paces_19 ⟨by decide, by decide⟩ ?_
      refine A_iret dX7_paces_20 rfl ?_
      exact bad (by omega)
theorem C_taps {s i : Int} (hM : MO G m) (hR : PZ d m 0 R) (hS : SZ d m S) (hw : WS S) (h1 : 0 ≤ R 2) (h2 : R 2 ≤ 12) (hK : ∀ d', MC d d' m 0 → PZ d' m 0 (tpsS R S s i).2 → K (some (kI (tpsS R S s i).1)) G d') : AM E mX7_taps (k + 2) 0 0 [kR m, kI s, kI i] G d K := by
  obtain ⟨ho, e0, a0, e1, a1, e2, a2, e4, a4, e5, a5, e6, a6, -⟩ := id hM
  have z2 := hR.z 2 (by omega) (by omega)
  obtain ⟨N, hN⟩ : ∃ N : Nat, R 2 = N := ⟨(R 2).toNat, by omega⟩
  have eN : (R 2).toNat = N := by omega
  have loop2 : (0 ≤ s ∧ s ≤ 3) → ¬ rowA S s 0 i (R 2) < 0 → ∀ (q j : Nat), N - j < q → j ≤ N → ∀ d', MC d d' m 0 → PZ d' m 0 (tpF R S s i j) → ∀ q4 : Int, AW E mX7_taps (k + 2) 0 0 35 [some (kR m), some (kI s), some (kI i), some (kI q4), some (kI (tsF S s i j)), some (kI j)] [] G d' K := by
    intro hg hr q
    obtain ⟨g1, g2, g3, g4, g5⟩ := rowA_ok hr
    have hsz := hw s (by omega) (by omega)
    induction q with
    | zero => intro j h; omega
    | succ q ih =>
      intro j hj hjN d' hc hz q4
      have z2' := hz.z 2 (by omega) (by omega)
      rw [tpF_2] at z2'
      have tr := tsF_rg (hsz.2.2.2.2 g1) g3 j (by omega)
      refine A_iload dX7_taps_35 rfl ?_
      refine A_aload_n dX7_taps_37 rfl rfl ?_
      refine A_getR (fi := 0) dX7_taps_38 fg_X7_7 rfl rfl (by assumption) (by assumption) ?_
      refine A_iconst dX7_taps_41 ⟨by decide, by decide⟩ ?_
      refine A_iald dX7_taps_42 (by assumption) (by omega) (by omega) ?_
      refine A_icmp_ge (tgt := 98) dX7_taps_43 (by decide) (fun c_43 => ?_) (fun c_43 => ?_)
      · refine A_iload dX7_taps_98 rfl ?_
        refine A_iret dX7_taps_100 rfl ?_
        have : j = N := by omega
        subst this
        have e : tpsS R S s i = (tsF S s i j, tpF R S s i j) := by unfold tpsS; rw [if_neg (by omega), if_neg hr, eN]
        rw [e] at hK
        exact hK d' hc hz
      · have v : d' (m + 4) (36 * s + i + j) = S.2.2 s (i + j) := by rw [hc.1 (m + 4) (by omega)]; exact hS.i (by omega) (by omega) (by omega) (by omega) (by omega)
        have v2 : ∀ x y : Int, kU d' (m + 1) x y (m + 4) (36 * s + i + j) = S.2.2 s (i + j) := fun x y => by rw [kU_ne (by omega)]; exact v
        have v3 := hsz.2.2.2.2 g1 (i + j) (by omega) (by omega)
        refine A_aload_n dX7_taps_46 rfl rfl ?_
        refine A_getR (fi := 0) dX7_taps_47 fg_X7_7 rfl rfl (by assumption) (by assumption) ?_
        refine A_iconst dX7_taps_50 ⟨by decide, by decide⟩ ?_
        refine A_iload dX7_taps_51 rfl ?_
        refine A_bipush dX7_taps_53 ⟨by decide, by decide⟩ rfl ?_
        refine A_ins3 dX7_taps_55 ms_X7_74 (Nat.le_of_ble_eq_true rfl) ?_
        refine C_at (by omega) (by omega) (by omega) (by omega) (by omega) (by omega) ?_
        refine A_aload_n dX7_taps_58 rfl rfl ?_
        refine A_getR (fi := 4) dX7_taps_59 fg_X7_20 rfl rfl (by assumption) (by assumption) ?_
        refine A_bipush dX7_taps_62 ⟨by decide, by decide⟩ rfl ?_
        refine A_iload_n dX7_taps_64 rfl rfl ?_
        refine A_imul_ok dX7_taps_65 (by omega) (by omega) ?_
        refine A_iload_n dX7_taps_66 rfl rfl ?_
        refine A_iadd_ok dX7_taps_67 (by omega) (by omega) ?_
        refine A_iload dX7_taps_68 rfl ?_
        refine A_iadd_ok dX7_taps_70 (by omega) (by omega) ?_
        refine A_iald dX7_taps_71 (by assumption) (by omega) (by omega) ?_
        refine A_iast dX7_taps_72 (by assumption) (by omega) (by omega) ?_
        rw [v]
        refine A_iload dX7_taps_73 rfl ?_
        refine A_aload_n dX7_taps_75 rfl rfl ?_
        refine A_getR (fi := 4) dX7_taps_76 fg_X7_20 rfl rfl (by assumption) (by assumption) ?_
        refine A_bipush dX7_taps_79 ⟨by decide, by decide⟩ rfl ?_
        refine A_iload_n dX7_taps_81 rfl rfl ?_
        refine A_imul_ok dX7_taps_82 (by omega) (by omega) ?_
        refine A_iload_n dX7_taps_83 rfl rfl ?_
        refine A_iadd_ok dX7_taps_84 (by omega) (by omega) ?_
        refine A_iload dX7_taps_85 rfl ?_
        refine A_iadd_ok dX7_taps_87 (by omega) (by omega) ?_
        refine A_iald dX7_taps_88 (by assumption) (by omega) (by omega) ?_
        rw [v2]
        refine A_iadd_ok dX7_taps_89 (by omega) (by omega) ?_
        refine A_istore dX7_taps_90 (Nat.le_of_ble_eq_true rfl) rfl ?_
        refine A_iinc_ok dX7_taps_92 rfl rfl (by omega) (by omega) ?_
        refine A_goto (tgt := 35) dX7_taps_95 (by decide) ?_
        refine ih (j + 1) (by omega) (by omega) _ (hc.z (by omega) (by omega)) ?_ _
        exact hz.u (by omega)
  refine AM.of rfl (Nat.le_of_ble_eq_true rfl) ?_
  refine A_iload_n dX7_taps_0 rfl rfl ?_
  refine A_ins1 dX7_taps_1 ms_X7_237 (Nat.le_of_ble_eq_true rfl) ?_
  refine C_isSheet ?_
  refine A_if_ne (tgt := 9) dX7_taps_4 (by decide) (fun c_4 => ?_) (fun c_4 => ?_)
  · replace c_4 := i01n c_4
    refine A_aload_n dX7_taps_9 rfl rfl ?_
    refine A_iload_n dX7_taps_10 rfl rfl ?_
    refine A_iconst dX7_taps_11 ⟨by decide, by decide⟩ ?_
    refine A_iload_n dX7_taps_12 rfl rfl ?_
    refine A_aload_n dX7_taps_13 rfl rfl ?_
    refine A_getR (fi := 0) dX7_taps_14 fg_X7_7 rfl rfl (by assumption) (by assumption) ?_
    refine A_iconst dX7_taps_17 ⟨by decide, by decide⟩ ?_
    refine A_iald dX7_taps_18 (by assumption) (by omega) (by omega) ?_
    refine A_inv4 dX7_taps_19 mv_X7_240 kCl_7 (Nat.le_of_ble_eq_true rfl) (by assumption) ?_
    refine C_row hM hS (by omega) (by omega) ?_
    rw [z2]
    refine A_istore_n dX7_taps_22 rfl (Nat.le_of_ble_eq_true rfl) rfl ?_
    refine A_iload_n dX7_taps_23 rfl rfl ?_
    refine A_if_ge (tgt := 29) dX7_taps_24 (by decide) (fun c_24 => ?_) (fun c_24 => ?_)
    · refine A_iconst dX7_taps_29 ⟨by decide, by decide⟩ ?_
      refine A_istore dX7_taps_30 (Nat.le_of_ble_eq_true rfl) rfl ?_
      refine A_iconst dX7_taps_32 ⟨by decide, by decide⟩ ?_
      refine A_istore dX7_taps_33 (Nat.le_of_ble_eq_true rfl) rfl ?_
      exact loop2 (by omega) (by omega) (N + 1) 0 (by omega) (by omega) d MC.rf hR _
    · refine A_iload_n dX7_taps_27 rfl rfl ?_
      refine A_iret dX7_taps_28 rfl ?_
      have e : tpsS R S s i = (rowA S s 0 i (R 2), R) := by unfold tpsS; rw [if_neg (by omega), if_pos (by omega)]
      rw [e] at hK
      exact hK d MC.rf hR
  · replace c_4 := i01e c_4
    refine A_iconst dX7_taps_7 ⟨by decide, by decide⟩ ?_
    refine A_iret dX7_taps_8 rfl ?_
    have e : tpsS R S s i = (-1, R) := by unfold tpsS; rw [if_pos (by omega)]
    rw [e] at hK
    exact hK d MC.rf hR
end M4
