/-! the tape -/
def tokF (w : Int) : Nat → Bool
  | 0 => true
  | k + 1 => tokF w k && decide (32 ≤ byB w k ∧ byB w k ≤ 126)
def typS (tp : Int) (T : Int → Int) (w n : Int) : Int × Int × (Int → Int) := if ¬ (1 ≤ n ∧ n ≤ 8) then (-1, tp, T) else if tokF w n.toNat = false then (-1, tp, T) else if 100 < tp + n then (-3, tp, T) else (tp + n, tp + n, fun i => if tp ≤ i ∧ i < tp + n then byB w (n - 1 - (i - tp)) else T i)
def TZ (d : HD) (m : Nat) (tp : Int) (T : Int → Int) : Prop := d m 3 = tp ∧ ∀ i, 0 ≤ i → i < tp → d (m + 3) i = T i
def MT (d d' : HD) (m : Nat) : Prop := ∀ a, (a < m ∨ m + 14 < a ∨ a = m + 1 ∨ a = m + 2 ∨ (m + 4 ≤ a ∧ a ≤ m + 6)) → d' a = d a
theorem MT.rf {d : HD} {m : Nat} : MT d d m := fun _ _ => rfl
theorem MT.u {d d' : HD} {m a : Nat} {i v : Int} (h : MT d d' m) (h1 : a = m ∨ a = m + 3 ∨ (m + 7 ≤ a ∧ a ≤ m + 14)) : MT d (kU d' a i v) m := fun b hb => by rw [kU_ne (by omega)]; exact h b hb
theorem tokF_st {w : Int} {j : Nat} (h : tokF w j = false) : ∀ n : Nat, tokF w (j + n) = false
  | 0 => h
  | n + 1 => by
    show tokF w (j + n + 1) = false
    simp only [tokF, tokF_st h n, Bool.false_and]
section M6
variable {E : EE} {k m : Nat} {G : HG} {d : HD} {K : PQ} {R : Int → Int} {S : SS}
theorem C_type {w n tp : Int} {T : Int → Int} (hM : MO G m) (hT : TZ d m tp T) (h1 : 0 ≤ tp) (h2 : tp ≤ 100) (hK : ∀ d', MT d d' m → TZ d' m (typS tp T w n).2.1 (typS tp T w n).2.2 → K (some (kI (typS tp T w n).1)) G d') : AM E mX7_type (k + 1) 0 0 [kR m, kJ w, kI n] G d K := by
  obtain ⟨ho, e0, a0, e1, a1, e2, a2, -⟩ := id hM
  have loop2 : (1 ≤ n ∧ n ≤ 8) → tokF w n.toNat = true → tp + n ≤ 100 → ∀ (q : Nat) (j : Int), (j + 1).toNat < q → -1 ≤ j → j < n → ∀ d', MT d d' m → TZ d' m (tp + (n - 1 - j)) (fun i => if tp ≤ i ∧ i < tp + n then byB w (n - 1 - (i - tp)) else T i) → AW E mX7_type (k + 1) 0 0 73 [some (kR m), some (kJ w), none, some (kI n), some (kI j)] [] G d' K := by
    intro hg hp h100 q
    induction q with
    | zero => intro j h; omega
    | succ q ih =>
      intro j hj hj1 hj2 d' hc hz
      have z3 := hz.1
      refine A_iload dX7_type_73 rfl ?_
      refine A_if_lt (tgt := 115) dX7_type_75 (by decide) (fun c_75 => ?_) (fun c_75 => ?_)
      · refine A_aload_n dX7_type_115 rfl rfl ?_
        refine A_get (fi := 3) dX7_type_116 fg_X7_106 rfl rfl (by assumption) ?_
        refine A_iret dX7_type_119 rfl ?_
        have : j = -1 := by omega
        subst this
        have e : typS tp T w n = (tp + n, tp + n, fun i => if tp ≤ i ∧ i < tp + n then byB w (n - 1 - (i - tp)) else T i) := by unfold typS; rw [if_neg (by omega), if_neg (by rw [hp]; decide), if_neg (by omega)]
        rw [e] at hK
        rw [show tp + (n - 1 - -1) = tp + n by omega] at hz z3
        rw [z3]
        exact hK d' hc hz
      · refine A_aload_n dX7_type_78 rfl rfl ?_
        refine A_getR (fi := 2) dX7_type_79 fg_X7_17 rfl rfl (by assumption) (by assumption) ?_
        refine A_aload_n dX7_type_82 rfl rfl ?_
        refine A_get (fi := 3) dX7_type_83 fg_X7_106 rfl rfl (by assumption) ?_
        refine A_lload_n dX7_type_86 rfl rfl ?_
        refine A_bipush dX7_type_87 ⟨by decide, by decide⟩ rfl ?_
        refine A_iload dX7_type_89 rfl ?_
        refine A_imul_ok dX7_type_91 (by omega) (by omega) ?_
        refine A_lshr dX7_type_92 ?_
        refine A_ldc2 (x := 255) dX7_type_93 cs_X7_100 rfl ⟨by decide, by decide⟩ ?_
        refine A_land dX7_type_96 ?_
        refine A_l2i dX7_type_97 ?_
        rw [byM (by omega) (by omega), byL]
        have e3 : ∀ x y : Int, kU d' (m + 3) x y m 3 = tp + (n - 1 - j) := fun x y => by rw [kU_ne (by omega)]; exact z3
        refine A_iast dX7_type_98 (by assumption) (by omega) (by omega) ?_
        refine A_aload_n dX7_type_99 rfl rfl ?_
        refine A_dup dX7_type_100 (fun B => toV_cat B _) ?_
        refine A_get (fi := 3) dX7_type_101 fg_X7_106 rfl rfl (by assumption) ?_
        rw [e3, z3]
        refine A_iconst dX7_type_104 ⟨by decide, by decide⟩ ?_
        refine A_iadd_ok dX7_type_105 (by omega) (by omega) ?_
        refine A_put (fi := 3) dX7_type_106 fp_X7_106 rfl rfl (by assumption) ?_
        refine A_iinc_ok dX7_type_109 rfl rfl (by omega) (by omega) ?_
        refine A_goto (tgt := 73) dX7_type_112 (by decide) ?_
        refine ih (j + (-1)) (by omega) (by omega) (by omega) _ ((hc.u (by omega)).u (by omega)) ⟨?_, fun i i1 i2 => ?_⟩
        · unfold kU
          rw [if_pos ⟨rfl, rfl⟩]
          omega
        · rw [kU_ne (by omega)]
          unfold kU
          by_cases hi : i = tp + (n - 1 - j)
          · rw [if_pos ⟨rfl, hi⟩]
            dsimp only
            rw [if_pos (by omega)]
            congr 1
            omega
          · rw [if_neg (by omega)]
            exact hz.2 i i1 (by omega)
  have loop1 : (1 ≤ n ∧ n ≤ 8) → ∀ (N : Nat), n = N → ∀ (q j : Nat), N - j < q → j ≤ N → tokF w j = true → AW E mX7_type (k + 1) 0 0 17 [some (kR m), some (kJ w), none, some (kI n), some (kI j)] [] G d K := by
    intro hg N hN q
    induction q with
    | zero => intro j h; omega
    | succ q ih =>
      intro j hj hjN hp
      have z3 := hT.1
      refine A_iload dX7_type_17 rfl ?_
      refine A_iload_n dX7_type_19 rfl rfl ?_
      refine A_icmp_ge (tgt := 54) dX7_type_20 (by decide) (fun c_20 => ?_) (fun c_20 => ?_)
      · have : j = N := by omega
        subst this
        have eN : n.toNat = j := by omega
        refine A_aload_n dX7_type_54 rfl rfl ?_
        refine A_get (fi := 3) dX7_type_55 fg_X7_106 rfl rfl (by assumption) ?_
        refine A_iload_n dX7_type_58 rfl rfl ?_
        refine A_iadd_ok dX7_type_59 (by omega) (by omega) ?_
        refine A_bipush dX7_type_60 ⟨by decide, by decide⟩ rfl ?_
        refine A_icmp_le (tgt := 68) dX7_type_62 (by decide) (fun c_62 => ?_) (fun c_62 => ?_)
        · refine A_iload_n dX7_type_68 rfl rfl ?_
          refine A_iconst dX7_type_69 ⟨by decide, by decide⟩ ?_
          refine A_isub_ok dX7_type_70 (by omega) (by omega) ?_
          refine A_istore dX7_type_71 (Nat.le_of_ble_eq_true rfl) rfl ?_
          exact loop2 hg (by rw [eN]; exact hp) (by omega) (n.toNat + 1) (n - 1) (by omega) (by omega) (by omega) d MT.rf ⟨by rw [z3]; omega, fun i i1 i2 => by dsimp only; rw [if_neg (by omega)]; exact hT.2 i i1 (by omega)⟩
        · refine A_bipush dX7_type_65 ⟨by decide, by decide⟩ rfl ?_
          refine A_iret dX7_type_67 rfl ?_
          have e : typS tp T w n = (-3, tp, T) := by unfold typS; rw [if_neg (by omega), if_neg (by rw [eN, hp]; decide), if_pos (by omega)]
          rw [e] at hK
          exact hK d MT.rf hT
      · refine A_lload_n dX7_type_23 rfl rfl ?_
        refine A_bipush dX7_type_24 ⟨by decide, by decide⟩ rfl ?_
        refine A_iload dX7_type_26 rfl ?_
        refine A_imul_ok dX7_type_28 (by omega) (by omega) ?_
        refine A_lshr dX7_type_29 ?_
        refine A_ldc2 (x := 255) dX7_type_30 cs_X7_100 rfl ⟨by decide, by decide⟩ ?_
        refine A_land dX7_type_33 ?_
        refine A_ldc2 (x := 32) dX7_type_34 cs_X7_102 rfl ⟨by decide, by decide⟩ ?_
        refine A_ldc2 (x := 126) dX7_type_37 cs_X7_104 rfl ⟨by decide, by decide⟩ ?_
        refine A_ins3 dX7_type_40 ms_X7_53 (Nat.le_of_ble_eq_true rfl) ?_
        refine C_in ?_
        refine A_if_ne (tgt := 48) dX7_type_43 (by decide) (fun c_43 => ?_) (fun c_43 => ?_)
        · rw [byM (by omega) (by omega)] at c_43
          replace c_43 := i01n c_43
          refine A_iinc_ok dX7_type_48 rfl rfl (by omega) (by omega) ?_
          refine A_goto (tgt := 17) dX7_type_51 (by decide) ?_
          refine ih (j + 1) (by omega) (by omega) ?_
          simp only [tokF, hp, Bool.true_and, decide_eq_true_eq]
          exact c_43
        · rw [byM (by omega) (by omega)] at c_43
          replace c_43 := i01e c_43
          refine A_iconst dX7_type_46 ⟨by decide, by decide⟩ ?_
          refine A_iret dX7_type_47 rfl ?_
          have e1 : tokF w (j + 1) = false := by
            simp only [tokF, hp, Bool.true_and, decide_eq_false_iff_not]
            exact c_43
          have e2 := tokF_st e1 (N - (j + 1))
          rw [show j + 1 + (N - (j + 1)) = n.toNat by omega] at e2
          have e : typS tp T w n = (-1, tp, T) := by unfold typS; rw [if_neg (by omega), if_pos e2]
          rw [e] at hK
          exact hK d MT.rf hT
  refine AM.of rfl (Nat.le_of_ble_eq_true rfl) ?_
  refine A_iload_n dX7_type_0 rfl rfl ?_
  refine A_i2l dX7_type_1 ?_
  refine A_lconst (x := 1) dX7_type_2 ⟨by decide, by decide⟩ rfl ?_
  refine A_ldc2 (x := 8) dX7_type_3 cs_X7_98 rfl ⟨by decide, by decide⟩ ?_
  refine A_ins3 dX7_type_6 ms_X7_53 (Nat.le_of_ble_eq_true rfl) ?_
  refine C_in ?_
  refine A_if_ne (tgt := 14) dX7_type_9 (by decide) (fun c_9 => ?_) (fun c_9 => ?_)
  · replace c_9 := i01n c_9
    refine A_iconst dX7_type_14 ⟨by decide, by decide⟩ ?_
    refine A_istore dX7_type_15 (Nat.le_of_ble_eq_true rfl) rfl ?_
    exact loop1 (by omega) n.toNat (by omega) (n.toNat + 1) 0 (by omega) (by omega) rfl
  · replace c_9 := i01e c_9
    refine A_iconst dX7_type_12 ⟨by decide, by decide⟩ ?_
    refine A_iret dX7_type_13 rfl ?_
    have e : typS tp T w n = (-1, tp, T) := by unfold typS; rw [if_pos (by omega)]
    rw [e] at hK
    exact hK d MT.rf hT
theorem C_image {n : Int} (hM : MO G m) (hB : ¬ (0 ≤ n ∧ n ≤ 1) → K (some (kI (-1))) G d) (hO : (0 ≤ n ∧ n ≤ 1) → K (some (kI 1)) G (kU (cpR d m (3 + n) 0 640) (m + 2) n 1)) : AM E mX7_image (k + 1) 0 0 [kR m, kI n] G d K := by
  obtain ⟨ho, e0, a0, e1, a1, -⟩ := id hM
  refine AM.of rfl (Nat.le_of_ble_eq_true rfl) ?_
  refine A_iload_n dX7_image_0 rfl rfl ?_
  refine A_i2l dX7_image_1 ?_
  refine A_lconst (x := 0) dX7_image_2 ⟨by decide, by decide⟩ rfl ?_
  refine A_lconst (x := 1) dX7_image_3 ⟨by decide, by decide⟩ rfl ?_
  refine A_ins3 dX7_image_4 ms_X7_53 (Nat.le_of_ble_eq_true rfl) ?_
  refine C_in ?_
  refine A_if_ne (tgt := 12) dX7_image_7 (by decide) (fun c_7 => ?_) (fun c_7 => ?_)
  · replace c_7 := i01n c_7
    refine A_aload_n dX7_image_12 rfl rfl ?_
    refine A_iconst dX7_image_13 ⟨by decide, by decide⟩ ?_
    refine A_iload_n dX7_image_14 rfl rfl ?_
    refine A_iadd_ok dX7_image_15 (by omega) (by omega) ?_
    refine A_iconst dX7_image_16 ⟨by decide, by decide⟩ ?_
    refine A_inv2 dX7_image_17 mv_X7_219 kCl_7 (Nat.le_of_ble_eq_true rfl) (by assumption) ?_
    refine C_copyRing hM (by omega) (by omega) (by omega) (by omega) (by omega) ?_
    refine A_aload_n dX7_image_20 rfl rfl ?_
    refine A_getR (fi := 1) dX7_image_21 fg_X7_13 rfl rfl (by assumption) (by assumption) ?_
    refine A_iload_n dX7_image_24 rfl rfl ?_
    refine A_iconst dX7_image_25 ⟨by decide, by decide⟩ ?_
    refine A_zast dX7_image_26 (by assumption) (by omega) (by omega) (by first | exact Or.inl rfl | exact Or.inr rfl | assumption | omega) ?_
    refine A_iconst dX7_image_27 ⟨by decide, by decide⟩ ?_
    refine A_iret dX7_image_28 rfl ?_
    exact hO (by omega)
  · replace c_7 := i01e c_7
    refine A_iconst dX7_image_10 ⟨by decide, by decide⟩ ?_
    refine A_iret dX7_image_11 rfl ?_
    exact hB (by omega)
theorem C_restore {n : Int} (hM : MO G m) (hB : ¬ (0 ≤ n ∧ n ≤ 1) → K (some (kI (-1))) G d) (hN : (0 ≤ n ∧ n ≤ 1) → d (m + 2) n = 0 → K (some (kI (-4))) G d) (hO : (0 ≤ n ∧ n ≤ 1) → d (m + 2) n ≠ 0 → K (some (kI 1)) G (cpR d m 0 (3 + n) 640)) : AM E mX7_restore (k + 1) 0 0 [kR m, kI n] G d K := by
  obtain ⟨ho, e0, a0, e1, a1, -⟩ := id hM
  refine AM.of rfl (Nat.le_of_ble_eq_true rfl) ?_
  refine A_iload_n dX7_restore_0 rfl rfl ?_
  refine A_i2l dX7_restore_1 ?_
  refine A_lconst (x := 0) dX7_restore_2 ⟨by decide, by decide⟩ rfl ?_
  refine A_lconst (x := 1) dX7_restore_3 ⟨by decide, by decide⟩ rfl ?_
  refine A_ins3 dX7_restore_4 ms_X7_53 (Nat.le_of_ble_eq_true rfl) ?_
  refine C_in ?_
  refine A_if_ne (tgt := 12) dX7_restore_7 (by decide) (fun c_7 => ?_) (fun c_7 => ?_)
  · replace c_7 := i01n c_7
    refine A_aload_n dX7_restore_12 rfl rfl ?_
    refine A_getR (fi := 1) dX7_restore_13 fg_X7_13 rfl rfl (by assumption) (by assumption) ?_
    refine A_iload_n dX7_restore_16 rfl rfl ?_
    refine A_zald dX7_restore_17 (by assumption) (by omega) (by omega) ?_
    refine A_if_ne (tgt := 24) dX7_restore_18 (by decide) (fun c_18 => ?_) (fun c_18 => ?_)
    · refine A_aload_n dX7_restore_24 rfl rfl ?_
      refine A_iconst dX7_restore_25 ⟨by decide, by decide⟩ ?_
      refine A_iconst dX7_restore_26 ⟨by decide, by decide⟩ ?_
      refine A_iload_n dX7_restore_27 rfl rfl ?_
      refine A_iadd_ok dX7_restore_28 (by omega) (by omega) ?_
      refine A_inv2 dX7_restore_29 mv_X7_219 kCl_7 (Nat.le_of_ble_eq_true rfl) (by assumption) ?_
      refine C_copyRing hM (by omega) (by omega) (by omega) (by omega) (by omega) ?_
      refine A_iconst dX7_restore_32 ⟨by decide, by decide⟩ ?_
      refine A_iret dX7_restore_33 rfl ?_
      exact hO (by omega) c_18
    · refine A_bipush dX7_restore_21 ⟨by decide, by decide⟩ rfl ?_
      refine A_iret dX7_restore_23 rfl ?_
      exact hN (by omega) c_18
  · replace c_7 := i01e c_7
    refine A_iconst dX7_restore_10 ⟨by decide, by decide⟩ ?_
    refine A_iret dX7_restore_11 rfl ?_
    exact hB (by omega)
end M6
