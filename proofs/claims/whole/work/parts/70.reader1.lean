/-! the class's reader: object 2, its arrays 3 .. 13 -/
def RO (G : HG) : Prop := isO G 9 3 ∧ (G.2.2 9 0 = 10 ∧ isA G 10 8 100) ∧ (G.2.2 9 6 = 11 ∧ isA G 11 8 100) ∧ (G.2.2 9 7 = 12 ∧ isA G 12 8 100) ∧ (G.2.2 9 8 = 13 ∧ isA G 13 8 100) ∧ (G.2.2 9 9 = 14 ∧ isA G 14 8 100) ∧ (G.2.2 9 10 = 15 ∧ isA G 15 8 100) ∧ (G.2.2 9 11 = 16 ∧ isA G 16 8 6) ∧ (G.2.2 9 12 = 17 ∧ isA G 17 8 6) ∧ (G.2.2 9 13 = 18 ∧ isA G 18 8 6) ∧ (G.2.2 9 14 = 19 ∧ isA G 19 8 214) ∧ (G.2.2 9 15 = 20 ∧ isA G 20 8 214)
def RT (d : HD) (n : Int) (t : Int → Int) : Prop := d 9 1 = n ∧ ∀ i, 0 ≤ i → i < n → d 10 i = t i
theorem RT.u {d : HD} {n : Int} {t : Int → Int} {a : Nat} {i v : Int} (h : RT d n t) (h1 : a ≠ 10) (h2 : a ≠ 9 ∨ i ≠ 1) : RT (kU d a i v) n t := by
  refine ⟨?_, fun j j1 j2 => by rw [kU_ne h1.symm]; exact h.2 j j1 j2⟩
  unfold kU
  rw [if_neg (by omega)]
  exact h.1
section RD1
variable {E : EE} {k : Nat} {G : HG} {d : HD} {K : PQ} {n : Int} {t : Int → Int}
theorem C_next {p : Int} (hM : RO G) (hT : RT d n t) (hn : n ≤ 100) (h0 : 0 ≤ p) (h1 : p ≤ n) (hK : K (some (kI (ch t n (sk t n p)))) G (kU d 9 2 (sk t n p))) : AM E mX3_next k 0 0 [kR 9] G (kU d 9 2 p) K := by
  obtain ⟨ho, ⟨e0, a0⟩, -⟩ := id hM
  have loop : ∀ (q : Nat) (x : Int), (n - x).toNat < q → 0 ≤ x → x ≤ n → sk t n x = sk t n p → AW E mX3_next k 0 0 0 [some (kR 9)] [] G (kU d 9 2 x) K := by
    intro q
    induction q with
    | zero => intro x h; omega
    | succ q ih =>
      intro x hq hx hxn hs
      have f1 : kU d 9 2 x 9 1 = n := by rw [kU_f (by decide)]; exact hT.1
      have f2 : kU d 9 2 x 9 2 = x := kU_s
      have tx : x < n → kU d 9 2 x 10 x = t x := fun h => by rw [kU_ne (by decide)]; exact hT.2 x hx h
      have fin : ¬ (x < n ∧ t x = 32) → AW E mX3_next k 0 0 38 [some (kR 9)] [] G (kU d 9 2 x) K := fun h => by
        rw [sk_s h] at hs
        subst hs
        refine A_aload_n dX3_next_38 rfl rfl ?_
        refine A_get (fi := 2) dX3_next_39 fg_X3_19 rfl rfl (by assumption) ?_
        refine A_aload_n dX3_next_42 rfl rfl ?_
        refine A_get (fi := 1) dX3_next_43 fg_X3_15 rfl rfl (by assumption) ?_
        refine A_icmp_ge (tgt := 61) dX3_next_46 (by decide) (fun c_46 => ?_) (fun c_46 => ?_)
        · refine A_iconst dX3_next_61 ⟨by decide, by decide⟩ ?_
          refine A_iret dX3_next_62 rfl ?_
          unfold ch at hK
          rw [if_neg (by omega)] at hK
          exact hK
        · refine A_aload_n dX3_next_49 rfl rfl ?_
          refine A_getR (fi := 0) dX3_next_50 fg_X3_9 rfl rfl (by assumption) (by assumption) ?_
          refine A_aload_n dX3_next_53 rfl rfl ?_
          refine A_get (fi := 2) dX3_next_54 fg_X3_19 rfl rfl (by assumption) ?_
          refine A_iald dX3_next_57 (by assumption) (by omega) (by omega) ?_
          refine A_goto (tgt := 62) dX3_next_58 (by decide) ?_
          refine A_iret dX3_next_62 rfl ?_
          unfold ch at hK
          rw [if_pos (by omega), ← tx (by omega)] at hK
          rw [f2]
          exact hK
      refine A_aload_n dX3_next_0 rfl rfl ?_
      refine A_get (fi := 2) dX3_next_1 fg_X3_19 rfl rfl (by assumption) ?_
      refine A_aload_n dX3_next_4 rfl rfl ?_
      refine A_get (fi := 1) dX3_next_5 fg_X3_15 rfl rfl (by assumption) ?_
      refine A_icmp_ge (tgt := 38) dX3_next_8 (by decide) (fun c_8 => ?_) (fun c_8 => ?_)
      · skip
        exact fin (by omega)
      · refine A_aload_n dX3_next_11 rfl rfl ?_
        refine A_getR (fi := 0) dX3_next_12 fg_X3_9 rfl rfl (by assumption) (by assumption) ?_
        refine A_aload_n dX3_next_15 rfl rfl ?_
        refine A_get (fi := 2) dX3_next_16 fg_X3_19 rfl rfl (by assumption) ?_
        refine A_iald dX3_next_19 (by assumption) (by omega) (by omega) ?_
        refine A_bipush dX3_next_20 ⟨by decide, by decide⟩ rfl ?_
        refine A_icmp_ne (tgt := 38) dX3_next_22 (by decide) (fun c_22 => ?_) (fun c_22 => ?_)
        · rw [f2, tx (by omega)] at c_22
          exact fin (by omega)
        · rw [f2, tx (by omega)] at c_22
          refine A_aload_n dX3_next_25 rfl rfl ?_
          refine A_dup dX3_next_26 (fun B => toV_cat B _) ?_
          refine A_get (fi := 2) dX3_next_27 fg_X3_19 rfl rfl (by assumption) ?_
          refine A_iconst dX3_next_30 ⟨by decide, by decide⟩ ?_
          refine A_iadd_ok dX3_next_31 (by omega) (by omega) ?_
          refine A_put (fi := 2) dX3_next_32 fp_X3_19 rfl rfl (by assumption) ?_
          refine A_goto (tgt := 0) dX3_next_35 (by decide) ?_
          rw [f2, kU_2]
          exact ih (x + 1) (by omega) (by omega) (by omega) (by rw [← sk_b (by omega) c_22]; exact hs)
  refine AM.of rfl (Nat.le_of_ble_eq_true rfl) ?_
  exact loop _ p (Nat.lt_succ_self _) h0 h1 rfl
theorem C_rtake {p b : Int} (hM : RO G) (hT : RT d n t) (hn : n ≤ 100) (h0 : 0 ≤ p) (h1 : p ≤ n) (hy : ch t n (sk t n p) = b → K (some (kI 1)) G (kU d 9 2 (sk t n p + 1))) (hz : ch t n (sk t n p) ≠ b → K (some (kI 0)) G (kU d 9 2 (sk t n p))) : AM E mX3_take (k + 1) 0 0 [kR 9, kI b] G (kU d 9 2 p) K := by
  have ho := hM.1
  have l1 := sk_le (t := t) h1
  have g1 := sk_ge (t := t) (n := n) p
  have f2 : ∀ x, kU d 9 2 x 9 2 = x := fun x => kU_s
  refine AM.of rfl (Nat.le_of_ble_eq_true rfl) ?_
  refine A_aload_n dX3_take_0 rfl rfl ?_
  refine A_inv0 dX3_take_1 mv_X3_81 kCl_3 (Nat.le_of_ble_eq_true rfl) (by assumption) ?_
  refine C_next hM hT hn h0 h1 ?_
  refine A_iload_n dX3_take_4 rfl rfl ?_
  refine A_icmp_eq (tgt := 10) dX3_take_5 (by decide) (fun c_5 => ?_) (fun c_5 => ?_)
  · have f := hy c_5
    refine A_aload_n dX3_take_10 rfl rfl ?_
    refine A_dup dX3_take_11 (fun B => toV_cat B _) ?_
    refine A_get (fi := 2) dX3_take_12 fg_X3_19 rfl rfl (by assumption) ?_
    rw [f2]
    refine A_iconst dX3_take_15 ⟨by decide, by decide⟩ ?_
    refine A_iadd_ok dX3_take_16 (by omega) (by omega) ?_
    refine A_put (fi := 2) dX3_take_17 fp_X3_19 rfl rfl (by assumption) ?_
    rw [kU_2]
    refine A_iconst dX3_take_20 ⟨by decide, by decide⟩ ?_
    refine A_zret dX3_take_21 rfl (by first | exact Or.inl rfl | exact Or.inr rfl | assumption | omega) ?_
    exact f
  · have f := hz c_5
    refine A_iconst dX3_take_8 ⟨by decide, by decide⟩ ?_
    refine A_zret dX3_take_9 rfl (by first | exact Or.inl rfl | exact Or.inr rfl | assumption | omega) ?_
    exact f
theorem C_rdig {x : Int} (hK : K (some (kI (if 48 ≤ x ∧ x ≤ 57 then 1 else 0))) G d) : AM E mX3_isDigit k 0 0 [kI x] G d K := by
  refine AM.of rfl (Nat.le_of_ble_eq_true rfl) ?_
  refine A_iload_n dX3_isDigit_0 rfl rfl ?_
  refine A_bipush dX3_isDigit_1 ⟨by decide, by decide⟩ rfl ?_
  refine A_icmp_lt (tgt := 16) dX3_isDigit_3 (by decide) (fun c_3 => ?_) (fun c_3 => ?_)
  · rw [if_neg (by omega)] at hK
    refine A_iconst dX3_isDigit_16 ⟨by decide, by decide⟩ ?_
    refine A_zret dX3_isDigit_17 rfl (by first | exact Or.inl rfl | exact Or.inr rfl | assumption | omega) ?_
    exact hK
  · refine A_iload_n dX3_isDigit_6 rfl rfl ?_
    refine A_bipush dX3_isDigit_7 ⟨by decide, by decide⟩ rfl ?_
    refine A_icmp_gt (tgt := 16) dX3_isDigit_9 (by decide) (fun c_9 => ?_) (fun c_9 => ?_)
    · rw [if_neg (by omega)] at hK
      refine A_iconst dX3_isDigit_16 ⟨by decide, by decide⟩ ?_
      refine A_zret dX3_isDigit_17 rfl (by first | exact Or.inl rfl | exact Or.inr rfl | assumption | omega) ?_
      exact hK
    · rw [if_pos (by omega)] at hK
      refine A_iconst dX3_isDigit_12 ⟨by decide, by decide⟩ ?_
      refine A_goto (tgt := 17) dX3_isDigit_13 (by decide) ?_
      refine A_zret dX3_isDigit_17 rfl (by first | exact Or.inl rfl | exact Or.inr rfl | assumption | omega) ?_
      exact hK
theorem C_readNumber {p : Int} (hM : RO G) (hT : RT d n t) (hn : n ≤ 100) (h0 : 0 ≤ p) (hD : isD t n p) (hK : K (some (kI (if isD t n (p + 1) then 10 * (t p - 48) + t (p + 1) - 48 else t p - 48))) G (kU d 9 2 (if isD t n (p + 1) then p + 1 + 1 else p + 1))) : AM E mX3_readNumber (k + 1) 0 0 [kR 9] G (kU d 9 2 p) K := by
  obtain ⟨ho, ⟨e0, a0⟩, -⟩ := id hM
  obtain ⟨D0, D1, D2⟩ := hD
  have f2 : ∀ x, kU d 9 2 x 9 2 = x := fun x => kU_s
  have f1 : ∀ x, kU d 9 2 x 9 1 = n := fun x => by rw [kU_f (by decide)]; exact hT.1
  have tx : ∀ y x, 0 ≤ x → x < n → kU d 9 2 y 10 x = t x := fun y x hx h => by rw [kU_ne (by decide)]; exact hT.2 x hx h
  refine AM.of rfl (Nat.le_of_ble_eq_true rfl) ?_
  refine A_aload_n dX3_readNumber_0 rfl rfl ?_
  refine A_getR (fi := 0) dX3_readNumber_1 fg_X3_9 rfl rfl (by assumption) (by assumption) ?_
  refine A_aload_n dX3_readNumber_4 rfl rfl ?_
  refine A_get (fi := 2) dX3_readNumber_5 fg_X3_19 rfl rfl (by assumption) ?_
  rw [f2]
  refine A_iald dX3_readNumber_8 (by assumption) (by omega) (by omega) ?_
  rw [tx p p h0 D0]
  refine A_bipush dX3_readNumber_9 ⟨by decide, by decide⟩ rfl ?_
  refine A_isub_ok dX3_readNumber_11 (by omega) (by omega) ?_
  refine A_istore_n dX3_readNumber_12 rfl (Nat.le_of_ble_eq_true rfl) rfl ?_
  refine A_aload_n dX3_readNumber_13 rfl rfl ?_
  refine A_dup dX3_readNumber_14 (fun B => toV_cat B _) ?_
  refine A_get (fi := 2) dX3_readNumber_15 fg_X3_19 rfl rfl (by assumption) ?_
  rw [f2]
  refine A_iconst dX3_readNumber_18 ⟨by decide, by decide⟩ ?_
  refine A_iadd_ok dX3_readNumber_19 (by omega) (by omega) ?_
  refine A_put (fi := 2) dX3_readNumber_20 fp_X3_19 rfl rfl (by assumption) ?_
  rw [kU_2]
  refine A_aload_n dX3_readNumber_23 rfl rfl ?_
  refine A_get (fi := 2) dX3_readNumber_24 fg_X3_19 rfl rfl (by assumption) ?_
  rw [f2]
  refine A_aload_n dX3_readNumber_27 rfl rfl ?_
  refine A_get (fi := 1) dX3_readNumber_28 fg_X3_15 rfl rfl (by assumption) ?_
  rw [f1]
  refine A_icmp_ge (tgt := 77) dX3_readNumber_31 (by decide) (fun c_31 => ?_) (fun c_31 => ?_)
  · rw [if_neg (fun z => by have := z.1; omega), if_neg (fun z => by have := z.1; omega)] at hK
    refine A_iload_n dX3_readNumber_77 rfl rfl ?_
    refine A_iret dX3_readNumber_78 rfl ?_
    exact hK
  · refine A_aload_n dX3_readNumber_34 rfl rfl ?_
    refine A_getR (fi := 0) dX3_readNumber_35 fg_X3_9 rfl rfl (by assumption) (by assumption) ?_
    refine A_aload_n dX3_readNumber_38 rfl rfl ?_
    refine A_get (fi := 2) dX3_readNumber_39 fg_X3_19 rfl rfl (by assumption) ?_
    rw [f2]
    refine A_iald dX3_readNumber_42 (by assumption) (by omega) (by omega) ?_
    rw [tx _ _ (by omega) (by omega)]
    refine A_ins1 dX3_readNumber_43 ms_X3_90 (Nat.le_of_ble_eq_true rfl) ?_
    refine C_rdig ?_
    refine A_if_eq (tgt := 77) dX3_readNumber_46 (by decide) (fun c_46 => ?_) (fun c_46 => ?_)
    · have z46 := i01e c_46
      rw [if_neg (fun z => z46 ⟨z.2.1, z.2.2⟩), if_neg (fun z => z46 ⟨z.2.1, z.2.2⟩)] at hK
      replace c_46 := i01e c_46
      refine A_iload_n dX3_readNumber_77 rfl rfl ?_
      refine A_iret dX3_readNumber_78 rfl ?_
      exact hK
    · have z46 := i01n c_46
      rw [if_pos ⟨by omega, z46.1, z46.2⟩, if_pos ⟨by omega, z46.1, z46.2⟩] at hK
      replace c_46 := i01n c_46
      refine A_bipush dX3_readNumber_49 ⟨by decide, by decide⟩ rfl ?_
      refine A_iload_n dX3_readNumber_51 rfl rfl ?_
      refine A_imul_ok dX3_readNumber_52 (by omega) (by omega) ?_
      refine A_aload_n dX3_readNumber_53 rfl rfl ?_
      refine A_getR (fi := 0) dX3_readNumber_54 fg_X3_9 rfl rfl (by assumption) (by assumption) ?_
      refine A_aload_n dX3_readNumber_57 rfl rfl ?_
      refine A_get (fi := 2) dX3_readNumber_58 fg_X3_19 rfl rfl (by assumption) ?_
      rw [f2]
      refine A_iald dX3_readNumber_61 (by assumption) (by omega) (by omega) ?_
      rw [tx _ _ (by omega) (by omega)]
      refine A_iadd_ok dX3_readNumber_62 (by omega) (by omega) ?_
      refine A_bipush dX3_readNumber_63 ⟨by decide, by decide⟩ rfl ?_
      refine A_isub_ok dX3_readNumber_65 (by omega) (by omega) ?_
      refine A_istore_n dX3_readNumber_66 rfl (Nat.le_of_ble_eq_true rfl) rfl ?_
      refine A_aload_n dX3_readNumber_67 rfl rfl ?_
      refine A_dup dX3_readNumber_68 (fun B => toV_cat B _) ?_
      refine A_get (fi := 2) dX3_readNumber_69 fg_X3_19 rfl rfl (by assumption) ?_
      rw [f2]
      refine A_iconst dX3_readNumber_72 ⟨by decide, by decide⟩ ?_
      refine A_iadd_ok dX3_readNumber_73 (by omega) (by omega) ?_
      refine A_put (fi := 2) dX3_readNumber_74 fp_X3_19 rfl rfl (by assumption) ?_
      rw [kU_2]
      refine A_iload_n dX3_readNumber_77 rfl rfl ?_
      refine A_iret dX3_readNumber_78 rfl ?_
      exact hK
def adC (d : HD) (c w h v : Int) : HD := kU (kU (kU (kU d 11 c w) 12 c h) 13 c v) 9 3 (c + 1)
theorem C_addClaim {c w h v : Int} (hM : RO G) (hc : d 9 3 = c) (h0 : 0 ≤ c) (h1 : c < 100) (hK : K none G (adC d c w h v)) : AM E mX3_addClaim k 0 0 [kR 9, kI w, kI h, kI v] G d K := by
  obtain ⟨ho, ⟨e0, a0⟩, ⟨e6, a6⟩, ⟨e7, a7⟩, ⟨e8, a8⟩, -⟩ := id hM
  have x1 : kU d 11 c w 9 3 = c := by rw [kU_ne (by decide)]; exact hc
  have x2 : kU (kU d 11 c w) 12 c h 9 3 = c := by rw [kU_ne (by decide)]; exact x1
  have x3 : kU (kU (kU d 11 c w) 12 c h) 13 c v 9 3 = c := by rw [kU_ne (by decide)]; exact x2
  refine AM.of rfl (Nat.le_of_ble_eq_true rfl) ?_
  refine A_aload_n dX3_addClaim_0 rfl rfl ?_
  refine A_getR (fi := 6) dX3_addClaim_1 fg_X3_31 rfl rfl (by assumption) (by assumption) ?_
  refine A_aload_n dX3_addClaim_4 rfl rfl ?_
  refine A_get (fi := 3) dX3_addClaim_5 fg_X3_22 rfl rfl (by assumption) ?_
  rw [hc]
  refine A_iload_n dX3_addClaim_8 rfl rfl ?_
  refine A_iast dX3_addClaim_9 (by assumption) (by omega) (by omega) ?_
  refine A_aload_n dX3_addClaim_10 rfl rfl ?_
  refine A_getR (fi := 7) dX3_addClaim_11 fg_X3_34 rfl rfl (by assumption) (by assumption) ?_
  refine A_aload_n dX3_addClaim_14 rfl rfl ?_
  refine A_get (fi := 3) dX3_addClaim_15 fg_X3_22 rfl rfl (by assumption) ?_
  rw [x1]
  refine A_iload_n dX3_addClaim_18 rfl rfl ?_
  refine A_iast dX3_addClaim_19 (by assumption) (by omega) (by omega) ?_
  refine A_aload_n dX3_addClaim_20 rfl rfl ?_
  refine A_getR (fi := 8) dX3_addClaim_21 fg_X3_37 rfl rfl (by assumption) (by assumption) ?_
  refine A_aload_n dX3_addClaim_24 rfl rfl ?_
  refine A_get (fi := 3) dX3_addClaim_25 fg_X3_22 rfl rfl (by assumption) ?_
  rw [x2]
  refine A_iload_n dX3_addClaim_28 rfl rfl ?_
  refine A_iast dX3_addClaim_29 (by assumption) (by omega) (by omega) ?_
  refine A_aload_n dX3_addClaim_30 rfl rfl ?_
  refine A_dup dX3_addClaim_31 (fun B => toV_cat B _) ?_
  refine A_get (fi := 3) dX3_addClaim_32 fg_X3_22 rfl rfl (by assumption) ?_
  rw [x3]
  refine A_iconst dX3_addClaim_35 ⟨by decide, by decide⟩ ?_
  refine A_iadd_ok dX3_addClaim_36 (by omega) (by omega) ?_
  refine A_put (fi := 3) dX3_addClaim_37 fp_X3_22 rfl rfl (by assumption) ?_
  refine A_vret dX3_addClaim_40 rfl ?_
  exact hK
def nlD (d : HD) (l : Int) : HD := kU (kU (kU d 19 l (-1)) 20 l 0) 9 5 (l + 1)
theorem C_newLabel {l : Int} (hM : RO G) (hl : d 9 5 = l) (h0 : 0 ≤ l) (h1 : l ≤ 213) (hK : K (some (kI l)) G (nlD d l)) : AM E mX3_newLabel (k + 1) 0 0 [kR 9] G d K := by
  obtain ⟨ho, -, -, -, -, -, -, -, -, -, ⟨e14, a14⟩, ⟨e15, a15⟩⟩ := id hM
  refine AM.of rfl (Nat.le_of_ble_eq_true rfl) ?_
  refine A_aload_n dX3_newLabel_0 rfl rfl ?_
  refine A_get (fi := 5) dX3_newLabel_1 fg_X3_28 rfl rfl (by assumption) ?_
  rw [hl]
  refine A_sipush dX3_newLabel_4 ⟨by decide, by decide⟩ rfl ?_
  refine A_min dX3_newLabel_7 lk_X3_112 ow_mins it_J9 ow_minc (Nat.le_of_ble_eq_true rfl) ?_
  rw [show min l 213 = l by omega]
  refine A_istore_n dX3_newLabel_10 rfl (Nat.le_of_ble_eq_true rfl) rfl ?_
  refine A_aload_n dX3_newLabel_11 rfl rfl ?_
  refine A_getR (fi := 14) dX3_newLabel_12 fg_X3_55 rfl rfl (by assumption) (by assumption) ?_
  refine A_iload_n dX3_newLabel_15 rfl rfl ?_
  refine A_iconst dX3_newLabel_16 ⟨by decide, by decide⟩ ?_
  refine A_iast dX3_newLabel_17 (by assumption) (by omega) (by omega) ?_
  refine A_aload_n dX3_newLabel_18 rfl rfl ?_
  refine A_getR (fi := 15) dX3_newLabel_19 fg_X3_58 rfl rfl (by assumption) (by assumption) ?_
  refine A_iload_n dX3_newLabel_22 rfl rfl ?_
  refine A_iconst dX3_newLabel_23 ⟨by decide, by decide⟩ ?_
  refine A_iast dX3_newLabel_24 (by assumption) (by omega) (by omega) ?_
  refine A_aload_n dX3_newLabel_25 rfl rfl ?_
  refine A_iload_n dX3_newLabel_26 rfl rfl ?_
  refine A_iconst dX3_newLabel_27 ⟨by decide, by decide⟩ ?_
  refine A_iadd_ok dX3_newLabel_28 (by omega) (by omega) ?_
  refine A_put (fi := 5) dX3_newLabel_29 fp_X3_28 rfl rfl (by assumption) ?_
  refine A_iload_n dX3_newLabel_32 rfl rfl ?_
  refine A_iret dX3_newLabel_33 rfl ?_
  exact hK
theorem C_join {l o : Int} (hM : RO G) (h0 : 0 ≤ l) (h1 : l ≤ 213) (hK : K none G (kU d 19 l o)) : AM E mX3_join k 0 0 [kR 9, kI l, kI o] G d K := by
  obtain ⟨ho, -, -, -, -, -, -, -, -, -, ⟨e14, a14⟩, ⟨e15, a15⟩⟩ := id hM
  refine AM.of rfl (Nat.le_of_ble_eq_true rfl) ?_
  refine A_aload_n dX3_join_0 rfl rfl ?_
  refine A_getR (fi := 14) dX3_join_1 fg_X3_55 rfl rfl (by assumption) (by assumption) ?_
  refine A_iload_n dX3_join_4 rfl rfl ?_
  refine A_iload_n dX3_join_5 rfl rfl ?_
  refine A_iast dX3_join_6 (by assumption) (by omega) (by omega) ?_
  refine A_vret dX3_join_7 rfl ?_
  exact hK
theorem C_fix {l o : Int} (hM : RO G) (h0 : 0 ≤ l) (h1 : l ≤ 213) (hK : K none G (kU d 20 l o)) : AM E mX3_fix k 0 0 [kR 9, kI l, kI o] G d K := by
  obtain ⟨ho, -, -, -, -, -, -, -, -, -, ⟨e14, a14⟩, ⟨e15, a15⟩⟩ := id hM
  refine AM.of rfl (Nat.le_of_ble_eq_true rfl) ?_
  refine A_aload_n dX3_fix_0 rfl rfl ?_
  refine A_getR (fi := 15) dX3_fix_1 fg_X3_58 rfl rfl (by assumption) (by assumption) ?_
  refine A_iload_n dX3_fix_4 rfl rfl ?_
  refine A_iload_n dX3_fix_5 rfl rfl ?_
  refine A_iast dX3_fix_6 (by assumption) (by omega) (by omega) ?_
  refine A_vret dX3_fix_7 rfl ?_
  exact hK
end RD1
