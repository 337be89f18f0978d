def ahF (R : Int → Int) (c : Int) : Nat → Int × Int
  | 0 => (R 0, c)
  | k + 1 => if (k : Int) ≠ c ∧ cfR R k 1 = cfR R c 1 ∧ onS (R 0) (cfR R c 0) (cfR R k 0) < (ahF R c k).1 then (onS (R 0) (cfR R c 0) (cfR R k 0), (k : Int)) else ahF R c k
def aheadS (R : Int → Int) (c : Int) : Int := (ahF R c (R 2).toNat).2
def gapS (R : Int → Int) (c : Int) : Int := if aheadS R c = c then R 0 - 1 else onS (R 0) (cfR R c 0) (cfR R (aheadS R c) 0) - 1
def otF (R : Int → Int) (c : Int) : Nat → Int
  | 0 => R 0
  | k + 1 => if cfR R k 1 ≠ cfR R c 1 ∧ onS (R 0) (cfR R c 0) (cfR R k 0) < otF R c k then onS (R 0) (cfR R c 0) (cfR R k 0) else otF R c k
def otherS (R : Int → Int) (c : Int) : Int := otF R c (R 2).toNat
def leadS (R : Int → Int) (c : Int) : Int := cfR R (aheadS R c) 2 - cfR R c 2
/-- what the geometry needs of a ring -/
def WG (R : Int → Int) : Prop := 12 ≤ R 0 ∧ R 0 ≤ 99 ∧ 0 ≤ R 2 ∧ R 2 ≤ 12 ∧ ∀ c, 0 ≤ c → c < R 2 → 0 ≤ cfR R c 0 ∧ cfR R c 0 < R 0
theorem onS_rg {n a b : Int} (h : 0 < n) : 0 ≤ onS n a b ∧ onS n a b < n := ⟨Int.emod_nonneg _ (by omega), Int.emod_lt_of_pos _ h⟩
theorem ahF_rg {R : Int → Int} {c : Int} (hW : WG R) (hc : 0 ≤ c) (hc2 : c < R 2) : ∀ k : Nat, (k : Int) ≤ R 2 → 0 ≤ (ahF R c k).1 ∧ (ahF R c k).1 ≤ R 0 ∧ 0 ≤ (ahF R c k).2 ∧ (ahF R c k).2 < R 2
  | 0, _ => by obtain ⟨h1, h2, h3, h4, h5⟩ := hW; simp only [ahF]; omega
  | k + 1, h => by
    have ih := ahF_rg hW hc hc2 k (by omega)
    obtain ⟨h1, h2, h3, h4, h5⟩ := hW
    have ho := onS_rg (n := R 0) (a := cfR R c 0) (b := cfR R k 0) (by omega)
    simp only [ahF]
    split
    · refine ⟨by omega, by omega, by omega, by omega⟩
    · exact ih
theorem aheadS_rg {R : Int → Int} {c : Int} (hW : WG R) (hc : 0 ≤ c) (hc2 : c < R 2) : 0 ≤ aheadS R c ∧ aheadS R c < R 2 := by
  have h := ahF_rg hW hc hc2 (R 2).toNat (by have := hW.2.2.1; omega)
  exact h.2.2
theorem otF_rg {R : Int → Int} {c : Int} (hW : WG R) : ∀ k : Nat, 0 ≤ otF R c k ∧ otF R c k ≤ R 0
  | 0 => by obtain ⟨h1, h2, h3, h4, h5⟩ := hW; simp only [otF]; omega
  | k + 1 => by
    have ih := otF_rg (c := c) hW k
    obtain ⟨h1, h2, h3, h4, h5⟩ := hW
    have ho := onS_rg (n := R 0) (a := cfR R c 0) (b := cfR R k 0) (by omega)
    simp only [otF]
    split <;> omega
theorem gapS_rg {R : Int → Int} {c : Int} (hW : WG R) : -1 ≤ gapS R c ∧ gapS R c < R 0 := by
  obtain ⟨h1, h2, h3, h4, h5⟩ := hW
  have ho := onS_rg (n := R 0) (a := cfR R c 0) (b := cfR R (aheadS R c) 0) (by omega)
  unfold gapS
  split <;> omega
section M2
variable {E : EE} {k m : Nat} {G : HG} {d : HD} {K : PQ}
theorem C_ahead {r c : Int} {R : Int → Int} (hM : MO G m) (hR : PZ d m r R) (h1 : 0 ≤ r) (h2 : r ≤ 4) (hW : WG R) (hc : 0 ≤ c) (hc2 : c < R 2) (hK : K (some (kI (aheadS R c))) G d) : AM E mX7_ahead (k + 1) 0 0 [kR m, kI r, kI c] G d K := by
  obtain ⟨w1, w2, w3, w4, w5⟩ := id hW
  obtain ⟨ho, e0, a0, -⟩ := id hM
  obtain ⟨N, hN⟩ : ∃ N : Nat, R 2 = N := ⟨(R 2).toNat, by omega⟩
  have z0 := hR 0 (by omega) (by omega)
  have z2 := hR 2 (by omega) (by omega)
  have loop : ∀ (n j : Nat), N - j < n → j ≤ N → ∀ q6 : Option AV, AW E mX7_ahead (k + 1) 0 0 19 [some (kR m), some (kI r), some (kI c), some (kI (ahF R c j).2), some (kI (ahF R c j).1), some (kI j), q6] [] G d K := by
    intro n
    induction n with
    | zero => intro j h; omega
    | succ n ih =>
      intro j hj hjN q6
      have rg := ahF_rg hW hc hc2 j (by omega)
      refine A_iload dX7_ahead_19 rfl ?_
      refine A_aload_n dX7_ahead_21 rfl rfl ?_
      refine A_getR (fi := 0) dX7_ahead_22 fg_X7_7 rfl rfl (by assumption) (by assumption) ?_
      refine A_sipush dX7_ahead_25 ⟨by decide, by decide⟩ rfl ?_
      refine A_iload_n dX7_ahead_28 rfl rfl ?_
      refine A_imul_ok dX7_ahead_29 (by omega) (by omega) ?_
      refine A_iconst dX7_ahead_30 ⟨by decide, by decide⟩ ?_
      refine A_iadd_ok dX7_ahead_31 (by omega) (by omega) ?_
      refine A_iald dX7_ahead_32 (by assumption) (by omega) (by omega) ?_
      refine A_icmp_ge (tgt := 102) dX7_ahead_33 (by decide) (fun c_33 => ?_) (fun c_33 => ?_)
      · refine A_iload_n dX7_ahead_102 rfl rfl ?_
        refine A_iret dX7_ahead_103 rfl ?_
        have : j = N := by omega
        subst this
        have e : (R 2).toNat = j := by omega
        unfold aheadS at hK
        rw [e] at hK
        exact hK
      · have wj := w5 j (by omega) (by omega)
        have wc := w5 c hc hc2
        have next := ih (j + 1) (by omega) (by omega)
        refine A_aload_n dX7_ahead_36 rfl rfl ?_
        refine A_iload_n dX7_ahead_37 rfl rfl ?_
        refine A_aload_n dX7_ahead_38 rfl rfl ?_
        refine A_iload_n dX7_ahead_39 rfl rfl ?_
        refine A_iload_n dX7_ahead_40 rfl rfl ?_
        refine A_iconst dX7_ahead_41 ⟨by decide, by decide⟩ ?_
        refine A_inv3 dX7_ahead_42 mv_X7_57 kCl_7 (Nat.le_of_ble_eq_true rfl) (by assumption) ?_
        refine C_of hM hR (by omega) (by omega) (by omega) (by omega) (by omega) (by omega) ?_
        refine A_aload_n dX7_ahead_45 rfl rfl ?_
        refine A_iload_n dX7_ahead_46 rfl rfl ?_
        refine A_iload dX7_ahead_47 rfl ?_
        refine A_iconst dX7_ahead_49 ⟨by decide, by decide⟩ ?_
        refine A_inv3 dX7_ahead_50 mv_X7_57 kCl_7 (Nat.le_of_ble_eq_true rfl) (by assumption) ?_
        refine C_of hM hR (by omega) (by omega) (by omega) (by omega) (by omega) (by omega) ?_
        refine A_inv3 dX7_ahead_53 mv_X7_61 kCl_7 (Nat.le_of_ble_eq_true rfl) (by assumption) ?_
        refine C_on hM hR h1 h2 w1 w2 wc.1 wc.2 wj.1 wj.2 ?_
        refine A_istore dX7_ahead_56 (Nat.le_of_ble_eq_true rfl) rfl ?_
        refine A_iload dX7_ahead_58 rfl ?_
        refine A_iload_n dX7_ahead_60 rfl rfl ?_
        refine A_icmp_eq (tgt := 96) dX7_ahead_61 (by decide) (fun c_61 => ?_) (fun c_61 => ?_)
        · refine A_iinc_ok dX7_ahead_96 rfl rfl (by omega) (by omega) ?_
          refine A_goto (tgt := 19) dX7_ahead_99 (by decide) ?_
          have e : ahF R c (j + 1) = ahF R c j := by simp only [ahF]; rw [if_neg]; omega
          rw [e] at next
          exact next _
        · refine A_aload_n dX7_ahead_64 rfl rfl ?_
          refine A_iload_n dX7_ahead_65 rfl rfl ?_
          refine A_iload dX7_ahead_66 rfl ?_
          refine A_iconst dX7_ahead_68 ⟨by decide, by decide⟩ ?_
          refine A_inv3 dX7_ahead_69 mv_X7_57 kCl_7 (Nat.le_of_ble_eq_true rfl) (by assumption) ?_
          refine C_of hM hR (by omega) (by omega) (by omega) (by omega) (by omega) (by omega) ?_
          refine A_aload_n dX7_ahead_72 rfl rfl ?_
          refine A_iload_n dX7_ahead_73 rfl rfl ?_
          refine A_iload_n dX7_ahead_74 rfl rfl ?_
          refine A_iconst dX7_ahead_75 ⟨by decide, by decide⟩ ?_
          refine A_inv3 dX7_ahead_76 mv_X7_57 kCl_7 (Nat.le_of_ble_eq_true rfl) (by assumption) ?_
          refine C_of hM hR (by omega) (by omega) (by omega) (by omega) (by omega) (by omega) ?_
          refine A_icmp_ne (tgt := 96) dX7_ahead_79 (by decide) (fun c_79 => ?_) (fun c_79 => ?_)
          · refine A_iinc_ok dX7_ahead_96 rfl rfl (by omega) (by omega) ?_
            refine A_goto (tgt := 19) dX7_ahead_99 (by decide) ?_
            have e : ahF R c (j + 1) = ahF R c j := by simp only [ahF]; rw [if_neg]; omega
            rw [e] at next
            exact next _
          · refine A_iload dX7_ahead_82 rfl ?_
            refine A_iload dX7_ahead_84 rfl ?_
            refine A_icmp_ge (tgt := 96) dX7_ahead_86 (by decide) (fun c_86 => ?_) (fun c_86 => ?_)
            · refine A_iinc_ok dX7_ahead_96 rfl rfl (by omega) (by omega) ?_
              refine A_goto (tgt := 19) dX7_ahead_99 (by decide) ?_
              have e : ahF R c (j + 1) = ahF R c j := by simp only [ahF]; rw [if_neg]; omega
              rw [e] at next
              exact next _
            · refine A_iload dX7_ahead_89 rfl ?_
              refine A_istore dX7_ahead_91 (Nat.le_of_ble_eq_true rfl) rfl ?_
              refine A_iload dX7_ahead_93 rfl ?_
              refine A_istore_n dX7_ahead_95 rfl (Nat.le_of_ble_eq_true rfl) rfl ?_
              refine A_iinc_ok dX7_ahead_96 rfl rfl (by omega) (by omega) ?_
              refine A_goto (tgt := 19) dX7_ahead_99 (by decide) ?_
              have e : ahF R c (j + 1) = (onS (R 0) (cfR R c 0) (cfR R j 0), (j : Int)) := by simp only [ahF]; rw [if_pos]; omega
              rw [e] at next
              exact next _
  refine AM.of rfl (Nat.le_of_ble_eq_true rfl) ?_
  refine A_iload_n dX7_ahead_0 rfl rfl ?_
  refine A_istore_n dX7_ahead_1 rfl (Nat.le_of_ble_eq_true rfl) rfl ?_
  refine A_aload_n dX7_ahead_2 rfl rfl ?_
  refine A_getR (fi := 0) dX7_ahead_3 fg_X7_7 rfl rfl (by assumption) (by assumption) ?_
  refine A_sipush dX7_ahead_6 ⟨by decide, by decide⟩ rfl ?_
  refine A_iload_n dX7_ahead_9 rfl rfl ?_
  refine A_imul_ok dX7_ahead_10 (by omega) (by omega) ?_
  refine A_iconst dX7_ahead_11 ⟨by decide, by decide⟩ ?_
  refine A_iadd_ok dX7_ahead_12 (by omega) (by omega) ?_
  refine A_iald dX7_ahead_13 (by assumption) (by omega) (by omega) ?_
  refine A_istore dX7_ahead_14 (Nat.le_of_ble_eq_true rfl) rfl ?_
  refine A_iconst dX7_ahead_16 ⟨by decide, by decide⟩ ?_
  refine A_istore dX7_ahead_17 (Nat.le_of_ble_eq_true rfl) rfl ?_
  rw [z0]
  exact loop (N + 1) 0 (by omega) (by omega) none
theorem C_gap {r c : Int} {R : Int → Int} (hM : MO G m) (hR : PZ d m r R) (h1 : 0 ≤ r) (h2 : r ≤ 4) (hW : WG R) (hc : 0 ≤ c) (hc2 : c < R 2) (hK : K (some (kI (gapS R c))) G d) : AM E mX7_gap (k + 2) 0 0 [kR m, kI r, kI c] G d K := by
  obtain ⟨w1, w2, w3, w4, w5⟩ := id hW
  obtain ⟨ho, e0, a0, -⟩ := id hM
  have z0 := hR 0 (by omega) (by omega)
  have ra := aheadS_rg hW hc hc2
  have wc := w5 c hc hc2
  have wa := w5 _ ra.1 ra.2
  have rg := gapS_rg (c := c) hW
  have ho1 := onS_rg (n := R 0) (a := cfR R c 0) (b := cfR R (aheadS R c) 0) (by omega)
  refine AM.of rfl (Nat.le_of_ble_eq_true rfl) ?_
  refine A_aload_n dX7_gap_0 rfl rfl ?_
  refine A_iload_n dX7_gap_1 rfl rfl ?_
  refine A_iload_n dX7_gap_2 rfl rfl ?_
  refine A_inv2 dX7_gap_3 mv_X7_64 kCl_7 (Nat.le_of_ble_eq_true rfl) (by assumption) ?_
  refine C_ahead hM hR h1 h2 hW hc hc2 ?_
  refine A_istore_n dX7_gap_6 rfl (Nat.le_of_ble_eq_true rfl) rfl ?_
  refine A_iload_n dX7_gap_7 rfl rfl ?_
  refine A_iload_n dX7_gap_8 rfl rfl ?_
  refine A_icmp_ne (tgt := 29) dX7_gap_9 (by decide) (fun c_9 => ?_) (fun c_9 => ?_)
  · refine A_aload_n dX7_gap_29 rfl rfl ?_
    refine A_iload_n dX7_gap_30 rfl rfl ?_
    refine A_aload_n dX7_gap_31 rfl rfl ?_
    refine A_iload_n dX7_gap_32 rfl rfl ?_
    refine A_iload_n dX7_gap_33 rfl rfl ?_
    refine A_iconst dX7_gap_34 ⟨by decide, by decide⟩ ?_
    refine A_inv3 dX7_gap_35 mv_X7_57 kCl_7 (Nat.le_of_ble_eq_true rfl) (by assumption) ?_
    refine C_of hM hR (by omega) (by omega) (by omega) (by omega) (by omega) (by omega) ?_
    refine A_aload_n dX7_gap_38 rfl rfl ?_
    refine A_iload_n dX7_gap_39 rfl rfl ?_
    refine A_iload_n dX7_gap_40 rfl rfl ?_
    refine A_iconst dX7_gap_41 ⟨by decide, by decide⟩ ?_
    refine A_inv3 dX7_gap_42 mv_X7_57 kCl_7 (Nat.le_of_ble_eq_true rfl) (by assumption) ?_
    refine C_of hM hR (by omega) (by omega) (by omega) (by omega) (by omega) (by omega) ?_
    refine A_inv3 dX7_gap_45 mv_X7_61 kCl_7 (Nat.le_of_ble_eq_true rfl) (by assumption) ?_
    refine C_on hM hR h1 h2 w1 w2 wc.1 wc.2 wa.1 wa.2 ?_
    refine A_iconst dX7_gap_48 ⟨by decide, by decide⟩ ?_
    refine A_isub_ok dX7_gap_49 (by omega) (by omega) ?_
    refine A_iret dX7_gap_50 rfl ?_
    unfold gapS at hK
    rw [if_neg c_9] at hK
    exact hK
  · refine A_aload_n dX7_gap_12 rfl rfl ?_
    refine A_getR (fi := 0) dX7_gap_13 fg_X7_7 rfl rfl (by assumption) (by assumption) ?_
    refine A_sipush dX7_gap_16 ⟨by decide, by decide⟩ rfl ?_
    refine A_iload_n dX7_gap_19 rfl rfl ?_
    refine A_imul_ok dX7_gap_20 (by omega) (by omega) ?_
    refine A_iconst dX7_gap_21 ⟨by decide, by decide⟩ ?_
    refine A_iadd_ok dX7_gap_22 (by omega) (by omega) ?_
    refine A_iald dX7_gap_23 (by assumption) (by omega) (by omega) ?_
    refine A_iconst dX7_gap_24 ⟨by decide, by decide⟩ ?_
    refine A_isub_ok dX7_gap_25 (by omega) (by omega) ?_
    refine A_goto (tgt := 50) dX7_gap_26 (by decide) ?_
    refine A_iret dX7_gap_50 rfl ?_
    unfold gapS at hK
    rw [if_pos c_9] at hK
    rw [z0]
    exact hK
theorem C_slower {r c : Int} {R : Int → Int} (hM : MO G m) (hR : PZ d m r R) (h1 : 0 ≤ r) (h2 : r ≤ 4) (hW : WG R) (hp : ∀ c, 0 ≤ c → c < R 2 → 0 ≤ cfR R c 2 ∧ cfR R c 2 ≤ 9) (hc : 0 ≤ c) (hc2 : c < R 2) (hK : K (some (kI (leadS R c))) G d) : AM E mX7_slower (k + 2) 0 0 [kR m, kI r, kI c] G d K := by
  obtain ⟨w1, w2, w3, w4, w5⟩ := id hW
  have ra := aheadS_rg hW hc hc2
  have p1 := hp c hc hc2
  have p2 := hp _ ra.1 ra.2
  obtain ⟨ho, e0, a0, -⟩ := id hM
  refine AM.of rfl (Nat.le_of_ble_eq_true rfl) ?_
  refine A_aload_n dX7_slower_0 rfl rfl ?_
  refine A_iload_n dX7_slower_1 rfl rfl ?_
  refine A_aload_n dX7_slower_2 rfl rfl ?_
  refine A_iload_n dX7_slower_3 rfl rfl ?_
  refine A_iload_n dX7_slower_4 rfl rfl ?_
  refine A_inv2 dX7_slower_5 mv_X7_64 kCl_7 (Nat.le_of_ble_eq_true rfl) (by assumption) ?_
  refine C_ahead hM hR h1 h2 hW hc hc2 ?_
  refine A_iconst dX7_slower_8 ⟨by decide, by decide⟩ ?_
  refine A_inv3 dX7_slower_9 mv_X7_57 kCl_7 (Nat.le_of_ble_eq_true rfl) (by assumption) ?_
  refine C_of hM hR (by omega) (by omega) (by omega) (by omega) (by omega) (by omega) ?_
  refine A_aload_n dX7_slower_12 rfl rfl ?_
  refine A_iload_n dX7_slower_13 rfl rfl ?_
  refine A_iload_n dX7_slower_14 rfl rfl ?_
  refine A_iconst dX7_slower_15 ⟨by decide, by decide⟩ ?_
  refine A_inv3 dX7_slower_16 mv_X7_57 kCl_7 (Nat.le_of_ble_eq_true rfl) (by assumption) ?_
  refine C_of hM hR (by omega) (by omega) (by omega) (by omega) (by omega) (by omega) ?_
  refine A_isub_ok dX7_slower_19 (by omega) (by omega) ?_
  refine A_iret dX7_slower_20 rfl ?_
  exact hK
theorem C_other {r c : Int} {R : Int → Int} (hM : MO G m) (hR : PZ d m r R) (h1 : 0 ≤ r) (h2 : r ≤ 4) (hW : WG R) (hc : 0 ≤ c) (hc2 : c < R 2) (hK : K (some (kI (otherS R c))) G d) : AM E mX7_other (k + 1) 0 0 [kR m, kI r, kI c] G d K := by
  obtain ⟨w1, w2, w3, w4, w5⟩ := id hW
  obtain ⟨ho, e0, a0, -⟩ := id hM
  obtain ⟨N, hN⟩ : ∃ N : Nat, R 2 = N := ⟨(R 2).toNat, by omega⟩
  have z0 := hR 0 (by omega) (by omega)
  have z2 := hR 2 (by omega) (by omega)
  have loop : ∀ (n j : Nat), N - j < n → j ≤ N → ∀ q5 : Option AV, AW E mX7_other (k + 1) 0 0 16 [some (kR m), some (kI r), some (kI c), some (kI (otF R c j)), some (kI j), q5] [] G d K := by
    intro n
    induction n with
    | zero => intro j h; omega
    | succ n ih =>
      intro j hj hjN q6
      have rg := otF_rg (c := c) hW j
      refine A_iload dX7_other_16 rfl ?_
      refine A_aload_n dX7_other_18 rfl rfl ?_
      refine A_getR (fi := 0) dX7_other_19 fg_X7_7 rfl rfl (by assumption) (by assumption) ?_
      refine A_sipush dX7_other_22 ⟨by decide, by decide⟩ rfl ?_
      refine A_iload_n dX7_other_25 rfl rfl ?_
      refine A_imul_ok dX7_other_26 (by omega) (by omega) ?_
      refine A_iconst dX7_other_27 ⟨by decide, by decide⟩ ?_
      refine A_iadd_ok dX7_other_28 (by omega) (by omega) ?_
      refine A_iald dX7_other_29 (by assumption) (by omega) (by omega) ?_
      refine A_icmp_ge (tgt := 92) dX7_other_30 (by decide) (fun c_30 => ?_) (fun c_30 => ?_)
      · refine A_iload_n dX7_other_92 rfl rfl ?_
        refine A_iret dX7_other_93 rfl ?_
        have : j = N := by omega
        subst this
        have e : (R 2).toNat = j := by omega
        unfold otherS at hK
        rw [e] at hK
        exact hK
      · have wj := w5 j (by omega) (by omega)
        have wc := w5 c hc hc2
        have next := ih (j + 1) (by omega) (by omega)
        refine A_aload_n dX7_other_33 rfl rfl ?_
        refine A_iload_n dX7_other_34 rfl rfl ?_
        refine A_aload_n dX7_other_35 rfl rfl ?_
        refine A_iload_n dX7_other_36 rfl rfl ?_
        refine A_iload_n dX7_other_37 rfl rfl ?_
        refine A_iconst dX7_other_38 ⟨by decide, by decide⟩ ?_
        refine A_inv3 dX7_other_39 mv_X7_57 kCl_7 (Nat.le_of_ble_eq_true rfl) (by assumption) ?_
        refine C_of hM hR (by omega) (by omega) (by omega) (by omega) (by omega) (by omega) ?_
        refine A_aload_n dX7_other_42 rfl rfl ?_
        refine A_iload_n dX7_other_43 rfl rfl ?_
        refine A_iload dX7_other_44 rfl ?_
        refine A_iconst dX7_other_46 ⟨by decide, by decide⟩ ?_
        refine A_inv3 dX7_other_47 mv_X7_57 kCl_7 (Nat.le_of_ble_eq_true rfl) (by assumption) ?_
        refine C_of hM hR (by omega) (by omega) (by omega) (by omega) (by omega) (by omega) ?_
        refine A_inv3 dX7_other_50 mv_X7_61 kCl_7 (Nat.le_of_ble_eq_true rfl) (by assumption) ?_
        refine C_on hM hR h1 h2 w1 w2 wc.1 wc.2 wj.1 wj.2 ?_
        refine A_istore dX7_other_53 (Nat.le_of_ble_eq_true rfl) rfl ?_
        refine A_aload_n dX7_other_55 rfl rfl ?_
        refine A_iload_n dX7_other_56 rfl rfl ?_
        refine A_iload dX7_other_57 rfl ?_
        refine A_iconst dX7_other_59 ⟨by decide, by decide⟩ ?_
        refine A_inv3 dX7_other_60 mv_X7_57 kCl_7 (Nat.le_of_ble_eq_true rfl) (by assumption) ?_
        refine C_of hM hR (by omega) (by omega) (by omega) (by omega) (by omega) (by omega) ?_
        refine A_aload_n dX7_other_63 rfl rfl ?_
        refine A_iload_n dX7_other_64 rfl rfl ?_
        refine A_iload_n dX7_other_65 rfl rfl ?_
        refine A_iconst dX7_other_66 ⟨by decide, by decide⟩ ?_
        refine A_inv3 dX7_other_67 mv_X7_57 kCl_7 (Nat.le_of_ble_eq_true rfl) (by assumption) ?_
        refine C_of hM hR (by omega) (by omega) (by omega) (by omega) (by omega) (by omega) ?_
        refine A_icmp_eq (tgt := 84) dX7_other_70 (by decide) (fun c_70 => ?_) (fun c_70 => ?_)
        · refine A_iload_n dX7_other_84 rfl rfl ?_
          refine A_istore_n dX7_other_85 rfl (Nat.le_of_ble_eq_true rfl) rfl ?_
          refine A_iinc_ok dX7_other_86 rfl rfl (by omega) (by omega) ?_
          refine A_goto (tgt := 16) dX7_other_89 (by decide) ?_
          have e : otF R c (j + 1) = otF R c j := by simp only [otF]; rw [if_neg]; omega
          rw [e] at next
          exact next _
        · refine A_iload dX7_other_73 rfl ?_
          refine A_iload_n dX7_other_75 rfl rfl ?_
          refine A_icmp_ge (tgt := 84) dX7_other_76 (by decide) (fun c_76 => ?_) (fun c_76 => ?_)
          · refine A_iload_n dX7_other_84 rfl rfl ?_
            refine A_istore_n dX7_other_85 rfl (Nat.le_of_ble_eq_true rfl) rfl ?_
            refine A_iinc_ok dX7_other_86 rfl rfl (by omega) (by omega) ?_
            refine A_goto (tgt := 16) dX7_other_89 (by decide) ?_
            have e : otF R c (j + 1) = otF R c j := by simp only [otF]; rw [if_neg]; omega
            rw [e] at next
            exact next _
          · refine A_iload dX7_other_79 rfl ?_
            refine A_goto (tgt := 85) dX7_other_81 (by decide) ?_
            refine A_istore_n dX7_other_85 rfl (Nat.le_of_ble_eq_true rfl) rfl ?_
            refine A_iinc_ok dX7_other_86 rfl rfl (by omega) (by omega) ?_
            refine A_goto (tgt := 16) dX7_other_89 (by decide) ?_
            have e : otF R c (j + 1) = onS (R 0) (cfR R c 0) (cfR R j 0) := by simp only [otF]; rw [if_pos]; omega
            rw [e] at next
            exact next _
  refine AM.of rfl (Nat.le_of_ble_eq_true rfl) ?_
  refine A_aload_n dX7_other_0 rfl rfl ?_
  refine A_getR (fi := 0) dX7_other_1 fg_X7_7 rfl rfl (by assumption) (by assumption) ?_
  refine A_sipush dX7_other_4 ⟨by decide, by decide⟩ rfl ?_
  refine A_iload_n dX7_other_7 rfl rfl ?_
  refine A_imul_ok dX7_other_8 (by omega) (by omega) ?_
  refine A_iconst dX7_other_9 ⟨by decide, by decide⟩ ?_
  refine A_iadd_ok dX7_other_10 (by omega) (by omega) ?_
  refine A_iald dX7_other_11 (by assumption) (by omega) (by omega) ?_
  refine A_istore_n dX7_other_12 rfl (Nat.le_of_ble_eq_true rfl) rfl ?_
  refine A_iconst dX7_other_13 ⟨by decide, by decide⟩ ?_
  refine A_istore dX7_other_14 (Nat.le_of_ble_eq_true rfl) rfl ?_
  rw [z0]
  exact loop (N + 1) 0 (by omega) (by omega) none
/-- the first car at a place, or -1 -/
def caF (R : Int → Int) (lane cell : Int) : Nat → Int
  | 0 => -1
  | k + 1 => if 0 ≤ caF R lane cell k then caF R lane cell k else if cfR R k 1 = lane ∧ cfR R k 0 = cell then (k : Int) else -1
theorem caF_st {R : Int → Int} {lane cell : Int} {j : Nat} (h : 0 ≤ caF R lane cell j) : ∀ n : Nat, caF R lane cell (j + n) = caF R lane cell j
  | 0 => rfl
  | n + 1 => by
    have e := caF_st h n
    show caF R lane cell (j + n + 1) = _
    simp only [caF]
    rw [e, if_pos h]
theorem C_carAt {r lane cell : Int} {R : Int → Int} (hM : MO G m) (hR : PZ d m r R) (h1 : 0 ≤ r) (h2 : r ≤ 4) (hc : 0 ≤ R 2) (hc2 : R 2 ≤ 12) (hK : K (some (kI (caF R lane cell (R 2).toNat))) G d) : AM E mX7_carAt (k + 1) 0 0 [kR m, kI r, kI lane, kI cell] G d K := by
  obtain ⟨ho, e0, a0, -⟩ := id hM
  obtain ⟨N, hN⟩ : ∃ N : Nat, R 2 = N := ⟨(R 2).toNat, by omega⟩
  have z2 := hR 2 (by omega) (by omega)
  have e : (R 2).toNat = N := by omega
  rw [e] at hK
  have loop : ∀ (n j : Nat), N - j < n → j ≤ N → caF R lane cell j = -1 → AW E mX7_carAt (k + 1) 0 0 3 [some (kR m), some (kI r), some (kI lane), some (kI cell), some (kI j)] [] G d K := by
    intro n
    induction n with
    | zero => intro j h; omega
    | succ n ih =>
      intro j hj hjN hca
      have next := ih (j + 1)
      refine A_iload dX7_carAt_3 rfl ?_
      refine A_aload_n dX7_carAt_5 rfl rfl ?_
      refine A_getR (fi := 0) dX7_carAt_6 fg_X7_7 rfl rfl (by assumption) (by assumption) ?_
      refine A_sipush dX7_carAt_9 ⟨by decide, by decide⟩ rfl ?_
      refine A_iload_n dX7_carAt_12 rfl rfl ?_
      refine A_imul_ok dX7_carAt_13 (by omega) (by omega) ?_
      refine A_iconst dX7_carAt_14 ⟨by decide, by decide⟩ ?_
      refine A_iadd_ok dX7_carAt_15 (by omega) (by omega) ?_
      refine A_iald dX7_carAt_16 (by assumption) (by omega) (by omega) ?_
      refine A_icmp_ge (tgt := 53) dX7_carAt_17 (by decide) (fun c_17 => ?_) (fun c_17 => ?_)
      · refine A_iconst dX7_carAt_53 ⟨by decide, by decide⟩ ?_
        refine A_iret dX7_carAt_54 rfl ?_
        have : j = N := by omega
        subst this
        rw [hca] at hK
        exact hK
      · refine A_aload_n dX7_carAt_20 rfl rfl ?_
        refine A_iload_n dX7_carAt_21 rfl rfl ?_
        refine A_iload dX7_carAt_22 rfl ?_
        refine A_iconst dX7_carAt_24 ⟨by decide, by decide⟩ ?_
        refine A_inv3 dX7_carAt_25 mv_X7_57 kCl_7 (Nat.le_of_ble_eq_true rfl) (by assumption) ?_
        refine C_of hM hR (by omega) (by omega) (by omega) (by omega) (by omega) (by omega) ?_
        refine A_iload_n dX7_carAt_28 rfl rfl ?_
        refine A_icmp_ne (tgt := 47) dX7_carAt_29 (by decide) (fun c_29 => ?_) (fun c_29 => ?_)
        · refine A_iinc_ok dX7_carAt_47 rfl rfl (by omega) (by omega) ?_
          refine A_goto (tgt := 3) dX7_carAt_50 (by decide) ?_
          refine next (by omega) (by omega) ?_
          simp only [caF]
          rw [if_neg (by omega), if_neg (by omega)]
        · refine A_aload_n dX7_carAt_32 rfl rfl ?_
          refine A_iload_n dX7_carAt_33 rfl rfl ?_
          refine A_iload dX7_carAt_34 rfl ?_
          refine A_iconst dX7_carAt_36 ⟨by decide, by decide⟩ ?_
          refine A_inv3 dX7_carAt_37 mv_X7_57 kCl_7 (Nat.le_of_ble_eq_true rfl) (by assumption) ?_
          refine C_of hM hR (by omega) (by omega) (by omega) (by omega) (by omega) (by omega) ?_
          refine A_iload_n dX7_carAt_40 rfl rfl ?_
          refine A_icmp_ne (tgt := 47) dX7_carAt_41 (by decide) (fun c_41 => ?_) (fun c_41 => ?_)
          · refine A_iinc_ok dX7_carAt_47 rfl rfl (by omega) (by omega) ?_
            refine A_goto (tgt := 3) dX7_carAt_50 (by decide) ?_
            refine next (by omega) (by omega) ?_
            simp only [caF]
            rw [if_neg (by omega), if_neg (by omega)]
          · refine A_iload dX7_carAt_44 rfl ?_
            refine A_iret dX7_carAt_46 rfl ?_
            have e1 : caF R lane cell (j + 1) = j := by
              simp only [caF]
              rw [if_neg (by omega), if_pos (by omega)]
            have e2 := caF_st (n := N - (j + 1)) (show 0 ≤ caF R lane cell (j + 1) by omega)
            rw [show j + 1 + (N - (j + 1)) = N by omega, e1] at e2
            rw [e2] at hK
            exact hK
  refine AM.of rfl (Nat.le_of_ble_eq_true rfl) ?_
  refine A_iconst dX7_carAt_0 ⟨by decide, by decide⟩ ?_
  refine A_istore dX7_carAt_1 (Nat.le_of_ble_eq_true rfl) rfl ?_
  exact loop (N + 1) 0 (by omega) (by omega) rfl
def cpR (d : HD) (m : Nat) (to fr j : Int) : HD := fun a i => if a = m + 1 ∧ 640 * to ≤ i ∧ i < 640 * to + j then d (m + 1) (640 * fr + (i - 640 * to)) else d a i
theorem C_copyRing {to fr : Int} (hM : MO G m) (h1 : 0 ≤ to) (h2 : to ≤ 4) (h3 : 0 ≤ fr) (h4 : fr ≤ 4) (hne : to ≠ fr) (hK : K none G (cpR d m to fr 640)) : AM E mX7_copyRing k 0 0 [kR m, kI to, kI fr] G d K := by
  obtain ⟨ho, e0, a0, -⟩ := id hM
  have loop : ∀ (n j : Nat), 640 - j < n → j ≤ 640 → AW E mX7_copyRing k 0 0 2 [some (kR m), some (kI to), some (kI fr), some (kI j)] [] G (cpR d m to fr j) K := by
    intro n
    induction n with
    | zero => intro j h; omega
    | succ n ih =>
      intro j hj hjN
      have next := ih (j + 1)
      refine A_iload_n dX7_copyRing_2 rfl rfl ?_
      refine A_sipush dX7_copyRing_3 ⟨by decide, by decide⟩ rfl ?_
      refine A_icmp_ge (tgt := 39) dX7_copyRing_6 (by decide) (fun c_6 => ?_) (fun c_6 => ?_)
      · refine A_vret dX7_copyRing_39 rfl ?_
        have : j = 640 := by omega
        subst this
        exact hK
      · refine A_aload_n dX7_copyRing_9 rfl rfl ?_
        refine A_getR (fi := 0) dX7_copyRing_10 fg_X7_7 rfl rfl (by assumption) (by assumption) ?_
        refine A_sipush dX7_copyRing_13 ⟨by decide, by decide⟩ rfl ?_
        refine A_iload_n dX7_copyRing_16 rfl rfl ?_
        refine A_imul_ok dX7_copyRing_17 (by omega) (by omega) ?_
        refine A_iload_n dX7_copyRing_18 rfl rfl ?_
        refine A_iadd_ok dX7_copyRing_19 (by omega) (by omega) ?_
        refine A_aload_n dX7_copyRing_20 rfl rfl ?_
        refine A_getR (fi := 0) dX7_copyRing_21 fg_X7_7 rfl rfl (by assumption) (by assumption) ?_
        refine A_sipush dX7_copyRing_24 ⟨by decide, by decide⟩ rfl ?_
        refine A_iload_n dX7_copyRing_27 rfl rfl ?_
        refine A_imul_ok dX7_copyRing_28 (by omega) (by omega) ?_
        refine A_iload_n dX7_copyRing_29 rfl rfl ?_
        refine A_iadd_ok dX7_copyRing_30 (by omega) (by omega) ?_
        refine A_iald dX7_copyRing_31 (by assumption) (by omega) (by omega) ?_
        refine A_iast dX7_copyRing_32 (by assumption) (by omega) (by omega) ?_
        refine A_iinc_ok dX7_copyRing_33 rfl rfl (by omega) (by omega) ?_
        refine A_goto (tgt := 2) dX7_copyRing_36 (by decide) ?_
        have e : kU (cpR d m to fr j) (m + 1) (640 * to + j) (cpR d m to fr j (m + 1) (640 * fr + j)) = cpR d m to fr ((j + 1 : Nat) : Int) := by
          funext a i
          simp only [kU, cpR]
          by_cases ha : a = m + 1
          · subst ha
            by_cases hi : i = 640 * to + j
            · subst hi
              rw [if_pos ⟨rfl, rfl⟩, if_neg (by omega), if_pos (by omega)]
              congr 1
              omega
            · rw [if_neg (by omega)]
              by_cases hb : 640 * to ≤ i ∧ i < 640 * to + j
              · rw [if_pos ⟨rfl, hb⟩, if_pos (by omega)]
              · rw [if_neg (by omega), if_neg (by omega)]
          · rw [if_neg (by omega), if_neg (by omega), if_neg (by omega)]
        rw [e]
        exact next (by omega) (by omega)
  refine AM.of rfl (Nat.le_of_ble_eq_true rfl) ?_
  refine A_iconst dX7_copyRing_0 ⟨by decide, by decide⟩ ?_
  refine A_istore_n dX7_copyRing_1 rfl (Nat.le_of_ble_eq_true rfl) rfl ?_
  have e : d = cpR d m to fr ((0 : Nat) : Int) := by
    funext a i
    simp only [cpR]
    rw [if_neg (by omega)]
  rw [e]
  exact loop 641 0 (by omega) (by omega)
theorem cpR_to {to fr : Int} {R : Int → Int} (hR : PZ d m fr R) : PZ (cpR d m to fr 640) m to R := by
  intro q h1 h2
  unfold cpR
  rw [if_pos ⟨rfl, by omega, by omega⟩, ← hR q h1 h2]
  congr 1
  omega
theorem cpR_ne {to fr r : Int} {R : Int → Int} (hne : r ≠ to) (hR : PZ d m r R) : PZ (cpR d m to fr 640) m r R := by
  intro q h1 h2
  simp only [cpR]
  rw [if_neg (by omega)]
  exact hR q h1 h2
end M2
