section RL1
variable {R S : Int → Int} {c : Int}
theorem nsF_0 {x : Int} {j : Nat} (h : nsF R S c x j = 0) : ∀ n : Nat, nsF R S c x (j + n) = 0
  | 0 => h
  | n + 1 => by
    have := nsF_0 h n
    show nsF R S c x (j + n + 1) = 0
    simp only [nsF]
    rw [if_neg (by omega)]
theorem nsF_z : ∀ n : Nat, nsF R S c 0 n = 0
  | 0 => rfl
  | n + 1 => by simp only [nsF]; rw [if_neg (fun z => z.1 (nsF_z n))]
end RL1
section RL2
variable {E : EE} {k A B : Nat} {G : HG} {d : HD} {K : PQ} {R S : Int → Int}
theorem C_remLike {c : Nat} (hA : RG G A) (hB : RG G B) (hVA : CV d A S) (hVB : CV d B R) (h12 : c < 12) (hcS : (c : Int) < S 2) (hcR : (c : Int) < R 2) (h4 : cfR S c 4 = cfR R c 4) (h40 : 0 ≤ cfR R c 4) (h43 : cfR R c 4 ≤ 3) (s8 : 0 ≤ cfR S c 8) (s82 : cfR S c 8 ≤ 1000000) (r8 : 0 ≤ cfR R c 8) (r82 : cfR R c 8 ≤ 1000000) (hK : K (some (kI (nsF R S c (if hasS R c (cfR R c 4) = hasS S c (cfR R c 4) then 1 else 0) (3 * hasS R c (cfR R c 4)).toNat))) G d) : AM E mX0_remembersLike (k + 1) 0 0 [kR (A + 9 + 2 * c), kR (B + 9 + 2 * c)] G d K := by
  obtain ⟨ea, oa, ena, ia⟩ := hA.2.2.2.2.2.2.2.2.2 c h12
  obtain ⟨eb, ob, enb, ib⟩ := hB.2.2.2.2.2.2.2.2.2 c h12
  have x4 := (hVA.2.1 c hcS).1 4 (by omega) (by omega)
  have x8 := (hVA.2.1 c hcS).1 8 (by omega) (by omega)
  have y4 := (hVB.2.1 c hcR).1 4 (by omega) (by omega)
  have y8 := (hVB.2.1 c hcR).1 8 (by omega) (by omega)
  have xn := (hVA.2.1 c hcS).2
  have yn := (hVB.2.1 c hcR).2
  have eS : hasS S c (cfR R c 4) = min (cfR S c 4) (cfR S c 8) := by unfold hasS; rw [h4]; split <;> omega
  have eR : hasS R c (cfR R c 4) = min (cfR R c 4) (cfR R c 8) := by unfold hasS; split <;> omega
  rw [h4] at x4 eS
  rw [eS, eR] at hK
  refine AM.of rfl (Nat.le_of_ble_eq_true rfl) ?_
  refine A_aload_n dX0_remembersLike_0 rfl rfl ?_
  refine A_get (fi := 4) dX0_remembersLike_1 fg_X0_26 rfl rfl (by assumption) ?_
  rw [x4]
  refine A_aload_n dX0_remembersLike_4 rfl rfl ?_
  refine A_get (fi := 8) dX0_remembersLike_5 fg_X0_39 rfl rfl (by assumption) ?_
  rw [x8]
  refine A_min dX0_remembersLike_8 lk_X0_86 ow_mins it_J9 ow_minc (Nat.le_of_ble_eq_true rfl) ?_
  refine A_istore_n dX0_remembersLike_11 rfl (Nat.le_of_ble_eq_true rfl) rfl ?_
  refine A_iload_n dX0_remembersLike_12 rfl rfl ?_
  refine A_aload_n dX0_remembersLike_13 rfl rfl ?_
  refine A_get (fi := 4) dX0_remembersLike_14 fg_X0_26 rfl rfl (by assumption) ?_
  rw [y4]
  refine A_aload_n dX0_remembersLike_17 rfl rfl ?_
  refine A_get (fi := 8) dX0_remembersLike_18 fg_X0_39 rfl rfl (by assumption) ?_
  rw [y8]
  refine A_min dX0_remembersLike_21 lk_X0_86 ow_mins it_J9 ow_minc (Nat.le_of_ble_eq_true rfl) ?_
  refine A_icmp_eq (tgt := 29) dX0_remembersLike_24 (by decide) (fun c_24 => ?_) (fun c_24 => ?_)
  · obtain ⟨H, hH⟩ : ∃ H : Nat, min (cfR R c 4) (cfR R c 8) = H := ⟨(min (cfR R c 4) (cfR R c 8)).toNat, by omega⟩
    rw [hH] at c_24
    rw [c_24, hH, if_pos rfl, show (3 * (H : Int)).toNat = 3 * H by omega] at hK
    rw [c_24]
    have bad : ∀ i : Nat, i < 3 * H → nsF R S c 1 (i + 1) = 0 → K (some (kI 0)) G d := fun i hi h0 => by
      have := nsF_0 h0 (3 * H - (i + 1))
      rw [show i + 1 + (3 * H - (i + 1)) = 3 * H by omega] at this
      rw [this] at hK
      exact hK
    have loop : ∀ (f b : Nat), b + f = H → nsF R S c 1 (3 * b) = 1 → ∀ q4 q5 q6 : Option AV, AW E mX0_remembersLike (k + 1) 0 0 31 [some (kR (A + 9 + 2 * c)), some (kR (B + 9 + 2 * c)), some (kI H), some (kI ((b : Int) + 1)), q4, q5, q6] [] G d K := by
      intro f
      induction f with
      | zero =>
        intro b hb hn q4 q5 q6
        have : b = H := by omega
        subst this
        rw [hn] at hK
        refine A_iload_n dX0_remembersLike_31 rfl rfl ?_
        refine A_iload_n dX0_remembersLike_32 rfl rfl ?_
        refine A_icmp_gt (tgt := 104) dX0_remembersLike_33 (by decide) (fun c_33 => ?_) (fun c_33 => absurd c_33 (by omega))
        refine A_iconst dX0_remembersLike_104 ⟨by decide, by decide⟩ ?_
        refine A_zret dX0_remembersLike_105 rfl (by first | exact Or.inl rfl | exact Or.inr rfl | assumption | omega) ?_
        exact hK
      | succ f ih =>
        intro b hb hn q4 q5 q6
        have mS0 := Int.emod_nonneg (cfR S c 8 - ((b : Int) + 1)) (show (4 : Int) ≠ 0 by decide)
        have mS1 := Int.emod_lt_of_pos (cfR S c 8 - ((b : Int) + 1)) (show (0 : Int) < 4 by decide)
        have mR0 := Int.emod_nonneg (cfR R c 8 - ((b : Int) + 1)) (show (4 : Int) ≠ 0 by decide)
        have mR1 := Int.emod_lt_of_pos (cfR R c 8 - ((b : Int) + 1)) (show (0 : Int) < 4 by decide)
        have nS : ∀ q : Int, 0 ≤ q → q < 3 → d (A + 10 + 2 * c) ((cfR S c 8 - ((b : Int) + 1)) % 4 * 3 + q) = cfR S c (9 + 3 * b + q) := fun q q1 q2 => by
          have := xn b q (by omega) (by omega) (by omega) (by omega) (by omega)
          rw [show cfR S c 8 - 1 - (b : Int) = cfR S c 8 - ((b : Int) + 1) by omega] at this
          rw [show (cfR S c 8 - ((b : Int) + 1)) % 4 * 3 + q = 3 * ((cfR S c 8 - ((b : Int) + 1)) % 4) + q by omega]
          exact this
        have nR : ∀ q : Int, 0 ≤ q → q < 3 → d (B + 10 + 2 * c) ((cfR R c 8 - ((b : Int) + 1)) % 4 * 3 + q) = cfR R c (9 + 3 * b + q) := fun q q1 q2 => by
          have := yn b q (by omega) (by omega) (by omega) (by omega) (by omega)
          rw [show cfR R c 8 - 1 - (b : Int) = cfR R c 8 - ((b : Int) + 1) by omega] at this
          rw [show (cfR R c 8 - ((b : Int) + 1)) % 4 * 3 + q = 3 * ((cfR R c 8 - ((b : Int) + 1)) % 4) + q by omega]
          exact this
        have inner : ∀ (g q : Nat), q + g = 3 → nsF R S c 1 (3 * b + q) = 1 → AW E mX0_remembersLike (k + 1) 0 0 61 [some (kR (A + 9 + 2 * c)), some (kR (B + 9 + 2 * c)), some (kI H), some (kI ((b : Int) + 1)), some (kI ((cfR S c 8 - ((b : Int) + 1)) % 4 * 3)), some (kI ((cfR R c 8 - ((b : Int) + 1)) % 4 * 3)), some (kI q)] [] G d K := by
          intro g
          induction g with
          | zero =>
            intro q hq h1
            have : q = 3 := by omega
            subst this
            refine A_iload dX0_remembersLike_61 rfl ?_
            refine A_iconst dX0_remembersLike_63 ⟨by decide, by decide⟩ ?_
            refine A_icmp_ge (tgt := 98) dX0_remembersLike_64 (by decide) (fun c_64 => ?_) (fun c_64 => absurd c_64 (by omega))
            refine A_iinc_ok dX0_remembersLike_98 rfl rfl (by omega) (by omega) ?_
            refine A_goto (tgt := 31) dX0_remembersLike_101 (by decide) ?_
            exact ih (b + 1) (by omega) h1 _ _ _
          | succ g ihg =>
            intro q hq h1
            have sq := nS q (by omega) (by omega)
            have rq := nR q (by omega) (by omega)
            have e : nsF R S c 1 (3 * b + q + 1) = if cfR R c (9 + ((3 * b + q : Nat) : Int)) = cfR S c (9 + ((3 * b + q : Nat) : Int)) then 1 else 0 := by
              simp only [nsF]
              rw [h1]
              by_cases z : cfR R c (9 + ((3 * b + q : Nat) : Int)) = cfR S c (9 + ((3 * b + q : Nat) : Int))
              · rw [if_pos ⟨by decide, z⟩, if_pos z]
              · rw [if_neg (fun y => z y.2), if_neg z]
            rw [show 9 + ((3 * b + q : Nat) : Int) = 9 + 3 * (b : Int) + q by omega] at e
            refine A_iload dX0_remembersLike_61 rfl ?_
            refine A_iconst dX0_remembersLike_63 ⟨by decide, by decide⟩ ?_
            refine A_icmp_ge (tgt := 98) dX0_remembersLike_64 (by decide) (fun c_64 => absurd c_64 (by omega)) (fun c_64 => ?_)
            refine A_aload_n dX0_remembersLike_67 rfl rfl ?_
            refine A_getR (fi := 9) dX0_remembersLike_68 fg_X0_9 rfl rfl (by assumption) (by assumption) ?_
            refine A_iload dX0_remembersLike_71 rfl ?_
            refine A_iload dX0_remembersLike_73 rfl ?_
            refine A_iadd_ok dX0_remembersLike_75 (by omega) (by omega) ?_
            refine A_iald dX0_remembersLike_76 (by assumption) (by omega) (by omega) ?_
            rw [sq]
            refine A_aload_n dX0_remembersLike_77 rfl rfl ?_
            refine A_getR (fi := 9) dX0_remembersLike_78 fg_X0_9 rfl rfl (by assumption) (by assumption) ?_
            refine A_iload dX0_remembersLike_81 rfl ?_
            refine A_iload dX0_remembersLike_83 rfl ?_
            refine A_iadd_ok dX0_remembersLike_85 (by omega) (by omega) ?_
            refine A_iald dX0_remembersLike_86 (by assumption) (by omega) (by omega) ?_
            rw [rq]
            refine A_icmp_eq (tgt := 92) dX0_remembersLike_87 (by decide) (fun c_87 => ?_) (fun c_87 => ?_)
            · refine A_iinc_ok dX0_remembersLike_92 rfl rfl (by omega) (by omega) ?_
              refine A_goto (tgt := 61) dX0_remembersLike_95 (by decide) ?_
              exact ihg (q + 1) (by omega) (by rw [show 3 * b + (q + 1) = 3 * b + q + 1 by omega, e, if_pos c_87.symm])
            · have fin := bad (3 * b + q) (by omega) (by rw [e, if_neg (fun z => c_87 z.symm)])
              refine A_iconst dX0_remembersLike_90 ⟨by decide, by decide⟩ ?_
              refine A_zret dX0_remembersLike_91 rfl (by first | exact Or.inl rfl | exact Or.inr rfl | assumption | omega) ?_
              exact fin
        refine A_iload_n dX0_remembersLike_31 rfl rfl ?_
        refine A_iload_n dX0_remembersLike_32 rfl rfl ?_
        refine A_icmp_gt (tgt := 104) dX0_remembersLike_33 (by decide) (fun c_33 => absurd c_33 (by omega)) (fun c_33 => ?_)
        refine A_aload_n dX0_remembersLike_36 rfl rfl ?_
        refine A_get (fi := 8) dX0_remembersLike_37 fg_X0_39 rfl rfl (by assumption) ?_
        rw [x8]
        refine A_iload_n dX0_remembersLike_40 rfl rfl ?_
        refine A_isub_ok dX0_remembersLike_41 (by omega) (by omega) ?_
        refine A_ins1 dX0_remembersLike_42 ms_X0_48 (Nat.le_of_ble_eq_true rfl) ?_
        refine C_placeOf (by omega) (by omega) ?_
        refine A_istore dX0_remembersLike_45 (Nat.le_of_ble_eq_true rfl) rfl ?_
        refine A_aload_n dX0_remembersLike_47 rfl rfl ?_
        refine A_get (fi := 8) dX0_remembersLike_48 fg_X0_39 rfl rfl (by assumption) ?_
        rw [y8]
        refine A_iload_n dX0_remembersLike_51 rfl rfl ?_
        refine A_isub_ok dX0_remembersLike_52 (by omega) (by omega) ?_
        refine A_ins1 dX0_remembersLike_53 ms_X0_48 (Nat.le_of_ble_eq_true rfl) ?_
        refine C_placeOf (by omega) (by omega) ?_
        refine A_istore dX0_remembersLike_56 (Nat.le_of_ble_eq_true rfl) rfl ?_
        refine A_iconst dX0_remembersLike_58 ⟨by decide, by decide⟩ ?_
        refine A_istore dX0_remembersLike_59 (Nat.le_of_ble_eq_true rfl) rfl ?_
        exact inner 3 0 rfl hn
    refine A_iconst dX0_remembersLike_29 ⟨by decide, by decide⟩ ?_
    refine A_istore_n dX0_remembersLike_30 rfl (Nat.le_of_ble_eq_true rfl) rfl ?_
    exact loop H 0 (by omega) rfl none none none
  · rw [if_neg (fun z => c_24 z.symm), nsF_z] at hK
    refine A_iconst dX0_remembersLike_27 ⟨by decide, by decide⟩ ?_
    refine A_zret dX0_remembersLike_28 rfl (by first | exact Or.inl rfl | exact Or.inr rfl | assumption | omega) ?_
    exact hK
theorem C_carLike {c : Nat} (hA : RG G A) (hB : RG G B) (hVA : CV d A S) (hVB : CV d B R) (h12 : c < 12) (hcS : (c : Int) < S 2) (hcR : (c : Int) < R 2) (h4 : cfR S c 4 = cfR R c 4) (h40 : 0 ≤ cfR R c 4) (h43 : cfR R c 4 ≤ 3) (s8 : 0 ≤ cfR S c 8) (s82 : cfR S c 8 ≤ 1000000) (r8 : 0 ≤ cfR R c 8) (r82 : cfR R c 8 ≤ 1000000) (hK : K (some (kI (samC R S c))) G d) : AM E mX0_isLike (k + 2) 0 0 [kR (A + 9 + 2 * c), kR (B + 9 + 2 * c)] G d K := by
  obtain ⟨ea, oa, -, -⟩ := hA.2.2.2.2.2.2.2.2.2 c h12
  obtain ⟨eb, ob, -, -⟩ := hB.2.2.2.2.2.2.2.2.2 c h12
  have xw : ∀ w, 0 ≤ w → w ≤ 2 → d (A + 9 + 2 * c) w = cfR S c w := fun w q1 q2 => (hVA.2.1 c hcS).1 w (by omega) (by omega)
  have yw : ∀ w, 0 ≤ w → w ≤ 2 → d (B + 9 + 2 * c) w = cfR R c w := fun w q1 q2 => (hVB.2.1 c hcR).1 w (by omega) (by omega)
  have x0 := xw 0 (by omega) (by omega)
  have x1 := xw 1 (by omega) (by omega)
  have x2 := xw 2 (by omega) (by omega)
  have y0 := yw 0 (by omega) (by omega)
  have y1 := yw 1 (by omega) (by omega)
  have y2 := yw 2 (by omega) (by omega)
  unfold samC at hK
  have no : ¬ (cfR R c 0 = cfR S c 0 ∧ cfR R c 1 = cfR S c 1 ∧ cfR R c 2 = cfR S c 2) → K (some (kI 0)) G d := fun z => by
    rw [if_neg (fun y => z y.1), nsF_z] at hK
    exact hK
  refine AM.of rfl (Nat.le_of_ble_eq_true rfl) ?_
  refine A_aload_n dX0_isLike_0 rfl rfl ?_
  refine A_get (fi := 0) dX0_isLike_1 fg_X0_17 rfl rfl (by assumption) ?_
  refine A_aload_n dX0_isLike_4 rfl rfl ?_
  refine A_get (fi := 0) dX0_isLike_5 fg_X0_17 rfl rfl (by assumption) ?_
  refine A_icmp_ne (tgt := 45) dX0_isLike_8 (by decide) (fun c_8 => ?_) (fun c_8 => ?_)
  · rw [x0, y0] at c_8
    have fin := no (fun z => c_8 z.1.symm)
    refine A_iconst dX0_isLike_45 ⟨by decide, by decide⟩ ?_
    refine A_zret dX0_isLike_46 rfl (by first | exact Or.inl rfl | exact Or.inr rfl | assumption | omega) ?_
    exact fin
  · rw [x0, y0] at c_8
    refine A_aload_n dX0_isLike_11 rfl rfl ?_
    refine A_get (fi := 1) dX0_isLike_12 fg_X0_13 rfl rfl (by assumption) ?_
    refine A_aload_n dX0_isLike_15 rfl rfl ?_
    refine A_get (fi := 1) dX0_isLike_16 fg_X0_13 rfl rfl (by assumption) ?_
    refine A_icmp_ne (tgt := 45) dX0_isLike_19 (by decide) (fun c_19 => ?_) (fun c_19 => ?_)
    · rw [x1, y1] at c_19
      have fin := no (fun z => c_19 z.2.1.symm)
      refine A_iconst dX0_isLike_45 ⟨by decide, by decide⟩ ?_
      refine A_zret dX0_isLike_46 rfl (by first | exact Or.inl rfl | exact Or.inr rfl | assumption | omega) ?_
      exact fin
    · rw [x1, y1] at c_19
      refine A_aload_n dX0_isLike_22 rfl rfl ?_
      refine A_get (fi := 2) dX0_isLike_23 fg_X0_20 rfl rfl (by assumption) ?_
      refine A_aload_n dX0_isLike_26 rfl rfl ?_
      refine A_get (fi := 2) dX0_isLike_27 fg_X0_20 rfl rfl (by assumption) ?_
      refine A_icmp_ne (tgt := 45) dX0_isLike_30 (by decide) (fun c_30 => ?_) (fun c_30 => ?_)
      · rw [x2, y2] at c_30
        have fin := no (fun z => c_30 z.2.2.symm)
        refine A_iconst dX0_isLike_45 ⟨by decide, by decide⟩ ?_
        refine A_zret dX0_isLike_46 rfl (by first | exact Or.inl rfl | exact Or.inr rfl | assumption | omega) ?_
        exact fin
      · rw [x2, y2] at c_30
        have e : (if (cfR R c 0 = cfR S c 0 ∧ cfR R c 1 = cfR S c 1 ∧ cfR R c 2 = cfR S c 2) ∧ hasS R c (cfR R c 4) = hasS S c (cfR R c 4) then (1 : Int) else 0) = if hasS R c (cfR R c 4) = hasS S c (cfR R c 4) then 1 else 0 := by
          by_cases z : hasS R c (cfR R c 4) = hasS S c (cfR R c 4)
          · rw [if_pos z, if_pos ⟨⟨c_8.symm, c_19.symm, c_30.symm⟩, z⟩]
          · rw [if_neg z, if_neg (fun y => z y.2)]
        rw [e] at hK
        have bb := nsF_b (R := R) (S := S) (c := c) (x := if hasS R c (cfR R c 4) = hasS S c (cfR R c 4) then 1 else 0) (by split <;> simp) (3 * hasS R c (cfR R c 4)).toNat
        refine A_aload_n dX0_isLike_33 rfl rfl ?_
        refine A_aload_n dX0_isLike_34 rfl rfl ?_
        refine A_inv1 dX0_isLike_35 mv_X0_89 kCl_0 (Nat.le_of_ble_eq_true rfl) (by assumption) ?_
        refine C_remLike hA hB hVA hVB h12 hcS hcR h4 h40 h43 s8 s82 r8 r82 ?_
        refine A_if_eq (tgt := 45) dX0_isLike_38 (by decide) (fun c_38 => ?_) (fun c_38 => ?_)
        · rw [c_38] at hK
          refine A_iconst dX0_isLike_45 ⟨by decide, by decide⟩ ?_
          refine A_zret dX0_isLike_46 rfl (by first | exact Or.inl rfl | exact Or.inr rfl | assumption | omega) ?_
          exact hK
        · rcases bb with bb | bb
          · exact absurd bb c_38
          · rw [bb] at hK
            refine A_iconst dX0_isLike_41 ⟨by decide, by decide⟩ ?_
            refine A_goto (tgt := 46) dX0_isLike_42 (by decide) ?_
            refine A_zret dX0_isLike_46 rfl (by first | exact Or.inl rfl | exact Or.inr rfl | assumption | omega) ?_
            exact hK
theorem C_ringLike (hA : RG G A) (hB : RG G B) (hVA : CV d A S) (hVB : CV d B R) (hS2 : S 2 = R 2) (h0 : 0 ≤ R 2) (h12 : R 2 ≤ 12) (hw : ∀ c : Nat, (c : Int) < R 2 → cfR S c 4 = cfR R c 4 ∧ (0 ≤ cfR R c 4 ∧ cfR R c 4 ≤ 3) ∧ (0 ≤ cfR S c 8 ∧ cfR S c 8 ≤ 1000000) ∧ 0 ≤ cfR R c 8 ∧ cfR R c 8 ≤ 1000000) (hK : K (some (kI (samS R S))) G d) : AM E mX4_isLike (k + 3) 0 0 [kR A, kR B] G d K := by
  obtain ⟨ho, ⟨e7, a7⟩, -, -, -, -, -, -, -, hcA⟩ := id hA
  obtain ⟨hoB, ⟨f7, b7⟩, -, -, -, -, -, -, -, hcB⟩ := id hB
  obtain ⟨N, hN⟩ : ∃ N : Nat, R 2 = N := ⟨(R 2).toNat, by omega⟩
  have v4 := hVA.1.2.2.2.2.1
  rw [hS2, hN] at v4
  unfold samS at hK
  rw [show (R 2).toNat = N by omega] at hK
  have loop : ∀ (f j : Nat), j + f = N → smF R S f j = smF R S N 0 → AW E mX4_isLike (k + 3) 0 0 2 [some (kR A), some (kR B), some (kI j)] [] G d K := by
    intro f
    induction f with
    | zero =>
      intro j hj he
      rw [← he] at hK
      refine A_iload_n dX4_isLike_2 rfl rfl ?_
      refine A_aload_n dX4_isLike_3 rfl rfl ?_
      refine A_get (fi := 4) dX4_isLike_4 fg_X4_24 rfl rfl (by assumption) ?_
      refine A_icmp_ge (tgt := 36) dX4_isLike_7 (by decide) (fun c_7 => ?_) (fun c_7 => absurd c_7 (by omega))
      refine A_iconst dX4_isLike_36 ⟨by decide, by decide⟩ ?_
      refine A_zret dX4_isLike_37 rfl (by first | exact Or.inl rfl | exact Or.inr rfl | assumption | omega) ?_
      exact hK
    | succ f ih =>
      intro j hj he
      simp only [smF] at he
      obtain ⟨ea, oa, -, -⟩ := hcA j (by omega)
      obtain ⟨eb, ob, -, -⟩ := hcB j (by omega)
      obtain ⟨z1, z2, z3, z4⟩ := hw j (by omega)
      refine A_iload_n dX4_isLike_2 rfl rfl ?_
      refine A_aload_n dX4_isLike_3 rfl rfl ?_
      refine A_get (fi := 4) dX4_isLike_4 fg_X4_24 rfl rfl (by assumption) ?_
      refine A_icmp_ge (tgt := 36) dX4_isLike_7 (by decide) (fun c_7 => absurd c_7 (by omega)) (fun c_7 => ?_)
      refine A_aload_n dX4_isLike_10 rfl rfl ?_
      refine A_getR (fi := 7) dX4_isLike_11 fg_X4_35 rfl rfl (by assumption) (by assumption) ?_
      refine A_iload_n dX4_isLike_14 rfl rfl ?_
      refine A_aald (t := 2) dX4_isLike_15 (fun _ => rfl) (by decide) (by assumption) (by omega) (by omega) (by assumption) ?_
      refine A_aload_n dX4_isLike_16 rfl rfl ?_
      refine A_getR (fi := 7) dX4_isLike_17 fg_X4_35 rfl rfl (by assumption) (by assumption) ?_
      refine A_iload_n dX4_isLike_20 rfl rfl ?_
      refine A_aald (t := 2) dX4_isLike_21 (fun _ => rfl) (by decide) (by assumption) (by omega) (by omega) (by assumption) ?_
      refine A_inv1 dX4_isLike_22 mv_X4_86 kCl_0 (Nat.le_of_ble_eq_true rfl) (by assumption) ?_
      refine C_carLike hA hB hVA hVB (by omega) (by omega) (by omega) z1 z2.1 z2.2 z3.1 z3.2 z4.1 z4.2 ?_
      refine A_if_ne (tgt := 30) dX4_isLike_25 (by decide) (fun c_25 => ?_) (fun c_25 => ?_)
      · rw [if_neg c_25] at he
        refine A_iinc_ok dX4_isLike_30 rfl rfl (by omega) (by omega) ?_
        refine A_goto (tgt := 2) dX4_isLike_33 (by decide) ?_
        exact ih (j + 1) (by omega) he
      · rw [if_pos c_25] at he
        rw [← he] at hK
        refine A_iconst dX4_isLike_28 ⟨by decide, by decide⟩ ?_
        refine A_zret dX4_isLike_29 rfl (by first | exact Or.inl rfl | exact Or.inr rfl | assumption | omega) ?_
        exact hK
  refine AM.of rfl (Nat.le_of_ble_eq_true rfl) ?_
  refine A_iconst dX4_isLike_0 ⟨by decide, by decide⟩ ?_
  refine A_istore_n dX4_isLike_1 rfl (Nat.le_of_ble_eq_true rfl) rfl ?_
  exact loop N 0 (by omega) rfl
end RL2
