section CK2
variable {E : EE} {k A : Nat} {G : HG} {d : HD} {K : PQ} {R : Int → Int}
theorem CG.cd {d' : HD} (h : CG d A R) (h2 : R 2 ≤ 12) (e : ∀ a, A ≤ a → a < A + 33 → d' a = d a) : CG d' A R := by
  obtain ⟨h0, h1, hc⟩ := h
  refine ⟨?_, ?_, fun c c1 => ?_⟩
  · rw [e A (by omega) (by omega)]; exact h0
  · rw [e A (by omega) (by omega)]; exact h1
  · rw [e _ (by omega) (by omega)]; exact hc c c1
theorem C_findIn {B : Int} (hM : KO G) (hA : 20 ≤ A) (hG : RG G A) (hV : CV d A R) (hW : WR R B) (hK : ∀ (d' : HD) (n : Nat), KM d d' A → d' 4 2 = n → KS R (knP R) n (d' 5) (d' 6) → K (some (kI n)) G d') : AM E mX2_findIn (k + 3) 0 0 [kR 4, kR A] G d K := by
  obtain ⟨ho, ⟨e7, a7⟩, -, -, -, -, -, -, -, hcar⟩ := id hG
  obtain ⟨oK, ⟨k0, i0⟩, ⟨k1, i1⟩, ⟨k3, i3⟩⟩ := id hM
  have wG := hW.G
  obtain ⟨w0, w1, w2, w3, wc, wb, wp, wv, wd⟩ := id hW
  have hl : ∀ c, 0 ≤ c → c < R 2 → cfR R c 1 = 0 ∨ cfR R c 1 = 1 := fun c c1 c2 => (wc c c1 c2).2.1
  obtain ⟨N, hN⟩ : ∃ N : Nat, R 2 = N := ⟨(R 2).toNat, by omega⟩
  have hV0 : CV (kU d 4 2 0) A R := hV.cd (by omega) (fun a a1 a2 => by rw [kU_ne (by omega)])
  refine AM.of rfl (Nat.le_of_ble_eq_true rfl) ?_
  refine A_aload_n dX2_findIn_0 rfl rfl ?_
  refine A_iconst dX2_findIn_1 ⟨by decide, by decide⟩ ?_
  refine A_put (fi := 2) dX2_findIn_2 fp_X2_21 rfl rfl (by assumption) ?_
  refine A_aload_n dX2_findIn_5 rfl rfl ?_
  refine A_inv0 dX2_findIn_6 mv_X2_25 kCl_4 (Nat.le_of_ble_eq_true rfl) (by assumption) ?_
  refine C_lookFromAll hG hV0.G wG (fun c c1 c2 => (wc c c1 c2).2.2.1) (fun d1 s1 k1' => ?_)
  have V1 : CG d1 A R := hV0.G.s (by omega) s1
  have km : ∀ d' : HD, (∀ a, a ≠ 4 → a ≠ 5 → a ≠ 6 → a ≠ 7 → d' a = d1 a) → KM d d' A := by
    intro d' e
    refine ⟨fun a => if a = 4 then d 4 else d1 a, ⟨fun a ha => ?_, fun c hc w hw => ?_⟩, fun a ha => ?_⟩
    · show (if a = 4 then d 4 else d1 a) = d a
      by_cases q : a = 4
      · rw [if_pos q, q]
      · rw [if_neg q, s1.1 a ha, kU_ne q]
    · show (if A + 9 + 2 * c = 4 then d 4 else d1 (A + 9 + 2 * c)) w = d (A + 9 + 2 * c) w
      rw [if_neg (by omega), s1.2 c hc w hw, kU_ne (by omega)]
    · show d' a = if a = 4 then d 4 else d1 a
      rw [if_neg (by omega), e a (by omega) (by omega) (by omega) (by omega)]
  have l2 : ∀ (d2 : HD), (∀ a, a ≠ 7 → d2 a = d1 a) → (∀ e : Int, 0 ≤ e → e < R 2 → d2 7 e = bhS R e) → ∀ (f j n : Nat), j + f = N → ∀ (d' : HD), (∀ a, a ≠ 4 → a ≠ 5 → a ≠ 6 → d' a = d2 a) → d' 4 2 = n → KS R (fun x => knP R x ∧ x < j) n (d' 5) (d' 6) → AW E mX2_findIn (k + 3) 0 0 42 [some (kR 4), some (kR A), some (kI j)] [] G d' K := by
    intro d2 h2 hb f
    induction f with
    | zero =>
      intro j n hj d' e h20 H
      have : j = N := by omega
      subst this
      have v4 : d' A 4 = j := by rw [e A (by omega) (by omega) (by omega), h2 A (by omega), V1.2.1]; omega
      refine A_iload_n dX2_findIn_42 rfl rfl ?_
      refine A_aload_n dX2_findIn_43 rfl rfl ?_
      refine A_get (fi := 4) dX2_findIn_44 fg_X2_30 rfl rfl (by assumption) ?_
      refine A_icmp_ge (tgt := 77) dX2_findIn_47 (by decide) (fun c_47 => ?_) (fun c_47 => absurd c_47 (by omega))
      refine A_aload_n dX2_findIn_77 rfl rfl ?_
      refine A_get (fi := 2) dX2_findIn_78 fg_X2_21 rfl rfl (by assumption) ?_
      refine A_iret dX2_findIn_81 rfl ?_
      rw [h20]
      exact hK d' n (km d' (fun a q1 q2 q3 q4 => by rw [e a q1 q2 q3, h2 a q4])) h20 (KS_cg H (fun x => ⟨fun z => ⟨z, by have := z.1; omega⟩, fun z => z.1⟩))
    | succ f ih =>
      intro j n hj d' e h20 H
      have Vj : CG d' A R := V1.cd (by omega) (fun a a1 a2 => by rw [e a (by omega) (by omega) (by omega), h2 a (by omega)])
      have v4 : d' A 4 = N := by rw [Vj.2.1]; omega
      have ah : d' (A + 9 + 2 * j) 11 = aheadS R j := by rw [e _ (by omega) (by omega) (by omega), h2 _ (by omega)]; exact (k1' j (by omega)).1.2.1
      have next := ih (j + 1)
      have skip : ¬ knP R j → AW E mX2_findIn (k + 3) 0 0 71 [some (kR 4), some (kR A), some (kI j)] [] G d' K := fun hno => by
        refine A_iinc_ok dX2_findIn_71 rfl rfl (by omega) (by omega) ?_
        refine A_goto (tgt := 42) dX2_findIn_74 (by decide) ?_
        refine next n (by omega) d' e h20 (KS_cg H (fun x => ⟨fun z => ⟨z.1, ?_⟩, fun z => ⟨z.1, by have := z.2; omega⟩⟩))
        by_cases q : x = j
        · subst q; exact absurd z.1 hno
        · have := z.2; omega
      refine A_iload_n dX2_findIn_42 rfl rfl ?_
      refine A_aload_n dX2_findIn_43 rfl rfl ?_
      refine A_get (fi := 4) dX2_findIn_44 fg_X2_30 rfl rfl (by assumption) ?_
      refine A_icmp_ge (tgt := 77) dX2_findIn_47 (by decide) (fun c_47 => absurd c_47 (by omega)) (fun c_47 => ?_)
      refine A_aload_n dX2_findIn_50 rfl rfl ?_
      refine A_aload_n dX2_findIn_51 rfl rfl ?_
      refine A_iload_n dX2_findIn_52 rfl rfl ?_
      refine A_inv2 dX2_findIn_53 mv_X2_42 kCl_2 (Nat.le_of_ble_eq_true rfl) (by assumption) ?_
      refine C_isHead hM hG Vj wG (by omega) ah (fun x hx => ?_)
      refine A_if_eq (tgt := 71) dX2_findIn_56 (by decide) (fun c_56 => ?_) (fun c_56 => ?_)
      · have hno : ¬ hdP R j := by
          rcases hx with y | y
          · omega
          · exact y.2
        exact skip (fun z => hno z.2.1)
      · have hyes : hdP R j := by
          rcases hx with y | y
          · exact y.2
          · omega
        refine A_aload_n dX2_findIn_59 rfl rfl ?_
        refine A_aload_n dX2_findIn_60 rfl rfl ?_
        refine A_iload_n dX2_findIn_61 rfl rfl ?_
        refine A_aload_n dX2_findIn_62 rfl rfl ?_
        refine A_aload_n dX2_findIn_63 rfl rfl ?_
        refine A_iload_n dX2_findIn_64 rfl rfl ?_
        refine A_inv2 dX2_findIn_65 mv_X2_46 kCl_2 (Nat.le_of_ble_eq_true rfl) (by assumption) ?_
        refine C_sizeBehind hM hG Vj wG wd (by omega) (fun q q1 q2 => by rw [e 7 (by decide) (by decide) (by decide)]; exact hb q q1 q2) ?_
        refine A_inv3 dX2_findIn_68 mv_X2_50 kCl_2 (Nat.le_of_ble_eq_true rfl) (by assumption) ?_
        by_cases s2 : szS R j < 2
        · refine C_insertSkip s2 ?_
          exact skip (fun z => by have := z.2.2; omega)
        · have kn : knP R j := ⟨⟨by omega, by omega⟩, hyes, by omega⟩
          refine C_insert (Q := fun x => knP R x ∧ x < ((j + 1 : Nat) : Int)) hM hA hG Vj wG wd hl h20 H (fun x hx => hx.1.1) (by omega) (fun z => by have := z.2; omega) (fun x => ?_) (by omega) rfl (fun d3 e3 g3 H3 => ?_)
          · constructor
            · intro z
              by_cases q : x = j
              · exact Or.inr q
              · exact Or.inl ⟨z.1, by have := z.2; omega⟩
            · intro z
              rcases z with z | z
              · exact ⟨z.1, by have := z.2; omega⟩
              · rw [z]; exact ⟨kn, by omega⟩
          · refine A_iinc_ok dX2_findIn_71 rfl rfl (by omega) (by omega) ?_
            refine A_goto (tgt := 42) dX2_findIn_74 (by decide) ?_
            exact next (n + 1) (by omega) d3 (fun a q1 q2 q3 => by rw [e3 a q1 q2 q3]; exact e a q1 q2 q3) g3 H3
  have l1 : ∀ (f j : Nat), j + f = N → ∀ (d' : HD), (∀ a, a ≠ 7 → d' a = d1 a) → (∀ c : Nat, c < j → d' 7 (aheadS R c) = c) → AW E mX2_findIn (k + 3) 0 0 11 [some (kR 4), some (kR A), some (kI j)] [] G d' K := by
    intro f
    induction f with
    | zero =>
      intro j hj d' e hb
      have : j = N := by omega
      subst this
      have v4 : d' A 4 = j := by rw [e A (by omega), V1.2.1]; omega
      refine A_iload_n dX2_findIn_11 rfl rfl ?_
      refine A_aload_n dX2_findIn_12 rfl rfl ?_
      refine A_get (fi := 4) dX2_findIn_13 fg_X2_30 rfl rfl (by assumption) ?_
      refine A_icmp_ge (tgt := 40) dX2_findIn_16 (by decide) (fun c_16 => ?_) (fun c_16 => absurd c_16 (by omega))
      refine A_iconst dX2_findIn_40 ⟨by decide, by decide⟩ ?_
      refine A_istore_n dX2_findIn_41 rfl (Nat.le_of_ble_eq_true rfl) rfl ?_
      refine l2 d' e (fun q q1 q2 => ?_) j 0 0 (by omega) d' (fun _ _ _ _ => rfl) ?_ ⟨fun i hi => by omega, fun i j' _ hj => by omega, fun c hc => by have := hc.1.1; have := hc.2; omega⟩
      · obtain ⟨c, c1, c2, c3, c4⟩ := bh_ex wG wd q1 q2
        have := hb c.toNat (by omega)
        rw [toN c1, c4] at this
        rw [this, ← c4, bh_of wG wd c1 c2]
      · rw [e 4 (by decide), s1.1 4 (fun c _ => by omega), kU_s]
        rfl
    | succ f ih =>
      intro j hj d' e hb
      have v4 : d' A 4 = N := by rw [e A (by omega), V1.2.1]; omega
      obtain ⟨ej, oj, -, -⟩ := hcar j (by omega)
      have ah : d' (A + 9 + 2 * j) 11 = aheadS R j := by rw [e _ (by omega)]; exact (k1' j (by omega)).1.2.1
      have ra := ah_rg wG (c := j) (by omega) (by omega)
      refine A_iload_n dX2_findIn_11 rfl rfl ?_
      refine A_aload_n dX2_findIn_12 rfl rfl ?_
      refine A_get (fi := 4) dX2_findIn_13 fg_X2_30 rfl rfl (by assumption) ?_
      refine A_icmp_ge (tgt := 40) dX2_findIn_16 (by decide) (fun c_16 => absurd c_16 (by omega)) (fun c_16 => ?_)
      refine A_aload_n dX2_findIn_19 rfl rfl ?_
      refine A_getR (fi := 3) dX2_findIn_20 fg_X2_18 rfl rfl (by assumption) (by assumption) ?_
      refine A_aload_n dX2_findIn_23 rfl rfl ?_
      refine A_getR (fi := 7) dX2_findIn_24 fg_X2_33 rfl rfl (by assumption) (by assumption) ?_
      refine A_iload_n dX2_findIn_27 rfl rfl ?_
      refine A_aald (t := 2) dX2_findIn_28 (fun _ => rfl) (by decide) (by assumption) (by omega) (by omega) (by assumption) ?_
      refine A_get (fi := 11) dX2_findIn_29 fg_X2_37 rfl rfl (by assumption) ?_
      rw [ah]
      refine A_iload_n dX2_findIn_32 rfl rfl ?_
      refine A_iast dX2_findIn_33 (by assumption) (by omega) (by omega) ?_
      refine A_iinc_ok dX2_findIn_34 rfl rfl (by omega) (by omega) ?_
      refine A_goto (tgt := 11) dX2_findIn_37 (by decide) ?_
      refine ih (j + 1) (by omega) _ (fun a q => by rw [kU_ne q]; exact e a q) (fun c hc => ?_)
      by_cases q : c = j
      · subst q; rw [kU_s]
      · rw [kU_f (fun z => q (by have := ah_inj wG wd (a := c) (b := j) (by omega) (by omega) (by omega) (by omega) z; omega))]
        exact hb c (by omega)
  refine A_iconst dX2_findIn_9 ⟨by decide, by decide⟩ ?_
  refine A_istore_n dX2_findIn_10 rfl (Nat.le_of_ble_eq_true rfl) rfl ?_
  exact l1 N 0 (by omega) d1 (fun _ _ => rfl) (fun c hc => by omega)
theorem C_carsIn {B : Int} (hM : KO G) (hA : 20 ≤ A) (hG : RG G A) (hV : CV d A R) (hW : WR R B) (hK : ∀ (d' : HD) (n : Nat), KM d d' A → KS R (knP R) n (d' 5) (d' 6) → K (some (kI (suF (d' 6) n))) G d') : AM E mX2_carsIn (k + 4) 0 0 [kR 4, kR A] G d K := by
  obtain ⟨oK, ⟨k0, i0⟩, ⟨k1, i1⟩, ⟨k3, i3⟩⟩ := id hM
  obtain ⟨w0, w1, w2, w3, wc, wb, wp, wv, wd⟩ := id hW
  refine AM.of rfl (Nat.le_of_ble_eq_true rfl) ?_
  refine A_aload_n dX2_carsIn_0 rfl rfl ?_
  refine A_aload_n dX2_carsIn_1 rfl rfl ?_
  refine A_inv1 dX2_carsIn_2 mv_X2_54 kCl_2 (Nat.le_of_ble_eq_true rfl) (by assumption) ?_
  refine C_findIn hM hA hG hV hW (fun d' n hk h20 H => ?_)
  have fin := hK d' n hk H
  have n12 : (n : Int) ≤ 12 := by
    have e := KS_n H
    have r := knN_rg (R := R) w2.1
    omega
  have loop : ∀ (f j : Nat), j + f = n → AW E mX2_carsIn (k + 4) 0 0 10 [some (kR 4), some (kR A), some (kI (suF (d' 6) j)), some (kI j)] [] G d' K := by
    intro f
    induction f with
    | zero =>
      intro j hj
      have : j = n := by omega
      subst this
      refine A_iload_n dX2_carsIn_10 rfl rfl ?_
      refine A_aload_n dX2_carsIn_11 rfl rfl ?_
      refine A_get (fi := 2) dX2_carsIn_12 fg_X2_21 rfl rfl (by assumption) ?_
      refine A_icmp_ge (tgt := 33) dX2_carsIn_15 (by decide) (fun c_15 => ?_) (fun c_15 => absurd c_15 (by omega))
      refine A_iload_n dX2_carsIn_33 rfl rfl ?_
      refine A_iret dX2_carsIn_34 rfl ?_
      exact fin
    | succ f ih =>
      intro j hj
      have r1 := KS_su w2.1 w2.2 H j (by omega)
      have r2 := KS_su w2.1 w2.2 H (j + 1) (by omega)
      have e : suF (d' 6) (j + 1) = suF (d' 6) j + d' 6 j := rfl
      have next := ih (j + 1) (by omega)
      rw [e] at next r2
      refine A_iload_n dX2_carsIn_10 rfl rfl ?_
      refine A_aload_n dX2_carsIn_11 rfl rfl ?_
      refine A_get (fi := 2) dX2_carsIn_12 fg_X2_21 rfl rfl (by assumption) ?_
      refine A_icmp_ge (tgt := 33) dX2_carsIn_15 (by decide) (fun c_15 => absurd c_15 (by omega)) (fun c_15 => ?_)
      refine A_iload_n dX2_carsIn_18 rfl rfl ?_
      refine A_aload_n dX2_carsIn_19 rfl rfl ?_
      refine A_getR (fi := 1) dX2_carsIn_20 fg_X2_15 rfl rfl (by assumption) (by assumption) ?_
      refine A_iload_n dX2_carsIn_23 rfl rfl ?_
      refine A_iald dX2_carsIn_24 (by assumption) (by omega) (by omega) ?_
      refine A_iadd_ok dX2_carsIn_25 (by omega) (by omega) ?_
      refine A_istore_n dX2_carsIn_26 rfl (Nat.le_of_ble_eq_true rfl) rfl ?_
      refine A_iinc_ok dX2_carsIn_27 rfl rfl (by omega) (by omega) ?_
      refine A_goto (tgt := 10) dX2_carsIn_30 (by decide) ?_
      exact next
  refine A_pop dX2_carsIn_5 (fun B => toV_cat B _) ?_
  refine A_iconst dX2_carsIn_6 ⟨by decide, by decide⟩ ?_
  refine A_istore_n dX2_carsIn_7 rfl (Nat.le_of_ble_eq_true rfl) rfl ?_
  refine A_iconst dX2_carsIn_8 ⟨by decide, by decide⟩ ?_
  refine A_istore_n dX2_carsIn_9 rfl (Nat.le_of_ble_eq_true rfl) rfl ?_
  exact loop n 0 (by omega)
end CK2
