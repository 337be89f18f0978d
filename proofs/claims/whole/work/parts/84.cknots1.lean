/-! the class's knots: object 4, its arrays 5 .. 7 -/
def KO (G : HG) : Prop := isO G 4 2 ∧ (G.2.2 4 0 = 5 ∧ isA G 5 8 12) ∧ (G.2.2 4 1 = 6 ∧ isA G 6 8 12) ∧ (G.2.2 4 3 = 7 ∧ isA G 7 8 12)
theorem CV.cd {d d' : HD} {A : Nat} {R : Int → Int} (h : CV d A R) (h2 : R 2 ≤ 12) (e : ∀ a, A ≤ a → a < A + 33 → d' a = d a) : CV d' A R := by
  obtain ⟨h0, hc, hb, hl⟩ := h
  refine ⟨?_, fun c c1 => ⟨fun w w1 w2 => ?_, fun i q i1 i2 i3 q1 q2 => ?_⟩, ?_, ?_⟩
  · rw [e A (by omega) (by omega)]; exact h0
  · rw [e _ (by omega) (by omega)]; exact (hc c c1).1 w w1 w2
  · rw [e _ (by omega) (by omega)]; exact (hc c c1).2 i q i1 i2 i3 q1 q2
  · rw [e (A + 3) (by omega) (by omega), e (A + 4) (by omega) (by omega), e (A + 5) (by omega) (by omega)]; exact hb
  · rw [e (A + 6) (by omega) (by omega), e (A + 7) (by omega) (by omega), e (A + 8) (by omega) (by omega)]; exact hl
/-- only ring A's scratch and the knots have changed -/
def KM (d d' : HD) (A : Nat) : Prop := ∃ d1, SC d d1 A ∧ ∀ a, (a < 4 ∨ 7 < a) → d' a = d1 a
theorem KM.V {d d' : HD} {A : Nat} {R : Int → Int} (h : KM d d' A) (hA : 20 ≤ A) (hV : CV d A R) (h2 : R 2 ≤ 12) : CV d' A R := by
  obtain ⟨d1, s, e⟩ := h
  exact (hV.s h2 s).cd h2 (fun a a1 a2 => e a (by omega))
theorem KM.o {d d' : HD} {A a : Nat} (h : KM d d' A) (h1 : a < 4 ∨ 7 < a) (h2 : a < A ∨ A + 33 ≤ a) : d' a = d a := by
  obtain ⟨d1, s, e⟩ := h
  rw [e a h1, s.M a h2]
section CK
variable {E : EE} {k A : Nat} {G : HG} {d : HD} {K : PQ} {R : Int → Int}
theorem C_comesAhead {a b : Nat} {ca la cb lb : Int} (oa : isO G a 0) (ob : isO G b 0) (h1 : d a 0 = ca) (h2 : d a 1 = la) (h3 : d b 0 = cb) (h4 : d b 1 = lb) (hla : la = 0 ∨ la = 1) (hlb : lb = 0 ∨ lb = 1) (hK : K (some (kI (if 2 * ca + la < 2 * cb + lb then 1 else 0))) G d) : AM E mX2_comesAhead k 0 0 [kR a, kR b] G d K := by
  refine AM.of rfl (Nat.le_of_ble_eq_true rfl) ?_
  refine A_aload_n dX2_comesAhead_0 rfl rfl ?_
  refine A_get (fi := 0) dX2_comesAhead_1 fg_X2_71 rfl rfl (by assumption) ?_
  refine A_aload_n dX2_comesAhead_4 rfl rfl ?_
  refine A_get (fi := 0) dX2_comesAhead_5 fg_X2_71 rfl rfl (by assumption) ?_
  refine A_icmp_eq (tgt := 30) dX2_comesAhead_8 (by decide) (fun c_8 => ?_) (fun c_8 => ?_)
  · rw [h1, h3] at c_8
    refine A_aload_n dX2_comesAhead_30 rfl rfl ?_
    refine A_get (fi := 1) dX2_comesAhead_31 fg_X2_64 rfl rfl (by assumption) ?_
    refine A_aload_n dX2_comesAhead_34 rfl rfl ?_
    refine A_get (fi := 1) dX2_comesAhead_35 fg_X2_64 rfl rfl (by assumption) ?_
    refine A_icmp_ge (tgt := 45) dX2_comesAhead_38 (by decide) (fun c_38 => ?_) (fun c_38 => ?_)
    · rw [h2, h4] at c_38
      rw [if_neg (by omega)] at hK
      refine A_iconst dX2_comesAhead_45 ⟨by decide, by decide⟩ ?_
      refine A_zret dX2_comesAhead_46 rfl (by first | exact Or.inl rfl | exact Or.inr rfl | assumption | omega) ?_
      exact hK
    · rw [h2, h4] at c_38
      rw [if_pos (by omega)] at hK
      refine A_iconst dX2_comesAhead_41 ⟨by decide, by decide⟩ ?_
      refine A_goto (tgt := 46) dX2_comesAhead_42 (by decide) ?_
      refine A_zret dX2_comesAhead_46 rfl (by first | exact Or.inl rfl | exact Or.inr rfl | assumption | omega) ?_
      exact hK
  · rw [h1, h3] at c_8
    refine A_aload_n dX2_comesAhead_11 rfl rfl ?_
    refine A_get (fi := 0) dX2_comesAhead_12 fg_X2_71 rfl rfl (by assumption) ?_
    refine A_aload_n dX2_comesAhead_15 rfl rfl ?_
    refine A_get (fi := 0) dX2_comesAhead_16 fg_X2_71 rfl rfl (by assumption) ?_
    refine A_icmp_ge (tgt := 26) dX2_comesAhead_19 (by decide) (fun c_19 => ?_) (fun c_19 => ?_)
    · rw [h1, h3] at c_19
      rw [if_neg (by omega)] at hK
      refine A_iconst dX2_comesAhead_26 ⟨by decide, by decide⟩ ?_
      refine A_goto (tgt := 46) dX2_comesAhead_27 (by decide) ?_
      refine A_zret dX2_comesAhead_46 rfl (by first | exact Or.inl rfl | exact Or.inr rfl | assumption | omega) ?_
      exact hK
    · rw [h1, h3] at c_19
      rw [if_pos (by omega)] at hK
      refine A_iconst dX2_comesAhead_22 ⟨by decide, by decide⟩ ?_
      refine A_goto (tgt := 46) dX2_comesAhead_23 (by decide) ?_
      refine A_zret dX2_comesAhead_46 rfl (by first | exact Or.inl rfl | exact Or.inr rfl | assumption | omega) ?_
      exact hK
theorem C_leastSlow {c : Nat} (hM : KO G) (hG : RG G A) (hV : CG d A R) (h2 : R 2 ≤ 12) (hc : (c : Int) < R 2) (hK : K (some (kI (if lsF R c (R 2).toNat = true then 1 else 0))) G d) : AM E mX2_isLeastOfSlowLane k 0 0 [kR 4, kR A, kI c] G d K := by
  obtain ⟨ho, ⟨e7, a7⟩, -, -, -, -, -, -, -, hcar⟩ := id hG
  obtain ⟨v0, v4, vc⟩ := id hV
  obtain ⟨N, hN⟩ : ∃ N : Nat, R 2 = N := ⟨(R 2).toNat, by omega⟩
  rw [hN] at v4
  rw [show (R 2).toNat = N by omega] at hK
  obtain ⟨ec, oc, -, -⟩ := hcar c (by omega)
  obtain ⟨c0, c1, c2⟩ := vc c hc
  have loop : ∀ (f j : Nat), j + f = N → lsF R c j = true → ∀ q4 : Option AV, AW E mX2_isLeastOfSlowLane k 0 0 2 [some (kR 4), some (kR A), some (kI c), some (kI j), q4] [] G d K := by
    intro f
    induction f with
    | zero =>
      intro j hj hl q4
      have : j = N := by omega
      subst this
      rw [if_pos hl] at hK
      refine A_iload_n dX2_isLeastOfSlowLane_2 rfl rfl ?_
      refine A_aload_n dX2_isLeastOfSlowLane_3 rfl rfl ?_
      refine A_get (fi := 4) dX2_isLeastOfSlowLane_4 fg_X2_30 rfl rfl (by assumption) ?_
      refine A_icmp_ge (tgt := 69) dX2_isLeastOfSlowLane_7 (by decide) (fun c_7 => ?_) (fun c_7 => absurd c_7 (by omega))
      refine A_iconst dX2_isLeastOfSlowLane_69 ⟨by decide, by decide⟩ ?_
      refine A_zret dX2_isLeastOfSlowLane_70 rfl (by first | exact Or.inl rfl | exact Or.inr rfl | assumption | omega) ?_
      exact hK
    | succ f ih =>
      intro j hj hl q4
      obtain ⟨ej, oj, -, -⟩ := hcar j (by omega)
      obtain ⟨d0, d1, d2⟩ := vc j (by omega)
      have next := ih (j + 1) (by omega)
      have bad : ¬ (cfR R j 1 = cfR R c 1 → (c : Int) ≤ j ∧ cfR R j 2 < 2) → K (some (kI 0)) G d := fun z => by
        rw [if_neg (fun y => z (fun w => (lsF_iff N).mp y j (by omega) w))] at hK
        exact hK
      have good : (cfR R j 1 = cfR R c 1 → (c : Int) ≤ j ∧ cfR R j 2 < 2) → lsF R c (j + 1) = true := fun z => by
        rw [lsF_iff]
        intro e he
        by_cases q : e = j
        · subst q; exact z
        · exact (lsF_iff j).mp hl e (by omega)
      have tail : ∀ mt : Int, (mt = 0 ∧ cfR R j 1 ≠ cfR R c 1 ∨ mt = 1 ∧ cfR R j 1 = cfR R c 1) → AW E mX2_isLeastOfSlowLane k 0 0 36 [some (kR 4), some (kR A), some (kI c), some (kI j), q4] [kI mt] G d K := by
        intro mt hmt
        refine A_istore dX2_isLeastOfSlowLane_36 (Nat.le_of_ble_eq_true rfl) rfl ?_
        refine A_iload dX2_isLeastOfSlowLane_38 rfl ?_
        refine A_if_eq (tgt := 63) dX2_isLeastOfSlowLane_40 (by decide) (fun c_40 => ?_) (fun c_40 => ?_)
        · refine A_iinc_ok dX2_isLeastOfSlowLane_63 rfl rfl (by omega) (by omega) ?_
          refine A_goto (tgt := 2) dX2_isLeastOfSlowLane_66 (by decide) ?_
          refine next (good (fun z => ?_)) _
          rcases hmt with y | y
          · exact absurd z y.2
          · omega
        · have same : cfR R j 1 = cfR R c 1 := by
            rcases hmt with y | y
            · omega
            · exact y.2
          refine A_iload_n dX2_isLeastOfSlowLane_43 rfl rfl ?_
          refine A_iload_n dX2_isLeastOfSlowLane_44 rfl rfl ?_
          refine A_icmp_lt (tgt := 61) dX2_isLeastOfSlowLane_45 (by decide) (fun c_45 => ?_) (fun c_45 => ?_)
          · have fin := bad (fun z => by have := z same; omega)
            refine A_iconst dX2_isLeastOfSlowLane_61 ⟨by decide, by decide⟩ ?_
            refine A_zret dX2_isLeastOfSlowLane_62 rfl (by first | exact Or.inl rfl | exact Or.inr rfl | assumption | omega) ?_
            exact fin
          · refine A_aload_n dX2_isLeastOfSlowLane_48 rfl rfl ?_
            refine A_getR (fi := 7) dX2_isLeastOfSlowLane_49 fg_X2_33 rfl rfl (by assumption) (by assumption) ?_
            refine A_iload_n dX2_isLeastOfSlowLane_52 rfl rfl ?_
            refine A_aald (t := 2) dX2_isLeastOfSlowLane_53 (fun _ => rfl) (by decide) (by assumption) (by omega) (by omega) (by assumption) ?_
            refine A_get (fi := 2) dX2_isLeastOfSlowLane_54 fg_X2_58 rfl rfl (by assumption) ?_
            refine A_iconst dX2_isLeastOfSlowLane_57 ⟨by decide, by decide⟩ ?_
            refine A_icmp_le (tgt := 63) dX2_isLeastOfSlowLane_58 (by decide) (fun c_58 => ?_) (fun c_58 => ?_)
            · rw [d2] at c_58
              refine A_iinc_ok dX2_isLeastOfSlowLane_63 rfl rfl (by omega) (by omega) ?_
              refine A_goto (tgt := 2) dX2_isLeastOfSlowLane_66 (by decide) ?_
              exact next (good (fun z => by omega)) _
            · rw [d2] at c_58
              have fin := bad (fun z => by have := z same; omega)
              refine A_iconst dX2_isLeastOfSlowLane_61 ⟨by decide, by decide⟩ ?_
              refine A_zret dX2_isLeastOfSlowLane_62 rfl (by first | exact Or.inl rfl | exact Or.inr rfl | assumption | omega) ?_
              exact fin
      refine A_iload_n dX2_isLeastOfSlowLane_2 rfl rfl ?_
      refine A_aload_n dX2_isLeastOfSlowLane_3 rfl rfl ?_
      refine A_get (fi := 4) dX2_isLeastOfSlowLane_4 fg_X2_30 rfl rfl (by assumption) ?_
      refine A_icmp_ge (tgt := 69) dX2_isLeastOfSlowLane_7 (by decide) (fun c_7 => absurd c_7 (by omega)) (fun c_7 => ?_)
      refine A_aload_n dX2_isLeastOfSlowLane_10 rfl rfl ?_
      refine A_getR (fi := 7) dX2_isLeastOfSlowLane_11 fg_X2_33 rfl rfl (by assumption) (by assumption) ?_
      refine A_iload_n dX2_isLeastOfSlowLane_14 rfl rfl ?_
      refine A_aald (t := 2) dX2_isLeastOfSlowLane_15 (fun _ => rfl) (by decide) (by assumption) (by omega) (by omega) (by assumption) ?_
      refine A_get (fi := 1) dX2_isLeastOfSlowLane_16 fg_X2_64 rfl rfl (by assumption) ?_
      refine A_aload_n dX2_isLeastOfSlowLane_19 rfl rfl ?_
      refine A_getR (fi := 7) dX2_isLeastOfSlowLane_20 fg_X2_33 rfl rfl (by assumption) (by assumption) ?_
      refine A_iload_n dX2_isLeastOfSlowLane_23 rfl rfl ?_
      refine A_aald (t := 2) dX2_isLeastOfSlowLane_24 (fun _ => rfl) (by decide) (by assumption) (by omega) (by omega) (by assumption) ?_
      refine A_get (fi := 1) dX2_isLeastOfSlowLane_25 fg_X2_64 rfl rfl (by assumption) ?_
      refine A_icmp_ne (tgt := 35) dX2_isLeastOfSlowLane_28 (by decide) (fun c_28 => ?_) (fun c_28 => ?_)
      · rw [d1, c1] at c_28
        refine A_iconst dX2_isLeastOfSlowLane_35 ⟨by decide, by decide⟩ ?_
        exact tail 0 (Or.inl ⟨rfl, c_28⟩)
      · rw [d1, c1] at c_28
        refine A_iconst dX2_isLeastOfSlowLane_31 ⟨by decide, by decide⟩ ?_
        refine A_goto (tgt := 36) dX2_isLeastOfSlowLane_32 (by decide) ?_
        exact tail 1 (Or.inr ⟨rfl, c_28⟩)
  refine AM.of rfl (Nat.le_of_ble_eq_true rfl) ?_
  refine A_iconst dX2_isLeastOfSlowLane_0 ⟨by decide, by decide⟩ ?_
  refine A_istore_n dX2_isLeastOfSlowLane_1 rfl (Nat.le_of_ble_eq_true rfl) rfl ?_
  exact loop N 0 (by omega) rfl none
theorem C_isHead {c : Nat} (hM : KO G) (hG : RG G A) (hV : CG d A R) (hW : WG R) (hc : (c : Int) < R 2) (ha : d (A + 9 + 2 * c) 11 = aheadS R c) (hK : ∀ x : Int, (x = 1 ∧ hdP R c ∨ x = 0 ∧ ¬ hdP R c) → K (some (kI x)) G d) : AM E mX2_isHead (k + 1) 0 0 [kR 4, kR A, kI c] G d K := by
  obtain ⟨ho, ⟨e7, a7⟩, -, -, -, -, -, -, -, hcar⟩ := id hG
  obtain ⟨w1, w2, w3, w4, w5⟩ := id hW
  obtain ⟨v0, v4, vc⟩ := id hV
  have oK := hM.1
  obtain ⟨ec, oc, -, -⟩ := hcar c (by omega)
  obtain ⟨c0, c1, c2⟩ := vc c hc
  have ra := ah_rg hW (c := c) (by omega) hc
  obtain ⟨e, he⟩ : ∃ e : Nat, aheadS R c = e := ⟨(aheadS R c).toNat, by omega⟩
  have hd : hdP R c ↔ cfR R c 2 < 2 ∧ (2 ≤ cfR R e 2 ∨ lsF R c (R 2).toNat = true) := by
    unfold hdP
    rw [he, lsF_iff]
    constructor
    · rintro ⟨h1, h2⟩
      refine ⟨h1, h2.imp id (fun z e he hl => z e (by omega) (by omega) hl)⟩
    · rintro ⟨h1, h2⟩
      refine ⟨h1, h2.imp id (fun z e he1 he2 hl => ?_)⟩
      have := z e.toNat (by omega) (by rw [toN he1]; exact hl)
      rw [toN he1] at this
      exact this
  rw [he] at ha
  obtain ⟨ee, oe, -, -⟩ := hcar e (by omega)
  obtain ⟨d0, d1, d2⟩ := vc e (by omega)
  refine AM.of rfl (Nat.le_of_ble_eq_true rfl) ?_
  refine A_aload_n dX2_isHead_0 rfl rfl ?_
  refine A_getR (fi := 7) dX2_isHead_1 fg_X2_33 rfl rfl (by assumption) (by assumption) ?_
  refine A_iload_n dX2_isHead_4 rfl rfl ?_
  refine A_aald (t := 2) dX2_isHead_5 (fun _ => rfl) (by decide) (by assumption) (by omega) (by omega) (by assumption) ?_
  refine A_get (fi := 2) dX2_isHead_6 fg_X2_58 rfl rfl (by assumption) ?_
  refine A_iconst dX2_isHead_9 ⟨by decide, by decide⟩ ?_
  refine A_icmp_le (tgt := 15) dX2_isHead_10 (by decide) (fun c_10 => ?_) (fun c_10 => ?_)
  · rw [c2] at c_10
    refine A_aload_n dX2_isHead_15 rfl rfl ?_
    refine A_getR (fi := 7) dX2_isHead_16 fg_X2_33 rfl rfl (by assumption) (by assumption) ?_
    refine A_aload_n dX2_isHead_19 rfl rfl ?_
    refine A_getR (fi := 7) dX2_isHead_20 fg_X2_33 rfl rfl (by assumption) (by assumption) ?_
    refine A_iload_n dX2_isHead_23 rfl rfl ?_
    refine A_aald (t := 2) dX2_isHead_24 (fun _ => rfl) (by decide) (by assumption) (by omega) (by omega) (by assumption) ?_
    refine A_get (fi := 11) dX2_isHead_25 fg_X2_37 rfl rfl (by assumption) ?_
    rw [ha]
    refine A_aald (t := 2) dX2_isHead_28 (fun _ => rfl) (by decide) (by assumption) (by omega) (by omega) (by assumption) ?_
    refine A_get (fi := 2) dX2_isHead_29 fg_X2_58 rfl rfl (by assumption) ?_
    refine A_iconst dX2_isHead_32 ⟨by decide, by decide⟩ ?_
    refine A_icmp_gt (tgt := 45) dX2_isHead_33 (by decide) (fun c_33 => ?_) (fun c_33 => ?_)
    · rw [d2] at c_33
      have fin := hK 1 (Or.inl ⟨rfl, hd.mpr ⟨by omega, Or.inl (by omega)⟩⟩)
      refine A_iconst dX2_isHead_45 ⟨by decide, by decide⟩ ?_
      refine A_goto (tgt := 50) dX2_isHead_46 (by decide) ?_
      refine A_zret dX2_isHead_50 rfl (by first | exact Or.inl rfl | exact Or.inr rfl | assumption | omega) ?_
      exact fin
    · rw [d2] at c_33
      refine A_aload_n dX2_isHead_36 rfl rfl ?_
      refine A_aload_n dX2_isHead_37 rfl rfl ?_
      refine A_iload_n dX2_isHead_38 rfl rfl ?_
      refine A_inv2 dX2_isHead_39 mv_X2_61 kCl_2 (Nat.le_of_ble_eq_true rfl) (by assumption) ?_
      refine C_leastSlow hM hG hV w4 hc ?_
      refine A_if_eq (tgt := 49) dX2_isHead_42 (by decide) (fun c_42 => ?_) (fun c_42 => ?_)
      · have z := i01e c_42
        have fin := hK 0 (Or.inr ⟨rfl, fun y => by
          rcases (hd.mp y).2 with q | q
          · omega
          · exact z q⟩)
        refine A_iconst dX2_isHead_49 ⟨by decide, by decide⟩ ?_
        refine A_zret dX2_isHead_50 rfl (by first | exact Or.inl rfl | exact Or.inr rfl | assumption | omega) ?_
        exact fin
      · have z := i01n c_42
        have fin := hK 1 (Or.inl ⟨rfl, hd.mpr ⟨by omega, Or.inr z⟩⟩)
        refine A_iconst dX2_isHead_45 ⟨by decide, by decide⟩ ?_
        refine A_goto (tgt := 50) dX2_isHead_46 (by decide) ?_
        refine A_zret dX2_isHead_50 rfl (by first | exact Or.inl rfl | exact Or.inr rfl | assumption | omega) ?_
        exact fin
  · rw [c2] at c_10
    have fin := hK 0 (Or.inr ⟨rfl, fun y => by have := (hd.mp y).1; omega⟩)
    refine A_iconst dX2_isHead_13 ⟨by decide, by decide⟩ ?_
    refine A_zret dX2_isHead_14 rfl (by first | exact Or.inl rfl | exact Or.inr rfl | assumption | omega) ?_
    exact fin
theorem C_sizeBehind {c : Nat} (hM : KO G) (hG : RG G A) (hV : CG d A R) (hW : WG R) (hD : ND R) (hc : (c : Int) < R 2) (hb : ∀ e : Int, 0 ≤ e → e < R 2 → d 7 e = bhS R e) (hK : K (some (kI (szS R c))) G d) : AM E mX2_sizeBehind k 0 0 [kR 4, kR A, kI c] G d K := by
  obtain ⟨ho, ⟨e7, a7⟩, -, -, -, -, -, -, -, hcar⟩ := id hG
  obtain ⟨w1, w2, w3, w4, w5⟩ := id hW
  obtain ⟨v0, v4, vc⟩ := id hV
  obtain ⟨oK, -, -, ⟨k3, i3⟩⟩ := id hM
  obtain ⟨N, hN⟩ : ∃ N : Nat, R 2 = N := ⟨(R 2).toNat, by omega⟩
  rw [hN] at v4
  unfold szS at hK
  rw [show (R 2).toNat = N by omega] at hK
  have loop : ∀ (f j : Nat) (x n : Int), j + f = N → 0 ≤ x → x < R 2 → 0 ≤ n → n ≤ j + 1 → wkF R c f x n = wkF R c N c 1 → AW E mX2_sizeBehind k 0 0 13 [some (kR 4), some (kR A), some (kI c), some (kI n), some (kI (bhS R x)), some (kI j)] [] G d K := by
    intro f
    induction f with
    | zero =>
      intro j x n hj x0 x1 n0 n1 he
      simp only [wkF] at he
      rw [← he] at hK
      refine A_iload dX2_sizeBehind_13 rfl ?_
      refine A_aload_n dX2_sizeBehind_15 rfl rfl ?_
      refine A_get (fi := 4) dX2_sizeBehind_16 fg_X2_30 rfl rfl (by assumption) ?_
      refine A_icmp_ge (tgt := 60) dX2_sizeBehind_19 (by decide) (fun c_19 => ?_) (fun c_19 => absurd c_19 (by omega))
      refine A_iload_n dX2_sizeBehind_60 rfl rfl ?_
      refine A_iret dX2_sizeBehind_61 rfl ?_
      exact hK
    | succ f ih =>
      intro j x n hj x0 x1 n0 n1 he
      simp only [wkF] at he
      obtain ⟨b1, b2, b3⟩ := bh_sp hW hD x0 x1
      have hbx := hb (bhS R x) b1.1 b1.2
      obtain ⟨y, hy⟩ : ∃ y : Nat, bhS R x = y := ⟨(bhS R x).toNat, by omega⟩
      rw [hy] at hbx he
      rw [hy]
      obtain ⟨ey, oy, -, -⟩ := hcar y (by omega)
      obtain ⟨d0, d1, d2⟩ := vc y (by omega)
      refine A_iload dX2_sizeBehind_13 rfl ?_
      refine A_aload_n dX2_sizeBehind_15 rfl rfl ?_
      refine A_get (fi := 4) dX2_sizeBehind_16 fg_X2_30 rfl rfl (by assumption) ?_
      refine A_icmp_ge (tgt := 60) dX2_sizeBehind_19 (by decide) (fun c_19 => absurd c_19 (by omega)) (fun c_19 => ?_)
      refine A_iload dX2_sizeBehind_22 rfl ?_
      refine A_iload_n dX2_sizeBehind_24 rfl rfl ?_
      refine A_icmp_eq (tgt := 60) dX2_sizeBehind_25 (by decide) (fun c_25 => ?_) (fun c_25 => ?_)
      · rw [if_neg (fun z => z.1 c_25)] at he
        rw [← he] at hK
        refine A_iload_n dX2_sizeBehind_60 rfl rfl ?_
        refine A_iret dX2_sizeBehind_61 rfl ?_
        exact hK
      · refine A_aload_n dX2_sizeBehind_28 rfl rfl ?_
        refine A_getR (fi := 7) dX2_sizeBehind_29 fg_X2_33 rfl rfl (by assumption) (by assumption) ?_
        refine A_iload dX2_sizeBehind_32 rfl ?_
        refine A_aald (t := 2) dX2_sizeBehind_34 (fun _ => rfl) (by decide) (by assumption) (by omega) (by omega) (by assumption) ?_
        refine A_get (fi := 2) dX2_sizeBehind_35 fg_X2_58 rfl rfl (by assumption) ?_
        refine A_iconst dX2_sizeBehind_38 ⟨by decide, by decide⟩ ?_
        refine A_icmp_gt (tgt := 60) dX2_sizeBehind_39 (by decide) (fun c_39 => ?_) (fun c_39 => ?_)
        · rw [d2] at c_39
          rw [if_neg (by omega)] at he
          rw [← he] at hK
          refine A_iload_n dX2_sizeBehind_60 rfl rfl ?_
          refine A_iret dX2_sizeBehind_61 rfl ?_
          exact hK
        · rw [d2] at c_39
          rw [if_pos ⟨c_25, by omega⟩] at he
          refine A_iinc_ok dX2_sizeBehind_42 rfl rfl (by omega) (by omega) ?_
          refine A_aload_n dX2_sizeBehind_45 rfl rfl ?_
          refine A_getR (fi := 3) dX2_sizeBehind_46 fg_X2_18 rfl rfl (by assumption) (by assumption) ?_
          refine A_iload dX2_sizeBehind_49 rfl ?_
          refine A_iald dX2_sizeBehind_51 (by assumption) (by omega) (by omega) ?_
          rw [hbx]
          refine A_istore dX2_sizeBehind_52 (Nat.le_of_ble_eq_true rfl) rfl ?_
          refine A_iinc_ok dX2_sizeBehind_54 rfl rfl (by omega) (by omega) ?_
          refine A_goto (tgt := 13) dX2_sizeBehind_57 (by decide) ?_
          exact ih (j + 1) y (n + 1) (by omega) (by omega) (by omega) (by omega) (by omega) he
  have hbc := hb c (by omega) hc
  refine AM.of rfl (Nat.le_of_ble_eq_true rfl) ?_
  refine A_iconst dX2_sizeBehind_0 ⟨by decide, by decide⟩ ?_
  refine A_istore_n dX2_sizeBehind_1 rfl (Nat.le_of_ble_eq_true rfl) rfl ?_
  refine A_aload_n dX2_sizeBehind_2 rfl rfl ?_
  refine A_getR (fi := 3) dX2_sizeBehind_3 fg_X2_18 rfl rfl (by assumption) (by assumption) ?_
  refine A_iload_n dX2_sizeBehind_6 rfl rfl ?_
  refine A_iald dX2_sizeBehind_7 (by assumption) (by omega) (by omega) ?_
  rw [hbc]
  refine A_istore dX2_sizeBehind_8 (Nat.le_of_ble_eq_true rfl) rfl ?_
  refine A_iconst dX2_sizeBehind_10 ⟨by decide, by decide⟩ ?_
  refine A_istore dX2_sizeBehind_11 (Nat.le_of_ble_eq_true rfl) rfl ?_
  exact loop N 0 c 1 (by omega) (by omega) hc (by omega) (by omega) rfl
theorem C_insertSkip {c : Nat} {many : Int} (h : many < 2) (hK : K none G d) : AM E mX2_insert k 0 0 [kR 4, kR A, kI c, kI many] G d K := by
  refine AM.of rfl (Nat.le_of_ble_eq_true rfl) ?_
  refine A_iload_n dX2_insert_0 rfl rfl ?_
  refine A_iconst dX2_insert_1 ⟨by decide, by decide⟩ ?_
  refine A_icmp_ge (tgt := 6) dX2_insert_2 (by decide) (fun c_2 => absurd c_2 (by omega)) (fun c_2 => ?_)
  refine A_vret dX2_insert_5 rfl ?_
  exact hK
theorem C_insert {c n : Nat} {many : Int} {P Q : Int → Prop} (hM : KO G) (hA : 20 ≤ A) (hG : RG G A) (hV : CG d A R) (hW : WG R) (hD : ND R) (hl : ∀ c, 0 ≤ c → c < R 2 → cfR R c 1 = 0 ∨ cfR R c 1 = 1) (hn : d 4 2 = n) (H : KS R P n (d 5) (d 6)) (hP : ∀ x, P x → 0 ≤ x ∧ x < R 2) (hc2 : (c : Int) < R 2) (hcP : ¬ P c) (hQ : ∀ x, Q x ↔ (P x ∨ x = c)) (hm2 : 2 ≤ many) (hm : many = szS R c) (hK : ∀ (d' : HD), (∀ a, a ≠ 4 → a ≠ 5 → a ≠ 6 → d' a = d a) → d' 4 2 = ((n + 1 : Nat) : Int) → KS R Q (n + 1) (d' 5) (d' 6) → K none G d') : AM E mX2_insert (k + 1) 0 0 [kR 4, kR A, kI c, kI many] G d K := by
  obtain ⟨ho, ⟨e7, a7⟩, -, -, -, -, -, -, -, hcar⟩ := id hG
  obtain ⟨oK, ⟨k0, i0⟩, ⟨k1, i1⟩, ⟨k3, i3⟩⟩ := id hM
  obtain ⟨w1, w2, w3, w4, w5⟩ := id hW
  have lt := KS_lt H hP (c := c) (by omega) hc2 hcP
  obtain ⟨b1, b2, b3⟩ := id H
  have wc := w5 c (by omega) hc2
  have lnc := hl c (by omega) hc2
  obtain ⟨ec, oc, -, -⟩ := hcar c (by omega)
  have car : ∀ i : Nat, i < n → (0 ≤ d 5 i ∧ d 5 i < R 2) ∧ kyS R (d 5 i) ≠ kyS R c := fun i hi => by
    have p := (b1 i hi).1
    have q := hP _ p
    exact ⟨q, fun z => hcP (by rw [← key_inj hD hl q.1 q.2 (by omega) hc2 z]; exact p)⟩
  have fin : ∀ (j : Nat), j ≤ n → ∀ (d' : HD), (∀ a, a ≠ 4 → a ≠ 5 → a ≠ 6 → d' a = d a) → d' 4 2 = n → (∀ i : Nat, i < j → d' 5 i = d 5 i ∧ d' 6 i = d 6 i) → (∀ i : Nat, j ≤ i → i < n → d' 5 ((i + 1 : Nat) : Int) = d 5 i ∧ d' 6 ((i + 1 : Nat) : Int) = d 6 i) → (∀ i : Nat, j ≤ i → i < n → kyS R c < kyS R (d 5 i)) → (∀ i : Nat, i < j → kyS R (d 5 i) < kyS R c) → AW E mX2_insert (k + 1) 0 0 81 [some (kR 4), some (kR A), some (kI c), some (kI many), some (kI j)] [] G d' K := by
    intro j hj d' hc' h20 lo hi hg hlo
    have v20 : ∀ u w, kU (kU d' 5 j u) 6 j w 4 2 = n := fun u w => by rw [kU_ne (by decide), kU_ne (by decide)]; exact h20
    refine A_aload_n dX2_insert_81 rfl rfl ?_
    refine A_getR (fi := 0) dX2_insert_82 fg_X2_9 rfl rfl (by assumption) (by assumption) ?_
    refine A_iload dX2_insert_85 rfl ?_
    refine A_iload_n dX2_insert_87 rfl rfl ?_
    refine A_iast dX2_insert_88 (by assumption) (by omega) (by omega) ?_
    refine A_aload_n dX2_insert_89 rfl rfl ?_
    refine A_getR (fi := 1) dX2_insert_90 fg_X2_15 rfl rfl (by assumption) (by assumption) ?_
    refine A_iload dX2_insert_93 rfl ?_
    refine A_iload_n dX2_insert_95 rfl rfl ?_
    refine A_iast dX2_insert_96 (by assumption) (by omega) (by omega) ?_
    refine A_aload_n dX2_insert_97 rfl rfl ?_
    refine A_dup dX2_insert_98 (fun B => toV_cat B _) ?_
    refine A_get (fi := 2) dX2_insert_99 fg_X2_21 rfl rfl (by assumption) ?_
    rw [v20]
    refine A_iconst dX2_insert_102 ⟨by decide, by decide⟩ ?_
    refine A_iadd_ok dX2_insert_103 (by omega) (by omega) ?_
    refine A_put (fi := 2) dX2_insert_104 fp_X2_21 rfl rfl (by assumption) ?_
    refine A_vret dX2_insert_107 rfl ?_
    refine hK _ (fun a q1 q2 q3 => by rw [kU_ne q1, kU_ne q3, kU_ne q2]; exact hc' a q1 q2 q3) (by rw [kU_s]; omega) ?_
    refine KS_ins H hj hlo hg (fun i hi' => ?_) ?_ (fun i i1 i2 => ?_) hQ
    · rw [kU_ne (by decide), kU_ne (by decide), kU_f (by omega), kU_ne (by decide), kU_f (by omega), kU_ne (by decide)]
      exact lo i hi'
    · rw [kU_ne (by decide), kU_ne (by decide), kU_s, kU_ne (by decide), kU_s]
      exact ⟨rfl, hm⟩
    · rw [kU_ne (by decide), kU_ne (by decide), kU_f (by omega), kU_ne (by decide), kU_f (by omega), kU_ne (by decide)]
      exact hi i i1 i2
  have loop : ∀ (j : Nat), j ≤ n → ∀ (d' : HD), (∀ a, a ≠ 4 → a ≠ 5 → a ≠ 6 → d' a = d a) → d' 4 2 = n → (∀ i : Nat, i < j → d' 5 i = d 5 i ∧ d' 6 i = d 6 i) → (∀ i : Nat, j ≤ i → i < n → d' 5 ((i + 1 : Nat) : Int) = d 5 i ∧ d' 6 ((i + 1 : Nat) : Int) = d 6 i) → (∀ i : Nat, j ≤ i → i < n → kyS R c < kyS R (d 5 i)) → AW E mX2_insert (k + 1) 0 0 12 [some (kR 4), some (kR A), some (kI c), some (kI many), some (kI j)] [] G d' K := by
    intro j
    induction j with
    | zero =>
      intro hj d' hc' h20 lo hi hg
      refine A_iload dX2_insert_12 rfl ?_
      refine A_if_le (tgt := 81) dX2_insert_14 (by decide) (fun c_14 => ?_) (fun c_14 => absurd c_14 (by omega))
      exact fin 0 hj d' hc' h20 lo hi hg (fun i hi' => by omega)
    | succ j ih =>
      intro hj d' hc' h20 lo hi hg
      have cj := car j (by omega)
      have v : d' 5 (((j + 1 : Nat) : Int) - 1) = d 5 j := by
        rw [show ((j + 1 : Nat) : Int) - 1 = j by omega]; exact (lo j (by omega)).1
      have v2 : d' 6 (((j + 1 : Nat) : Int) - 1) = d 6 j := by
        rw [show ((j + 1 : Nat) : Int) - 1 = j by omega]; exact (lo j (by omega)).2
      have v3 : ∀ u, kU d' 5 ((j + 1 : Nat) : Int) u 6 (((j + 1 : Nat) : Int) - 1) = d 6 j := fun u => by
        rw [kU_ne (by decide)]; exact v2
      have chh := w5 _ cj.1.1 cj.1.2
      have lh := hl _ cj.1.1 cj.1.2
      generalize hx : d 5 j = x at *
      obtain ⟨y, hy⟩ : ∃ y : Nat, x = y := ⟨x.toNat, by omega⟩
      subst hy
      obtain ⟨ey, oy, -, -⟩ := hcar y (by omega)
      have ky : kyS R y = 2 * cfR R y 0 + cfR R y 1 := rfl
      have kc : kyS R c = 2 * cfR R c 0 + cfR R c 1 := rfl
      have gc := (hV.2.2 c hc2)
      have gy := (hV.2.2 y (by omega))
      rw [← hc' (A + 9 + 2 * c) (by omega) (by omega) (by omega)] at gc
      rw [← hc' (A + 9 + 2 * y) (by omega) (by omega) (by omega)] at gy
      refine A_iload dX2_insert_12 rfl ?_
      refine A_if_le (tgt := 81) dX2_insert_14 (by decide) (fun c_14 => absurd c_14 (by omega)) (fun c_14 => ?_)
      refine A_aload_n dX2_insert_17 rfl rfl ?_
      refine A_getR (fi := 7) dX2_insert_18 fg_X2_33 rfl rfl (by assumption) (by assumption) ?_
      refine A_iload_n dX2_insert_21 rfl rfl ?_
      refine A_aald (t := 2) dX2_insert_22 (fun _ => rfl) (by decide) (by assumption) (by omega) (by omega) (by assumption) ?_
      refine A_aload_n dX2_insert_23 rfl rfl ?_
      refine A_getR (fi := 7) dX2_insert_24 fg_X2_33 rfl rfl (by assumption) (by assumption) ?_
      refine A_aload_n dX2_insert_27 rfl rfl ?_
      refine A_getR (fi := 0) dX2_insert_28 fg_X2_9 rfl rfl (by assumption) (by assumption) ?_
      refine A_iload dX2_insert_31 rfl ?_
      refine A_iconst dX2_insert_33 ⟨by decide, by decide⟩ ?_
      refine A_isub_ok dX2_insert_34 (by omega) (by omega) ?_
      refine A_iald dX2_insert_35 (by assumption) (by omega) (by omega) ?_
      rw [v]
      refine A_aald (t := 2) dX2_insert_36 (fun _ => rfl) (by decide) (by assumption) (by omega) (by omega) (by assumption) ?_
      refine A_ins2 dX2_insert_37 ms_X2_67 (Nat.le_of_ble_eq_true rfl) ?_
      refine C_comesAhead oc oy gc.1 gc.2.1 gy.1 gy.2.1 lnc lh ?_
      refine A_if_eq (tgt := 81) dX2_insert_40 (by decide) (fun c_40 => ?_) (fun c_40 => ?_)
      · have z := i01e c_40
        refine fin (j + 1) hj d' hc' h20 lo hi hg (fun i i1 => ?_)
        by_cases q : i = j
        · subst q; rw [hx]; omega
        · have := b2 i j (by omega) (by omega)
          rw [hx] at this
          omega
      · have z := i01n c_40
        refine A_aload_n dX2_insert_43 rfl rfl ?_
        refine A_getR (fi := 0) dX2_insert_44 fg_X2_9 rfl rfl (by assumption) (by assumption) ?_
        refine A_iload dX2_insert_47 rfl ?_
        refine A_aload_n dX2_insert_49 rfl rfl ?_
        refine A_getR (fi := 0) dX2_insert_50 fg_X2_9 rfl rfl (by assumption) (by assumption) ?_
        refine A_iload dX2_insert_53 rfl ?_
        refine A_iconst dX2_insert_55 ⟨by decide, by decide⟩ ?_
        refine A_isub_ok dX2_insert_56 (by omega) (by omega) ?_
        refine A_iald dX2_insert_57 (by assumption) (by omega) (by omega) ?_
        rw [v]
        refine A_iast dX2_insert_58 (by assumption) (by omega) (by omega) ?_
        refine A_aload_n dX2_insert_59 rfl rfl ?_
        refine A_getR (fi := 1) dX2_insert_60 fg_X2_15 rfl rfl (by assumption) (by assumption) ?_
        refine A_iload dX2_insert_63 rfl ?_
        refine A_aload_n dX2_insert_65 rfl rfl ?_
        refine A_getR (fi := 1) dX2_insert_66 fg_X2_15 rfl rfl (by assumption) (by assumption) ?_
        refine A_iload dX2_insert_69 rfl ?_
        refine A_iconst dX2_insert_71 ⟨by decide, by decide⟩ ?_
        refine A_isub_ok dX2_insert_72 (by omega) (by omega) ?_
        refine A_iald dX2_insert_73 (by assumption) (by omega) (by omega) ?_
        rw [v3]
        refine A_iast dX2_insert_74 (by assumption) (by omega) (by omega) ?_
        refine A_iinc_ok dX2_insert_75 rfl rfl (by omega) (by omega) ?_
        refine A_goto (tgt := 12) dX2_insert_78 (by decide) ?_
        rw [show ((j + 1 : Nat) : Int) + -1 = j by omega]
        refine ih (by omega) _ (fun a q1 q2 q3 => by rw [kU_ne q3, kU_ne q2]; exact hc' a q1 q2 q3) (by rw [kU_ne (by decide), kU_ne (by decide)]; exact h20) (fun i i1 => ?_) (fun i i1 i2 => ?_) (fun i i1 i2 => ?_)
        · rw [kU_ne (by decide), kU_f (by omega), kU_f (by omega), kU_ne (by decide)]
          exact lo i (by omega)
        · by_cases q : i = j
          · subst q
            rw [kU_ne (by decide), kU_s, kU_s, hx]
            exact ⟨rfl, rfl⟩
          · rw [kU_ne (by decide), kU_f (by omega), kU_f (by omega), kU_ne (by decide)]
            exact hi i (by omega) i2
        · by_cases q : i = j
          · subst q; rw [hx]; omega
          · exact hg i (by omega) i2
  refine AM.of rfl (Nat.le_of_ble_eq_true rfl) ?_
  refine A_iload_n dX2_insert_0 rfl rfl ?_
  refine A_iconst dX2_insert_1 ⟨by decide, by decide⟩ ?_
  refine A_icmp_ge (tgt := 6) dX2_insert_2 (by decide) (fun c_2 => ?_) (fun c_2 => absurd c_2 (by omega))
  refine A_aload_n dX2_insert_6 rfl rfl ?_
  refine A_get (fi := 2) dX2_insert_7 fg_X2_21 rfl rfl (by assumption) ?_
  rw [hn]
  refine A_istore dX2_insert_10 (Nat.le_of_ble_eq_true rfl) rfl ?_
  exact loop n (Nat.le_refl _) d (fun _ _ _ _ => rfl) hn (fun i hi => ⟨rfl, rfl⟩) (fun i i1 i2 => by omega) (fun i i1 i2 => by omega)
end CK
