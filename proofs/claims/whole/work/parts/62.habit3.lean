def pcS (d : HD) (H : Nat) (x v : Int) : Int := if d (H + 6) x = 43 then v + d (H + 7) x else if d (H + 6) x = 45 then v - d (H + 7) x else d (H + 7) x
/-- the object H goes by the text of habit h -/
def HB (G : HG) (d : HD) (H : Nat) (R : Int → Int) (h : Int) : Prop := ∃ N C : Nat, HO G d H N C ∧ (C : Int) = R (37 + h) ∧ (∀ i : Int, 0 ≤ i → i < C → 0 ≤ d (H + 7) i ∧ d (H + 7) i ≤ 9) ∧ ∀ g dd oo v, 0 ≤ v → v ≤ 9 → chA d H N g dd oo v = (clS R h g dd oo v).1 ∧ (0 ≤ chA d H N g dd oo v → chA d H N g dd oo v < C ∧ pcS d H (chA d H N g dd oo v) v = (clS R h g dd oo v).2.1 ∧ (if d (H + 8) (chA d H N g dd oo v) = 1 then 1 else 0) = (clS R h g dd oo v).2.2) ∧ (chA d H N g dd oo v < 0 → (clS R h g dd oo v).2.1 = v ∧ (clS R h g dd oo v).2.2 = 0)
section H3
variable {E : EE} {k H N C A : Nat} {G : HG} {d : HD} {K : PQ} {R : Int → Int}
theorem C_paceBy {x v : Int} (hH : HO G d H N C) (hx : 0 ≤ x) (hx2 : x < C) (hv : 0 ≤ v) (hv2 : v ≤ 9) (hd : 0 ≤ d (H + 7) x ∧ d (H + 7) x ≤ 9) (hK : K (some (kI (pcS d H x v))) G d) : AM E mX1_paceBy k 0 0 [kR H, kI x, kI v] G d K := by
  obtain ⟨⟨ho, h0, hN, hC⟩, ⟨e1, a1⟩, ⟨e2, a2⟩, ⟨e3, a3⟩, ⟨e4, a4⟩, ⟨e5, a5⟩, ⟨e6, a6⟩, ⟨e7, a7⟩, ⟨e8, a8⟩⟩ := id hH
  unfold pcS at hK
  refine AM.of rfl (Nat.le_of_ble_eq_true rfl) ?_
  refine A_aload_n dX1_paceBy_0 rfl rfl ?_
  refine A_getR (fi := 6) dX1_paceBy_1 fg_X1_51 rfl rfl (by assumption) (by assumption) ?_
  refine A_iload_n dX1_paceBy_4 rfl rfl ?_
  refine A_iald dX1_paceBy_5 (by assumption) (by omega) (by omega) ?_
  -- switch at 6: .lookupswitch 44 #[(43, 26), (45, 35)]
  by_cases q1 : d (H + 6) x = 43
  · refine A_lsw (tgt := 32) (off := 26) dX1_paceBy_6 rfl (by rw [q1]; rfl) (by decide) ?_
    rw [if_pos q1] at hK
    refine A_iload_n dX1_paceBy_32 rfl rfl ?_
    refine A_aload_n dX1_paceBy_33 rfl rfl ?_
    refine A_getR (fi := 7) dX1_paceBy_34 fg_X1_55 rfl rfl (by assumption) (by assumption) ?_
    refine A_iload_n dX1_paceBy_37 rfl rfl ?_
    refine A_iald dX1_paceBy_38 (by assumption) (by omega) (by omega) ?_
    refine A_iadd_ok dX1_paceBy_39 (by omega) (by omega) ?_
    refine A_iret dX1_paceBy_40 rfl ?_
    exact hK
  · by_cases q2 : d (H + 6) x = 45
    · refine A_lsw (tgt := 41) (off := 35) dX1_paceBy_6 rfl (by rw [q2]; rfl) (by decide) ?_
      rw [if_neg q1, if_pos q2] at hK
      refine A_iload_n dX1_paceBy_41 rfl rfl ?_
      refine A_aload_n dX1_paceBy_42 rfl rfl ?_
      refine A_getR (fi := 7) dX1_paceBy_43 fg_X1_55 rfl rfl (by assumption) (by assumption) ?_
      refine A_iload_n dX1_paceBy_46 rfl rfl ?_
      refine A_iald dX1_paceBy_47 (by assumption) (by omega) (by omega) ?_
      refine A_isub_ok dX1_paceBy_48 (by omega) (by omega) ?_
      refine A_iret dX1_paceBy_49 rfl ?_
      exact hK
    · refine A_lsw (tgt := 50) (off := 44) dX1_paceBy_6 rfl (by
        simp only [Op.lookupswitch.offset]
        rw [if_neg (fun z => q1 z.symm), if_neg (fun z => q2 z.symm)]) (by decide) ?_
      rw [if_neg q1, if_neg q2] at hK
      refine A_aload_n dX1_paceBy_50 rfl rfl ?_
      refine A_getR (fi := 7) dX1_paceBy_51 fg_X1_55 rfl rfl (by assumption) (by assumption) ?_
      refine A_iload_n dX1_paceBy_54 rfl rfl ?_
      refine A_iald dX1_paceBy_55 (by assumption) (by omega) (by omega) ?_
      refine A_iret dX1_paceBy_56 rfl ?_
      exact hK
theorem C_changesBy {x : Int} (hH : HO G d H N C) (hx : 0 ≤ x) (hx2 : x < C) (hK : K (some (kI (if d (H + 8) x = 1 then 1 else 0))) G d) : AM E mX1_changesBy k 0 0 [kR H, kI x] G d K := by
  obtain ⟨⟨ho, h0, hN, hC⟩, ⟨e1, a1⟩, ⟨e2, a2⟩, ⟨e3, a3⟩, ⟨e4, a4⟩, ⟨e5, a5⟩, ⟨e6, a6⟩, ⟨e7, a7⟩, ⟨e8, a8⟩⟩ := id hH
  refine AM.of rfl (Nat.le_of_ble_eq_true rfl) ?_
  refine A_aload_n dX1_changesBy_0 rfl rfl ?_
  refine A_getR (fi := 8) dX1_changesBy_1 fg_X1_59 rfl rfl (by assumption) (by assumption) ?_
  refine A_iload_n dX1_changesBy_4 rfl rfl ?_
  refine A_iald dX1_changesBy_5 (by assumption) (by omega) (by omega) ?_
  refine A_iconst dX1_changesBy_6 ⟨by decide, by decide⟩ ?_
  refine A_icmp_ne (tgt := 14) dX1_changesBy_7 (by decide) (fun c_7 => ?_) (fun c_7 => ?_)
  · rw [if_neg (by omega)] at hK
    refine A_iconst dX1_changesBy_14 ⟨by decide, by decide⟩ ?_
    refine A_zret dX1_changesBy_15 rfl (by first | exact Or.inl rfl | exact Or.inr rfl | assumption | omega) ?_
    exact hK
  · rw [if_pos (by omega)] at hK
    refine A_iconst dX1_changesBy_10 ⟨by decide, by decide⟩ ?_
    refine A_goto (tgt := 15) dX1_changesBy_11 (by decide) ?_
    refine A_zret dX1_changesBy_15 rfl (by first | exact Or.inl rfl | exact Or.inr rfl | assumption | omega) ?_
    exact hK
theorem C_decideC {c : Nat} (hG : RG G A) (hV : CV d A R) (h2 : R 2 ≤ 12) (hc2 : (c : Int) < R 2) (h8 : 1 ≤ cfR R c 8) (h82 : cfR R c 8 ≤ 1000000) (h4 : 0 ≤ cfR R c 4) (h42 : cfR R c 4 ≤ 3) (hv : 0 ≤ cfR R c 2) (hv2 : cfR R c 2 ≤ 9) (hB : HB G d H R (cfR R c 3)) (hH : H < A ∨ A + 33 ≤ H) (hK : K none G (kU (kU d (A + 9 + 2 * c) 14 (decS R c).2.1) (A + 9 + 2 * c) 15 (decS R c).2.2)) : AM E mX0_decide (k + 2) 0 0 [kR (A + 9 + 2 * c), kR H] G d K := by
  obtain ⟨N, C, hO, hC, hdg, hch⟩ := hB
  obtain ⟨ho, ⟨e7, a7⟩, -, -, -, -, -, -, -, hcar⟩ := id hG
  obtain ⟨ec, oc, en, an⟩ := hcar c (by omega)
  have oH := hO.1.1
  have x8 := (hV.2.1 c hc2).1 8 (by omega) (by omega)
  have x4 := (hV.2.1 c hc2).1 4 (by omega) (by omega)
  have x2 := (hV.2.1 c hc2).1 2 (by omega) (by omega)
  obtain ⟨s, hs⟩ : ∃ s : Int, s = (if cfR R c 4 < cfR R c 8 then cfR R c 4 else cfR R c 8 - 1) := ⟨_, rfl⟩
  have s0 : 0 ≤ s ∧ s ≤ 3 ∧ s < cfR R c 8 ∧ max (cfR R c 8 - 1 - cfR R c 4) 0 = cfR R c 8 - 1 - s := by
    by_cases q : cfR R c 4 < cfR R c 8
    · rw [if_pos q] at hs; omega
    · rw [if_neg q] at hs; omega
  have es : seeS R c = 340 + 24 * c + 9 + 3 * s := by unfold seeS; rw [hs]
  have nt : ∀ q, 0 ≤ q → q < 3 → d (A + 10 + 2 * c) ((cfR R c 8 - 1 - s) % 4 * 3 + q) = R (seeS R c + q) := fun q q1 q2 => by
    have := (hV.2.1 c hc2).2 s q (by omega) (by omega) (by omega) (by omega) (by omega)
    rw [show (cfR R c 8 - 1 - s) % 4 * 3 + q = 3 * ((cfR R c 8 - 1 - s) % 4) + q by omega, this, es]
    unfold cfR
    congr 1
    omega
  have n0 := nt 0 (by omega) (by omega)
  have n1 := nt 1 (by omega) (by omega)
  have n2 := nt 2 (by omega) (by omega)
  rw [show (cfR R c 8 - 1 - s) % 4 * 3 + 0 = (cfR R c 8 - 1 - s) % 4 * 3 by omega, show seeS R c + 0 = seeS R c by omega] at n0
  have r0 := Int.emod_nonneg (cfR R c 8 - 1 - s) (show (4 : Int) ≠ 0 by decide)
  have r1 := Int.emod_lt_of_pos (cfR R c 8 - 1 - s) (show (0 : Int) < 4 by decide)
  obtain ⟨c1, c2, c3⟩ := hch (R (seeS R c)) (R (seeS R c + 1)) (R (seeS R c + 2)) (cfR R c 2) hv hv2
  have dS : decS R c = clS R (cfR R c 3) (R (seeS R c)) (R (seeS R c + 1)) (R (seeS R c + 2)) (cfR R c 2) := rfl
  rw [← dS] at c1 c2 c3
  refine AM.of rfl (Nat.le_of_ble_eq_true rfl) ?_
  refine A_aload_n dX0_decide_0 rfl rfl ?_
  refine A_get (fi := 8) dX0_decide_1 fg_X0_39 rfl rfl (by assumption) ?_
  rw [x8]
  refine A_iconst dX0_decide_4 ⟨by decide, by decide⟩ ?_
  refine A_isub_ok dX0_decide_5 (by omega) (by omega) ?_
  refine A_aload_n dX0_decide_6 rfl rfl ?_
  refine A_get (fi := 4) dX0_decide_7 fg_X0_26 rfl rfl (by assumption) ?_
  rw [x4]
  refine A_isub_ok dX0_decide_10 (by omega) (by omega) ?_
  refine A_iconst dX0_decide_11 ⟨by decide, by decide⟩ ?_
  refine A_max dX0_decide_12 lk_X0_61 ow_maxs it_J9 ow_maxc (Nat.le_of_ble_eq_true rfl) ?_
  refine A_ins1 dX0_decide_15 ms_X0_48 (Nat.le_of_ble_eq_true rfl) ?_
  rw [s0.2.2.2]
  refine C_placeOf (by omega) (by omega) ?_
  generalize (cfR R c 8 - 1 - s) % 4 = mm at *
  refine A_istore_n dX0_decide_18 rfl (Nat.le_of_ble_eq_true rfl) rfl ?_
  refine A_aload_n dX0_decide_19 rfl rfl ?_
  refine A_aload_n dX0_decide_20 rfl rfl ?_
  refine A_getR (fi := 9) dX0_decide_21 fg_X0_9 rfl rfl (by assumption) (by assumption) ?_
  refine A_iload_n dX0_decide_24 rfl rfl ?_
  refine A_iald dX0_decide_25 (by assumption) (by omega) (by omega) ?_
  refine A_aload_n dX0_decide_26 rfl rfl ?_
  refine A_getR (fi := 9) dX0_decide_27 fg_X0_9 rfl rfl (by assumption) (by assumption) ?_
  refine A_iload_n dX0_decide_30 rfl rfl ?_
  refine A_iconst dX0_decide_31 ⟨by decide, by decide⟩ ?_
  refine A_iadd_ok dX0_decide_32 (by omega) (by omega) ?_
  refine A_iald dX0_decide_33 (by assumption) (by omega) (by omega) ?_
  refine A_aload_n dX0_decide_34 rfl rfl ?_
  refine A_getR (fi := 9) dX0_decide_35 fg_X0_9 rfl rfl (by assumption) (by assumption) ?_
  refine A_iload_n dX0_decide_38 rfl rfl ?_
  refine A_iconst dX0_decide_39 ⟨by decide, by decide⟩ ?_
  refine A_iadd_ok dX0_decide_40 (by omega) (by omega) ?_
  refine A_iald dX0_decide_41 (by assumption) (by omega) (by omega) ?_
  refine A_aload_n dX0_decide_42 rfl rfl ?_
  refine A_get (fi := 2) dX0_decide_43 fg_X0_20 rfl rfl (by assumption) ?_
  refine A_inv4 dX0_decide_46 mv_X0_67 kCl_1 (Nat.le_of_ble_eq_true rfl) (by assumption) ?_
  rw [n0, n1, n2, x2]
  refine C_clauseFor hO ?_
  generalize chA d H N (R (seeS R c)) (R (seeS R c + 1)) (R (seeS R c + 2)) (cfR R c 2) = x at *
  have tail : ∀ w : Int, w = (decS R c).2.1 → AW E mX0_decide (k + 2) 0 0 71 [some (kR (A + 9 + 2 * c)), some (kR H), some (kI (mm * 3)), some (kI x)] [kI w, kR (A + 9 + 2 * c)] G d K := by
    intro w hw
    have hO' : HO G (kU d (A + 9 + 2 * c) 14 w) H N C := by
      obtain ⟨⟨ho, h0, hN, hC⟩, hr⟩ := id hO
      exact ⟨⟨ho, by rw [kU_ne (by omega)]; exact h0, hN, hC⟩, hr⟩
    have st : ∀ z : Int, z = (decS R c).2.2 → (z = 0 ∨ z = 1) → AW E mX0_decide (k + 2) 0 0 92 [some (kR (A + 9 + 2 * c)), some (kR H), some (kI (mm * 3)), some (kI x)] [kI z, kR (A + 9 + 2 * c)] G (kU d (A + 9 + 2 * c) 14 w) K := by
      intro z hz hz1
      refine A_putZ (fi := 15) dX0_decide_92 fp_X0_83 rfl rfl (by assumption) (by first | exact Or.inl rfl | exact Or.inr rfl | assumption | omega) ?_
      refine A_vret dX0_decide_95 rfl ?_
      rw [hw, hz]
      exact hK
    refine A_put (fi := 14) dX0_decide_71 fp_X0_76 rfl rfl (by assumption) ?_
    refine A_aload_n dX0_decide_74 rfl rfl ?_
    refine A_iload_n dX0_decide_75 rfl rfl ?_
    refine A_if_lt (tgt := 91) dX0_decide_76 (by decide) (fun c_76 => ?_) (fun c_76 => ?_)
    · refine A_iconst dX0_decide_91 ⟨by decide, by decide⟩ ?_
      exact st 0 (by rw [(c3 (by omega)).2]) (Or.inl rfl)
    · refine A_aload_n dX0_decide_79 rfl rfl ?_
      refine A_iload_n dX0_decide_80 rfl rfl ?_
      refine A_inv1 dX0_decide_81 mv_X0_79 kCl_1 (Nat.le_of_ble_eq_true rfl) (by assumption) ?_
      refine C_changesBy hO' (by omega) (by omega) ?_
      have e8 : kU d (A + 9 + 2 * c) 14 w (H + 8) x = d (H + 8) x := by rw [kU_ne (by omega)]
      rw [e8]
      have cc := (c2 (by omega)).2.2
      refine A_if_eq (tgt := 91) dX0_decide_84 (by decide) (fun c_84 => ?_) (fun c_84 => ?_)
      · refine A_iconst dX0_decide_91 ⟨by decide, by decide⟩ ?_
        exact st 0 (by rw [← cc]; exact c_84.symm) (Or.inl rfl)
      · refine A_iconst dX0_decide_87 ⟨by decide, by decide⟩ ?_
        refine A_goto (tgt := 92) dX0_decide_88 (by decide) ?_
        refine st 1 ?_ (Or.inr rfl)
        rw [← cc]
        split
        · rfl
        · rename_i q; rw [if_neg q] at c_84; exact absurd rfl c_84
  refine A_istore_n dX0_decide_49 rfl (Nat.le_of_ble_eq_true rfl) rfl ?_
  refine A_aload_n dX0_decide_50 rfl rfl ?_
  refine A_iload_n dX0_decide_51 rfl rfl ?_
  refine A_if_ge (tgt := 62) dX0_decide_52 (by decide) (fun c_52 => ?_) (fun c_52 => ?_)
  · have q2 := c2 c_52
    have dg := hdg x c_52 (by omega)
    refine A_aload_n dX0_decide_62 rfl rfl ?_
    refine A_iload_n dX0_decide_63 rfl rfl ?_
    refine A_aload_n dX0_decide_64 rfl rfl ?_
    refine A_get (fi := 2) dX0_decide_65 fg_X0_20 rfl rfl (by assumption) ?_
    refine A_inv2 dX0_decide_68 mv_X0_73 kCl_1 (Nat.le_of_ble_eq_true rfl) (by assumption) ?_
    rw [x2]
    refine C_paceBy hO c_52 (by omega) hv hv2 dg ?_
    rw [q2.2.1]
    exact tail _ rfl
  · refine A_aload_n dX0_decide_55 rfl rfl ?_
    refine A_get (fi := 2) dX0_decide_56 fg_X0_20 rfl rfl (by assumption) ?_
    refine A_goto (tgt := 71) dX0_decide_59 (by decide) ?_
    rw [x2]
    exact tail _ (c3 (by omega)).1.symm
end H3
