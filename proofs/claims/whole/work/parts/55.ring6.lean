def gnR (R : Int → Int) (c : Int) : Int → Int := fU (fU (lpF R (cfR R c 0) (cfR R c 2) (R 6).toNat) (340 + 24 * c + 0) ((cfR R c 0 + cfR R c 2) % R 0)) (340 + 24 * c + 5) (cfR R c 5 + cfR R c 2)
section R6
variable {E : EE} {k A : Nat} {G : HG} {d : HD} {K : PQ} {R : Int → Int}
theorem C_goOnR {c : Nat} (hG : RG G A) (hV : CV d A R) (hW : WG R) (hL : WL R) (h5 : R 5 ≤ 4) (hc2 : (c : Int) < R 2) (hp : 0 ≤ cfR R c 2) (hp2 : cfR R c 2 ≤ 9) (hw : 0 ≤ cfR R c 5) (hw2 : cfR R c 5 ≤ 100000000) (hK : ∀ d', CM d d' A → CV d' A (gnR R c) → K none G d') : AM E mX4_goOn (k + 1) 0 0 [kR A, kR (A + 9 + 2 * c)] G d K := by
  obtain ⟨ho, ⟨e7, a7⟩, ⟨e8, a8⟩, ⟨e9, a9⟩, ⟨e10, a10⟩, ⟨e11, a11⟩, ⟨e12, a12⟩, ⟨e13, a13⟩, ⟨e14, a14⟩, hcar⟩ := id hG
  obtain ⟨w1, w2, w3, w4, w5⟩ := id hW
  obtain ⟨b1, b2, b3⟩ := id hL
  obtain ⟨ec, oc, -, -⟩ := hcar c (by omega)
  obtain ⟨N, hN⟩ : ∃ N : Nat, R 6 = N := ⟨(R 6).toNat, by omega⟩
  have wc := w5 c (by omega) hc2
  unfold gnR at hK
  rw [show (R 6).toNat = N by omega] at hK
  generalize hcell : cfR R c 0 = cell at *
  generalize hpace : cfR R c 2 = pace at *
  generalize hwent : cfR R c 5 = went at *
  have md : (cell + pace) % R 0 = if cell + pace < R 0 then cell + pace else cell + pace - R 0 := by
    split
    · exact Int.emod_eq_of_lt (by omega) (by omega)
    · rw [show cell + pace = (cell + pace - R 0) + R 0 * 1 by omega, Int.add_mul_emod_self_left, Int.emod_eq_of_lt (by omega) (by omega)]
      omega
  have loop : ∀ (f j : Nat), j + f = N → ∀ d', CM d d' A → CV d' A (lpF R cell pace j) → ∀ q3 : Option AV, AW E mX4_goOn (k + 1) 0 0 2 [some (kR A), some (kR (A + 9 + 2 * c)), some (kI j), q3] [] G d' K := by
    intro f
    induction f with
    | zero =>
      intro j hj d' hm hv q3
      have : j = N := by omega
      subst this
      obtain ⟨⟨v0, v1, v2, v3, v4, v5, v6⟩, vc, vb, vl⟩ := id hv
      rw [lpF_at j 0 (by omega)] at v0
      rw [lpF_at j 6 (by omega), hN] at v6
      have x : ∀ w, 0 ≤ w → w ≤ 8 → d' (A + 9 + 2 * c) w = cfR R c w := fun w y1 y2 => by
        rw [(vc c (by rw [lpF_at j 2 (by omega)]; exact hc2)).1 w y1 y2]
        exact lpF_at j _ (by omega)
      have x0 := x 0 (by omega) (by omega)
      have x2 := x 2 (by omega) (by omega)
      have x5 := x 5 (by omega) (by omega)
      rw [hcell] at x0
      rw [hpace] at x2
      rw [hwent] at x5
      have f5 : lpF R cell pace j 5 ≤ 4 := by rw [lpF_at j 5 (by omega)]; exact h5
      have f6 : lpF R cell pace j 6 ≤ 4 := by rw [lpF_at j 6 (by omega)]; exact b2
      have fin : ∀ x : Int, x = (cell + pace) % R 0 → ∀ q2 q3 : Option AV, AW E mX4_goOn (k + 1) 0 0 95 [some (kR A), some (kR (A + 9 + 2 * c)), q2, q3] [kI x, kR (A + 9 + 2 * c)] G d' K := by
        intro y hy q2 q3
        have y5 : kU d' (A + 9 + 2 * c) 0 y (A + 9 + 2 * c) 5 = went := by rw [kU_f (by decide)]; exact x5
        have y2 : kU d' (A + 9 + 2 * c) 0 y (A + 9 + 2 * c) 2 = pace := by rw [kU_f (by decide)]; exact x2
        refine A_put (fi := 0) dX4_goOn_95 fp_X4_80 rfl rfl (by assumption) ?_
        refine A_aload_n dX4_goOn_98 rfl rfl ?_
        refine A_dup dX4_goOn_99 (fun B => toV_cat B _) ?_
        refine A_get (fi := 5) dX4_goOn_100 fg_X4_90 rfl rfl (by assumption) ?_
        rw [y5]
        refine A_aload_n dX4_goOn_103 rfl rfl ?_
        refine A_get (fi := 2) dX4_goOn_104 fg_X4_83 rfl rfl (by assumption) ?_
        rw [y2]
        refine A_iadd_ok dX4_goOn_107 (by omega) (by omega) ?_
        refine A_put (fi := 5) dX4_goOn_108 fp_X4_90 rfl rfl (by assumption) ?_
        refine A_vret dX4_goOn_111 rfl ?_
        refine hK _ ((hm.u (by omega) (by omega)).u (by omega) (by omega)) ?_
        rw [← hy]
        have p1 := hv.w (c := c) (w := 0) (v := y) f5 f6 (by omega) (by omega)
        exact p1.w (c := c) (w := 5) (v := went + pace) (by rw [fU_n (by omega)]; exact f5) (by rw [fU_n (by omega)]; exact f6) (by omega) (by omega)
      refine A_iload_n dX4_goOn_2 rfl rfl ?_
      refine A_aload_n dX4_goOn_3 rfl rfl ?_
      refine A_get (fi := 6) dX4_goOn_4 fg_X4_30 rfl rfl (by assumption) ?_
      refine A_icmp_ge (tgt := 66) dX4_goOn_7 (by decide) (fun c_7 => ?_) (fun c_7 => absurd c_7 (by omega))
      refine A_aload_n dX4_goOn_66 rfl rfl ?_
      refine A_get (fi := 0) dX4_goOn_67 fg_X4_80 rfl rfl (by assumption) ?_
      rw [x0]
      refine A_aload_n dX4_goOn_70 rfl rfl ?_
      refine A_get (fi := 2) dX4_goOn_71 fg_X4_83 rfl rfl (by assumption) ?_
      rw [x2]
      refine A_iadd_ok dX4_goOn_74 (by omega) (by omega) ?_
      refine A_istore_n dX4_goOn_75 rfl (Nat.le_of_ble_eq_true rfl) rfl ?_
      refine A_aload_n dX4_goOn_76 rfl rfl ?_
      refine A_iload_n dX4_goOn_77 rfl rfl ?_
      refine A_aload_n dX4_goOn_78 rfl rfl ?_
      refine A_get (fi := 0) dX4_goOn_79 fg_X4_9 rfl rfl (by assumption) ?_
      rw [v0]
      refine A_icmp_lt (tgt := 94) dX4_goOn_82 (by decide) (fun c_82 => ?_) (fun c_82 => ?_)
      · refine A_iload_n dX4_goOn_94 rfl rfl ?_
        exact fin _ (by rw [md, if_pos c_82]) _ _
      · refine A_iload_n dX4_goOn_85 rfl rfl ?_
        refine A_aload_n dX4_goOn_86 rfl rfl ?_
        refine A_get (fi := 0) dX4_goOn_87 fg_X4_9 rfl rfl (by assumption) ?_
        rw [v0]
        refine A_isub_ok dX4_goOn_90 (by omega) (by omega) ?_
        refine A_goto (tgt := 95) dX4_goOn_91 (by decide) ?_
        exact fin _ (by rw [md, if_neg (by omega)]) _ _
    | succ f ih =>
      intro j hj d' hm hv q3
      have next := ih (j + 1) (by omega)
      obtain ⟨⟨v0, v1, v2, v3, v4, v5, v6⟩, vc, vb, vl⟩ := id hv
      rw [lpF_at j 0 (by omega)] at v0
      rw [lpF_at j 6 (by omega), hN] at v6
      have x : ∀ w, 0 ≤ w → w ≤ 8 → d' (A + 9 + 2 * c) w = cfR R c w := fun w y1 y2 => by
        rw [(vc c (by rw [lpF_at j 2 (by omega)]; exact hc2)).1 w y1 y2]
        exact lpF_at j _ (by omega)
      have x0 := x 0 (by omega) (by omega)
      have x2 := x 2 (by omega) (by omega)
      rw [hcell] at x0
      rw [hpace] at x2
      obtain ⟨l0, l1, l2⟩ := vl j (by omega) (by rw [lpF_at j 6 (by omega)]; omega)
      rw [lpF_at j _ (by omega)] at l0 l1 l2
      obtain ⟨y0, y1, y2⟩ := b3 j (by omega) (by omega)
      have f5 : lpF R cell pace j 5 ≤ 4 := by rw [lpF_at j 5 (by omega)]; exact h5
      have f6 : lpF R cell pace j 6 ≤ 4 := by rw [lpF_at j 6 (by omega)]; exact b2
      have f6' : (j : Int) < lpF R cell pace j 6 := by rw [lpF_at j 6 (by omega)]; omega
      have l2' : ∀ u, kU d' (A + 7) j u (A + 8) j = R (22 + 3 * j + 2) := fun u => by rw [kU_ne (by omega)]; exact l2
      have x2' : ∀ u, kU d' (A + 7) j u (A + 9 + 2 * c) 2 = pace := fun u => by rw [kU_ne (by omega)]; exact x2
      refine A_iload_n dX4_goOn_2 rfl rfl ?_
      refine A_aload_n dX4_goOn_3 rfl rfl ?_
      refine A_get (fi := 6) dX4_goOn_4 fg_X4_30 rfl rfl (by assumption) ?_
      refine A_icmp_ge (tgt := 66) dX4_goOn_7 (by decide) (fun c_7 => absurd c_7 (by omega)) (fun c_7 => ?_)
      refine A_aload_n dX4_goOn_10 rfl rfl ?_
      refine A_aload_n dX4_goOn_11 rfl rfl ?_
      refine A_get (fi := 0) dX4_goOn_12 fg_X4_80 rfl rfl (by assumption) ?_
      refine A_aload_n dX4_goOn_15 rfl rfl ?_
      refine A_getR (fi := 12) dX4_goOn_16 fg_X4_55 rfl rfl (by assumption) (by assumption) ?_
      refine A_iload_n dX4_goOn_19 rfl rfl ?_
      refine A_iald dX4_goOn_20 (by assumption) (by omega) (by omega) ?_
      refine A_inv2 dX4_goOn_21 mv_X4_93 kCl_4 (Nat.le_of_ble_eq_true rfl) (by assumption) ?_
      rw [x0, l0]
      refine C_cellsOn hG v0 w1 w2 wc.1 wc.2 y0.1 y0.2 ?_
      refine A_istore_n dX4_goOn_24 rfl (Nat.le_of_ble_eq_true rfl) rfl ?_
      refine A_iload_n dX4_goOn_25 rfl rfl ?_
      refine A_if_le (tgt := 60) dX4_goOn_26 (by decide) (fun c_26 => ?_) (fun c_26 => ?_)
      · refine A_iinc_ok dX4_goOn_60 rfl rfl (by omega) (by omega) ?_
        refine A_goto (tgt := 2) dX4_goOn_63 (by decide) ?_
        have e : lpF R cell pace (j + 1) = lpF R cell pace j := by simp only [lpF]; rw [if_neg (by omega)]
        rw [e] at next
        exact next d' hm hv _
      · refine A_iload_n dX4_goOn_29 rfl rfl ?_
        refine A_aload_n dX4_goOn_30 rfl rfl ?_
        refine A_get (fi := 2) dX4_goOn_31 fg_X4_83 rfl rfl (by assumption) ?_
        rw [x2]
        refine A_icmp_gt (tgt := 60) dX4_goOn_34 (by decide) (fun c_34 => ?_) (fun c_34 => ?_)
        · refine A_iinc_ok dX4_goOn_60 rfl rfl (by omega) (by omega) ?_
          refine A_goto (tgt := 2) dX4_goOn_63 (by decide) ?_
          have e : lpF R cell pace (j + 1) = lpF R cell pace j := by simp only [lpF]; rw [if_neg (by omega)]
          rw [e] at next
          exact next d' hm hv _
        · refine A_aload_n dX4_goOn_37 rfl rfl ?_
          refine A_getR (fi := 13) dX4_goOn_38 fg_X4_58 rfl rfl (by assumption) (by assumption) ?_
          refine A_iload_n dX4_goOn_41 rfl rfl ?_
          refine A_dup2 dX4_goOn_42 (fun B => toV_cat B _) (fun B => toV_cat B _) ?_
          refine A_iald dX4_goOn_43 (by assumption) (by omega) (by omega) ?_
          rw [l1]
          refine A_iconst dX4_goOn_44 ⟨by decide, by decide⟩ ?_
          refine A_iadd_ok dX4_goOn_45 (by omega) (by omega) ?_
          refine A_iast dX4_goOn_46 (by assumption) (by omega) (by omega) ?_
          refine A_aload_n dX4_goOn_47 rfl rfl ?_
          refine A_getR (fi := 14) dX4_goOn_48 fg_X4_61 rfl rfl (by assumption) (by assumption) ?_
          refine A_iload_n dX4_goOn_51 rfl rfl ?_
          refine A_dup2 dX4_goOn_52 (fun B => toV_cat B _) (fun B => toV_cat B _) ?_
          refine A_iald dX4_goOn_53 (by assumption) (by omega) (by omega) ?_
          rw [l2']
          refine A_aload_n dX4_goOn_54 rfl rfl ?_
          refine A_get (fi := 2) dX4_goOn_55 fg_X4_83 rfl rfl (by assumption) ?_
          rw [x2']
          refine A_iadd_ok dX4_goOn_58 (by omega) (by omega) ?_
          refine A_iast dX4_goOn_59 (by assumption) (by omega) (by omega) ?_
          refine A_iinc_ok dX4_goOn_60 rfl rfl (by omega) (by omega) ?_
          refine A_goto (tgt := 2) dX4_goOn_63 (by decide) ?_
          have e : lpF R cell pace (j + 1) = fU (fU (lpF R cell pace j) (22 + 3 * j + 1) (R (22 + 3 * j + 1) + 1)) (22 + 3 * j + 2) (R (22 + 3 * j + 2) + pace) := by simp only [lpF]; rw [if_pos (by omega)]
          rw [e] at next
          refine next _ ((hm.u (by omega) (by omega)).u (by omega) (by omega)) ?_ _
          have p1 := hv.l1 (b := j) (v := R (22 + 3 * j + 1) + 1) (by omega) f6' f6 f5
          exact p1.l2 (b := j) (v := R (22 + 3 * j + 2) + pace) (by omega) (by rw [fU_n (by omega)]; exact f6') (by rw [fU_n (by omega)]; exact f6) (by rw [fU_n (by omega)]; exact f5)
  refine AM.of rfl (Nat.le_of_ble_eq_true rfl) ?_
  refine A_iconst dX4_goOn_0 ⟨by decide, by decide⟩ ?_
  refine A_istore_n dX4_goOn_1 rfl (Nat.le_of_ble_eq_true rfl) rfl ?_
  exact loop N 0 (by omega) d CM.rf hV none
end R6
