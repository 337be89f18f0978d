section T3
variable {E : EE} {k A : Nat} {G : HG} {d : HD} {K : PQ} {R : Int → Int}
theorem C_tickR {B : Int} (hG : RG G A) (hV : CV d A R) (hS : HS G d A R) (hW : WR R B) (hB : 0 ≤ B) (hB2 : B ≤ 200000) (hK : ∀ d', CM d d' A → CV d' A (tickR R) → K none G d') : AM E mX4_tick (k + 3) 0 0 [kR A] G d K := by
  obtain ⟨ho, ⟨e7, a7⟩, ⟨e8, a8⟩, -, -, -, -, -, -, hcar⟩ := id hG
  obtain ⟨w0, w1, w2, w3, wc, wb, wp, wv, wd⟩ := id hW
  obtain ⟨N, hN⟩ : ∃ N : Nat, R 2 = N := ⟨(R 2).toNat, by omega⟩
  have eN : (R 2).toNat = N := by omega
  have hp : ∀ c, 0 ≤ c → c < R 2 → 0 ≤ cfR R c 2 ∧ cfR R c 2 ≤ 9 := fun c c1 c2 => (wc c c1 c2).2.2.1
  have W1 := tk1_W hW
  obtain ⟨W2, W2c, W2d⟩ := tk2_W hW
  have t1 : ∀ j, j < 340 → tk1 R j = R j := fun j hj => ntF_at _ j (by omega)
  have t2 : ∀ j, j < 340 → tk2 R j = R j := fun j hj => tk2_at (by omega)
  have tw : ∀ c, 0 ≤ c → c < R 2 → 0 ≤ tkW R c ∧ tkW R c ≤ 9 := fun c c1 c2 => ⟨(tkW_rg hW c1 c2).1, (tkW_rg hW c1 c2).2.1⟩
  have q1 : 0 ≤ tk2 R 6 := by rw [t2 6 (by omega)]; exact wp.1
  have q2 : tk2 R 6 ≤ 4 := by rw [t2 6 (by omega)]; exact wp.2.1
  have W3 := tk3_W hW hB
  have s5 : ∀ (f j : Nat), j + f = N → ∀ d', CM d d' A → CV d' A (seF (goF (tk2 R) (tkW R) j) (tkW R) j N) → AW E mX4_tick (k + 3) 0 0 103 [some (kR A), some (kI j)] [] G d' K := by
    intro f
    induction f with
    | zero =>
      intro j hj d' hm hv
      have : j = N := by omega
      subst this
      have et : seF (goF (tk2 R) (tkW R) j) (tkW R) j j = tk3 R := by
        funext i
        unfold seF tk3
        rw [if_neg (by omega), if_neg (by omega), eN]
      rw [et] at hv
      have f2 : tk3 R 2 = R 2 := tk3_e hW (by omega)
      have f3 : tk3 R 3 = R 3 := tk3_e hW (by omega)
      have v4 := hv.1.2.2.2.2.1
      rw [f2, hN] at v4
      have v2 := hv.1.2.2.1
      have hv' := hv.h (i := 2) (q := 3) (v := tk3 R 3 + 1) (Or.inr (Or.inl ⟨rfl, rfl⟩))
      have c2 : ∀ c, 0 ≤ c → cfR (fU (tk3 R) 3 (tk3 R 3 + 1)) c 2 = cfR (tk3 R) c 2 := fun c c1 => by unfold cfR; rw [fU_n (by omega)]
      refine A_iload_n dX4_tick_103 rfl rfl ?_
      refine A_aload_n dX4_tick_104 rfl rfl ?_
      refine A_get (fi := 4) dX4_tick_105 fg_X4_24 rfl rfl (by assumption) ?_
      refine A_icmp_ge (tgt := 127) dX4_tick_108 (by decide) (fun c_108 => ?_) (fun c_108 => absurd c_108 (by omega))
      refine A_aload_n dX4_tick_127 rfl rfl ?_
      refine A_dup dX4_tick_128 (fun B => toV_cat B _) ?_
      refine A_get (fi := 2) dX4_tick_129 fg_X4_18 rfl rfl (by assumption) ?_
      refine A_iconst dX4_tick_132 ⟨by decide, by decide⟩ ?_
      refine A_iadd_ok dX4_tick_133 (by omega) (by omega) ?_
      refine A_put (fi := 2) dX4_tick_134 fp_X4_18 rfl rfl (by assumption) ?_
      refine A_aload_n dX4_tick_137 rfl rfl ?_
      refine A_inv0 dX4_tick_138 mv_X4_143 kCl_4 (Nat.le_of_ble_eq_true rfl) (by assumption) ?_
      rw [v2]
      refine C_markFirst hG hv' (by rw [fU_n (by omega), f2]; omega) (by rw [fU_n (by omega), f2]; omega) (fun c c1 c3 => by rw [fU_n (by omega)] at c3; rw [c2 c c1]; exact (W3.2.2.2.2.1 c c1 c3).2.2.1) (fun d2 m2 p2 => ?_)
      refine A_vret dX4_tick_141 rfl ?_
      exact hK _ ((hm.u (by omega) (by omega)).tr m2) p2
    | succ f ih =>
      intro j hj d' hm hv
      generalize hX : goF (tk2 R) (tkW R) j = X at *
      have g0 : ∀ i, i < 22 → X i = R i := fun i hi => by rw [← hX, goF_at j i (by omega) q1 q2]; exact t2 i (by omega)
      have gg := goF_WG (w := tkW R) W2 q1 q2 j (tkW R j)
      have gl : WL (fU (goF (tk2 R) (tkW R) j) (340 + 24 * j + 2) (tkW R j)) := by
        refine goF_WL (B := B) (by rw [t2 2 (by omega)]; omega) ?_ hB2 (fun c c1 c2 => tw c c1 (by rw [t2 2 (by omega)] at c2; exact c2)) j (by rw [t2 2 (by omega)]; omega) _
        obtain ⟨p1, p2, p3⟩ := wp
        refine ⟨q1, q2, fun b b1 b2 => ?_⟩
        rw [t2 6 (by omega)] at b2
        rw [t2 0 (by omega), t2 _ (by omega), t2 _ (by omega), t2 _ (by omega)]
        exact p3 b b1 b2
      rw [hX] at gg gl
      have es : ∀ i, (i < 340 ∨ ((i - 340) % 24 ≠ 2 ∧ (i - 340) % 24 ≠ 7)) → seF X (tkW R) j N i = fU X (340 + 24 * (j : Int) + 2) (tkW R j) i := fun i hi => by rw [seF_lo (by omega), fU_n (by omega)]
      have sG : WG (seF X (tkW R) j N) := by
        obtain ⟨x1, x2, x3, x4, x5⟩ := gg
        refine ⟨by rw [es 0 (by omega)]; exact x1, by rw [es 0 (by omega)]; exact x2, by rw [es 2 (by omega)]; exact x3, by rw [es 2 (by omega)]; exact x4, fun c c1 c2 => ?_⟩
        rw [es 2 (by omega)] at c2
        rw [es 0 (by omega), show cfR (seF X (tkW R) j N) c 0 = cfR (fU X (340 + 24 * (j : Int) + 2) (tkW R j)) c 0 from es _ (by omega)]
        exact x5 c c1 c2
      have sL : WL (seF X (tkW R) j N) := by
        obtain ⟨x1, x2, x3⟩ := gl
        refine ⟨by rw [es 6 (by omega)]; exact x1, by rw [es 6 (by omega)]; exact x2, fun b b1 b2 => ?_⟩
        rw [es 6 (by omega)] at b2
        have x2' : b < 4 := by omega
        rw [es 0 (by omega), es _ (by omega), es _ (by omega), es _ (by omega)]
        exact x3 b b1 b2
      have s2 : seF X (tkW R) j N 2 = R 2 := by rw [seF_lo (by omega)]; exact g0 2 (by omega)
      have s5' : seF X (tkW R) j N 5 = R 5 := by rw [seF_lo (by omega)]; exact g0 5 (by omega)
      have v4 := hv.1.2.2.2.2.1
      rw [s2, hN] at v4
      obtain ⟨ej, oj, -, -⟩ := hcar j (by omega)
      have twj := tw j (by omega) (by omega)
      have c2 : cfR (seF X (tkW R) j N) j 2 = tkW R j := by
        unfold cfR
        rw [seF_2 (by omega) (by omega) (by omega)]
        congr 1
        omega
      have c5 : cfR (seF X (tkW R) j N) j 5 = cfR R j 5 := by
        have gj := (goF_c (R := tk2 R) (w := tkW R) q1 q2 j j (by omega)).1 (by omega) 5 (by omega) (by omega)
        rw [hX] at gj
        have c5 : cfR (tk2 R) j 5 = cfR R j 5 := by unfold cfR; exact tk2_at (by omega)
        rw [← c5, ← gj]
        unfold cfR
        rw [seF_lo (by omega)]
      have wj := (wc j (by omega) (by omega)).2.2.2.2.2.1
      refine A_iload_n dX4_tick_103 rfl rfl ?_
      refine A_aload_n dX4_tick_104 rfl rfl ?_
      refine A_get (fi := 4) dX4_tick_105 fg_X4_24 rfl rfl (by assumption) ?_
      refine A_icmp_ge (tgt := 127) dX4_tick_108 (by decide) (fun c_108 => absurd c_108 (by omega)) (fun c_108 => ?_)
      refine A_aload_n dX4_tick_111 rfl rfl ?_
      refine A_aload_n dX4_tick_112 rfl rfl ?_
      refine A_getR (fi := 7) dX4_tick_113 fg_X4_35 rfl rfl (by assumption) (by assumption) ?_
      refine A_iload_n dX4_tick_116 rfl rfl ?_
      refine A_aald (t := 2) dX4_tick_117 (fun _ => rfl) (by decide) (by assumption) (by omega) (by omega) (by assumption) ?_
      refine A_inv1 dX4_tick_118 mv_X4_140 kCl_4 (Nat.le_of_ble_eq_true rfl) (by assumption) ?_
      refine C_goOnR hG hv sG sL (by rw [s5']; exact wb.2.1) (by rw [s2]; omega) (by rw [c2]; exact twj.1) (by rw [c2]; exact twj.2) (by rw [c5]; exact wj.1) (by rw [c5]; omega) (fun d2 m2 p2 => ?_)
      refine A_iinc_ok dX4_tick_121 rfl rfl (by omega) (by omega) ?_
      refine A_goto (tgt := 103) dX4_tick_124 (by decide) ?_
      refine ih (j + 1) (by omega) d2 (hm.tr m2) ?_
      rw [seF_st (by omega) (by rw [g0 6 (by omega)]; exact wp.1) (by rw [g0 6 (by omega)]; exact wp.2.1)] at p2
      simp only [goF]
      rw [hX]
      exact p2
  have s4 : ∀ (f j : Nat), j + f = N → ∀ d', CM d d' A → CV d' A (spF (tk2 R) (tkW R) j) → (∀ c : Nat, j ≤ c → c < N → d' (A + 9 + 2 * c) 10 = gapS (tk2 R) c ∧ d' (A + 9 + 2 * c) 14 = (decS (tk1 R) c).2.1) → AW E mX4_tick (k + 3) 0 0 65 [some (kR A), some (kI j)] [] G d' K := by
    intro f
    induction f with
    | zero =>
      intro j hj d' hm hv hg
      have : j = N := by omega
      subst this
      have v4 := hv.1.2.2.2.2.1
      rw [spF_at j 2 (by omega), t2 2 (by omega), hN] at v4
      rw [spF_se] at hv
      refine A_iload_n dX4_tick_65 rfl rfl ?_
      refine A_aload_n dX4_tick_66 rfl rfl ?_
      refine A_get (fi := 4) dX4_tick_67 fg_X4_24 rfl rfl (by assumption) ?_
      refine A_icmp_ge (tgt := 101) dX4_tick_70 (by decide) (fun c_70 => ?_) (fun c_70 => absurd c_70 (by omega))
      refine A_iconst dX4_tick_101 ⟨by decide, by decide⟩ ?_
      refine A_istore_n dX4_tick_102 rfl (Nat.le_of_ble_eq_true rfl) rfl ?_
      exact s5 j 0 (by omega) d' hm hv
    | succ f ih =>
      intro j hj d' hm hv hg
      generalize hX : spF (tk2 R) (tkW R) j = X at *
      have g0 : ∀ i, i < 340 → X i = tk2 R i := fun i hi => by rw [← hX]; exact spF_at j i (by omega)
      have g2 : X 2 = R 2 := by rw [g0 2 (by omega)]; exact t2 2 (by omega)
      have v4 := hv.1.2.2.2.2.1
      rw [g2, hN] at v4
      obtain ⟨ej, oj, -, -⟩ := hcar j (by omega)
      have gw : ∀ w, 0 ≤ w → w < 24 → cfR X j w = cfR (tk2 R) j w := fun w h1 h2 => by rw [← hX]; exact spF_at j _ (by omega)
      have x0 := (hv.2.1 j (by rw [g2]; omega)).1 0 (by omega) (by omega)
      rw [gw 0 (by omega) (by omega)] at x0
      have x7 := (hv.2.1 j (by rw [g2]; omega)).1 7 (by omega) (by omega)
      rw [gw 7 (by omega) (by omega)] at x7
      have wj := wc j (by omega) (by omega)
      have r7 : cfR (tk2 R) j 7 = cfR R j 7 := by unfold cfR; exact tk2_at (by omega)
      have rc := W2.2.2.2.2 j (by omega) (by rw [t2 2 (by omega)]; omega)
      have hwb : WB X := by
        obtain ⟨y1, y2, y3⟩ := tk2_B hW
        refine ⟨by rw [g0 5 (by omega)]; exact y1, by rw [g0 5 (by omega)]; exact y2, fun b b1 b2 => ?_⟩
        rw [g0 5 (by omega)] at b2
        rw [g0 0 (by omega), g0 _ (by omega), g0 _ (by omega), g0 _ (by omega)]
        exact y3 b b1 b2
      obtain ⟨hg1, hg2⟩ := hg j (Nat.le_refl _) (by omega)
      have b5 : 0 ≤ tk2 R 5 ∧ tk2 R 5 ≤ 4 := ⟨(tk2_B hW).1, (tk2_B hW).2.1⟩
      have el : limF X (cfR (tk2 R) j 0) (X 5).toNat = limF (tk2 R) (cfR (tk2 R) j 0) (tk2 R 5).toNat := by
        rw [g0 5 (by omega)]
        exact limF_ag (fun i hi => g0 i hi) _ (by omega)
      have lr := limF_rg (R := tk2 R) (cell := cfR (tk2 R) j 0) (tk2_B hW) (by rw [t2 1 (by omega)]; exact w1.1) (by rw [t2 1 (by omega)]; exact w1.2) (tk2 R 5).toNat (by omega)
      have tr := tkW_rg hW (c := j) (by omega) (by omega)
      have val : (if cfR (tk2 R) j 7 = 1 then 0 else max 0 (min (decS (tk1 R) j).2.1 (min (limF (tk2 R) (cfR (tk2 R) j 0) (tk2 R 5).toNat) (gapS (tk2 R) j)))) = tkW R j := by
        unfold tkW limS mstS at tr ⊢
        generalize (decS (tk1 R) j).2.1 = wa at *
        generalize limF (tk2 R) (cfR (tk2 R) j 0) (tk2 R 5).toNat = li at *
        generalize gapS (tk2 R) j = ga at *
        by_cases z : cfR (tk2 R) j 7 = 1
        · rw [if_pos z, if_pos z]
        · rw [if_neg z] at tr ⊢
          rw [if_neg z]
          by_cases z1 : ga < li
          · rw [if_pos z1] at tr ⊢
            by_cases z2 : wa < 0
            · rw [if_pos z2] at tr ⊢
              by_cases z3 : ga < 0
              · rw [if_pos z3] at tr ⊢; omega
              · rw [if_neg z3] at tr ⊢; omega
            · rw [if_neg z2] at tr ⊢
              by_cases z3 : ga < wa
              · rw [if_pos z3] at tr ⊢; omega
              · rw [if_neg z3] at tr ⊢; omega
          · rw [if_neg z1] at tr ⊢
            by_cases z2 : wa < 0
            · rw [if_pos z2] at tr ⊢
              by_cases z3 : li < 0
              · rw [if_pos z3] at tr ⊢; omega
              · rw [if_neg z3] at tr ⊢; omega
            · rw [if_neg z2] at tr ⊢
              by_cases z3 : li < wa
              · rw [if_pos z3] at tr ⊢; omega
              · rw [if_neg z3] at tr ⊢; omega
      refine A_iload_n dX4_tick_65 rfl rfl ?_
      refine A_aload_n dX4_tick_66 rfl rfl ?_
      refine A_get (fi := 4) dX4_tick_67 fg_X4_24 rfl rfl (by assumption) ?_
      refine A_icmp_ge (tgt := 101) dX4_tick_70 (by decide) (fun c_70 => absurd c_70 (by omega)) (fun c_70 => ?_)
      refine A_aload_n dX4_tick_73 rfl rfl ?_
      refine A_getR (fi := 7) dX4_tick_74 fg_X4_35 rfl rfl (by assumption) (by assumption) ?_
      refine A_iload_n dX4_tick_77 rfl rfl ?_
      refine A_aald (t := 2) dX4_tick_78 (fun _ => rfl) (by decide) (by assumption) (by omega) (by omega) (by assumption) ?_
      refine A_aload_n dX4_tick_79 rfl rfl ?_
      refine A_aload_n dX4_tick_80 rfl rfl ?_
      refine A_getR (fi := 7) dX4_tick_81 fg_X4_35 rfl rfl (by assumption) (by assumption) ?_
      refine A_iload_n dX4_tick_84 rfl rfl ?_
      refine A_aald (t := 2) dX4_tick_85 (fun _ => rfl) (by decide) (by assumption) (by omega) (by omega) (by assumption) ?_
      refine A_get (fi := 0) dX4_tick_86 fg_X4_80 rfl rfl (by assumption) ?_
      rw [x0]
      refine A_inv1 dX4_tick_89 mv_X4_133 kCl_4 (Nat.le_of_ble_eq_true rfl) (by assumption) ?_
      refine C_limitAt hG hv (by rw [g0 0 (by omega), t2 0 (by omega)]; exact w0.1) (by rw [g0 0 (by omega), t2 0 (by omega)]; exact w0.2) (by rw [g0 1 (by omega), t2 1 (by omega)]; exact w1.1) (by rw [g0 1 (by omega), t2 1 (by omega)]; exact w1.2) hwb rc.1 (by rw [g0 0 (by omega)]; exact rc.2) ?_
      rw [el]
      refine A_inv1 dX4_tick_92 mv_X4_137 kCl_0 (Nat.le_of_ble_eq_true rfl) (by assumption) ?_
      refine C_settlePace hG (by omega) x7 (by rw [r7]; exact wj.2.2.2.2.2.2.2.1) hg2 hg1 ?_
      rw [val]
      refine A_iinc_ok dX4_tick_95 rfl rfl (by omega) (by omega) ?_
      refine A_goto (tgt := 65) dX4_tick_98 (by decide) ?_
      refine ih (j + 1) (by omega) _ ((hm.u (by omega) (by omega)).u (by omega) (by omega)) ?_ (fun c c1 c2 => ?_)
      · simp only [spF]
        rw [hX]
        have k5 : X 5 ≤ 4 := by rw [g0 5 (by omega)]; exact b5.2
        have k6 : X 6 ≤ 4 := by rw [g0 6 (by omega)]; exact q2
        exact (hv.w k5 k6 (by omega) (by omega)).w (by rw [fU_n (by omega)]; exact k5) (by rw [fU_n (by omega)]; exact k6) (by omega) (by omega)
      · rw [kU_ne (by omega), kU_ne (by omega)]
        exact hg c (by omega) c2
  have s3 : ∀ d', CM d d' A → CV d' A (tk2 R) → (∀ c : Nat, c < N → d' (A + 9 + 2 * c) 10 = gapS (tk2 R) c ∧ d' (A + 9 + 2 * c) 14 = (decS (tk1 R) c).2.1) → ∀ q, AW E mX4_tick (k + 3) 0 0 63 [some (kR A), q] [] G d' K := by
    intro d' hm hv hg q
    refine A_iconst dX4_tick_63 ⟨by decide, by decide⟩ ?_
    refine A_istore_n dX4_tick_64 rfl (Nat.le_of_ble_eq_true rfl) rfl ?_
    exact s4 N 0 (by omega) d' hm hv (fun c _ c2 => hg c c2)
  have s2 : ∀ d', CM d d' A → CV d' A (tk1 R) → (∀ c : Nat, c < N → d' (A + 9 + 2 * c) 10 = gapS R c ∧ d' (A + 9 + 2 * c) 14 = (decS (tk1 R) c).2.1 ∧ d' (A + 9 + 2 * c) 15 = (decS (tk1 R) c).2.2) → ∀ q, AW E mX4_tick (k + 3) 0 0 52 [some (kR A), q] [] G d' K := by
    intro d' hm hv hg q
    have f2 : tk1 R 2 = R 2 := t1 2 (by omega)
    refine A_aload_n dX4_tick_52 rfl rfl ?_
    refine A_inv0 dX4_tick_53 mv_X4_129 kCl_4 (Nat.le_of_ble_eq_true rfl) (by assumption) ?_
    refine C_changeLanes (wo := fun c => (decS (tk1 R) c).2.2) hG hv W1 (by omega) (fun c hc => (hg c (by rw [f2] at hc; omega)).2.2) (fun d2 fl m2 p2 k2 hf => ?_)
    rw [f2] at p2 hf
    have et : lcF (tk1 R) (fun c => (decS (tk1 R) c).2.2) (R 2).toNat = tk2 R := rfl
    rw [et] at p2 hf
    refine A_if_eq (tgt := 63) dX4_tick_56 (by decide) (fun c_56 => ?_) (fun c_56 => ?_)
    · rcases hf with ⟨h1, h2⟩ | h1
      · skip
        refine s3 d2 (hm.tr m2) p2 (fun c hc => ?_) _
        rw [k2 c (by omega) 10 (by omega), k2 c (by omega) 14 (by omega), h2, show gapS (tk1 R) c = gapS R c from gapS_g (ntF_g (R := R) (R 2).toNat) hW.G (by omega) (by omega)]
        exact ⟨(hg c hc).1, (hg c hc).2.1⟩
      · omega
    · refine A_aload_n dX4_tick_59 rfl rfl ?_
      refine A_inv0 dX4_tick_60 mv_X4_116 kCl_4 (Nat.le_of_ble_eq_true rfl) (by assumption) ?_
      refine C_lookFromAll hG p2.G W2 (fun c c1 c2 => ?_) (fun d3 m3 k3 => ?_)
      · rw [t2 2 (by omega)] at c2
        rw [show cfR (tk2 R) c 2 = cfR R c 2 from tk2_at (by omega)]
        exact hp c c1 c2
      · skip
        refine s3 d3 ((hm.tr m2).tr m3.M) (p2.s (by rw [t2 2 (by omega)]; omega) m3) (fun c hc => ?_) _
        have := k3 c (by rw [t2 2 (by omega)]; omega)
        refine ⟨this.1.1, ?_⟩
        rw [this.2.1, k2 c (by omega) 14 (by omega)]
        exact (hg c hc).2.1
  have s1 : ∀ (f j : Nat), j + f = N → ∀ d', CM d d' A → CV d' A (ntF R j) → (∀ c : Nat, c < N → CL d' A R c ∧ (c < j → d' (A + 9 + 2 * c) 14 = (decS (tk1 R) c).2.1 ∧ d' (A + 9 + 2 * c) 15 = (decS (tk1 R) c).2.2)) → AW E mX4_tick (k + 3) 0 0 6 [some (kR A), some (kI j)] [] G d' K := by
    intro f
    induction f with
    | zero =>
      intro j hj d' hm hv hg
      have : j = N := by omega
      subst this
      have v4 := hv.1.2.2.2.2.1
      rw [ntF_at j 2 (by omega), hN] at v4
      have et : ntF R j = tk1 R := by unfold tk1; rw [eN]
      rw [et] at hv
      refine A_iload_n dX4_tick_6 rfl rfl ?_
      refine A_aload_n dX4_tick_7 rfl rfl ?_
      refine A_get (fi := 4) dX4_tick_8 fg_X4_24 rfl rfl (by assumption) ?_
      refine A_icmp_ge (tgt := 52) dX4_tick_11 (by decide) (fun c_11 => ?_) (fun c_11 => absurd c_11 (by omega))
      exact s2 d' hm hv (fun c hc => ⟨(hg c hc).1.1, (hg c hc).2 hc⟩) _
    | succ f ih =>
      intro j hj d' hm hv hg
      have g := ntF_g (R := R) j
      have n2 : ntF R j 2 = R 2 := ntF_at j 2 (by omega)
      have v4 := hv.1.2.2.2.2.1
      rw [n2, hN] at v4
      obtain ⟨ej, oj, -, -⟩ := hcar j (by omega)
      have n8 := (ntF_n hW.G j j (by omega) (by omega) (by omega)).1 (by omega) 8 (by omega) (by omega)
      have wj := wc j (by omega) (by omega)
      have wj8 := wj.2.2.2.2.2.2.2.2
      obtain ⟨⟨l1, l2, l3, l4⟩, -⟩ := hg j (by omega)
      refine A_iload_n dX4_tick_6 rfl rfl ?_
      refine A_aload_n dX4_tick_7 rfl rfl ?_
      refine A_get (fi := 4) dX4_tick_8 fg_X4_24 rfl rfl (by assumption) ?_
      refine A_icmp_ge (tgt := 52) dX4_tick_11 (by decide) (fun c_11 => absurd c_11 (by omega)) (fun c_11 => ?_)
      refine A_aload_n dX4_tick_14 rfl rfl ?_
      refine A_getR (fi := 7) dX4_tick_15 fg_X4_35 rfl rfl (by assumption) (by assumption) ?_
      refine A_iload_n dX4_tick_18 rfl rfl ?_
      refine A_aald (t := 2) dX4_tick_19 (fun _ => rfl) (by decide) (by assumption) (by omega) (by omega) (by assumption) ?_
      refine A_inv0 dX4_tick_20 mv_X4_119 kCl_0 (Nat.le_of_ble_eq_true rfl) (by assumption) ?_
      refine C_noteC hG hv (by rw [n2]; omega) (by rw [n2]; omega) (by rw [ntF_at j 5 (by omega)]; exact wb.2.1) (by rw [ntF_at j 6 (by omega)]; exact wp.2.1) (by rw [n8]; exact wj8.1) (by rw [n8]; omega) (by rw [l1, gapS_g g hW.G (by omega) (by omega)]) (by rw [l3, leadS_g g hW.G (by omega) (by omega)]) (by rw [l4, otherS_g g (by omega) (by omega)]) (fun d2 m2 p2 k2 => ?_)
      have en : noteR (ntF R j) j = ntF R (j + 1) := rfl
      rw [en] at p2
      have z2 : ntF R (j + 1) 2 = R 2 := ntF_at (j + 1) 2 (by omega)
      have zc : ∀ w, 0 ≤ w → w < 8 → cfR (ntF R (j + 1)) j w = cfR R j w := fun w h1 h2 => ntF_c (j + 1) (by omega) h1 h2
      have z8 : cfR (ntF R (j + 1)) j 8 = cfR R j 8 + 1 := ((ntF_n hW.G (j + 1) j (by omega) (by omega) (by omega)).2 (by omega)).1
      have x3 := (p2.2.1 j (by rw [z2]; omega)).1 3 (by omega) (by omega)
      rw [zc 3 (by omega) (by omega)] at x3
      have zt : ∀ i, 34 ≤ i → i < 340 → ntF R (j + 1) i = R i := fun i _ h2 => ntF_at (j + 1) i (by omega)
      have S2 : HS G d2 A (ntF R (j + 1)) := hS.cg wv zt (hm.tr m2)
      obtain ⟨h, hh⟩ : ∃ h : Nat, cfR R j 3 = h := ⟨(cfR R j 3).toNat, by have := wj.2.2.2.1; omega⟩
      obtain ⟨hz, hb⟩ := S2 h (by have := wj.2.2.2.1; omega)
      generalize eH : G.2.2 (A + 2) (h : Int) = H at *
      rw [hh] at x3
      have wj3 := wj.2.2.2.1
      have ed : decS (ntF R (j + 1)) j = decS (tk1 R) j := by
        obtain ⟨i, hi⟩ : ∃ i : Nat, N = j + 1 + i := ⟨N - (j + 1), by omega⟩
        have et : tk1 R = ntF R (j + 1 + i) := by unfold tk1; rw [eN, hi]
        rw [et]
        symm
        exact decS_cg (by omega) (fun q _ h2 => by rw [ntF_at _ q (by omega), ntF_at _ q (by omega)]) (fun w h1 h2 => ntF_l j h1 h2 i) (by rw [zc 3 (by omega) (by omega)]; exact wj3.1) (by rw [zc 3 (by omega) (by omega)]; exact wj3.2) (by rw [zc 4 (by omega) (by omega)]; exact wj.2.2.2.2.1.1) (by rw [zc 4 (by omega) (by omega)]; exact wj.2.2.2.2.1.2) (by rw [z8]; omega) (by rw [zc 3 (by omega) (by omega)]; exact VH_cg wj3.1 wj3.2 zt (wv _ wj3.1 wj3.2))
      refine A_aload_n dX4_tick_23 rfl rfl ?_
      refine A_getR (fi := 7) dX4_tick_24 fg_X4_35 rfl rfl (by assumption) (by assumption) ?_
      refine A_iload_n dX4_tick_27 rfl rfl ?_
      refine A_aald (t := 2) dX4_tick_28 (fun _ => rfl) (by decide) (by assumption) (by omega) (by omega) (by assumption) ?_
      refine A_aload_n dX4_tick_29 rfl rfl ?_
      refine A_getR (fi := 8) dX4_tick_30 fg_X4_41 rfl rfl (by assumption) (by assumption) ?_
      refine A_aload_n dX4_tick_33 rfl rfl ?_
      refine A_getR (fi := 7) dX4_tick_34 fg_X4_35 rfl rfl (by assumption) (by assumption) ?_
      refine A_iload_n dX4_tick_37 rfl rfl ?_
      refine A_aald (t := 2) dX4_tick_38 (fun _ => rfl) (by decide) (by assumption) (by omega) (by omega) (by assumption) ?_
      refine A_get (fi := 3) dX4_tick_39 fg_X4_122 rfl rfl (by assumption) ?_
      rw [x3]
      refine A_aald (t := 3) dX4_tick_42 (fun _ => rfl) (by decide) (by assumption) (by omega) (by omega) (by assumption) ?_
      refine A_inv1 dX4_tick_43 mv_X4_125 kCl_0 (Nat.le_of_ble_eq_true rfl) (by assumption) ?_
      refine C_decideC hG p2 (by rw [z2]; omega) (by rw [z2]; omega) (by rw [z8]; omega) (by rw [z8]; omega) (by rw [zc 4 (by omega) (by omega)]; exact wj.2.2.2.2.1.1) (by rw [zc 4 (by omega) (by omega)]; exact wj.2.2.2.2.1.2) (by rw [zc 2 (by omega) (by omega)]; exact wj.2.2.1.1) (by rw [zc 2 (by omega) (by omega)]; exact wj.2.2.1.2) (by rw [zc 3 (by omega) (by omega), hh]; exact hb) (by unfold HZ at hz; omega) ?_
      rw [ed]
      refine A_iinc_ok dX4_tick_46 rfl rfl (by omega) (by omega) ?_
      refine A_goto (tgt := 6) dX4_tick_49 (by decide) ?_
      have sc : SC d2 (kU (kU d2 (A + 9 + 2 * j) 14 (decS (tk1 R) j).2.1) (A + 9 + 2 * j) 15 (decS (tk1 R) j).2.2) A := (SC.rf.u (by omega) (by omega) (by omega)).u (by omega) (by omega) (by omega)
      refine ih (j + 1) (by omega) _ ((hm.tr m2).tr sc.M) (p2.s (by rw [z2]; omega) sc) (fun c hc => ?_)
      obtain ⟨y1, y2⟩ := hg c hc
      unfold CL at y1 ⊢
      by_cases q : c = j
      · subst q
        rw [kU_f (by decide), kU_f (by decide), kU_f (by decide), kU_f (by decide), kU_f (by decide), kU_f (by decide), kU_f (by decide), kU_f (by decide), k2 c (by omega) 10 (by omega), k2 c (by omega) 11 (by omega), k2 c (by omega) 12 (by omega), k2 c (by omega) 13 (by omega)]
        exact ⟨y1, fun _ => ⟨by rw [kU_f (by decide), kU_s], by rw [kU_s]⟩⟩
      · rw [kU_ne (by omega), kU_ne (by omega), k2 c (by omega) 10 (by omega), k2 c (by omega) 11 (by omega), k2 c (by omega) 12 (by omega), k2 c (by omega) 13 (by omega), k2 c (by omega) 14 (by omega), k2 c (by omega) 15 (by omega)]
        exact ⟨y1, fun h => y2 (by omega)⟩
  refine AM.of rfl (Nat.le_of_ble_eq_true rfl) ?_
  refine A_aload_n dX4_tick_0 rfl rfl ?_
  refine A_inv0 dX4_tick_1 mv_X4_116 kCl_4 (Nat.le_of_ble_eq_true rfl) (by assumption) ?_
  refine C_lookFromAll hG hV.G hW.G hp (fun d2 m2 k2 => ?_)
  refine A_iconst dX4_tick_4 ⟨by decide, by decide⟩ ?_
  refine A_istore_n dX4_tick_5 rfl (Nat.le_of_ble_eq_true rfl) rfl ?_
  exact s1 N 0 (by omega) d2 m2.M (hV.s (by omega) m2) (fun c hc => ⟨(k2 c (by omega)).1, fun h => by omega⟩)
theorem C_run {B : Int} {n : Nat} (hG : RG G A) (hV : CV d A R) (hS : HS G d A R) (hW : WR R B) (hB : 0 ≤ B) (hB2 : B + n ≤ 200000) (hK : ∀ d', CM d d' A → CV d' A (tkN R n) → K none G d') : AM E mX4_run (k + 4) 0 0 [kR A, kI n] G d K := by
  have ho := hG.1
  have wv := hW.2.2.2.2.2.2.2.1
  have loop : ∀ (f j : Nat), j + f = n → ∀ d', CM d d' A → CV d' A (tkN R j) → AW E mX4_run (k + 4) 0 0 2 [some (kR A), some (kI n), some (kI j)] [] G d' K := by
    intro f
    induction f with
    | zero =>
      intro j hj d' hm hv
      have : j = n := by omega
      subst this
      refine A_iload_n dX4_run_2 rfl rfl ?_
      refine A_iload_n dX4_run_3 rfl rfl ?_
      refine A_icmp_ge (tgt := 17) dX4_run_4 (by decide) (fun c_4 => ?_) (fun c_4 => absurd c_4 (by omega))
      refine A_vret dX4_run_17 rfl ?_
      exact hK d' hm hv
    | succ f ih =>
      intro j hj d' hm hv
      refine A_iload_n dX4_run_2 rfl rfl ?_
      refine A_iload_n dX4_run_3 rfl rfl ?_
      refine A_icmp_ge (tgt := 17) dX4_run_4 (by decide) (fun c_4 => absurd c_4 (by omega)) (fun c_4 => ?_)
      refine A_aload_n dX4_run_7 rfl rfl ?_
      refine A_inv0 dX4_run_8 mv_X4_113 kCl_4 (Nat.le_of_ble_eq_true rfl) (by assumption) ?_
      refine C_tickR (B := B + j) hG hv (hS.cg wv (fun i i1 i2 => tkN_t hW hB j i i1 i2) hm) (tkN_W hW hB j) (by omega) (by omega) (fun d2 m2 p2 => ?_)
      refine A_iinc_ok dX4_run_11 rfl rfl (by omega) (by omega) ?_
      refine A_goto (tgt := 2) dX4_run_14 (by decide) ?_
      exact ih (j + 1) (by omega) d2 (hm.tr m2) p2
  refine AM.of rfl (Nat.le_of_ble_eq_true rfl) ?_
  refine A_iconst dX4_run_0 ⟨by decide, by decide⟩ ?_
  refine A_istore_n dX4_run_1 rfl (Nat.le_of_ble_eq_true rfl) rfl ?_
  exact loop n 0 (by omega) d CM.rf hV
end T3
