section RD4
variable {E : EE} {k : Nat} {G : HG} {n : Int} {t : Int → Int}
theorem CHN.u2 {d : HD} {c c' l l' g dd oo v x so no i w : Int} (h : CHN d c c' l l' g dd oo v x so no) : CHN (kU d 9 i w) c c' l l' g dd oo v x so no := by
  intro F lam N hZ
  refine h F lam N (hZ.sub (fun a j _ _ a1 a2 => ?_) (fun a j _ _ ha => ?_) (Int.le_refl _) (Int.le_refl _) (Int.le_refl _) (Int.le_refl _))
  · rw [kU_ne (by omega)]
  · rw [kU_ne (by omega)]
theorem rd_B {o : Int} (hM : RO G) (hn : n ≤ 100) (h0 : 0 ≤ o) (h4 : o ≤ 4) (hT' : o < 4 → PT E G t n (k + 2) (o + 1)) : PB E G t n (k + 3) o := by
  intro d p c l so no K hE hso hno hF hS
  obtain ⟨hT, ⟨f2, f3, f5⟩, hL, b1, b2, b3, b4, b5, b6⟩ := id hE
  obtain ⟨ho, -, -, -, -, ⟨e9, a9⟩, ⟨e10, a10⟩, -⟩ := id hM
  have g1 := sk_ge (t := t) (n := n) p
  have l1 := sk_le (t := t) b2
  have ed : kU d 9 2 p = d := kU_id f2
  have F2 : ∀ x, kU d 9 2 x 9 2 = x := fun x => kU_s
  have F3 : ∀ x, kU d 9 2 x 9 3 = c := fun x => by rw [kU_f (by decide)]; exact f3
  obtain ⟨q, hq⟩ : ∃ q, sk t n p = q := ⟨_, rfl⟩
  have sq : sk t n q = q := by rw [← hq]; exact sk_sk p
  unfold XB at hS
  rw [hq] at g1 l1 hF hS
  have tail : ∀ p' w h v : Int, q < p' → p' ≤ n → c < 100 → tB t n o q = tE t n true o p' → ch t n q ≠ 40 → (clP t n q).2 = p' → (∀ g dd oo v', cvS t n g dd oo v' q = soS (vlS w g dd oo v') h v) → ∀ q4 : Option AV, AW E mX3_readBare (k + 3) 0 0 95 [some (kR 9), some (kI so), some (kI no), some (kI o), q4] [] G (adC (kU d 9 2 p') c w h v) K := by
    intro p' w h v hp1 hp2 hc100 htb h40 hcl hsem q4
    have x3 : adC (kU d 9 2 p') c w h v 9 3 = c + 1 := by unfold adC; rw [kU_s]
    have x3' : kU (adC (kU d 9 2 p') c w h v) 14 c so 9 3 = c + 1 := by rw [kU_ne (by decide)]; exact x3
    refine A_aload_n dX3_readBare_95 rfl rfl ?_
    refine A_getR (fi := 9) dX3_readBare_96 fg_X3_40 rfl rfl (by assumption) (by assumption) ?_
    refine A_aload_n dX3_readBare_99 rfl rfl ?_
    refine A_get (fi := 3) dX3_readBare_100 fg_X3_22 rfl rfl (by assumption) ?_
    rw [x3]
    refine A_iconst dX3_readBare_103 ⟨by decide, by decide⟩ ?_
    refine A_isub_ok dX3_readBare_104 (by omega) (by omega) ?_
    rw [show c + 1 - 1 = c by omega]
    refine A_iload_n dX3_readBare_105 rfl rfl ?_
    refine A_iast dX3_readBare_106 (by assumption) (by omega) (by omega) ?_
    refine A_aload_n dX3_readBare_107 rfl rfl ?_
    refine A_getR (fi := 10) dX3_readBare_108 fg_X3_43 rfl rfl (by assumption) (by assumption) ?_
    refine A_aload_n dX3_readBare_111 rfl rfl ?_
    refine A_get (fi := 3) dX3_readBare_112 fg_X3_22 rfl rfl (by assumption) ?_
    rw [x3']
    refine A_iconst dX3_readBare_115 ⟨by decide, by decide⟩ ?_
    refine A_isub_ok dX3_readBare_116 (by omega) (by omega) ?_
    rw [show c + 1 - 1 = c by omega]
    refine A_iload_n dX3_readBare_117 rfl rfl ?_
    refine A_iast dX3_readBare_118 (by assumption) (by omega) (by omega) ?_
    refine A_iconst dX3_readBare_119 ⟨by decide, by decide⟩ ?_
    refine A_zret dX3_readBare_120 rfl (by first | exact Or.inl rfl | exact Or.inr rfl | assumption | omega) ?_
    have cc := Int.le_refl c
    have r : RF d (kU (kU (kU (kU (kU (kU (kU d 9 2 p') 11 c w) 12 c h) 13 c v) 9 3 (c + 1)) 14 c so) 15 c no) c l := ((((((RF.rf.u (Or.inl ⟨rfl, Or.inl rfl⟩)).u (Or.inr (Or.inl ⟨by decide, by decide, cc⟩))).u (Or.inr (Or.inl ⟨by decide, by decide, cc⟩))).u (Or.inr (Or.inl ⟨by decide, by decide, cc⟩))).u (Or.inl ⟨rfl, Or.inr (Or.inl rfl)⟩)).u (Or.inr (Or.inl ⟨by decide, by decide, cc⟩))).u (Or.inr (Or.inl ⟨by decide, by decide, cc⟩))
    refine hS _ p' (c + 1) l ⟨r, ⟨?_, ?_, ?_⟩, ⟨fun i i1 i2 => ?_, fun i i1 i2 => ?_⟩, ⟨by omega, hp2, by omega, by omega, by omega, by omega⟩, htb, fun g dd oo v' => ⟨cvS t n g dd oo v' q, cvS_b, fun _ fl cs cl tu => ?_, fun F lam N hZ hN => ⟨1, by omega, fun f => ?_⟩⟩⟩
    · unfold adC; rw [kU_ne (by decide), kU_ne (by decide), kU_f (by decide), kU_ne (by decide), kU_ne (by decide), kU_ne (by decide), kU_s]
    · rw [kU_ne (by decide)]; exact x3'
    · unfold adC; rw [kU_ne (by decide), kU_ne (by decide), kU_f (by decide), kU_ne (by decide), kU_ne (by decide), kU_ne (by decide), kU_f (by decide)]; exact f5
    · unfold adC; rw [kU_ne (by decide), kU_ne (by decide), kU_ne (by decide), kU_ne (by decide), kU_ne (by decide), kU_ne (by decide), kU_ne (by decide)]; exact hL.1 i i1 i2
    · unfold adC
      by_cases z : i = c
      · subst z
        rw [kU_s, kU_ne (by decide), kU_s]
        exact ⟨hso, hno⟩
      · rw [kU_f z, kU_ne (by decide), kU_f z, kU_ne (by decide), kU_ne (by decide), kU_ne (by decide), kU_ne (by decide), kU_ne (by decide), kU_ne (by decide), kU_ne (by decide), kU_ne (by decide), kU_ne (by decide), kU_ne (by decide), kU_ne (by decide)]
        exact hL.2 i i1 (by omega)
    · unfold eB
      rw [if_neg h40, hcl]
    · show (if 0 ≤ c ∧ c < (N : Int) then gF F lam N g dd oo v' f (if soS (vlS (F 11 c) g dd oo v') (F 12 c) (F 13 c) ≠ 0 then lam (F 14 c) else lam (F 15 c)) else c) = _
      rw [if_pos ⟨b3, by omega⟩, hZ.1 11 c (by omega) (by omega) (by omega) (by omega), hZ.1 12 c (by omega) (by omega) (by omega) (by omega), hZ.1 13 c (by omega) (by omega) (by omega) (by omega), hZ.1 14 c (by omega) (by omega) (by omega) (by omega), hZ.1 15 c (by omega) (by omega) (by omega) (by omega), hsem]
      unfold adC
      rw [kU_s, kU_ne (by decide), kU_ne (by decide), kU_ne (by decide), kU_ne (by decide), kU_ne (by decide), kU_s, kU_ne (by decide), kU_ne (by decide), kU_ne (by decide), kU_ne (by decide), kU_s, kU_ne (by decide), kU_ne (by decide), kU_ne (by decide), kU_s, kU_ne (by decide), kU_s]
  refine AM.of rfl (Nat.le_of_ble_eq_true rfl) ?_
  rw [← ed]
  refine A_aload_n dX3_readBare_0 rfl rfl ?_
  refine A_inv0 dX3_readBare_1 mv_X3_81 kCl_3 (Nat.le_of_ble_eq_true rfl) (by assumption) ?_
  refine C_next hM hT hn b1 b2 ?_
  rw [hq]
  refine A_istore dX3_readBare_4 (Nat.le_of_ble_eq_true rfl) rfl ?_
  refine A_iload dX3_readBare_6 rfl ?_
  refine A_bipush dX3_readBare_8 ⟨by decide, by decide⟩ rfl ?_
  refine A_icmp_ne (tgt := 57) dX3_readBare_10 (by decide) (fun c_10 => ?_) (fun c_10 => ?_)
  · refine A_iload dX3_readBare_57 rfl ?_
    refine A_bipush dX3_readBare_59 ⟨by decide, by decide⟩ rfl ?_
    refine A_icmp_ne (tgt := 86) dX3_readBare_61 (by decide) (fun c_61 => ?_) (fun c_61 => ?_)
    · refine A_aload_n dX3_readBare_86 rfl rfl ?_
      refine A_inv0 dX3_readBare_87 mv_X3_106 kCl_3 (Nat.le_of_ble_eq_true rfl) (by assumption) ?_
      refine C_readComparison hM hT hn (by omega) l1 f3 b3 (fun z => ?_) (by rw [sq]; exact c_61) (fun z => ?_) (fun z => ?_)
      · rw [sq] at z
        have := (clP_ok z).2.2
        omega
      · rw [sq] at z ⊢
        refine A_if_ne (tgt := 95) dX3_readBare_90 (by decide) (fun c_90 => absurd c_90 (by omega)) (fun c_90 => ?_)
        refine A_iconst dX3_readBare_93 ⟨by decide, by decide⟩ ?_
        refine A_zret dX3_readBare_94 rfl (by first | exact Or.inl rfl | exact Or.inr rfl | assumption | omega) ?_
        exact hF _ _ (RF.rf.u (Or.inl ⟨rfl, Or.inl rfl⟩)) kU_s (by unfold tB; rw [if_neg c_10, if_neg (by rw [z]; decide)])
      · rw [sq] at z ⊢
        have ok := clP_ok z
        refine A_if_ne (tgt := 95) dX3_readBare_90 (by decide) (fun c_90 => ?_) (fun c_90 => absurd c_90 (by omega))
        exact tail _ _ _ _ (by omega) ok.2.1 (by omega) (by unfold tB; rw [if_neg c_10, if_pos z]) c_10 rfl (fun g dd oo v' => cvS_so z c_61) _
    · have lt := ch_lt (t := t) (n := n) (p := q) (by omega)
      have ecl : clP t n q = (true, q + 1) := by unfold clP; rw [if_pos c_61]
      refine A_aload_n dX3_readBare_64 rfl rfl ?_
      refine A_dup dX3_readBare_65 (fun B => toV_cat B _) ?_
      refine A_get (fi := 2) dX3_readBare_66 fg_X3_19 rfl rfl (by assumption) ?_
      rw [F2]
      refine A_iconst dX3_readBare_69 ⟨by decide, by decide⟩ ?_
      refine A_iadd_ok dX3_readBare_70 (by omega) (by omega) ?_
      refine A_put (fi := 2) dX3_readBare_71 fp_X3_19 rfl rfl (by assumption) ?_
      rw [kU_2]
      refine A_aload_n dX3_readBare_74 rfl rfl ?_
      refine A_iload dX3_readBare_75 rfl ?_
      refine A_bipush dX3_readBare_77 ⟨by decide, by decide⟩ rfl ?_
      refine A_iconst dX3_readBare_79 ⟨by decide, by decide⟩ ?_
      refine A_inv3 dX3_readBare_80 mv_X3_102 kCl_3 (Nat.le_of_ble_eq_true rfl) (by assumption) ?_
      refine C_addClaim hM (F3 _) b3 (by omega) ?_
      refine A_goto (tgt := 95) dX3_readBare_83 (by decide) ?_
      refine tail (q + 1) _ _ _ (by omega) (by omega) (by omega) (by unfold tB; rw [if_neg c_10, ecl]; rfl) c_10 (by rw [ecl]) (fun g dd oo v' => ?_) _
      unfold cvS soS
      rw [if_pos c_61, if_neg (by decide), if_neg (by decide), if_neg (by decide)]
  · have lt := ch_lt (t := t) (n := n) (p := q) (by omega)
    refine A_iload_n dX3_readBare_13 rfl rfl ?_
    refine A_iconst dX3_readBare_14 ⟨by decide, by decide⟩ ?_
    refine A_icmp_lt (tgt := 20) dX3_readBare_15 (by decide) (fun c_15 => ?_) (fun c_15 => ?_)
    · refine A_aload_n dX3_readBare_20 rfl rfl ?_
      refine A_dup dX3_readBare_21 (fun B => toV_cat B _) ?_
      refine A_get (fi := 2) dX3_readBare_22 fg_X3_19 rfl rfl (by assumption) ?_
      rw [F2]
      refine A_iconst dX3_readBare_25 ⟨by decide, by decide⟩ ?_
      refine A_iadd_ok dX3_readBare_26 (by omega) (by omega) ?_
      refine A_put (fi := 2) dX3_readBare_27 fp_X3_19 rfl rfl (by assumption) ?_
      rw [kU_2]
      refine A_aload_n dX3_readBare_30 rfl rfl ?_
      refine A_iload_n dX3_readBare_31 rfl rfl ?_
      refine A_iload_n dX3_readBare_32 rfl rfl ?_
      refine A_iload_n dX3_readBare_33 rfl rfl ?_
      refine A_iconst dX3_readBare_34 ⟨by decide, by decide⟩ ?_
      refine A_iadd_ok dX3_readBare_35 (by omega) (by omega) ?_
      refine A_inv3 dX3_readBare_36 mv_X3_65 kCl_3 (Nat.le_of_ble_eq_true rfl) (by assumption) ?_
      have etB : tB t n o q = tE t n false (o + 1) (q + 1) := by unfold tB; rw [if_pos c_10, if_neg (by omega)]
      refine hT' c_15 _ (q + 1) c l so no _ (hE.pl (by omega) (by omega) (by omega) (by omega)) hso hno (fun d1 p1 r1 z1 h1 => ?_) (fun d1 p1 c1 l1' X => ?_)
      · refine A_if_eq (tgt := 55) dX3_readBare_39 (by decide) (fun c_39 => ?_) (fun c_39 => absurd c_39 (by omega))
        refine A_iconst dX3_readBare_55 ⟨by decide, by decide⟩ ?_
        refine A_zret dX3_readBare_56 rfl (by first | exact Or.inl rfl | exact Or.inr rfl | assumption | omega) ?_
        exact hF d1 p1 ((RF.rf.u (Or.inl ⟨rfl, Or.inl rfl⟩)).tr r1 (Int.le_refl _) (Int.le_refl _)) z1 (by rw [etB]; exact h1)
      · obtain ⟨r1, ⟨u2, u3, u5⟩, hL1, ⟨v1, v2, v3, v4, v5, v6⟩, ⟨te, sp1, n38, n124⟩, hsem⟩ := X
        have rd1 : RF d d1 c l := (RF.rf.u (Or.inl ⟨rfl, Or.inl rfl⟩)).tr r1 (Int.le_refl _) (Int.le_refl _)
        refine A_if_eq (tgt := 55) dX3_readBare_39 (by decide) (fun c_39 => absurd c_39 (by omega)) (fun c_39 => ?_)
        refine A_aload_n dX3_readBare_42 rfl rfl ?_
        refine A_bipush dX3_readBare_43 ⟨by decide, by decide⟩ rfl ?_
        refine A_inv1 dX3_readBare_45 mv_X3_69 kCl_3 (Nat.le_of_ble_eq_true rfl) (by assumption) ?_
        rw [← kU_id u2]
        refine C_rtake hM (rd1.T hT) hn (by omega) v2 (fun h41 => ?_) (fun h41 => ?_)
        · rw [sp1] at h41 ⊢
          have lt1 := ch_lt (t := t) (n := n) (p := p1) (by omega)
          have eA : tE t n true (o + 1) p1 = tE t n true o (p1 + 1) := by rw [tE_A v2, sp1, if_pos ⟨h41, by omega⟩, show o + 1 - 1 = o by omega]
          refine A_if_eq (tgt := 55) dX3_readBare_48 (by decide) (fun c_48 => absurd c_48 (by omega)) (fun c_48 => ?_)
          refine A_iconst dX3_readBare_51 ⟨by decide, by decide⟩ ?_
          refine A_goto (tgt := 56) dX3_readBare_52 (by decide) ?_
          refine A_zret dX3_readBare_56 rfl (by first | exact Or.inl rfl | exact Or.inr rfl | assumption | omega) ?_
          refine hS _ (p1 + 1) c1 l1' ⟨rd1.u (Or.inl ⟨rfl, Or.inl rfl⟩), ⟨kU_s, by rw [kU_f (by decide)]; exact u3, by rw [kU_f (by decide)]; exact u5⟩, hL1.u (by decide) (by decide) (by decide), ⟨by omega, by omega, v3, by omega, v5, by omega⟩, by rw [etB, te, eA], fun g dd oo v' => ?_⟩
          obtain ⟨x, hx, ⟨e, cc, hec, hfl⟩, hch⟩ := hsem g dd oo v'
          refine ⟨x, hx, fun ht fl cs cl tu => ?_, hch.u2⟩
          have ht1 : (tE t n true (o + 1) p1).1 = true := by rw [eA]; exact ht
          unfold eB
          rw [if_pos c_10, hfl ht1 0 cs cl (fU tu (o + 1) fl) (Or.inl rfl), eE_A1 (by rw [sp1]; exact h41) (by rw [sp1, show o + 1 - 1 = o by omega]; exact ht), sp1, show o + 1 - 1 = o by omega, fU_s, fU_s, fU_s, fU_n (show o ≠ o + 1 by omega)]
          have eor : or1 (or1 0 e) cc = x := by
            rw [← hec]
            unfold or1
            by_cases q1 : e = 0 <;> by_cases q2 : cc = 0 <;> simp [q1, q2]
          rw [eor]
          refine eE_cg _ true o (p1 + 1) _ _ _ _ _ _ (Nat.lt_succ_self _) (by omega) h0 ht (fun i i1 i2 => ⟨fU_n (by omega), ?_, fun _ => fU_n (by omega)⟩)
          by_cases z : i = o
          · subst z; rw [fU_s, fU_s]
          · rw [fU_n z, fU_n z, fU_n (by omega)]
        · rw [sp1] at h41 ⊢
          refine A_if_eq (tgt := 55) dX3_readBare_48 (by decide) (fun c_48 => ?_) (fun c_48 => absurd c_48 (by omega))
          refine A_iconst dX3_readBare_55 ⟨by decide, by decide⟩ ?_
          refine A_zret dX3_readBare_56 rfl (by first | exact Or.inl rfl | exact Or.inr rfl | assumption | omega) ?_
          refine hF _ p1 (rd1.u (Or.inl ⟨rfl, Or.inl rfl⟩)) kU_s ?_
          rw [etB, te, tE_A v2, sp1, if_neg (fun z => h41 z.1), if_neg (by omega), if_neg (by omega)]
    · have e4 : o = 4 := by omega
      refine A_iconst dX3_readBare_18 ⟨by decide, by decide⟩ ?_
      refine A_zret dX3_readBare_19 rfl (by first | exact Or.inl rfl | exact Or.inr rfl | assumption | omega) ?_
      exact hF _ q (RF.rf.u (Or.inl ⟨rfl, Or.inl rfl⟩)) kU_s (by unfold tB; rw [if_pos c_10, if_pos e4])
end RD4
