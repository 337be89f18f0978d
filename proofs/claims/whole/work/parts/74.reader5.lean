section RD5
variable {E : EE} {k : Nat} {G : HG} {n : Int} {t : Int → Int}
theorem nlD_a {d : HD} {l : Int} {a : Nat} (h1 : a ≠ 9) (h2 : a ≠ 19) (h3 : a ≠ 20) : nlD d l a = d a := by
  unfold nlD; rw [kU_ne h1, kU_ne h3, kU_ne h2]
theorem nlD_12 {d : HD} {l : Int} : nlD d l 19 l = -1 := by
  unfold nlD; rw [kU_ne (by decide), kU_ne (by decide), kU_s]
theorem rd_C {o : Int} (hM : RO G) (hn : n ≤ 100) (hB : PB E G t n (k + 3) o) : PC E G t n (k + 4) o := by
  intro d0 p0 c00 l0 so no K hE0 hso0 hno0 hF0 hS0
  have ho := hM.1
  have loop : ∀ (m j : Nat) (d : HD) (p c l : Int), (n - p).toNat < m → 2 * (j : Int) ≤ p → EN t n d p c l 13 → (0 ≤ so ∧ so < l) → (0 ≤ no ∧ no < l) → (∀ d' p', RF d d' c l → d' 9 2 = p' → tE t n false o p = (false, p') → K (some (kI 0)) G d') → (∀ d' p' c' l', XC t n d d' o p p' c c' l l' so no → K (some (kI 1)) G d') → ∀ q5 q6 : Option AV, AW E mX3_readCase (k + 4) 0 0 3 [some (kR 9), some (kI so), some (kI no), some (kI o), some (kI j), q5, q6] [] G d K := by
    intro m
    induction m with
    | zero => intro j d p c l h; omega
    | succ m ih =>
      intro j d p c l hm hj hE hso hno hF hS q5 q6
      obtain ⟨hT, ⟨f2, f3, f5⟩, hL, b1, b2, b3, b4, b5, b6⟩ := id hE
      have g1 := sk_ge (t := t) (n := n) p
      have l1 := sk_le (t := t) b2
      have E1 : EN t n (nlD d l) p c (l + 1) 14 := hE.nl (by omega)
      have R1 : ∀ pb, RF d (kU (nlD d l) 9 2 pb) c l := fun pb => (RF.nl b5).u (Or.inl ⟨rfl, Or.inl rfl⟩)
      have bad : ∀ (pb : Int) (d2 : HD) (p2 : Int), sk t n pb = nb t n p → RF (kU (nlD d l) 9 2 pb) d2 c (l + 1) → d2 9 2 = p2 → tB t n o (sk t n pb) = (false, p2) → AW E mX3_readCase (k + 4) 0 0 44 [some (kR 9), some (kI so), some (kI no), some (kI o), some (kI j), some (kI l), q6] [kI 0] G d2 K := by
        intro pb d2 p2 hs r2 z2 h2
        refine A_istore dX3_readCase_44 (Nat.le_of_ble_eq_true rfl) rfl ?_
        refine A_iload dX3_readCase_46 rfl ?_
        refine A_if_ne (tgt := 53) dX3_readCase_48 (by decide) (fun c_48 => absurd c_48 (by omega)) (fun c_48 => ?_)
        refine A_iconst dX3_readCase_51 ⟨by decide, by decide⟩ ?_
        refine A_zret dX3_readCase_52 rfl (by first | exact Or.inl rfl | exact Or.inr rfl | assumption | omega) ?_
        exact hF d2 p2 ((R1 pb).tr r2 (Int.le_refl _) (by omega)) z2 (by rw [tE_B b2, ← hs]; exact h2)
      have mid : ∀ (fl pb : Int) (d2 : HD) (p2 c2 l2 A1 A2 : Int), fl = (if ch t n (sk t n p) = 33 then 1 else 0) → p ≤ pb → sk t n pb = nb t n p → (A1 = (if fl = 1 then no else l) ∧ A2 = (if fl = 1 then l else no)) → XB t n (kU (nlD d l) 9 2 pb) d2 o pb p2 c c2 (l + 1) l2 A1 A2 → AW E mX3_readCase (k + 4) 0 0 44 [some (kR 9), some (kI so), some (kI no), some (kI o), some (kI j), some (kI l), q6] [kI 1] G d2 K := by
        intro fl pb d2 p2 c2 l2 A1 A2 hfl hpb hs hA X
        obtain ⟨r2, ⟨u2, u3, u5⟩, hL2, ⟨v1, v2, v3, v4, v5, v6⟩, htb, hsem⟩ := X
        rw [hs] at htb hsem
        have te : tE t n false o p = tE t n true o p2 := by rw [tE_B b2]; exact htb
        have rd2 : RF d d2 c l := (R1 pb).tr r2 (Int.le_refl _) (by omega)
        have g2 := sk_ge (t := t) (n := n) p2
        have l2' := sk_le (t := t) v2
        have j12 : d2 19 l = -1 := by rw [r2.2.2.2 19 l (by omega) (Or.inl rfl), kU_ne (by decide)]; exact nlD_12
        -- the bare claim, with its '!' or without
        have zsem : ∀ g dd oo v, ∃ z, (z = 0 ∨ z = 1) ∧ ((tE t n true o p2).1 = true → ∀ y s cs cl tu, eE t n (cvS t n g dd oo v) false o p (fU cs o s) (fU cl o y) tu = eE t n (cvS t n g dd oo v) true o p2 (fU cs o s) (fU cl o (an y z)) tu) ∧ CHN d2 c c2 (l + 1) l2 g dd oo v z l no := by
          intro g dd oo v
          obtain ⟨x, hx, hflat, hch⟩ := hsem g dd oo v
          refine ⟨xr x fl, xr_b _ _, fun ht y s cs cl tu => ?_, ?_⟩
          · rw [eE_B b2 (by rw [htb]; exact ht), hflat ht, ← hfl, fU_s, fU_2]
          · intro F lam N hZ hN
            obtain ⟨k1, hk1, hr⟩ := hch F lam N hZ hN
            refine ⟨k1, hk1, ?_⟩
            rw [hA.1, hA.2] at hr
            unfold xr
            by_cases z33 : ch t n (sk t n p) = 33
            · rw [if_pos z33] at hfl
              rw [hfl] at hr ⊢
              rw [if_pos rfl, if_pos rfl] at hr
              rcases hx with rfl | rfl
              · exact hr
              · exact hr
            · rw [if_neg z33] at hfl
              rw [hfl] at hr ⊢
              rw [if_neg (show ¬ ((0 : Int) = 1) by decide), if_neg (show ¬ ((0 : Int) = 1) by decide)] at hr
              rcases hx with rfl | rfl
              · exact hr
              · exact hr
        refine A_istore dX3_readCase_44 (Nat.le_of_ble_eq_true rfl) rfl ?_
        refine A_iload dX3_readCase_46 rfl ?_
        refine A_if_ne (tgt := 53) dX3_readCase_48 (by decide) (fun c_48 => ?_) (fun c_48 => absurd c_48 (by omega))
        refine A_aload_n dX3_readCase_53 rfl rfl ?_
        refine A_bipush dX3_readCase_54 ⟨by decide, by decide⟩ rfl ?_
        refine A_inv1 dX3_readCase_56 mv_X3_69 kCl_3 (Nat.le_of_ble_eq_true rfl) (by assumption) ?_
        rw [← kU_id u2]
        refine C_rtake hM (rd2.T hT) hn (by omega) v2 (fun h38 => ?_) (fun h38 => ?_)
        · have lt2 := ch_lt (t := t) (n := n) (p := sk t n p2) (by omega)
          have te2 : tE t n true o p2 = tE t n false o (sk t n p2 + 1) := by rw [tE_A v2, if_neg (by omega), if_pos (Or.inl h38)]
          have x3 : kU d2 9 2 (sk t n p2 + 1) 9 3 = c2 := by rw [kU_f (by decide)]; exact u3
          refine A_if_ne (tgt := 71) dX3_readCase_59 (by decide) (fun c_59 => ?_) (fun c_59 => absurd c_59 (by omega))
          refine A_aload_n dX3_readCase_71 rfl rfl ?_
          refine A_iload dX3_readCase_72 rfl ?_
          refine A_aload_n dX3_readCase_74 rfl rfl ?_
          refine A_get (fi := 3) dX3_readCase_75 fg_X3_22 rfl rfl (by assumption) ?_
          rw [x3]
          refine A_inv2 dX3_readCase_78 mv_X3_87 kCl_3 (Nat.le_of_ble_eq_true rfl) (by assumption) ?_
          refine C_fix hM b5 (by omega) ?_
          refine A_iinc_ok dX3_readCase_81 rfl rfl (by omega) (by omega) ?_
          refine A_goto (tgt := 3) dX3_readCase_84 (by decide) ?_
          have r3 : RF d (kU (kU d2 9 2 (sk t n p2 + 1)) 20 l c2) c l := (rd2.u (Or.inl ⟨rfl, Or.inl rfl⟩)).u (Or.inr (Or.inr ⟨Or.inr rfl, Int.le_refl _⟩))
          refine ih (j + 1) _ (sk t n p2 + 1) c2 l2 (by omega) (by omega) ⟨r3.T hT, ⟨by rw [kU_ne (by decide), kU_s], by rw [kU_ne (by decide)]; exact x3, by rw [kU_ne (by decide), kU_f (by decide)]; exact u5⟩, (hL2.u (by decide) (by decide) (by decide)).u (by decide) (by decide) (by decide), by omega, by omega, by omega, by omega, by omega, by omega⟩ ⟨hso.1, by omega⟩ ⟨hno.1, by omega⟩ (fun d' p' r z h => ?_) (fun d' p' c' l' X => ?_) _ _
          · exact hF d' p' (r3.tr r (by omega) (by omega)) z (by rw [te, te2]; exact h)
          · obtain ⟨r4, h4, hL4, ⟨w1, w2, w3, w4, w5, w6⟩, ⟨te4, sp4, n4⟩, hsem4⟩ := X
            refine hS d' p' c' l' ⟨r3.tr r4 (by omega) (by omega), h4, hL4, ⟨by omega, w2, by omega, by omega, by omega, by omega⟩, ⟨by rw [te, te2]; exact te4, sp4, n4⟩, fun g dd oo v => ?_⟩
            obtain ⟨z, hz, zfl, zch⟩ := zsem g dd oo v
            obtain ⟨x2, hx2, xfl, xch⟩ := hsem4 g dd oo v
            refine ⟨an z x2, an_b _ _, fun ht y s cs cl tu => ?_, fun F lam N hZ hN => ?_⟩
            · have t2 : (tE t n true o p2).1 = true := by rw [te2, te4]; exact ht
              rw [zfl t2, eE_A3 h38 (by rw [te4]; exact ht), xfl ht, an_as]
            · obtain ⟨k1, hk1, hr1⟩ := zch F lam N (hZ.sub (fun a i i1 i2 a1 a2 => by rw [r4.2.2.1 a i i2 a1 a2, kU_ne (by omega), kU_ne (by omega)]) (fun a i i1 i2 ha => by
                rw [r4.2.2.2 a i i2 ha]
                rcases ha with rfl | rfl
                · rw [kU_ne (by decide), kU_ne (by decide)]
                · rw [kU_f (by omega), kU_ne (by decide)]) (Int.le_refl _) (by omega) (by omega) (by omega)) (by omega)
              obtain ⟨k2, hk2, hr2⟩ := xch F lam N (hZ.sub (fun _ _ _ _ _ _ => rfl) (fun _ _ _ _ _ => rfl) (by omega) (Int.le_refl _) (by omega) (Int.le_refl _)) hN
              have el : lam l = c2 := by
                rw [hZ.2 l (Int.le_refl _) (by omega), r4.2.2.2 19 l (by omega) (Or.inl rfl), r4.2.2.2 20 l (by omega) (Or.inr rfl), kU_ne (by decide), kU_ne (by decide), kU_s, if_pos j12]
              rcases hz with rfl | rfl
              · refine ⟨k1, by omega, ?_⟩
                rw [if_neg (by decide)] at hr1
                rw [if_neg (by unfold an; simp)]
                exact hr1
              · rw [if_pos (by decide), el] at hr1
                refine ⟨k1 + k2, by omega, ?_⟩
                have ea : an 1 x2 = x2 := by rcases hx2 with rfl | rfl <;> rfl
                rw [ea]
                exact hr1.tr hr2
        · refine A_if_ne (tgt := 71) dX3_readCase_59 (by decide) (fun c_59 => absurd c_59 (by omega)) (fun c_59 => ?_)
          refine A_aload_n dX3_readCase_62 rfl rfl ?_
          refine A_iload dX3_readCase_63 rfl ?_
          refine A_iload_n dX3_readCase_65 rfl rfl ?_
          refine A_inv2 dX3_readCase_66 mv_X3_96 kCl_3 (Nat.le_of_ble_eq_true rfl) (by assumption) ?_
          refine C_join hM b5 (by omega) ?_
          refine A_iconst dX3_readCase_69 ⟨by decide, by decide⟩ ?_
          refine A_zret dX3_readCase_70 rfl (by first | exact Or.inl rfl | exact Or.inr rfl | assumption | omega) ?_
          have r3 : RF d (kU (kU d2 9 2 (sk t n p2)) 19 l so) c l := (rd2.u (Or.inl ⟨rfl, Or.inl rfl⟩)).u (Or.inr (Or.inr ⟨Or.inl rfl, Int.le_refl _⟩))
          refine hS _ (sk t n p2) c2 l2 ⟨r3, ⟨by rw [kU_ne (by decide), kU_s], by rw [kU_ne (by decide), kU_f (by decide)]; exact u3, by rw [kU_ne (by decide), kU_f (by decide)]; exact u5⟩, (hL2.u (by decide) (by decide) (by decide)).j hso.1 hso.2, ⟨by omega, l2', by omega, by omega, by omega, by omega⟩, ⟨by rw [tE_skA v2]; exact te, sk_sk _, h38⟩, fun g dd oo v => ?_⟩
          obtain ⟨z, hz, zfl, zch⟩ := zsem g dd oo v
          refine ⟨z, hz, fun ht y s cs cl tu => ?_, fun F lam N hZ hN => ?_⟩
          · rw [tE_skA v2] at ht
            rw [zfl ht, eE_skA v2 ht]
          · obtain ⟨k1, hk1, hr1⟩ := zch F lam N (hZ.sub (fun a i i1 i2 a1 a2 => by rw [kU_ne (by omega), kU_ne (by omega)]) (fun a i i1 i2 ha => by
              rcases ha with rfl | rfl
              · rw [kU_f (by omega), kU_ne (by decide)]
              · rw [kU_ne (by decide), kU_ne (by decide)]) (Int.le_refl _) (Int.le_refl _) (by omega) (Int.le_refl _)) hN
            have el : lam l = lam so := by
              rw [hZ.2 l (Int.le_refl _) (by omega), kU_s, if_neg (by omega)]
            rw [el] at hr1
            exact ⟨k1, hk1, hr1⟩
      refine A_iload dX3_readCase_3 rfl ?_
      refine A_bipush dX3_readCase_5 ⟨by decide, by decide⟩ rfl ?_
      refine A_icmp_ge (tgt := 87) dX3_readCase_7 (by decide) (fun c_7 => absurd c_7 (by omega)) (fun c_7 => ?_)
      refine A_aload_n dX3_readCase_10 rfl rfl ?_
      refine A_inv0 dX3_readCase_11 mv_X3_61 kCl_3 (Nat.le_of_ble_eq_true rfl) (by assumption) ?_
      refine C_newLabel hM f5 b5 (by omega) ?_
      refine A_istore dX3_readCase_14 (Nat.le_of_ble_eq_true rfl) rfl ?_
      refine A_aload_n dX3_readCase_16 rfl rfl ?_
      refine A_bipush dX3_readCase_17 ⟨by decide, by decide⟩ rfl ?_
      refine A_inv1 dX3_readCase_19 mv_X3_69 kCl_3 (Nat.le_of_ble_eq_true rfl) (by assumption) ?_
      rw [← kU_id E1.2.1.1]
      refine C_rtake hM E1.1 hn b1 b2 (fun h33 => ?_) (fun h33 => ?_)
      · have lt := ch_lt (t := t) (n := n) (p := sk t n p) (by omega)
        have hs : sk t n (sk t n p + 1) = nb t n p := by unfold nb; rw [if_pos h33]
        refine A_if_eq (tgt := 36) dX3_readCase_22 (by decide) (fun c_22 => absurd c_22 (by omega)) (fun c_22 => ?_)
        refine A_aload_n dX3_readCase_25 rfl rfl ?_
        refine A_iload_n dX3_readCase_26 rfl rfl ?_
        refine A_iload dX3_readCase_27 rfl ?_
        refine A_iload_n dX3_readCase_29 rfl rfl ?_
        refine A_inv3 dX3_readCase_30 mv_X3_99 kCl_3 (Nat.le_of_ble_eq_true rfl) (by assumption) ?_
        refine hB _ (sk t n p + 1) c (l + 1) no l _ (E1.pl (by omega) (by omega) (by omega) (by omega)) ⟨hno.1, by omega⟩ ⟨b5, by omega⟩ (fun d2 p2 r z h => ?_) (fun d2 p2 c2 l2 X => ?_)
        · refine A_goto (tgt := 44) dX3_readCase_33 (by decide) ?_
          exact bad _ d2 p2 hs r z h
        · refine A_goto (tgt := 44) dX3_readCase_33 (by decide) ?_
          exact mid 1 _ d2 p2 c2 l2 no l (by rw [if_pos h33]) (by omega) hs ⟨rfl, rfl⟩ X
      · have hs : sk t n (sk t n p) = nb t n p := by unfold nb; rw [if_neg h33, sk_sk]
        refine A_if_eq (tgt := 36) dX3_readCase_22 (by decide) (fun c_22 => ?_) (fun c_22 => absurd c_22 (by omega))
        refine A_aload_n dX3_readCase_36 rfl rfl ?_
        refine A_iload dX3_readCase_37 rfl ?_
        refine A_iload_n dX3_readCase_39 rfl rfl ?_
        refine A_iload_n dX3_readCase_40 rfl rfl ?_
        refine A_inv3 dX3_readCase_41 mv_X3_99 kCl_3 (Nat.le_of_ble_eq_true rfl) (by assumption) ?_
        refine hB _ (sk t n p) c (l + 1) l no _ (E1.pl (by omega) (by omega) (by omega) (by omega)) ⟨b5, by omega⟩ ⟨hno.1, by omega⟩ (fun d2 p2 r z h => ?_) (fun d2 p2 c2 l2 X => ?_)
        · skip
          exact bad _ d2 p2 hs r z h
        · skip
          exact mid 0 _ d2 p2 c2 l2 l no (by rw [if_neg h33]) (by omega) hs ⟨rfl, rfl⟩ X
  refine AM.of rfl (Nat.le_of_ble_eq_true rfl) ?_
  have := hE0.2.2.2.1
  refine A_iconst dX3_readCase_0 ⟨by decide, by decide⟩ ?_
  refine A_istore dX3_readCase_1 (Nat.le_of_ble_eq_true rfl) rfl ?_
  exact loop _ 0 d0 p0 c00 l0 (Nat.lt_succ_self _) (by omega) hE0 hso0 hno0 hF0 hS0 none none
theorem rd_T {o : Int} (hM : RO G) (hn : n ≤ 100) (hC : PC E G t n (k + 4) o) : PT E G t n (k + 5) o := by
  intro d0 p0 c00 l0 so no K hE0 hso0 hno0 hF0 hS0
  have ho := hM.1
  have loop : ∀ (m j : Nat) (d : HD) (p c l : Int), (n - p).toNat < m → 2 * (j : Int) ≤ p → EN t n d p c l 12 → (0 ≤ so ∧ so < l) → (0 ≤ no ∧ no < l) → (∀ d' p', RF d d' c l → d' 9 2 = p' → tE t n false o p = (false, p') → K (some (kI 0)) G d') → (∀ d' p' c' l', XT t n d d' o p p' c c' l l' so no → K (some (kI 1)) G d') → ∀ q5 : Option AV, AW E mX3_readTest (k + 5) 0 0 3 [some (kR 9), some (kI so), some (kI no), some (kI o), some (kI j), q5] [] G d K := by
    intro m
    induction m with
    | zero => intro j d p c l h; omega
    | succ m ih =>
      intro j d p c l hm hj hE hso hno hF hS q5
      obtain ⟨hT, ⟨f2, f3, f5⟩, hL, b1, b2, b3, b4, b5, b6⟩ := id hE
      have E1 : EN t n (nlD d l) p c (l + 1) 13 := hE.nl (by omega)
      have R1 : RF d (nlD d l) c l := RF.nl b5
      refine A_iload dX3_readTest_3 rfl ?_
      refine A_bipush dX3_readTest_5 ⟨by decide, by decide⟩ rfl ?_
      refine A_icmp_ge (tgt := 63) dX3_readTest_7 (by decide) (fun c_7 => absurd c_7 (by omega)) (fun c_7 => ?_)
      refine A_aload_n dX3_readTest_10 rfl rfl ?_
      refine A_inv0 dX3_readTest_11 mv_X3_61 kCl_3 (Nat.le_of_ble_eq_true rfl) (by assumption) ?_
      refine C_newLabel hM f5 b5 (by omega) ?_
      refine A_istore dX3_readTest_14 (Nat.le_of_ble_eq_true rfl) rfl ?_
      refine A_aload_n dX3_readTest_16 rfl rfl ?_
      refine A_iload_n dX3_readTest_17 rfl rfl ?_
      refine A_iload dX3_readTest_18 rfl ?_
      refine A_iload_n dX3_readTest_20 rfl rfl ?_
      refine A_inv3 dX3_readTest_21 mv_X3_93 kCl_3 (Nat.le_of_ble_eq_true rfl) (by assumption) ?_
      refine hC _ p c (l + 1) so l _ E1 ⟨hso.1, by omega⟩ ⟨b5, by omega⟩ (fun d2 p2 r z h => ?_) (fun d2 p2 c2 l2 X => ?_)
      · refine A_if_ne (tgt := 29) dX3_readTest_24 (by decide) (fun c_24 => absurd c_24 (by omega)) (fun c_24 => ?_)
        refine A_iconst dX3_readTest_27 ⟨by decide, by decide⟩ ?_
        refine A_zret dX3_readTest_28 rfl (by first | exact Or.inl rfl | exact Or.inr rfl | assumption | omega) ?_
        exact hF d2 p2 (R1.tr r (Int.le_refl _) (by omega)) z h
      · obtain ⟨r2, ⟨u2, u3, u5⟩, hL2, ⟨v1, v2, v3, v4, v5, v6⟩, ⟨te, sp2, n38⟩, hsem⟩ := X
        have rd2 : RF d d2 c l := R1.tr r2 (Int.le_refl _) (by omega)
        have j12 : d2 19 l = -1 := by rw [r2.2.2.2 19 l (by omega) (Or.inl rfl)]; exact nlD_12
        refine A_if_ne (tgt := 29) dX3_readTest_24 (by decide) (fun c_24 => ?_) (fun c_24 => absurd c_24 (by omega))
        refine A_aload_n dX3_readTest_29 rfl rfl ?_
        refine A_bipush dX3_readTest_30 ⟨by decide, by decide⟩ rfl ?_
        refine A_inv1 dX3_readTest_32 mv_X3_69 kCl_3 (Nat.le_of_ble_eq_true rfl) (by assumption) ?_
        rw [← kU_id u2]
        refine C_rtake hM (rd2.T hT) hn (by omega) v2 (fun h124 => ?_) (fun h124 => ?_)
        · rw [sp2] at h124 ⊢
          have lt2 := ch_lt (t := t) (n := n) (p := p2) (by omega)
          have te2 : tE t n true o p2 = tE t n false o (p2 + 1) := by rw [tE_A v2, sp2, if_neg (by omega), if_pos (Or.inr h124)]
          have x3 : kU d2 9 2 (p2 + 1) 9 3 = c2 := by rw [kU_f (by decide)]; exact u3
          refine A_if_ne (tgt := 47) dX3_readTest_35 (by decide) (fun c_35 => ?_) (fun c_35 => absurd c_35 (by omega))
          refine A_aload_n dX3_readTest_47 rfl rfl ?_
          refine A_iload dX3_readTest_48 rfl ?_
          refine A_aload_n dX3_readTest_50 rfl rfl ?_
          refine A_get (fi := 3) dX3_readTest_51 fg_X3_22 rfl rfl (by assumption) ?_
          rw [x3]
          refine A_inv2 dX3_readTest_54 mv_X3_87 kCl_3 (Nat.le_of_ble_eq_true rfl) (by assumption) ?_
          refine C_fix hM b5 (by omega) ?_
          refine A_iinc_ok dX3_readTest_57 rfl rfl (by omega) (by omega) ?_
          refine A_goto (tgt := 3) dX3_readTest_60 (by decide) ?_
          have r3 : RF d (kU (kU d2 9 2 (p2 + 1)) 20 l c2) c l := (rd2.u (Or.inl ⟨rfl, Or.inl rfl⟩)).u (Or.inr (Or.inr ⟨Or.inr rfl, Int.le_refl _⟩))
          refine ih (j + 1) _ (p2 + 1) c2 l2 (by omega) (by omega) ⟨r3.T hT, ⟨by rw [kU_ne (by decide), kU_s], by rw [kU_ne (by decide)]; exact x3, by rw [kU_ne (by decide), kU_f (by decide)]; exact u5⟩, (hL2.u (by decide) (by decide) (by decide)).u (by decide) (by decide) (by decide), by omega, by omega, by omega, by omega, by omega, by omega⟩ ⟨hso.1, by omega⟩ ⟨hno.1, by omega⟩ (fun d' p' r z h => ?_) (fun d' p' c' l' X => ?_) _
          · exact hF d' p' (r3.tr r (by omega) (by omega)) z (by rw [te, te2]; exact h)
          · obtain ⟨r4, h4, hL4, ⟨w1, w2, w3, w4, w5, w6⟩, ⟨te4, sp4, n4, n5⟩, hsem4⟩ := X
            refine hS d' p' c' l' ⟨r3.tr r4 (by omega) (by omega), h4, hL4, ⟨by omega, w2, by omega, by omega, by omega, by omega⟩, ⟨by rw [te, te2]; exact te4, sp4, n4, n5⟩, fun g dd oo v => ?_⟩
            obtain ⟨z, hz, zfl, zch⟩ := hsem g dd oo v
            obtain ⟨x2, hx2, ⟨e2, cc2, hec2, xfl⟩, xch⟩ := hsem4 g dd oo v
            refine ⟨or1 z x2, or1_b _ _, ⟨or1 z e2, cc2, by rw [or1_as, hec2], fun ht s cs cl tu hs => ?_⟩, fun F lam N hZ hN => ?_⟩
            · have t2 : (tE t n true o p2).1 = true := by rw [te2, te4]; exact ht
              have ea : an 1 z = z := by rcases hz with rfl | rfl <;> rfl
              rw [zfl t2, ea, eE_A2 (by rw [sp2]; exact h124) (by rw [sp2, te4]; exact ht), sp2, fU_s, fU_s, fU_2, fU_2, xfl ht _ _ _ _ (or1_b _ _), or1_as]
            · obtain ⟨k1, hk1, hr1⟩ := zch F lam N (hZ.sub (fun a i i1 i2 a1 a2 => by rw [r4.2.2.1 a i i2 a1 a2, kU_ne (by omega), kU_ne (by omega)]) (fun a i i1 i2 ha => by
                rw [r4.2.2.2 a i i2 ha]
                rcases ha with rfl | rfl
                · rw [kU_ne (by decide), kU_ne (by decide)]
                · rw [kU_f (by omega), kU_ne (by decide)]) (Int.le_refl _) (by omega) (by omega) (by omega)) (by omega)
              obtain ⟨k2, hk2, hr2⟩ := xch F lam N (hZ.sub (fun _ _ _ _ _ _ => rfl) (fun _ _ _ _ _ => rfl) (by omega) (Int.le_refl _) (by omega) (Int.le_refl _)) hN
              have el : lam l = c2 := by
                rw [hZ.2 l (Int.le_refl _) (by omega), r4.2.2.2 19 l (by omega) (Or.inl rfl), r4.2.2.2 20 l (by omega) (Or.inr rfl), kU_ne (by decide), kU_ne (by decide), kU_s, if_pos j12]
              rcases hz with rfl | rfl
              · rw [if_neg (by decide), el] at hr1
                refine ⟨k1 + k2, by omega, ?_⟩
                have ea : or1 0 x2 = x2 := by rcases hx2 with rfl | rfl <;> rfl
                rw [ea]
                exact hr1.tr hr2
              · refine ⟨k1, by omega, ?_⟩
                rw [if_pos (by decide)] at hr1
                rw [if_pos (by unfold or1; simp)]
                exact hr1
        · rw [sp2] at h124 ⊢
          refine A_if_ne (tgt := 47) dX3_readTest_35 (by decide) (fun c_35 => absurd c_35 (by omega)) (fun c_35 => ?_)
          refine A_aload_n dX3_readTest_38 rfl rfl ?_
          refine A_iload dX3_readTest_39 rfl ?_
          refine A_iload_n dX3_readTest_41 rfl rfl ?_
          refine A_inv2 dX3_readTest_42 mv_X3_96 kCl_3 (Nat.le_of_ble_eq_true rfl) (by assumption) ?_
          refine C_join hM b5 (by omega) ?_
          refine A_iconst dX3_readTest_45 ⟨by decide, by decide⟩ ?_
          refine A_zret dX3_readTest_46 rfl (by first | exact Or.inl rfl | exact Or.inr rfl | assumption | omega) ?_
          have r3 : RF d (kU (kU d2 9 2 p2) 19 l no) c l := (rd2.u (Or.inl ⟨rfl, Or.inl rfl⟩)).u (Or.inr (Or.inr ⟨Or.inl rfl, Int.le_refl _⟩))
          refine hS _ p2 c2 l2 ⟨r3, ⟨by rw [kU_ne (by decide), kU_s], by rw [kU_ne (by decide), kU_f (by decide)]; exact u3, by rw [kU_ne (by decide), kU_f (by decide)]; exact u5⟩, (hL2.u (by decide) (by decide) (by decide)).j hno.1 hno.2, ⟨by omega, v2, by omega, by omega, by omega, by omega⟩, ⟨te, sp2, n38, h124⟩, fun g dd oo v => ?_⟩
          obtain ⟨z, hz, zfl, zch⟩ := hsem g dd oo v
          refine ⟨z, hz, ⟨0, z, by rcases hz with rfl | rfl <;> rfl, fun ht s cs cl tu hs => ?_⟩, fun F lam N hZ hN => ?_⟩
          · have ea : an 1 z = z := by rcases hz with rfl | rfl <;> rfl
            have eo : or1 s 0 = s := by rcases hs with rfl | rfl <;> rfl
            rw [zfl ht, ea, eo]
          · obtain ⟨k1, hk1, hr1⟩ := zch F lam N (hZ.sub (fun a i i1 i2 a1 a2 => by rw [kU_ne (by omega), kU_ne (by omega)]) (fun a i i1 i2 ha => by
              rcases ha with rfl | rfl
              · rw [kU_f (by omega), kU_ne (by decide)]
              · rw [kU_ne (by decide), kU_ne (by decide)]) (Int.le_refl _) (Int.le_refl _) (by omega) (Int.le_refl _)) hN
            have el : lam l = lam no := by
              rw [hZ.2 l (Int.le_refl _) (by omega), kU_s, if_neg (by omega)]
            rw [el] at hr1
            exact ⟨k1, hk1, hr1⟩
  refine AM.of rfl (Nat.le_of_ble_eq_true rfl) ?_
  have := hE0.2.2.2.1
  refine A_iconst dX3_readTest_0 ⟨by decide, by decide⟩ ?_
  refine A_istore dX3_readTest_1 (Nat.le_of_ble_eq_true rfl) rfl ?_
  exact loop _ 0 d0 p0 c00 l0 (Nat.lt_succ_self _) (by omega) hE0 hso0 hno0 hF0 hS0 none
theorem rd_PT0 (hM : RO G) (hn : n ≤ 100) : PT E G t n (k + 17) 0 := by
  have T4 : PT E G t n (k + 5) 4 := rd_T hM hn (rd_C hM hn (rd_B hM hn (by decide) (by decide) (fun h => absurd h (by decide))))
  have T3 : PT E G t n (k + 8) 3 := rd_T hM hn (rd_C hM hn (rd_B (k := k + 3) hM hn (by decide) (by decide) (fun _ => T4)))
  have T2 : PT E G t n (k + 11) 2 := rd_T hM hn (rd_C hM hn (rd_B (k := k + 6) hM hn (by decide) (by decide) (fun _ => T3)))
  have T1 : PT E G t n (k + 14) 1 := rd_T hM hn (rd_C hM hn (rd_B (k := k + 9) hM hn (by decide) (by decide) (fun _ => T2)))
  exact rd_T hM hn (rd_C hM hn (rd_B (k := k + 12) hM hn (by decide) (by decide) (fun _ => T1)))
end RD5
