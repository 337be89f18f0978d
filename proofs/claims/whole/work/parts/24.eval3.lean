theorem eE_cg {t : Int → Int} {n : Int} {cv : Int → Int} : ∀ (f : Nat) (b : Bool) (o p : Int) (cs cl tu cs' cl' tu' : Int → Int), (n - p).toNat < f → p ≤ n → 0 ≤ o → (tE t n b o p).1 = true → (∀ i, 0 ≤ i → i ≤ o → cs i = cs' i ∧ cl i = cl' i ∧ (1 ≤ i → tu i = tu' i)) → eE t n cv b o p cs cl tu = eE t n cv b o p cs' cl' tu'
  | 0, b, o, p, _, _, _, _, _, _, h, _, _, _, _ => by omega
  | f + 1, false, o, p, cs, cl, tu, cs', cl', tu', h, hp, ho, ht, he => by
    have hnb := nb_ge (t := t) (n := n) p
    rw [tE_F hp] at ht
    by_cases c1 : ch t n (nb t n p) = 40
    · have := ch_lt (t := t) (n := n) (p := nb t n p) (by omega)
      rw [if_pos c1] at ht
      by_cases c2 : o = 4
      · rw [if_pos c2] at ht; cases ht
      · rw [if_neg c2] at ht
        rw [eE_F1 hp c1 ht, eE_F1 hp c1 ht]
        refine eE_cg f false (o + 1) _ _ _ _ _ _ _ (by omega) (by omega) (by omega) ht (fun i i1 i2 => ?_)
        unfold fU
        by_cases q : i = o + 1
        · rw [if_pos q, if_pos q, if_pos q, if_pos q, if_pos q, if_pos q]; exact ⟨rfl, rfl, fun _ => rfl⟩
        · rw [if_neg q, if_neg q, if_neg q, if_neg q, if_neg q, if_neg q]; exact he i i1 (by omega)
    · rw [if_neg c1] at ht
      by_cases c2 : (clP t n (nb t n p)).1 = true
      · rw [if_pos c2] at ht
        have := clP_ok c2
        rw [eE_F2 hp c1 c2 ht, eE_F2 hp c1 c2 ht]
        refine eE_cg f true o _ _ _ _ _ _ _ (by omega) (by omega) (by omega) ht (fun i i1 i2 => ?_)
        have ho' := he o ho (by omega)
        unfold fU
        by_cases q : i = o
        · rw [if_pos q, if_pos q, ho'.2.1]; exact ⟨(he i i1 i2).1, rfl, (he i i1 i2).2.2⟩
        · rw [if_neg q, if_neg q]; exact he i i1 (by omega)
      · rw [if_neg c2] at ht; cases ht
  | f + 1, true, o, p, cs, cl, tu, cs', cl', tu', h, hp, ho, ht, he => by
    have hnb := sk_ge (t := t) (n := n) p
    rw [tE_A hp] at ht
    have ho' := he o ho (by omega)
    by_cases c1 : ch t n (sk t n p) = 41 ∧ 0 < o
    · have := ch_lt (t := t) (n := n) (p := sk t n p) (by omega)
      rw [if_pos c1] at ht
      rw [eE_A1 c1.1 ht, eE_A1 c1.1 ht]
      refine eE_cg f true _ _ _ _ _ _ _ _ (by omega) (by omega) (by omega) ht (fun i i1 i2 => ?_)
      have h1 := he (o - 1) (by omega) (by omega)
      unfold fU
      by_cases q : i = o - 1
      · rw [if_pos q, if_pos q, h1.2.1, ho'.1, ho'.2.1, ho'.2.2 (by omega)]; exact ⟨(he i i1 (by omega)).1, rfl, (he i i1 (by omega)).2.2⟩
      · rw [if_neg q, if_neg q]; exact he i i1 (by omega)
    · rw [if_neg c1] at ht
      by_cases c2 : ch t n (sk t n p) = 38 ∨ ch t n (sk t n p) = 124
      · have := ch_lt (t := t) (n := n) (p := sk t n p) (by omega)
        rw [if_pos c2] at ht
        by_cases c3 : ch t n (sk t n p) = 124
        · rw [eE_A2 c3 ht, eE_A2 c3 ht]
          refine eE_cg f false _ _ _ _ _ _ _ _ (by omega) (by omega) (by omega) ht (fun i i1 i2 => ?_)
          unfold fU
          by_cases q : i = o
          · rw [if_pos q, if_pos q, if_pos q, if_pos q, ho'.1, ho'.2.1]; exact ⟨rfl, rfl, (he i i1 i2).2.2⟩
          · rw [if_neg q, if_neg q, if_neg q, if_neg q]; exact he i i1 (by omega)
        · rw [eE_A3 (by omega) ht, eE_A3 (by omega) ht]
          exact eE_cg f false _ _ _ _ _ _ _ _ (by omega) (by omega) (by omega) ht he
      · rw [if_neg c2] at ht
        by_cases c3 : ch t n (sk t n p) = 58 ∧ o = 0
        · have h0 := he 0 (by omega) (by omega)
          rw [eE_A4 c3.1, eE_A4 c3.1, h0.1, h0.2.1]
        · rw [if_neg c3] at ht; cases ht
/-- what a test at p comes to -/
def evT (t : Int → Int) (n : Int) (cv : Int → Int) (p : Int) : Int := eE t n cv false 0 p (fun _ => 0) (fun _ => 1) (fun _ => 0)
section M10
variable {E : EE} {k m : Nat} {G : HG} {d : HD} {K : PQ} {n B : Int} {t : Int → Int}
theorem C_testHolds {p g dd oo v : Int} (hM : MO G m) (hT : ZT d m B n t) (hB : 0 ≤ B) (hB2 : B + n ≤ 3200) (h0 : 0 ≤ p) (h1 : p ≤ n) (hC : (tE t n false 0 p).1 = true) (hK : ∀ h', (∀ a, ¬ (m + 10 ≤ a ∧ a ≤ m + 12) → h' a = d a) → K (some (kI (evT t n (cvS t n g dd oo v) p))) G (kU h' m 11 (B + (tE t n false 0 p).2))) : AM E mX7_testHolds (k + 4) 0 0 [kR m, kI g, kI dd, kI oo, kI v] G (kU d m 11 (B + p)) K := by
  obtain ⟨ho, e0, a0, e1, a1, e2, a2, e4, a4, e5, a5, e6, a6, e7, a7, e8, a8, e9, a9, e13, a13, e14, a14, e15, a15, -⟩ := id hM
  generalize hcv : cvS t n g dd oo v = cv at hK
  have loop : ∀ (q : Nat),
      (∀ (o x : Int) (h : HD) (cs cl tu : Int → Int), (n - x).toNat < q → 0 ≤ x → x ≤ n → 0 ≤ o → o ≤ 4 → tE t n false o x = tE t n false 0 p → (∀ a, ¬ (m + 10 ≤ a ∧ a ≤ m + 12) → h a = d a) → h (m + 10) = cs → h (m + 11) = cl → h (m + 12) = tu → eE t n cv false o x cs cl tu = evT t n cv p → ∀ q6 q7 q8 : Option AV, AW E mX7_testHolds (k + 4) 0 0 17 [some (kR m), some (kI g), some (kI dd), some (kI oo), some (kI v), some (kI o), q6, q7, q8] [] G (kU h m 11 (B + x)) K) ∧
      (∀ (o x : Int) (h : HD) (cs cl tu : Int → Int), (n - x).toNat < q → 0 ≤ x → x ≤ n → 0 ≤ o → o ≤ 4 → tE t n true o x = tE t n false 0 p → (∀ a, ¬ (m + 10 ≤ a ∧ a ≤ m + 12) → h a = d a) → h (m + 10) = cs → h (m + 11) = cl → h (m + 12) = tu → eE t n cv true o x cs cl tu = evT t n cv p → ∀ (q6 q7 : Int) (q8 : Option AV), AW E mX7_testHolds (k + 4) 0 0 153 [some (kR m), some (kI g), some (kI dd), some (kI oo), some (kI v), some (kI o), some (kI q6), some (kI q7), q8] [] G (kU h m 11 (B + x)) K) := by
    intro q
    induction q with
    | zero => exact ⟨fun o x h cs cl tu hq => by omega, fun o x h cs cl tu hq => by omega⟩
    | succ q ih =>
      obtain ⟨ihF, ihA⟩ := ih
      constructor
      · intro o x h cs cl tu hq hx hxn ho1 ho2 he hh hcs hcl htu hev q6 q7 q8
        have hT' : ZT h m B n t := ⟨by rw [hh m (by omega)]; exact hT.1, fun i i1 i2 => by rw [hh (m + 1) (by omega)]; exact hT.2 i i1 i2⟩
        rw [tE_F hxn] at he
        have g1 := sk_ge (t := t) (n := n) x
        have l1 := sk_le (t := t) hxn
        have gn := nb_ge (t := t) (n := n) x
        have ln := nb_le (t := t) hxn
        have f1 : kU h m 11 (B + sk t n x) m 11 = B + sk t n x := kU_s
        have f2 : kU h m 11 (B + nb t n x) m 11 = B + nb t n x := kU_s
        have bare : ∀ (y nt : Int), sk t n y = nb t n x → 0 ≤ y → y ≤ n → nt = (if ch t n (sk t n x) = 33 then 1 else 0) → AW E mX7_testHolds (k + 4) 0 0 55 [some (kR m), some (kI g), some (kI dd), some (kI oo), some (kI v), some (kI o), some (kI nt), q7, q8] [] G (kU h m 11 (B + y)) K := by
          intro y nt hy y0 yn hnt
          have hnb : nt = 0 ∨ nt = 1 := by rw [hnt]; split <;> simp
          refine A_aload_n dX7_testHolds_55 rfl rfl ?_
          refine A_inv0 dX7_testHolds_56 mv_X7_143 kCl_7 (Nat.le_of_ble_eq_true rfl) (by assumption) ?_
          refine C_sign hM hT' hB hB2 y0 yn ?_
          rw [hy]
          refine A_bipush dX7_testHolds_59 ⟨by decide, by decide⟩ rfl ?_
          refine A_icmp_ne (tgt := 105) dX7_testHolds_61 (by decide) (fun c_61 => ?_) (fun c_61 => ?_)
          · rw [if_neg c_61] at he
            have hcl1 : (clP t n (nb t n x)).1 = true := by
              by_cases z : (clP t n (nb t n x)).1 = true
              · exact z
              · rw [if_neg z] at he; rw [← he] at hC; cases hC
            rw [if_pos hcl1] at he
            have hcp := clP_ok hcl1
            rw [eE_F2 hxn c_61 hcl1 (by rw [he]; exact hC), ← hnt] at hev
            have st : ∀ (w z : Int), z = xr (cv (nb t n x)) nt → w = an (cl o) z → AW E mX7_testHolds (k + 4) 0 0 152 [some (kR m), some (kI g), some (kI dd), some (kI oo), some (kI v), some (kI o), some (kI nt), some (kI z), q8] [kI w, kI o, kR (m + 11)] G (kU h m 11 (B + (clP t n (nb t n x)).2)) K := by
              intro w z hz hw
              have hwb : w = 0 ∨ w = 1 := by rw [hw]; exact an_b _ _
              refine A_zast dX7_testHolds_152 (by assumption) (by omega) (by omega) (by first | exact Or.inl rfl | exact Or.inr rfl | assumption | omega) ?_
              rw [kU_c (by omega)]
              refine ihA o _ (kU h (m + 11) o w) cs (fU cl o w) tu (by omega) (by omega) (by omega) (by omega) (by omega) he (fun a ha => by rw [kU_ne (by omega)]; exact hh a ha) (by rw [kU_ne (by omega)]; exact hcs) ?_ (by rw [kU_ne (by omega)]; exact htu) (by rw [hw, hz]; exact hev) _ _ _
              funext i
              unfold kU fU
              rw [hcl]
              by_cases hi : i = o
              · rw [if_pos ⟨rfl, hi⟩, if_pos hi]
              · rw [if_neg (by omega), if_neg hi]
            have fcl : ∀ i, kU h m 11 (B + (clP t n (nb t n x)).2) (m + 11) i = cl i := fun i => by rw [kU_ne (by omega), hcl]
            have st2 : ∀ z : Int, z = xr (cv (nb t n x)) nt → AW E mX7_testHolds (k + 4) 0 0 126 [some (kR m), some (kI g), some (kI dd), some (kI oo), some (kI v), some (kI o), some (kI nt), some (kI z), q8] [] G (kU h m 11 (B + (clP t n (nb t n x)).2)) K := by
              intro z hz
              refine A_aload_n dX7_testHolds_126 rfl rfl ?_
              refine A_getR (fi := 14) dX7_testHolds_127 fg_X7_41 rfl rfl (by assumption) (by assumption) ?_
              refine A_iload dX7_testHolds_130 rfl ?_
              refine A_aload_n dX7_testHolds_132 rfl rfl ?_
              refine A_getR (fi := 14) dX7_testHolds_133 fg_X7_41 rfl rfl (by assumption) (by assumption) ?_
              refine A_iload dX7_testHolds_136 rfl ?_
              refine A_zald dX7_testHolds_138 (by assumption) (by omega) (by omega) ?_
              refine A_if_eq (tgt := 151) dX7_testHolds_139 (by decide) (fun c_139 => ?_) (fun c_139 => ?_)
              · rw [fcl] at c_139
                refine A_iconst dX7_testHolds_151 ⟨by decide, by decide⟩ ?_
                exact st 0 z hz (by unfold an; rw [if_neg (by omega)])
              · rw [fcl] at c_139
                refine A_iload dX7_testHolds_142 rfl ?_
                refine A_if_eq (tgt := 151) dX7_testHolds_144 (by decide) (fun c_144 => ?_) (fun c_144 => ?_)
                · refine A_iconst dX7_testHolds_151 ⟨by decide, by decide⟩ ?_
                  exact st 0 z hz (by unfold an; rw [if_neg (by omega)])
                · refine A_iconst dX7_testHolds_147 ⟨by decide, by decide⟩ ?_
                  refine A_goto (tgt := 152) dX7_testHolds_148 (by decide) ?_
                  exact st 1 z hz (by unfold an; rw [if_pos ⟨c_139, c_144⟩])
            refine A_aload_n dX7_testHolds_105 rfl rfl ?_
            refine A_iload_n dX7_testHolds_106 rfl rfl ?_
            refine A_iload_n dX7_testHolds_107 rfl rfl ?_
            refine A_iload_n dX7_testHolds_108 rfl rfl ?_
            refine A_iload dX7_testHolds_109 rfl ?_
            refine A_inv4 dX7_testHolds_111 mv_X7_152 kCl_7 (Nat.le_of_ble_eq_true rfl) (by assumption) ?_
            refine C_claimHolds hM hT' hB hB2 (by omega) (by omega) (by rw [nb_sk]; exact hcl1) ?_
            rw [nb_sk, hcv]
            refine A_iload dX7_testHolds_114 rfl ?_
            refine A_icmp_eq (tgt := 123) dX7_testHolds_116 (by decide) (fun c_116 => ?_) (fun c_116 => ?_)
            · refine A_iconst dX7_testHolds_123 ⟨by decide, by decide⟩ ?_
              refine A_istore dX7_testHolds_124 (Nat.le_of_ble_eq_true rfl) rfl ?_
              exact st2 0 (by unfold xr; rw [if_neg (by omega)])
            · refine A_iconst dX7_testHolds_119 ⟨by decide, by decide⟩ ?_
              refine A_goto (tgt := 124) dX7_testHolds_120 (by decide) ?_
              refine A_istore dX7_testHolds_124 (Nat.le_of_ble_eq_true rfl) rfl ?_
              exact st2 1 (by unfold xr; rw [if_pos c_116])
          · rw [if_pos c_61] at he
            have y1 := ch_lt (t := t) (n := n) (p := nb t n x) (by omega)
            have ho4 : o ≠ 4 := fun z => by rw [if_pos z] at he; rw [← he] at hC; cases hC
            rw [if_neg ho4] at he
            rw [eE_F1 hxn c_61 (by rw [he]; exact hC), ← hnt] at hev
            refine A_aload_n dX7_testHolds_64 rfl rfl ?_
            refine A_dup dX7_testHolds_65 (fun B => toV_cat B _) ?_
            refine A_get (fi := 11) dX7_testHolds_66 fg_X7_137 rfl rfl (by assumption) ?_
            refine A_iconst dX7_testHolds_69 ⟨by decide, by decide⟩ ?_
            refine A_iadd_ok dX7_testHolds_70 (by omega) (by omega) ?_
            refine A_put (fi := 11) dX7_testHolds_71 fp_X7_137 rfl rfl (by assumption) ?_
            refine A_iinc_ok dX7_testHolds_74 rfl rfl (by omega) (by omega) ?_
            refine A_aload_n dX7_testHolds_77 rfl rfl ?_
            refine A_getR (fi := 13) dX7_testHolds_78 fg_X7_38 rfl rfl (by assumption) (by assumption) ?_
            refine A_iload dX7_testHolds_81 rfl ?_
            refine A_iconst dX7_testHolds_83 ⟨by decide, by decide⟩ ?_
            refine A_zast dX7_testHolds_84 (by assumption) (by omega) (by omega) (by first | exact Or.inl rfl | exact Or.inr rfl | assumption | omega) ?_
            refine A_aload_n dX7_testHolds_85 rfl rfl ?_
            refine A_getR (fi := 14) dX7_testHolds_86 fg_X7_41 rfl rfl (by assumption) (by assumption) ?_
            refine A_iload dX7_testHolds_89 rfl ?_
            refine A_iconst dX7_testHolds_91 ⟨by decide, by decide⟩ ?_
            refine A_zast dX7_testHolds_92 (by assumption) (by omega) (by omega) (by first | exact Or.inl rfl | exact Or.inr rfl | assumption | omega) ?_
            refine A_aload_n dX7_testHolds_93 rfl rfl ?_
            refine A_getR (fi := 15) dX7_testHolds_94 fg_X7_44 rfl rfl (by assumption) (by assumption) ?_
            refine A_iload dX7_testHolds_97 rfl ?_
            refine A_iload dX7_testHolds_99 rfl ?_
            refine A_zast dX7_testHolds_101 (by assumption) (by omega) (by omega) (by first | exact Or.inl rfl | exact Or.inr rfl | assumption | omega) ?_
            refine A_goto (tgt := 331) dX7_testHolds_102 (by decide) ?_
            refine A_goto (tgt := 17) dX7_testHolds_331 (by decide) ?_
            rw [f2, kU_2, kU_c (show m ≠ m + 10 by omega), kU_c (show m ≠ m + 11 by omega), kU_c (show m ≠ m + 12 by omega), show B + nb t n x + 1 = B + (nb t n x + 1) by omega]
            refine ihF (o + 1) (nb t n x + 1) _ (fU cs (o + 1) 0) (fU cl (o + 1) 1) (fU tu (o + 1) nt) (by omega) (by omega) (by omega) (by omega) (by omega) he (fun a ha => by rw [kU_ne (by omega), kU_ne (by omega), kU_ne (by omega)]; exact hh a ha) ?_ ?_ ?_ hev _ _ _
            · rw [kU_ne (by omega), kU_ne (by omega)]
              funext i
              unfold kU fU
              rw [hcs]
              by_cases hi : i = o + 1
              · rw [if_pos ⟨rfl, hi⟩, if_pos hi]
              · rw [if_neg (by omega), if_neg hi]
            · rw [kU_ne (by omega)]
              funext i
              unfold kU fU
              rw [if_neg (show ¬ (m + 11 = m + 10 ∧ i = o + 1) by omega), hcl]
              by_cases hi : i = o + 1
              · rw [if_pos ⟨rfl, hi⟩, if_pos hi]
              · rw [if_neg (by omega), if_neg hi]
            · funext i
              unfold kU fU
              rw [if_neg (show ¬ (m + 12 = m + 11 ∧ i = o + 1) by omega), if_neg (show ¬ (m + 12 = m + 10 ∧ i = o + 1) by omega), htu]
              by_cases hi : i = o + 1
              · rw [if_pos ⟨rfl, hi⟩, if_pos hi]
              · rw [if_neg (by omega), if_neg hi]
        refine A_aload_n dX7_testHolds_17 rfl rfl ?_
        refine A_inv0 dX7_testHolds_18 mv_X7_143 kCl_7 (Nat.le_of_ble_eq_true rfl) (by assumption) ?_
        refine C_sign hM hT' hB hB2 hx hxn ?_
        refine A_bipush dX7_testHolds_21 ⟨by decide, by decide⟩ rfl ?_
        refine A_icmp_ne (tgt := 30) dX7_testHolds_23 (by decide) (fun c_23 => ?_) (fun c_23 => ?_)
        · refine A_iconst dX7_testHolds_30 ⟨by decide, by decide⟩ ?_
          refine A_istore dX7_testHolds_31 (Nat.le_of_ble_eq_true rfl) rfl ?_
          refine A_aload_n dX7_testHolds_33 rfl rfl ?_
          refine A_iload dX7_testHolds_34 rfl ?_
          refine A_if_eq (tgt := 48) dX7_testHolds_36 (by decide) (fun c_36 => ?_) (fun c_36 => absurd c_36 (by omega))
          refine A_aload_n dX7_testHolds_48 rfl rfl ?_
          refine A_get (fi := 11) dX7_testHolds_49 fg_X7_137 rfl rfl (by assumption) ?_
          refine A_put (fi := 11) dX7_testHolds_52 fp_X7_137 rfl rfl (by assumption) ?_
          rw [f1, kU_2]
          exact bare (sk t n x) 0 (by rw [sk_sk]; unfold nb; rw [if_neg c_23]) (by omega) (by omega) (by rw [if_neg c_23])
        · have y1 := ch_lt (t := t) (n := n) (p := sk t n x) (by omega)
          refine A_iconst dX7_testHolds_26 ⟨by decide, by decide⟩ ?_
          refine A_goto (tgt := 31) dX7_testHolds_27 (by decide) ?_
          refine A_istore dX7_testHolds_31 (Nat.le_of_ble_eq_true rfl) rfl ?_
          refine A_aload_n dX7_testHolds_33 rfl rfl ?_
          refine A_iload dX7_testHolds_34 rfl ?_
          refine A_if_eq (tgt := 48) dX7_testHolds_36 (by decide) (fun c_36 => absurd c_36 (by omega)) (fun c_36 => ?_)
          refine A_aload_n dX7_testHolds_39 rfl rfl ?_
          refine A_get (fi := 11) dX7_testHolds_40 fg_X7_137 rfl rfl (by assumption) ?_
          refine A_iconst dX7_testHolds_43 ⟨by decide, by decide⟩ ?_
          refine A_iadd_ok dX7_testHolds_44 (by omega) (by omega) ?_
          refine A_goto (tgt := 52) dX7_testHolds_45 (by decide) ?_
          refine A_put (fi := 11) dX7_testHolds_52 fp_X7_137 rfl rfl (by assumption) ?_
          rw [f1, kU_2, show B + sk t n x + 1 = B + (sk t n x + 1) by omega]
          exact bare (sk t n x + 1) 1 (by unfold nb; rw [if_pos c_23]) (by omega) (by omega) (by rw [if_pos c_23])
      · intro o x h cs cl tu hq hx hxn ho1 ho2 he hh hcs hcl htu hev q6 q7 q8
        have hT' : ZT h m B n t := ⟨by rw [hh m (by omega)]; exact hT.1, fun i i1 i2 => by rw [hh (m + 1) (by omega)]; exact hT.2 i i1 i2⟩
        rw [tE_A hxn] at he
        have g1 := sk_ge (t := t) (n := n) x
        have l1 := sk_le (t := t) hxn
        have f1 : kU h m 11 (B + sk t n x) m 11 = B + sk t n x := kU_s
        have fcs : ∀ i z, kU h m 11 z (m + 10) i = cs i := fun i z => by rw [kU_ne (by omega), hcs]
        have fcl : ∀ i z, kU h m 11 z (m + 11) i = cl i := fun i z => by rw [kU_ne (by omega), hcl]
        have ftu : ∀ i z, kU h m 11 z (m + 12) i = tu i := fun i z => by rw [kU_ne (by omega), htu]
        refine A_aload_n dX7_testHolds_153 rfl rfl ?_
        refine A_inv0 dX7_testHolds_154 mv_X7_143 kCl_7 (Nat.le_of_ble_eq_true rfl) (by assumption) ?_
        refine C_sign hM hT' hB hB2 hx hxn ?_
        refine A_bipush dX7_testHolds_157 ⟨by decide, by decide⟩ rfl ?_
        refine A_icmp_ne (tgt := 247) dX7_testHolds_159 (by decide) (fun c_159 => ?_) (fun c_159 => ?_)
        · have hne : ¬ (ch t n (sk t n x) = 41 ∧ 0 < o) := by omega
          rw [if_neg hne] at he
          refine A_aload_n dX7_testHolds_247 rfl rfl ?_
          refine A_inv0 dX7_testHolds_248 mv_X7_146 kCl_7 (Nat.le_of_ble_eq_true rfl) (by assumption) ?_
          refine C_take hM hT' hB hB2 (by omega) (by omega) ?_
          rw [sk_sk]
          refine A_istore dX7_testHolds_251 (Nat.le_of_ble_eq_true rfl) rfl ?_
          refine A_iload dX7_testHolds_253 rfl ?_
          refine A_bipush dX7_testHolds_255 ⟨by decide, by decide⟩ rfl ?_
          refine A_icmp_ne (tgt := 284) dX7_testHolds_257 (by decide) (fun c_257 => ?_) (fun c_257 => ?_)
          · have hc : ch t n (sk t n x) = 38 ∨ ch t n (sk t n x) = 124 := by
              by_cases z : ch t n (sk t n x) = 38 ∨ ch t n (sk t n x) = 124
              · exact z
              · rw [if_neg z, if_neg (by omega)] at he; rw [← he] at hC; cases hC
            rw [if_pos hc] at he
            have y1 := ch_lt (t := t) (n := n) (p := sk t n x) (by omega)
            refine A_iload dX7_testHolds_284 rfl ?_
            refine A_bipush dX7_testHolds_286 ⟨by decide, by decide⟩ rfl ?_
            refine A_icmp_ne (tgt := 331) dX7_testHolds_288 (by decide) (fun c_288 => ?_) (fun c_288 => ?_)
            · rw [eE_A3 (by omega) (by rw [he]; exact hC)] at hev
              refine A_goto (tgt := 17) dX7_testHolds_331 (by decide) ?_
              exact ihF o _ h cs cl tu (by omega) (by omega) (by omega) (by omega) (by omega) he hh hcs hcl htu hev _ _ _
            · rw [eE_A2 c_288 (by rw [he]; exact hC)] at hev
              have st : ∀ w : Int, w = or1 (cs o) (cl o) → AW E mX7_testHolds (k + 4) 0 0 322 [some (kR m), some (kI g), some (kI dd), some (kI oo), some (kI v), some (kI o), some (kI q6), some (kI q7), some (kI (ch t n (sk t n x)))] [kI w, kI o, kR (m + 10)] G (kU h m 11 (B + (sk t n x + 1))) K := by
                intro w hw
                have hwb : w = 0 ∨ w = 1 := by rw [hw]; exact or1_b _ _
                refine A_zast dX7_testHolds_322 (by assumption) (by omega) (by omega) (by first | exact Or.inl rfl | exact Or.inr rfl | assumption | omega) ?_
                refine A_aload_n dX7_testHolds_323 rfl rfl ?_
                refine A_getR (fi := 14) dX7_testHolds_324 fg_X7_41 rfl rfl (by assumption) (by assumption) ?_
                refine A_iload dX7_testHolds_327 rfl ?_
                refine A_iconst dX7_testHolds_329 ⟨by decide, by decide⟩ ?_
                refine A_zast dX7_testHolds_330 (by assumption) (by omega) (by omega) (by first | exact Or.inl rfl | exact Or.inr rfl | assumption | omega) ?_
                refine A_goto (tgt := 17) dX7_testHolds_331 (by decide) ?_
                rw [kU_c (show m ≠ m + 10 by omega), kU_c (show m ≠ m + 11 by omega)]
                refine ihF o _ (kU (kU h (m + 10) o w) (m + 11) o 1) (fU cs o w) (fU cl o 1) tu (by omega) (by omega) (by omega) (by omega) (by omega) he (fun a ha => by rw [kU_ne (by omega), kU_ne (by omega)]; exact hh a ha) ?_ ?_ (by rw [kU_ne (by omega), kU_ne (by omega)]; exact htu) (by rw [hw]; exact hev) _ _ _
                · rw [kU_ne (by omega)]
                  funext i
                  unfold kU fU
                  rw [hcs]
                  by_cases hi : i = o
                  · rw [if_pos ⟨rfl, hi⟩, if_pos hi]
                  · rw [if_neg (by omega), if_neg hi]
                · funext i
                  unfold kU fU
                  rw [if_neg (show ¬ (m + 11 = m + 10 ∧ i = o) by omega), hcl]
                  by_cases hi : i = o
                  · rw [if_pos ⟨rfl, hi⟩, if_pos hi]
                  · rw [if_neg (by omega), if_neg hi]
              refine A_aload_n dX7_testHolds_291 rfl rfl ?_
              refine A_getR (fi := 13) dX7_testHolds_292 fg_X7_38 rfl rfl (by assumption) (by assumption) ?_
              refine A_iload dX7_testHolds_295 rfl ?_
              refine A_aload_n dX7_testHolds_297 rfl rfl ?_
              refine A_getR (fi := 13) dX7_testHolds_298 fg_X7_38 rfl rfl (by assumption) (by assumption) ?_
              refine A_iload dX7_testHolds_301 rfl ?_
              refine A_zald dX7_testHolds_303 (by assumption) (by omega) (by omega) ?_
              refine A_if_ne (tgt := 317) dX7_testHolds_304 (by decide) (fun c_304 => ?_) (fun c_304 => ?_)
              · rw [fcs] at c_304
                refine A_iconst dX7_testHolds_317 ⟨by decide, by decide⟩ ?_
                refine A_goto (tgt := 322) dX7_testHolds_318 (by decide) ?_
                exact st 1 (by unfold or1; rw [if_pos (Or.inl c_304)])
              · rw [fcs] at c_304
                refine A_aload_n dX7_testHolds_307 rfl rfl ?_
                refine A_getR (fi := 14) dX7_testHolds_308 fg_X7_41 rfl rfl (by assumption) (by assumption) ?_
                refine A_iload dX7_testHolds_311 rfl ?_
                refine A_zald dX7_testHolds_313 (by assumption) (by omega) (by omega) ?_
                refine A_if_eq (tgt := 321) dX7_testHolds_314 (by decide) (fun c_314 => ?_) (fun c_314 => ?_)
                · rw [fcl] at c_314
                  refine A_iconst dX7_testHolds_321 ⟨by decide, by decide⟩ ?_
                  exact st 0 (by unfold or1; rw [if_neg (by omega)])
                · rw [fcl] at c_314
                  refine A_iconst dX7_testHolds_317 ⟨by decide, by decide⟩ ?_
                  refine A_goto (tgt := 322) dX7_testHolds_318 (by decide) ?_
                  exact st 1 (by unfold or1; rw [if_pos (Or.inr c_314)])
          · rw [if_neg (by omega)] at he
            have ho0 : o = 0 := by
              by_cases z : ch t n (sk t n x) = 58 ∧ o = 0
              · exact z.2
              · rw [if_neg z] at he; rw [← he] at hC; cases hC
            rw [if_pos ⟨c_257, ho0⟩] at he
            rw [eE_A4 c_257] at hev
            have hK' := hK h hh
            rw [← he, ← hev] at hK'
            refine A_aload_n dX7_testHolds_260 rfl rfl ?_
            refine A_getR (fi := 13) dX7_testHolds_261 fg_X7_38 rfl rfl (by assumption) (by assumption) ?_
            refine A_iconst dX7_testHolds_264 ⟨by decide, by decide⟩ ?_
            refine A_zald dX7_testHolds_265 (by assumption) (by omega) (by omega) ?_
            refine A_if_ne (tgt := 278) dX7_testHolds_266 (by decide) (fun c_266 => ?_) (fun c_266 => ?_)
            · rw [fcs] at c_266
              refine A_iconst dX7_testHolds_278 ⟨by decide, by decide⟩ ?_
              refine A_goto (tgt := 283) dX7_testHolds_279 (by decide) ?_
              refine A_zret dX7_testHolds_283 rfl (by first | exact Or.inl rfl | exact Or.inr rfl | assumption | omega) ?_
              have e : or1 (cs 0) (cl 0) = 1 := by unfold or1; rw [if_pos (Or.inl c_266)]
              rw [e] at hK'
              exact hK'
            · rw [fcs] at c_266
              refine A_aload_n dX7_testHolds_269 rfl rfl ?_
              refine A_getR (fi := 14) dX7_testHolds_270 fg_X7_41 rfl rfl (by assumption) (by assumption) ?_
              refine A_iconst dX7_testHolds_273 ⟨by decide, by decide⟩ ?_
              refine A_zald dX7_testHolds_274 (by assumption) (by omega) (by omega) ?_
              refine A_if_eq (tgt := 282) dX7_testHolds_275 (by decide) (fun c_275 => ?_) (fun c_275 => ?_)
              · rw [fcl] at c_275
                refine A_iconst dX7_testHolds_282 ⟨by decide, by decide⟩ ?_
                refine A_zret dX7_testHolds_283 rfl (by first | exact Or.inl rfl | exact Or.inr rfl | assumption | omega) ?_
                have e : or1 (cs 0) (cl 0) = 0 := by unfold or1; rw [if_neg (by omega)]
                rw [e] at hK'
                exact hK'
              · rw [fcl] at c_275
                refine A_iconst dX7_testHolds_278 ⟨by decide, by decide⟩ ?_
                refine A_goto (tgt := 283) dX7_testHolds_279 (by decide) ?_
                refine A_zret dX7_testHolds_283 rfl (by first | exact Or.inl rfl | exact Or.inr rfl | assumption | omega) ?_
                have e : or1 (cs 0) (cl 0) = 1 := by unfold or1; rw [if_pos (Or.inr c_275)]
                rw [e] at hK'
                exact hK'
        · have y1 := ch_lt (t := t) (n := n) (p := sk t n x) (by omega)
          have ho0 : 0 < o := by
            by_cases z : 0 < o
            · exact z
            · rw [if_neg (by omega), if_neg (by omega), if_neg (by omega)] at he; rw [← he] at hC; cases hC
          rw [if_pos ⟨c_159, ho0⟩] at he
          rw [eE_A1 c_159 (by rw [he]; exact hC)] at hev
          have st3 : ∀ (w z : Int), z = xr (or1 (cs o) (cl o)) (tu o) → w = an (cl (o - 1)) z → AW E mX7_testHolds (k + 4) 0 0 243 [some (kR m), some (kI g), some (kI dd), some (kI oo), some (kI v), some (kI (o - 1)), some (kI q6), some (kI q7), some (kI z)] [kI w, kI (o - 1), kR (m + 11)] G (kU h m 11 (B + (sk t n x + 1))) K := by
            intro w z hz hw
            have hwb : w = 0 ∨ w = 1 := by rw [hw]; exact an_b _ _
            refine A_zast dX7_testHolds_243 (by assumption) (by omega) (by omega) (by first | exact Or.inl rfl | exact Or.inr rfl | assumption | omega) ?_
            refine A_goto (tgt := 153) dX7_testHolds_244 (by decide) ?_
            rw [kU_c (by omega)]
            refine ihA (o - 1) _ (kU h (m + 11) (o - 1) w) cs (fU cl (o - 1) w) tu (by omega) (by omega) (by omega) (by omega) (by omega) he (fun a ha => by rw [kU_ne (by omega)]; exact hh a ha) (by rw [kU_ne (by omega)]; exact hcs) ?_ (by rw [kU_ne (by omega)]; exact htu) (by rw [hw, hz]; exact hev) _ _ _
            funext i
            unfold kU fU
            rw [hcl]
            by_cases hi : i = o - 1
            · rw [if_pos ⟨rfl, hi⟩, if_pos hi]
            · rw [if_neg (by omega), if_neg hi]
          have st2 : ∀ z : Int, z = xr (or1 (cs o) (cl o)) (tu o) → AW E mX7_testHolds (k + 4) 0 0 204 [some (kR m), some (kI g), some (kI dd), some (kI oo), some (kI v), some (kI o), some (kI q6), some (kI q7), some (kI z)] [] G (kU h m 11 (B + sk t n x)) K := by
            intro z hz
            refine A_aload_n dX7_testHolds_204 rfl rfl ?_
            refine A_dup dX7_testHolds_205 (fun B => toV_cat B _) ?_
            refine A_get (fi := 11) dX7_testHolds_206 fg_X7_137 rfl rfl (by assumption) ?_
            refine A_iconst dX7_testHolds_209 ⟨by decide, by decide⟩ ?_
            refine A_iadd_ok dX7_testHolds_210 (by omega) (by omega) ?_
            refine A_put (fi := 11) dX7_testHolds_211 fp_X7_137 rfl rfl (by assumption) ?_
            refine A_iinc_ok dX7_testHolds_214 rfl rfl (by omega) (by omega) ?_
            rw [f1, kU_2, show B + sk t n x + 1 = B + (sk t n x + 1) by omega, show o + -1 = o - 1 by omega]
            refine A_aload_n dX7_testHolds_217 rfl rfl ?_
            refine A_getR (fi := 14) dX7_testHolds_218 fg_X7_41 rfl rfl (by assumption) (by assumption) ?_
            refine A_iload dX7_testHolds_221 rfl ?_
            refine A_aload_n dX7_testHolds_223 rfl rfl ?_
            refine A_getR (fi := 14) dX7_testHolds_224 fg_X7_41 rfl rfl (by assumption) (by assumption) ?_
            refine A_iload dX7_testHolds_227 rfl ?_
            refine A_zald dX7_testHolds_229 (by assumption) (by omega) (by omega) ?_
            refine A_if_eq (tgt := 242) dX7_testHolds_230 (by decide) (fun c_230 => ?_) (fun c_230 => ?_)
            · rw [fcl] at c_230
              refine A_iconst dX7_testHolds_242 ⟨by decide, by decide⟩ ?_
              exact st3 0 z hz (by unfold an; rw [if_neg (by omega)])
            · rw [fcl] at c_230
              refine A_iload dX7_testHolds_233 rfl ?_
              refine A_if_eq (tgt := 242) dX7_testHolds_235 (by decide) (fun c_235 => ?_) (fun c_235 => ?_)
              · refine A_iconst dX7_testHolds_242 ⟨by decide, by decide⟩ ?_
                exact st3 0 z hz (by unfold an; rw [if_neg (by omega)])
              · refine A_iconst dX7_testHolds_238 ⟨by decide, by decide⟩ ?_
                refine A_goto (tgt := 243) dX7_testHolds_239 (by decide) ?_
                exact st3 1 z hz (by unfold an; rw [if_pos ⟨c_230, c_235⟩])
          have st1 : ∀ z : Int, z = or1 (cs o) (cl o) → AW E mX7_testHolds (k + 4) 0 0 187 [some (kR m), some (kI g), some (kI dd), some (kI oo), some (kI v), some (kI o), some (kI q6), some (kI q7), q8] [kI z] G (kU h m 11 (B + sk t n x)) K := by
            intro z hz
            refine A_aload_n dX7_testHolds_187 rfl rfl ?_
            refine A_getR (fi := 15) dX7_testHolds_188 fg_X7_44 rfl rfl (by assumption) (by assumption) ?_
            refine A_iload dX7_testHolds_191 rfl ?_
            refine A_zald dX7_testHolds_193 (by assumption) (by omega) (by omega) ?_
            refine A_icmp_eq (tgt := 201) dX7_testHolds_194 (by decide) (fun c_194 => ?_) (fun c_194 => ?_)
            · rw [ftu] at c_194
              refine A_iconst dX7_testHolds_201 ⟨by decide, by decide⟩ ?_
              refine A_istore dX7_testHolds_202 (Nat.le_of_ble_eq_true rfl) rfl ?_
              exact st2 0 (by rw [← hz]; unfold xr; rw [if_neg (by omega)])
            · rw [ftu] at c_194
              refine A_iconst dX7_testHolds_197 ⟨by decide, by decide⟩ ?_
              refine A_goto (tgt := 202) dX7_testHolds_198 (by decide) ?_
              refine A_istore dX7_testHolds_202 (Nat.le_of_ble_eq_true rfl) rfl ?_
              exact st2 1 (by rw [← hz]; unfold xr; rw [if_pos c_194])
          refine A_aload_n dX7_testHolds_162 rfl rfl ?_
          refine A_getR (fi := 13) dX7_testHolds_163 fg_X7_38 rfl rfl (by assumption) (by assumption) ?_
          refine A_iload dX7_testHolds_166 rfl ?_
          refine A_zald dX7_testHolds_168 (by assumption) (by omega) (by omega) ?_
          refine A_if_ne (tgt := 182) dX7_testHolds_169 (by decide) (fun c_169 => ?_) (fun c_169 => ?_)
          · rw [fcs] at c_169
            refine A_iconst dX7_testHolds_182 ⟨by decide, by decide⟩ ?_
            refine A_goto (tgt := 187) dX7_testHolds_183 (by decide) ?_
            exact st1 1 (by unfold or1; rw [if_pos (Or.inl c_169)])
          · rw [fcs] at c_169
            refine A_aload_n dX7_testHolds_172 rfl rfl ?_
            refine A_getR (fi := 14) dX7_testHolds_173 fg_X7_41 rfl rfl (by assumption) (by assumption) ?_
            refine A_iload dX7_testHolds_176 rfl ?_
            refine A_zald dX7_testHolds_178 (by assumption) (by omega) (by omega) ?_
            refine A_if_eq (tgt := 186) dX7_testHolds_179 (by decide) (fun c_179 => ?_) (fun c_179 => ?_)
            · rw [fcl] at c_179
              refine A_iconst dX7_testHolds_186 ⟨by decide, by decide⟩ ?_
              exact st1 0 (by unfold or1; rw [if_neg (by omega)])
            · rw [fcl] at c_179
              refine A_iconst dX7_testHolds_182 ⟨by decide, by decide⟩ ?_
              refine A_goto (tgt := 187) dX7_testHolds_183 (by decide) ?_
              exact st1 1 (by unfold or1; rw [if_pos (Or.inr c_179)])
  refine AM.of rfl (Nat.le_of_ble_eq_true rfl) ?_
  refine A_iconst dX7_testHolds_0 ⟨by decide, by decide⟩ ?_
  refine A_istore dX7_testHolds_1 (Nat.le_of_ble_eq_true rfl) rfl ?_
  refine A_aload_n dX7_testHolds_3 rfl rfl ?_
  refine A_getR (fi := 13) dX7_testHolds_4 fg_X7_38 rfl rfl (by assumption) (by assumption) ?_
  refine A_iconst dX7_testHolds_7 ⟨by decide, by decide⟩ ?_
  refine A_iconst dX7_testHolds_8 ⟨by decide, by decide⟩ ?_
  refine A_zast dX7_testHolds_9 (by assumption) (by omega) (by omega) (by first | exact Or.inl rfl | exact Or.inr rfl | assumption | omega) ?_
  refine A_aload_n dX7_testHolds_10 rfl rfl ?_
  refine A_getR (fi := 14) dX7_testHolds_11 fg_X7_41 rfl rfl (by assumption) (by assumption) ?_
  refine A_iconst dX7_testHolds_14 ⟨by decide, by decide⟩ ?_
  refine A_iconst dX7_testHolds_15 ⟨by decide, by decide⟩ ?_
  refine A_zast dX7_testHolds_16 (by assumption) (by omega) (by omega) (by first | exact Or.inl rfl | exact Or.inr rfl | assumption | omega) ?_
  rw [kU_c (show m ≠ m + 10 by omega), kU_c (show m ≠ m + 11 by omega)]
  refine (loop _).1 0 p _ _ _ _ (Nat.lt_succ_self _) h0 h1 (by omega) (by omega) rfl (fun a ha => by rw [kU_ne (by omega), kU_ne (by omega)]) rfl rfl rfl ?_ none none none
  unfold evT
  refine eE_cg _ false 0 p _ _ _ _ _ _ (Nat.lt_succ_self _) h1 (by omega) hC (fun i i1 i2 => ?_)
  have : i = 0 := by omega
  subst this
  refine ⟨?_, ?_, fun z => by omega⟩
  · rw [kU_ne (by omega), kU_s]
  · rw [kU_s]
end M10
