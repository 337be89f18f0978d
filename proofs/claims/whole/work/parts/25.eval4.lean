/-- the digit and the 'c' of an act whose sign stands at a -/
def acD (t : Int → Int) (n a : Int) : Int := t (sk t n (a + 1)) - 48
def acC (t : Int → Int) (n a : Int) : Int := sk t n (sk t n (a + 1) + 1)
def acW (t : Int → Int) (n a v : Int) : Int := if ch t n a = 43 then v + acD t n a else if ch t n a = 45 then v - acD t n a else acD t n a
def acE (t : Int → Int) (n a : Int) : Int := if ch t n (acC t n a) = 99 then acC t n a + 1 else acC t n a
/-- the first clause from p on, the k-th, whose test holds; the pace that it wants, whether it would change -/
def clF (t : Int → Int) (n : Int) (cv : Int → Int) (v : Int) : Nat → Int → Int → Int × Int × Int
  | 0, _, _ => (-4, v, 0)
  | f + 1, k, p => if evT t n cv p ≠ 0 then (k, acW t n (sk t n (tE t n false 0 p).2) v, if ch t n (acC t n (sk t n (tE t n false 0 p).2)) = 99 then 1 else 0) else clF t n cv v f (k + 1) (sk t n (acE t n (sk t n (tE t n false 0 p).2)) + 1)
def hT (R : Int → Int) (h : Int) : Int → Int := fun i => R (40 + 100 * h + i)
def clS (R : Int → Int) (h g dd oo v : Int) : Int × Int × Int := clF (hT R h) (R (34 + h)) (cvS (hT R h) (R (34 + h)) g dd oo v) v (R (37 + h)).toNat 0 0
/-- the text of a habit reads well -/
def VH (R : Int → Int) (h : Int) : Prop := 0 ≤ R (34 + h) ∧ R (34 + h) ≤ 100 ∧ (R (37 + h) = 0 ∨ (1 ≤ R (37 + h) ∧ R (37 + h) ≤ 6 ∧ (csP (hT R h) (R (34 + h))).1 = R (37 + h)))
theorem acP_ok {t : Int → Int} {n p : Int} (h : (acP t n p).1 = true) (hp : p ≤ n) : (ch t n (sk t n p) = 43 ∨ ch t n (sk t n p) = 45 ∨ ch t n (sk t n p) = 61) ∧ isD t n (sk t n (sk t n p + 1)) ∧ (acP t n p).2 = acE t n (sk t n p) ∧ sk t n p < n ∧ sk t n p < sk t n (sk t n p + 1) ∧ sk t n (sk t n p + 1) < acC t n (sk t n p) ∧ acC t n (sk t n p) ≤ n := by
  unfold acP at h ⊢
  by_cases c1 : ¬ (ch t n (sk t n p) = 43 ∨ ch t n (sk t n p) = 45 ∨ ch t n (sk t n p) = 61)
  · rw [if_pos c1] at h; cases h
  · rw [if_neg c1] at h ⊢
    have y1 := ch_lt (t := t) (n := n) (p := sk t n p) (by omega)
    have g2 := sk_ge (t := t) (n := n) (sk t n p + 1)
    by_cases c2 : ¬ isD t n (sk t n (sk t n p + 1))
    · rw [if_pos c2] at h; cases h
    · rw [if_neg c2]
      have y2 := (Classical.not_not.mp c2).1
      have g3 := sk_ge (t := t) (n := n) (sk t n (sk t n p + 1) + 1)
      have l3 := sk_le (t := t) (n := n) (p := sk t n (sk t n p + 1) + 1) (by omega)
      refine ⟨Classical.not_not.mp c1, Classical.not_not.mp c2, ?_, y1, by omega, by unfold acC; omega, l3⟩
      unfold acE acC
      split <;> rfl
section M11
variable {E : EE} {k m : Nat} {G : HG} {d : HD} {K : PQ} {R : Int → Int}
theorem C_clause {r h g dd oo v : Int} (hM : MO G m) (hR : PZ d m r R) (h1 : 0 ≤ r) (h2 : r ≤ 4) (h3 : 0 ≤ h) (h4 : h ≤ 2) (hV : VH R h) (hv : 0 ≤ v) (hv2 : v ≤ 9)
    (hK : ∀ d', (∀ a, a ≠ m → ¬ (m + 10 ≤ a ∧ a ≤ m + 12) → d' a = d a) → (∀ i, i ≠ 11 → i ≠ 12 → i ≠ 16 → i ≠ 17 → d' m i = d m i) → d' m 16 = (clS R h g dd oo v).2.1 → d' m 17 = (clS R h g dd oo v).2.2 → K (some (kI (clS R h g dd oo v).1)) G d') : AM E mX7_clause (k + 5) 0 0 [kR m, kI r, kI h, kI g, kI dd, kI oo, kI v] G d K := by
  obtain ⟨ho, e0, a0, -⟩ := id hM
  obtain ⟨V1, V2, V3⟩ := hV
  have zn := hR (34 + h) (by omega) (by omega)
  have zc := hR (37 + h) (by omega) (by omega)
  generalize hn : R (34 + h) = n at *
  generalize ht : hT R h = t at *
  have hB0 : 0 ≤ 640 * r + 40 + 100 * h := by omega
  have tz : ∀ i, 0 ≤ i → i < n → d (m + 1) (640 * r + 40 + 100 * h + i) = t i := fun i i1 i2 => by
    rw [← ht]
    have := hR (40 + 100 * h + i) (by omega) (by omega)
    rw [show 640 * r + 40 + 100 * h + i = 640 * r + (40 + 100 * h + i) by omega, this]
    rfl
  generalize hBe : 640 * r + 40 + 100 * h = B at *
  obtain ⟨N, hN⟩ : ∃ N : Nat, R (37 + h) = N := ⟨(R (37 + h)).toNat, by omega⟩
  generalize hcv : cvS t n g dd oo v = cv at *
  have hS : clS R h g dd oo v = clF t n cv v N 0 0 := by
    unfold clS
    rw [hn, ht, hcv, show (R (37 + h)).toNat = N by omega]
  rw [hS] at hK
  have loop : ∀ (f : Nat) (c : Nat) (x : Int) (e : HD), c + f = N → (0 < f → 0 ≤ x ∧ x ≤ n ∧ csF t n (6 - c) c x = csP t n) → (∀ a, a ≠ m → ¬ (m + 10 ≤ a ∧ a ≤ m + 12) → e a = d a) → (∀ i, i ≠ 11 → i ≠ 12 → i ≠ 16 → i ≠ 17 → e m i = d m i) → e m 12 = B + n → e m 16 = v → e m 17 = 0 → clF t n cv v f c x = clF t n cv v N 0 0 → ∀ q8 q9 q10 q11 : Option AV, AW E mX7_clause (k + 5) 0 0 55 [some (kR m), some (kI r), some (kI h), some (kI g), some (kI dd), some (kI oo), some (kI v), some (kI c), q8, q9, q10, q11] [] G (kU e m 11 (B + x)) K := by
    intro f
    induction f with
    | zero =>
      intro c x e hc hx ha hm e12 e16 e17 he q8 q9 q10 q11
      have zc' : kU e m 11 (B + x) (m + 1) (640 * r + 37 + h) = N := by rw [kU_ne (by omega), ha (m + 1) (by omega) (by omega), show 640 * r + 37 + h = 640 * r + (37 + h) by omega, zc, hN]
      refine A_iload dX7_clause_55 rfl ?_
      refine A_aload_n dX7_clause_57 rfl rfl ?_
      refine A_getR (fi := 0) dX7_clause_58 fg_X7_7 rfl rfl (by assumption) (by assumption) ?_
      refine A_sipush dX7_clause_61 ⟨by decide, by decide⟩ rfl ?_
      refine A_iload_n dX7_clause_64 rfl rfl ?_
      refine A_imul_ok dX7_clause_65 (by omega) (by omega) ?_
      refine A_bipush dX7_clause_66 ⟨by decide, by decide⟩ rfl ?_
      refine A_iadd_ok dX7_clause_68 (by omega) (by omega) ?_
      refine A_iload_n dX7_clause_69 rfl rfl ?_
      refine A_iadd_ok dX7_clause_70 (by omega) (by omega) ?_
      refine A_iald dX7_clause_71 (by assumption) (by omega) (by omega) ?_
      refine A_icmp_ge (tgt := 202) dX7_clause_72 (by decide) (fun c_72 => ?_) (fun c_72 => absurd c_72 (by omega))
      refine A_bipush dX7_clause_202 ⟨by decide, by decide⟩ rfl ?_
      refine A_iret dX7_clause_204 rfl ?_
      rw [← he] at hK
      refine hK _ (fun a q1 q2 => by rw [kU_ne q1]; exact ha a q1 q2) (fun i i1 i2 i3 i4 => by rw [kU_f i1]; exact hm i i1 i2 i3 i4) (by rw [kU_f (by decide)]; exact e16) (by rw [kU_f (by decide)]; exact e17)
    | succ f ih =>
      intro c x e hc hx ha hm e12 e16 e17 he q8 q9 q10 q11
      have zc' : kU e m 11 (B + x) (m + 1) (640 * r + 37 + h) = N := by rw [kU_ne (by omega), ha (m + 1) (by omega) (by omega), show 640 * r + 37 + h = 640 * r + (37 + h) by omega, zc, hN]
      obtain ⟨x0, xn, hcs⟩ := hx (by omega)
      have hN6 : 1 ≤ N ∧ N ≤ 6 ∧ (csP t n).1 = N := by
        rcases V3 with q | q
        · omega
        · exact ⟨by omega, by omega, by rw [q.2.2, hN]⟩
      rw [show 6 - c = (5 - c) + 1 by omega] at hcs
      simp only [csF] at hcs
      have htE : (tE t n false 0 x).1 = true := by
        cases q : (tE t n false 0 x).1 with
        | true => rfl
        | false => rw [if_pos q] at hcs; rw [← hcs] at hN6; have := hN6.2.2; omega
      rw [if_neg (by rw [htE]; decide)] at hcs
      have tl := tE_le (t := t) (n := n) _ false 0 x (Nat.lt_succ_self _) xn
      have haP : (acP t n (tE t n false 0 x).2).1 = true := by
        cases q : (acP t n (tE t n false 0 x).2).1 with
        | true => rfl
        | false => rw [if_pos q] at hcs; rw [← hcs] at hN6; have := hN6.2.2; omega
      rw [if_neg (by rw [haP]; decide)] at hcs
      obtain ⟨p1, p2, p3, p4, p5, p6, p7⟩ := acP_ok haP tl.2.1
      rw [p3] at hcs
      simp only [clF] at he
      generalize hp1 : (tE t n false 0 x).2 = y at *
      generalize ha1 : sk t n y = a1 at *
      obtain ⟨p21, p22, p23⟩ := id p2
      have hch : ch t n (sk t n (a1 + 1)) = t (sk t n (a1 + 1)) := ch_at p21
      have g1 := sk_ge (t := t) (n := n) y
      have g2 := sk_ge (t := t) (n := n) (a1 + 1)
      have l2 := sk_le (t := t) (n := n) (p := a1 + 1) (by omega)
      have eT : ZT e m B n t := ⟨e12, fun i i1 i2 => by rw [ha (m + 1) (by omega) (by omega)]; exact tz i i1 i2⟩
      have hB3 : B + n ≤ 3200 := by omega
      refine A_iload dX7_clause_55 rfl ?_
      refine A_aload_n dX7_clause_57 rfl rfl ?_
      refine A_getR (fi := 0) dX7_clause_58 fg_X7_7 rfl rfl (by assumption) (by assumption) ?_
      refine A_sipush dX7_clause_61 ⟨by decide, by decide⟩ rfl ?_
      refine A_iload_n dX7_clause_64 rfl rfl ?_
      refine A_imul_ok dX7_clause_65 (by omega) (by omega) ?_
      refine A_bipush dX7_clause_66 ⟨by decide, by decide⟩ rfl ?_
      refine A_iadd_ok dX7_clause_68 (by omega) (by omega) ?_
      refine A_iload_n dX7_clause_69 rfl rfl ?_
      refine A_iadd_ok dX7_clause_70 (by omega) (by omega) ?_
      refine A_iald dX7_clause_71 (by assumption) (by omega) (by omega) ?_
      refine A_icmp_ge (tgt := 202) dX7_clause_72 (by decide) (fun c_72 => absurd c_72 (by omega)) (fun c_72 => ?_)
      refine A_aload_n dX7_clause_75 rfl rfl ?_
      refine A_iload_n dX7_clause_76 rfl rfl ?_
      refine A_iload dX7_clause_77 rfl ?_
      refine A_iload dX7_clause_79 rfl ?_
      refine A_iload dX7_clause_81 rfl ?_
      refine A_inv4 dX7_clause_83 mv_X7_163 kCl_7 (Nat.le_of_ble_eq_true rfl) (by assumption) ?_
      refine C_testHolds hM eT hB0 hB3 x0 xn htE (fun e' he' => ?_)
      rw [hcv, hp1]
      have eT' : ZT e' m B n t := ⟨by rw [he' m (by omega)]; exact e12, fun i i1 i2 => by rw [he' (m + 1) (by omega)]; exact eT.2 i i1 i2⟩
      have ha' : ∀ a, a ≠ m → ¬ (m + 10 ≤ a ∧ a ≤ m + 12) → e' a = d a := fun a q1 q2 => (he' a q2).trans (ha a q1 q2)
      have hm' : ∀ i, e' m i = e m i := fun i => by rw [he' m (by omega)]
      generalize hev : evT t n cv x = is at *
      have f3 : ∀ z, kU e' m 11 z m 11 = z := fun z => kU_s
      have fin : ∀ c11 : Int, c11 = (if ch t n (acC t n a1) = 99 then 1 else 0) → AW E mX7_clause (k + 5) 0 0 141 [some (kR m), some (kI r), some (kI h), some (kI g), some (kI dd), some (kI oo), some (kI v), some (kI c), some (kI is), some (kI (ch t n a1)), some (kI (acD t n a1)), some (kI c11)] [] G (kU e' m 11 (B + acE t n a1)) K := by
        intro c11 hc11
        have hc11b : c11 = 0 ∨ c11 = 1 := by rw [hc11]; split <;> simp
        have acd : 0 ≤ acD t n a1 ∧ acD t n a1 ≤ 9 := by unfold acD; omega
        have ace : acE t n a1 ≤ n := by
          unfold acE
          split
          · rename_i q; have := ch_lt (t := t) (n := n) (p := acC t n a1) (by omega); omega
          · exact p7
        have ace0 : 0 ≤ acE t n a1 := by unfold acE; split <;> omega
        have store : ∀ w : Int, w = acW t n a1 v → is ≠ 0 → AW E mX7_clause (k + 5) 0 0 179 [some (kR m), some (kI r), some (kI h), some (kI g), some (kI dd), some (kI oo), some (kI v), some (kI c), some (kI is), some (kI (ch t n a1)), some (kI (acD t n a1)), some (kI c11)] [kI w, kR m] G (kU e' m 11 (B + acE t n a1)) K := by
          intro w hw his
          refine A_put (fi := 16) dX7_clause_179 fp_X7_156 rfl rfl (by assumption) ?_
          refine A_aload_n dX7_clause_182 rfl rfl ?_
          refine A_iload dX7_clause_183 rfl ?_
          refine A_putZ (fi := 17) dX7_clause_185 fp_X7_159 rfl rfl (by assumption) (by first | exact Or.inl rfl | exact Or.inr rfl | assumption | omega) ?_
          refine A_iload dX7_clause_188 rfl ?_
          refine A_iret dX7_clause_190 rfl ?_
          rw [if_pos his] at he
          rw [← he] at hK
          refine hK _ (fun a q1 q2 => ?_) (fun i i1 i2 i3 i4 => ?_) ?_ ?_
          · rw [kU_ne q1, kU_ne q1, kU_ne q1]; exact ha' a q1 q2
          · rw [kU_f i4, kU_f i3, kU_f i1, hm']; exact hm i i1 i2 i3 i4
          · rw [kU_f (by decide), kU_s]; exact hw
          · rw [kU_s]; exact hc11
        refine A_iload dX7_clause_141 rfl ?_
        refine A_if_eq (tgt := 191) dX7_clause_143 (by decide) (fun c_143 => ?_) (fun c_143 => ?_)
        · rw [if_neg (by omega)] at he
          refine A_aload_n dX7_clause_191 rfl rfl ?_
          refine A_inv0 dX7_clause_192 mv_X7_146 kCl_7 (Nat.le_of_ble_eq_true rfl) (by assumption) ?_
          refine C_take hM eT' hB0 hB3 (by omega) (by omega) ?_
          refine A_pop dX7_clause_195 (fun B => toV_cat B _) ?_
          refine A_iinc_ok dX7_clause_196 rfl rfl (by omega) (by omega) ?_
          refine A_goto (tgt := 55) dX7_clause_199 (by decide) ?_
          refine ih (c + 1) (sk t n (acE t n a1) + 1) e' (by omega) (fun hf => ?_) ha' (fun i i1 i2 i3 i4 => by rw [hm']; exact hm i i1 i2 i3 i4) (by rw [hm']; exact e12) (by rw [hm']; exact e16) (by rw [hm']; exact e17) he _ _ _ _
          have gE := sk_ge (t := t) (n := n) (acE t n a1)
          by_cases z1 : ch t n (sk t n (acE t n a1)) = -1
          · rw [if_pos z1] at hcs; rw [← hcs] at hN6; have := hN6.2.2; omega
          · rw [if_neg z1] at hcs
            have yE := ch_lt z1
            by_cases z2 : ch t n (sk t n (acE t n a1)) ≠ 59 ∨ (c : Int) + 1 = 6
            · rw [if_pos z2] at hcs; rw [← hcs] at hN6; have := hN6.2.2; omega
            · rw [if_neg z2] at hcs
              refine ⟨by omega, by omega, ?_⟩
              rw [show 6 - (c + 1) = 5 - c by omega]
              exact hcs
        · refine A_aload_n dX7_clause_146 rfl rfl ?_
          refine A_iload dX7_clause_147 rfl ?_
          refine A_bipush dX7_clause_149 ⟨by decide, by decide⟩ rfl ?_
          refine A_icmp_ne (tgt := 162) dX7_clause_151 (by decide) (fun c_151 => ?_) (fun c_151 => ?_)
          · refine A_iload dX7_clause_162 rfl ?_
            refine A_bipush dX7_clause_164 ⟨by decide, by decide⟩ rfl ?_
            refine A_icmp_ne (tgt := 177) dX7_clause_166 (by decide) (fun c_166 => ?_) (fun c_166 => ?_)
            · refine A_iload dX7_clause_177 rfl ?_
              exact store _ (by unfold acW; rw [if_neg (by omega), if_neg (by omega)]) (by omega)
            · refine A_iload dX7_clause_169 rfl ?_
              refine A_iload dX7_clause_171 rfl ?_
              refine A_isub_ok dX7_clause_173 (by omega) (by omega) ?_
              refine A_goto (tgt := 179) dX7_clause_174 (by decide) ?_
              exact store _ (by unfold acW; rw [if_neg (by omega), if_pos (by omega)]) (by omega)
          · refine A_iload dX7_clause_154 rfl ?_
            refine A_iload dX7_clause_156 rfl ?_
            refine A_iadd_ok dX7_clause_158 (by omega) (by omega) ?_
            refine A_goto (tgt := 179) dX7_clause_159 (by decide) ?_
            exact store _ (by unfold acW; rw [if_pos (by omega)]) (by omega)
      refine A_istore dX7_clause_86 (Nat.le_of_ble_eq_true rfl) rfl ?_
      refine A_aload_n dX7_clause_88 rfl rfl ?_
      refine A_inv0 dX7_clause_89 mv_X7_146 kCl_7 (Nat.le_of_ble_eq_true rfl) (by assumption) ?_
      refine C_take hM eT' hB0 hB3 (by omega) (by omega) ?_
      rw [ha1]
      refine A_istore dX7_clause_92 (Nat.le_of_ble_eq_true rfl) rfl ?_
      refine A_aload_n dX7_clause_94 rfl rfl ?_
      refine A_inv0 dX7_clause_95 mv_X7_146 kCl_7 (Nat.le_of_ble_eq_true rfl) (by assumption) ?_
      refine C_take hM eT' hB0 hB3 (by omega) (by omega) ?_
      rw [hch]
      refine A_bipush dX7_clause_98 ⟨by decide, by decide⟩ rfl ?_
      refine A_isub_ok dX7_clause_100 (by omega) (by omega) ?_
      refine A_istore dX7_clause_101 (Nat.le_of_ble_eq_true rfl) rfl ?_
      refine A_aload_n dX7_clause_103 rfl rfl ?_
      refine A_inv0 dX7_clause_104 mv_X7_143 kCl_7 (Nat.le_of_ble_eq_true rfl) (by assumption) ?_
      refine C_sign hM eT' hB0 hB3 (by omega) (by omega) ?_
      have eC : sk t n (sk t n (a1 + 1) + 1) = acC t n a1 := rfl
      have eD : t (sk t n (a1 + 1)) - 48 = acD t n a1 := rfl
      rw [eC, eD]
      refine A_bipush dX7_clause_107 ⟨by decide, by decide⟩ rfl ?_
      refine A_icmp_ne (tgt := 116) dX7_clause_109 (by decide) (fun c_109 => ?_) (fun c_109 => ?_)
      · refine A_iconst dX7_clause_116 ⟨by decide, by decide⟩ ?_
        refine A_istore dX7_clause_117 (Nat.le_of_ble_eq_true rfl) rfl ?_
        refine A_aload_n dX7_clause_119 rfl rfl ?_
        refine A_iload dX7_clause_120 rfl ?_
        refine A_if_eq (tgt := 134) dX7_clause_122 (by decide) (fun c_122 => ?_) (fun c_122 => absurd c_122 (by omega))
        refine A_aload_n dX7_clause_134 rfl rfl ?_
        refine A_get (fi := 11) dX7_clause_135 fg_X7_137 rfl rfl (by assumption) ?_
        refine A_put (fi := 11) dX7_clause_138 fp_X7_137 rfl rfl (by assumption) ?_
        rw [f3, kU_2]
        have := fin 0 (by rw [if_neg c_109])
        rw [show acE t n a1 = acC t n a1 by unfold acE; rw [if_neg c_109]] at this
        exact this
      · have yC := ch_lt (t := t) (n := n) (p := acC t n a1) (by omega)
        have f3c := f3 (B + acC t n a1)
        refine A_iconst dX7_clause_112 ⟨by decide, by decide⟩ ?_
        refine A_goto (tgt := 117) dX7_clause_113 (by decide) ?_
        refine A_istore dX7_clause_117 (Nat.le_of_ble_eq_true rfl) rfl ?_
        refine A_aload_n dX7_clause_119 rfl rfl ?_
        refine A_iload dX7_clause_120 rfl ?_
        refine A_if_eq (tgt := 134) dX7_clause_122 (by decide) (fun c_122 => absurd c_122 (by omega)) (fun c_122 => ?_)
        refine A_aload_n dX7_clause_125 rfl rfl ?_
        refine A_get (fi := 11) dX7_clause_126 fg_X7_137 rfl rfl (by assumption) ?_
        refine A_iconst dX7_clause_129 ⟨by decide, by decide⟩ ?_
        refine A_iadd_ok dX7_clause_130 (by omega) (by omega) ?_
        refine A_goto (tgt := 138) dX7_clause_131 (by decide) ?_
        refine A_put (fi := 11) dX7_clause_138 fp_X7_137 rfl rfl (by assumption) ?_
        rw [f3, kU_2]
        have := fin 1 (by rw [if_pos c_109])
        rw [show acE t n a1 = acC t n a1 + 1 by unfold acE; rw [if_pos c_109]] at this
        rw [show B + acC t n a1 + 1 = B + (acC t n a1 + 1) by omega]
        exact this
  refine AM.of rfl (Nat.le_of_ble_eq_true rfl) ?_
  have z34 : ∀ w, kU d m 11 w (m + 1) (640 * r + 34 + h) = n := fun w => by rw [kU_ne (by omega), show 640 * r + 34 + h = 640 * r + (34 + h) by omega, zn]
  refine A_aload_n dX7_clause_0 rfl rfl ?_
  refine A_sipush dX7_clause_1 ⟨by decide, by decide⟩ rfl ?_
  refine A_iload_n dX7_clause_4 rfl rfl ?_
  refine A_imul_ok dX7_clause_5 (by omega) (by omega) ?_
  refine A_bipush dX7_clause_6 ⟨by decide, by decide⟩ rfl ?_
  refine A_iadd_ok dX7_clause_8 (by omega) (by omega) ?_
  refine A_bipush dX7_clause_9 ⟨by decide, by decide⟩ rfl ?_
  refine A_iload_n dX7_clause_11 rfl rfl ?_
  refine A_imul_ok dX7_clause_12 (by omega) (by omega) ?_
  refine A_iadd_ok dX7_clause_13 (by omega) (by omega) ?_
  refine A_put (fi := 11) dX7_clause_14 fp_X7_137 rfl rfl (by assumption) ?_
  rw [hBe]
  have f11 : kU d m 11 B m 11 = B := kU_s
  refine A_aload_n dX7_clause_17 rfl rfl ?_
  refine A_aload_n dX7_clause_18 rfl rfl ?_
  refine A_get (fi := 11) dX7_clause_19 fg_X7_137 rfl rfl (by assumption) ?_
  refine A_aload_n dX7_clause_22 rfl rfl ?_
  refine A_getR (fi := 0) dX7_clause_23 fg_X7_7 rfl rfl (by assumption) (by assumption) ?_
  refine A_sipush dX7_clause_26 ⟨by decide, by decide⟩ rfl ?_
  refine A_iload_n dX7_clause_29 rfl rfl ?_
  refine A_imul_ok dX7_clause_30 (by omega) (by omega) ?_
  refine A_bipush dX7_clause_31 ⟨by decide, by decide⟩ rfl ?_
  refine A_iadd_ok dX7_clause_33 (by omega) (by omega) ?_
  refine A_iload_n dX7_clause_34 rfl rfl ?_
  refine A_iadd_ok dX7_clause_35 (by omega) (by omega) ?_
  refine A_iald dX7_clause_36 (by assumption) (by omega) (by omega) ?_
  rw [z34, f11]
  refine A_iadd_ok dX7_clause_37 (by omega) (by omega) ?_
  refine A_put (fi := 12) dX7_clause_38 fp_X7_140 rfl rfl (by assumption) ?_
  refine A_aload_n dX7_clause_41 rfl rfl ?_
  refine A_iload dX7_clause_42 rfl ?_
  refine A_put (fi := 16) dX7_clause_44 fp_X7_156 rfl rfl (by assumption) ?_
  refine A_aload_n dX7_clause_47 rfl rfl ?_
  refine A_iconst dX7_clause_48 ⟨by decide, by decide⟩ ?_
  refine A_putZ (fi := 17) dX7_clause_49 fp_X7_159 rfl rfl (by assumption) (by first | exact Or.inl rfl | exact Or.inr rfl | assumption | omega) ?_
  refine A_iconst dX7_clause_52 ⟨by decide, by decide⟩ ?_
  refine A_istore dX7_clause_53 (Nat.le_of_ble_eq_true rfl) rfl ?_
  have ef : kU (kU (kU (kU d m 11 B) m 12 (B + n)) m 16 v) m 17 0 = kU (kU (kU (kU d m 12 (B + n)) m 16 v) m 17 0) m 11 (B + 0) := by
    funext a i
    unfold kU
    by_cases q1 : a = m
    · subst q1
      by_cases i1 : i = 17
      · subst i1; simp
      · by_cases i2 : i = 16
        · subst i2; simp
        · by_cases i3 : i = 12
          · subst i3; simp
          · by_cases i4 : i = 11
            · subst i4; simp
            · simp [i1, i2, i3, i4]
    · simp [q1]
  rw [ef]
  refine loop N 0 0 _ (by omega) (fun hN0 => ⟨by omega, by omega, ?_⟩) (fun a q1 q2 => by rw [kU_ne q1, kU_ne q1, kU_ne q1]) (fun i i1 i2 i3 i4 => by rw [kU_f i4, kU_f i3, kU_f i2]) (by rw [kU_f (by decide), kU_f (by decide), kU_s]) (by rw [kU_f (by decide), kU_s]) kU_s rfl none none none none
  rfl
end M11
