/-! the flat judging of a test -/
def an (x y : Int) : Int := if x ≠ 0 ∧ y ≠ 0 then 1 else 0
def or1 (x y : Int) : Int := if x ≠ 0 ∨ y ≠ 0 then 1 else 0
def xr (x y : Int) : Int := if x ≠ y then 1 else 0
theorem an_b (x y : Int) : an x y = 0 ∨ an x y = 1 := by unfold an; split <;> simp
theorem or1_b (x y : Int) : or1 x y = 0 ∨ or1 x y = 1 := by unfold or1; split <;> simp
theorem xr_b (x y : Int) : xr x y = 0 ∨ xr x y = 1 := by unfold xr; split <;> simp
/-- what a claim at p says: has it a number, which -/
def cNum (t : Int → Int) (n p : Int) : Int := if isD t n (c3 t n p + 1) then 10 * (t (c3 t n p) - 48) + t (c3 t n p + 1) - 48 else t (c3 t n p) - 48
def cVal (t : Int → Int) (n p : Int) : Int := if ch t n (sk t n (sk t n (p + 1) + 1)) = 45 then -(cNum t n p) else cNum t n p
def cHas (t : Int → Int) (n p g dd oo v : Int) : Int := if ch t n p = 103 then g else if ch t n p = 100 then dd else if ch t n p = 111 then oo else v
def cvS (t : Int → Int) (n g dd oo v p : Int) : Int := if ch t n p = 42 then 1 else if ch t n (sk t n (p + 1)) = 60 then (if cHas t n p g dd oo v < cVal t n p then 1 else 0) else if ch t n (sk t n (p + 1)) = 62 then (if cVal t n p < cHas t n p g dd oo v then 1 else 0) else (if cHas t n p g dd oo v = cVal t n p then 1 else 0)
def eF (t : Int → Int) (n : Int) (cv : Int → Int) : Nat → Bool → Int → Int → (Int → Int) → (Int → Int) → (Int → Int) → Int
  | 0, _, _, _, _, _, _ => 0
  | f + 1, false, o, p, cs, cl, tu => if ch t n (nb t n p) = 40 then eF t n cv f false (o + 1) (nb t n p + 1) (fU cs (o + 1) 0) (fU cl (o + 1) 1) (fU tu (o + 1) (if ch t n (sk t n p) = 33 then 1 else 0)) else eF t n cv f true o (clP t n (nb t n p)).2 cs (fU cl o (an (cl o) (xr (cv (nb t n p)) (if ch t n (sk t n p) = 33 then 1 else 0)))) tu
  | f + 1, true, o, p, cs, cl, tu => if ch t n (sk t n p) = 41 then eF t n cv f true (o - 1) (sk t n p + 1) cs (fU cl (o - 1) (an (cl (o - 1)) (xr (or1 (cs o) (cl o)) (tu o)))) tu else if ch t n (sk t n p) = 58 then or1 (cs 0) (cl 0) else if ch t n (sk t n p) = 124 then eF t n cv f false o (sk t n p + 1) (fU cs o (or1 (cs o) (cl o))) (fU cl o 1) tu else eF t n cv f false o (sk t n p + 1) cs cl tu
def eE (t : Int → Int) (n : Int) (cv : Int → Int) (b : Bool) (o p : Int) (cs cl tu : Int → Int) : Int := eF t n cv ((n - p).toNat + 1) b o p cs cl tu
theorem eF_fuel {t : Int → Int} {n : Int} {cv : Int → Int} : ∀ (f g : Nat) (b : Bool) (o p : Int) (cs cl tu : Int → Int), p ≤ n → (n - p).toNat < f → (n - p).toNat < g → (tE t n b o p).1 = true → eF t n cv f b o p cs cl tu = eF t n cv g b o p cs cl tu
  | 0, g, b, o, p, _, _, _, _, h, _, _ => by omega
  | f + 1, 0, b, o, p, _, _, _, _, _, h, _ => by omega
  | f + 1, g + 1, false, o, p, cs, cl, tu, hp, h1, h2, ht => by
    have hnb := nb_ge (t := t) (n := n) p
    rw [tE_F hp] at ht
    simp only [eF]
    by_cases c1 : ch t n (nb t n p) = 40
    · have := ch_lt (t := t) (n := n) (p := nb t n p) (by omega)
      rw [if_pos c1] at ht
      rw [if_pos c1, if_pos c1]
      by_cases c2 : o = 4
      · rw [if_pos c2] at ht; cases ht
      · rw [if_neg c2] at ht
        exact eF_fuel f g false (o + 1) _ _ _ _ (by omega) (by omega) (by omega) ht
    · rw [if_neg c1] at ht
      rw [if_neg c1, if_neg c1]
      by_cases c2 : (clP t n (nb t n p)).1 = true
      · rw [if_pos c2] at ht
        have := clP_ok c2
        exact eF_fuel f g true o _ _ _ _ (by omega) (by omega) (by omega) ht
      · rw [if_neg c2] at ht; cases ht
  | f + 1, g + 1, true, o, p, cs, cl, tu, hp, h1, h2, ht => by
    have hnb := sk_ge (t := t) (n := n) p
    rw [tE_A hp] at ht
    simp only [eF]
    by_cases c1 : ch t n (sk t n p) = 41
    · have := ch_lt (t := t) (n := n) (p := sk t n p) (by omega)
      rw [if_pos c1, if_pos c1]
      by_cases c2 : 0 < o
      · rw [if_pos ⟨c1, c2⟩] at ht
        exact eF_fuel f g true _ _ _ _ _ (by omega) (by omega) (by omega) ht
      · rw [if_neg (by omega), if_neg (by omega), if_neg (by omega)] at ht; cases ht
    · rw [if_neg (by omega)] at ht
      rw [if_neg c1, if_neg c1]
      by_cases c2 : ch t n (sk t n p) = 38 ∨ ch t n (sk t n p) = 124
      · have := ch_lt (t := t) (n := n) (p := sk t n p) (by omega)
        rw [if_pos c2] at ht
        rw [if_neg (show ¬ ch t n (sk t n p) = 58 by omega), if_neg (show ¬ ch t n (sk t n p) = 58 by omega)]
        by_cases c3 : ch t n (sk t n p) = 124
        · rw [if_pos c3, if_pos c3]
          exact eF_fuel f g false _ _ _ _ _ (by omega) (by omega) (by omega) ht
        · rw [if_neg c3, if_neg c3]
          exact eF_fuel f g false _ _ _ _ _ (by omega) (by omega) (by omega) ht
      · rw [if_neg c2] at ht
        by_cases c3 : ch t n (sk t n p) = 58 ∧ o = 0
        · rw [if_pos c3.1, if_pos c3.1]
        · rw [if_neg c3] at ht; cases ht
theorem eE_of {t : Int → Int} {n : Int} {cv : Int → Int} {f : Nat} {b : Bool} {o p : Int} {cs cl tu : Int → Int} (hp : p ≤ n) (hf : (n - p).toNat < f) (ht : (tE t n b o p).1 = true) : eF t n cv f b o p cs cl tu = eE t n cv b o p cs cl tu := eF_fuel _ _ b o p cs cl tu hp hf (by omega) ht
/-- the same, one step on; where the reading goes on well -/
theorem eE_F1 {t : Int → Int} {n o p : Int} {cv cs cl tu : Int → Int} (hp : p ≤ n) (c : ch t n (nb t n p) = 40) (ht : (tE t n false (o + 1) (nb t n p + 1)).1 = true) : eE t n cv false o p cs cl tu = eE t n cv false (o + 1) (nb t n p + 1) (fU cs (o + 1) 0) (fU cl (o + 1) 1) (fU tu (o + 1) (if ch t n (sk t n p) = 33 then 1 else 0)) := by
  have hnb := nb_ge (t := t) (n := n) p
  have := ch_lt (t := t) (n := n) (p := nb t n p) (by omega)
  show (if ch t n (nb t n p) = 40 then _ else _) = _
  rw [if_pos c, eE_of (by omega) (by omega) ht]
theorem eE_F2 {t : Int → Int} {n o p : Int} {cv cs cl tu : Int → Int} (hp : p ≤ n) (c : ch t n (nb t n p) ≠ 40) (hc : (clP t n (nb t n p)).1 = true) (ht : (tE t n true o (clP t n (nb t n p)).2).1 = true) : eE t n cv false o p cs cl tu = eE t n cv true o (clP t n (nb t n p)).2 cs (fU cl o (an (cl o) (xr (cv (nb t n p)) (if ch t n (sk t n p) = 33 then 1 else 0)))) tu := by
  have hnb := nb_ge (t := t) (n := n) p
  have := clP_ok hc
  show (if ch t n (nb t n p) = 40 then _ else _) = _
  rw [if_neg c, eE_of (by omega) (by omega) ht]
theorem eE_A1 {t : Int → Int} {n o p : Int} {cv cs cl tu : Int → Int} (c : ch t n (sk t n p) = 41) (ht : (tE t n true (o - 1) (sk t n p + 1)).1 = true) : eE t n cv true o p cs cl tu = eE t n cv true (o - 1) (sk t n p + 1) cs (fU cl (o - 1) (an (cl (o - 1)) (xr (or1 (cs o) (cl o)) (tu o)))) tu := by
  have hnb := sk_ge (t := t) (n := n) p
  have := ch_lt (t := t) (n := n) (p := sk t n p) (by omega)
  show (if ch t n (sk t n p) = 41 then _ else _) = _
  rw [if_pos c, eE_of (by omega) (by omega) ht]
theorem eE_A2 {t : Int → Int} {n o p : Int} {cv cs cl tu : Int → Int} (c : ch t n (sk t n p) = 124) (ht : (tE t n false o (sk t n p + 1)).1 = true) : eE t n cv true o p cs cl tu = eE t n cv false o (sk t n p + 1) (fU cs o (or1 (cs o) (cl o))) (fU cl o 1) tu := by
  have hnb := sk_ge (t := t) (n := n) p
  have := ch_lt (t := t) (n := n) (p := sk t n p) (by omega)
  show (if ch t n (sk t n p) = 41 then _ else _) = _
  rw [if_neg (by omega), if_neg (by omega), if_pos c, eE_of (by omega) (by omega) ht]
theorem eE_A3 {t : Int → Int} {n o p : Int} {cv cs cl tu : Int → Int} (c : ch t n (sk t n p) = 38) (ht : (tE t n false o (sk t n p + 1)).1 = true) : eE t n cv true o p cs cl tu = eE t n cv false o (sk t n p + 1) cs cl tu := by
  have hnb := sk_ge (t := t) (n := n) p
  have := ch_lt (t := t) (n := n) (p := sk t n p) (by omega)
  show (if ch t n (sk t n p) = 41 then _ else _) = _
  rw [if_neg (by omega), if_neg (by omega), if_neg (by omega), eE_of (by omega) (by omega) ht]
theorem eE_A4 {t : Int → Int} {n o p : Int} {cv cs cl tu : Int → Int} (c : ch t n (sk t n p) = 58) : eE t n cv true o p cs cl tu = or1 (cs 0) (cl 0) := by
  show (if ch t n (sk t n p) = 41 then _ else _) = _
  rw [if_neg (by omega), if_pos c]
/-- the text of a habit in the model's z -/
def ZT (h : HD) (m : Nat) (B n : Int) (t : Int → Int) : Prop := h m 12 = B + n ∧ ∀ i, 0 ≤ i → i < n → h (m + 1) (B + i) = t i
theorem kU_c {d : HD} {a b : Nat} {i j v w : Int} (h : a ≠ b) : kU (kU d a i v) b j w = kU (kU d b j w) a i v := by
  funext c q
  unfold kU
  by_cases h1 : c = b ∧ q = j
  · rw [if_pos h1, if_neg (by omega), if_pos h1]
  · rw [if_neg h1, if_neg h1]
theorem ZT.ne {h : HD} {m a : Nat} {B n i v : Int} {t : Int → Int} (hz : ZT h m B n t) (h1 : a ≠ m) (h2 : a ≠ m + 1) : ZT (kU h a i v) m B n t := ⟨by rw [kU_ne h1.symm]; exact hz.1, fun q q1 q2 => by rw [kU_ne h2.symm]; exact hz.2 q q1 q2⟩
theorem ZT.f {h : HD} {m : Nat} {B n i v : Int} {t : Int → Int} (hz : ZT h m B n t) (h1 : i ≠ 12) : ZT (kU h m i v) m B n t := ⟨by rw [kU_f (fun q => h1 q.symm)]; exact hz.1, fun q q1 q2 => by rw [kU_ne (by omega)]; exact hz.2 q q1 q2⟩
section M8
variable {E : EE} {k m : Nat} {G : HG} {d : HD} {K : PQ} {n B : Int} {t : Int → Int}
theorem C_sign {p : Int} (hM : MO G m) (hT : ZT d m B n t) (hB : 0 ≤ B) (hB2 : B + n ≤ 3200) (h0 : 0 ≤ p) (h1 : p ≤ n) (hK : K (some (kI (ch t n (sk t n p)))) G (kU d m 11 (B + sk t n p))) : AM E mX7_sign k 0 0 [kR m] G (kU d m 11 (B + p)) K := by
  obtain ⟨ho, e0, a0, -⟩ := id hM
  have loop : ∀ (q : Nat) (x : Int), (n - x).toNat < q → 0 ≤ x → x ≤ n → sk t n x = sk t n p → AW E mX7_sign k 0 0 0 [some (kR m)] [] G (kU d m 11 (B + x)) K := by
    intro q
    induction q with
    | zero => intro x h; omega
    | succ q ih =>
      intro x hq hx hxn hs
      have f3 : kU d m 11 (B + x) m 12 = B + n := by rw [kU_f (by decide)]; exact hT.1
      have f10 : kU d m 11 (B + x) m 11 = B + x := kU_s
      have tx : x < n → kU d m 11 (B + x) (m + 1) (B + x) = t x := fun h => by rw [kU_ne (by omega)]; exact hT.2 x hx h
      have fin : ¬ (x < n ∧ t x = 32) → AW E mX7_sign k 0 0 38 [some (kR m)] [] G (kU d m 11 (B + x)) K := fun h => by
        rw [sk_s h] at hs
        subst hs
        refine A_aload_n dX7_sign_38 rfl rfl ?_
        refine A_get (fi := 11) dX7_sign_39 fg_X7_137 rfl rfl (by assumption) ?_
        refine A_aload_n dX7_sign_42 rfl rfl ?_
        refine A_get (fi := 12) dX7_sign_43 fg_X7_140 rfl rfl (by assumption) ?_
        refine A_icmp_ge (tgt := 61) dX7_sign_46 (by decide) (fun c_46 => ?_) (fun c_46 => ?_)
        · refine A_iconst dX7_sign_61 ⟨by decide, by decide⟩ ?_
          refine A_iret dX7_sign_62 rfl ?_
          unfold ch at hK
          rw [if_neg (by omega)] at hK
          exact hK
        · refine A_aload_n dX7_sign_49 rfl rfl ?_
          refine A_getR (fi := 0) dX7_sign_50 fg_X7_7 rfl rfl (by assumption) (by assumption) ?_
          refine A_aload_n dX7_sign_53 rfl rfl ?_
          refine A_get (fi := 11) dX7_sign_54 fg_X7_137 rfl rfl (by assumption) ?_
          refine A_iald dX7_sign_57 (by assumption) (by omega) (by omega) ?_
          refine A_goto (tgt := 62) dX7_sign_58 (by decide) ?_
          refine A_iret dX7_sign_62 rfl ?_
          unfold ch at hK
          rw [if_pos (by omega), ← tx (by omega)] at hK
          rw [f10]
          exact hK
      refine A_aload_n dX7_sign_0 rfl rfl ?_
      refine A_get (fi := 11) dX7_sign_1 fg_X7_137 rfl rfl (by assumption) ?_
      refine A_aload_n dX7_sign_4 rfl rfl ?_
      refine A_get (fi := 12) dX7_sign_5 fg_X7_140 rfl rfl (by assumption) ?_
      refine A_icmp_ge (tgt := 38) dX7_sign_8 (by decide) (fun c_8 => ?_) (fun c_8 => ?_)
      · skip
        exact fin (by omega)
      · refine A_aload_n dX7_sign_11 rfl rfl ?_
        refine A_getR (fi := 0) dX7_sign_12 fg_X7_7 rfl rfl (by assumption) (by assumption) ?_
        refine A_aload_n dX7_sign_15 rfl rfl ?_
        refine A_get (fi := 11) dX7_sign_16 fg_X7_137 rfl rfl (by assumption) ?_
        refine A_iald dX7_sign_19 (by assumption) (by omega) (by omega) ?_
        refine A_bipush dX7_sign_20 ⟨by decide, by decide⟩ rfl ?_
        refine A_icmp_ne (tgt := 38) dX7_sign_22 (by decide) (fun c_22 => ?_) (fun c_22 => ?_)
        · rw [f10, tx (by omega)] at c_22
          exact fin (by omega)
        · rw [f10, tx (by omega)] at c_22
          refine A_aload_n dX7_sign_25 rfl rfl ?_
          refine A_dup dX7_sign_26 (fun B => toV_cat B _) ?_
          refine A_get (fi := 11) dX7_sign_27 fg_X7_137 rfl rfl (by assumption) ?_
          refine A_iconst dX7_sign_30 ⟨by decide, by decide⟩ ?_
          refine A_iadd_ok dX7_sign_31 (by omega) (by omega) ?_
          refine A_put (fi := 11) dX7_sign_32 fp_X7_137 rfl rfl (by assumption) ?_
          refine A_goto (tgt := 0) dX7_sign_35 (by decide) ?_
          rw [f10, kU_2, show B + x + 1 = B + (x + 1) by omega]
          exact ih (x + 1) (by omega) (by omega) (by omega) (by rw [← sk_b (by omega) c_22]; exact hs)
  refine AM.of rfl (Nat.le_of_ble_eq_true rfl) ?_
  exact loop _ p (Nat.lt_succ_self _) h0 h1 rfl
theorem C_take {p : Int} (hM : MO G m) (hT : ZT d m B n t) (hB : 0 ≤ B) (hB2 : B + n ≤ 3200) (h0 : 0 ≤ p) (h1 : p ≤ n) (hK : K (some (kI (ch t n (sk t n p)))) G (kU d m 11 (B + (sk t n p + 1)))) : AM E mX7_take (k + 1) 0 0 [kR m] G (kU d m 11 (B + p)) K := by
  obtain ⟨ho, e0, a0, -⟩ := id hM
  have l1 := sk_le (t := t) h1
  have g1 := sk_ge (t := t) (n := n) p
  have f10 : kU d m 11 (B + sk t n p) m 11 = B + sk t n p := kU_s
  refine AM.of rfl (Nat.le_of_ble_eq_true rfl) ?_
  refine A_aload_n dX7_take_0 rfl rfl ?_
  refine A_inv0 dX7_take_1 mv_X7_143 kCl_7 (Nat.le_of_ble_eq_true rfl) (by assumption) ?_
  refine C_sign hM hT hB hB2 h0 h1 ?_
  refine A_istore_n dX7_take_4 rfl (Nat.le_of_ble_eq_true rfl) rfl ?_
  refine A_aload_n dX7_take_5 rfl rfl ?_
  refine A_dup dX7_take_6 (fun B => toV_cat B _) ?_
  refine A_get (fi := 11) dX7_take_7 fg_X7_137 rfl rfl (by assumption) ?_
  refine A_iconst dX7_take_10 ⟨by decide, by decide⟩ ?_
  refine A_iadd_ok dX7_take_11 (by omega) (by omega) ?_
  refine A_put (fi := 11) dX7_take_12 fp_X7_137 rfl rfl (by assumption) ?_
  refine A_iload_n dX7_take_15 rfl rfl ?_
  refine A_iret dX7_take_16 rfl ?_
  rw [f10, kU_2, show B + sk t n p + 1 = B + (sk t n p + 1) by omega]
  exact hK
theorem C_digits {p : Int} (hM : MO G m) (hT : ZT d m B n t) (hB : 0 ≤ B) (hB2 : B + n ≤ 3200) (h0 : 0 ≤ p) (h1 : p ≤ n) (hD : isD t n (sk t n p)) (hK : K (some (kI (if isD t n (sk t n p + 1) then 10 * (t (sk t n p) - 48) + t (sk t n p + 1) - 48 else t (sk t n p) - 48))) G (kU d m 11 (B + if isD t n (sk t n p + 1) then sk t n p + 1 + 1 else sk t n p + 1))) : AM E mX7_digits (k + 2) 0 0 [kR m] G (kU d m 11 (B + p)) K := by
  obtain ⟨ho, e0, a0, -⟩ := id hM
  have l1 := sk_le (t := t) h1
  have g1 := sk_ge (t := t) (n := n) p
  obtain ⟨d1, d2, d3⟩ := id hD
  have hc : ch t n (sk t n p) = t (sk t n p) := ch_at d1
  have f3 : kU d m 11 (B + (sk t n p + 1)) m 12 = B + n := by rw [kU_f (by decide)]; exact hT.1
  have f10 : kU d m 11 (B + (sk t n p + 1)) m 11 = B + (sk t n p + 1) := kU_s
  have tx : sk t n p + 1 < n → kU d m 11 (B + (sk t n p + 1)) (m + 1) (B + (sk t n p + 1)) = t (sk t n p + 1) := fun h => by rw [kU_ne (by omega)]; exact hT.2 _ (by omega) h
  refine AM.of rfl (Nat.le_of_ble_eq_true rfl) ?_
  refine A_aload_n dX7_digits_0 rfl rfl ?_
  refine A_inv0 dX7_digits_1 mv_X7_146 kCl_7 (Nat.le_of_ble_eq_true rfl) (by assumption) ?_
  refine C_take hM hT hB hB2 h0 h1 ?_
  rw [hc]
  refine A_bipush dX7_digits_4 ⟨by decide, by decide⟩ rfl ?_
  refine A_isub_ok dX7_digits_6 (by omega) (by omega) ?_
  refine A_istore_n dX7_digits_7 rfl (Nat.le_of_ble_eq_true rfl) rfl ?_
  refine A_aload_n dX7_digits_8 rfl rfl ?_
  refine A_get (fi := 11) dX7_digits_9 fg_X7_137 rfl rfl (by assumption) ?_
  refine A_aload_n dX7_digits_12 rfl rfl ?_
  refine A_get (fi := 12) dX7_digits_13 fg_X7_140 rfl rfl (by assumption) ?_
  refine A_icmp_ge (tgt := 69) dX7_digits_16 (by decide) (fun c_16 => ?_) (fun c_16 => ?_)
  · refine A_iload_n dX7_digits_69 rfl rfl ?_
    refine A_iret dX7_digits_70 rfl ?_
    rw [if_neg (by omega), if_neg (by omega)] at hK
    exact hK
  · refine A_aload_n dX7_digits_19 rfl rfl ?_
    refine A_getR (fi := 0) dX7_digits_20 fg_X7_7 rfl rfl (by assumption) (by assumption) ?_
    refine A_aload_n dX7_digits_23 rfl rfl ?_
    refine A_get (fi := 11) dX7_digits_24 fg_X7_137 rfl rfl (by assumption) ?_
    refine A_iald dX7_digits_27 (by assumption) (by omega) (by omega) ?_
    refine A_i2l dX7_digits_28 ?_
    refine A_ldc2 (x := 48) dX7_digits_29 cs_X7_113 rfl ⟨by decide, by decide⟩ ?_
    refine A_ldc2 (x := 57) dX7_digits_32 cs_X7_115 rfl ⟨by decide, by decide⟩ ?_
    refine A_ins3 dX7_digits_35 ms_X7_53 (Nat.le_of_ble_eq_true rfl) ?_
    refine C_in ?_
    refine A_if_eq (tgt := 69) dX7_digits_38 (by decide) (fun c_38 => ?_) (fun c_38 => ?_)
    · rw [f10, tx (by omega)] at c_38
      replace c_38 := i01e c_38
      refine A_iload_n dX7_digits_69 rfl rfl ?_
      refine A_iret dX7_digits_70 rfl ?_
      rw [if_neg (by omega), if_neg (by omega)] at hK
      exact hK
    · rw [f10, tx (by omega)] at c_38
      replace c_38 := i01n c_38
      refine A_bipush dX7_digits_41 ⟨by decide, by decide⟩ rfl ?_
      refine A_iload_n dX7_digits_43 rfl rfl ?_
      refine A_imul_ok dX7_digits_44 (by omega) (by omega) ?_
      refine A_aload_n dX7_digits_45 rfl rfl ?_
      refine A_getR (fi := 0) dX7_digits_46 fg_X7_7 rfl rfl (by assumption) (by assumption) ?_
      refine A_aload_n dX7_digits_49 rfl rfl ?_
      refine A_get (fi := 11) dX7_digits_50 fg_X7_137 rfl rfl (by assumption) ?_
      refine A_iald dX7_digits_53 (by assumption) (by omega) (by omega) ?_
      rw [f10, tx (by omega)]
      refine A_iadd_ok dX7_digits_54 (by omega) (by omega) ?_
      refine A_bipush dX7_digits_55 ⟨by decide, by decide⟩ rfl ?_
      refine A_isub_ok dX7_digits_57 (by omega) (by omega) ?_
      refine A_istore_n dX7_digits_58 rfl (Nat.le_of_ble_eq_true rfl) rfl ?_
      refine A_aload_n dX7_digits_59 rfl rfl ?_
      refine A_dup dX7_digits_60 (fun B => toV_cat B _) ?_
      refine A_get (fi := 11) dX7_digits_61 fg_X7_137 rfl rfl (by assumption) ?_
      refine A_iconst dX7_digits_64 ⟨by decide, by decide⟩ ?_
      refine A_iadd_ok dX7_digits_65 (by omega) (by omega) ?_
      refine A_put (fi := 11) dX7_digits_66 fp_X7_137 rfl rfl (by assumption) ?_
      refine A_iload_n dX7_digits_69 rfl rfl ?_
      refine A_iret dX7_digits_70 rfl ?_
      rw [f10, kU_2]
      have hD2 : isD t n (sk t n p + 1) := ⟨by omega, by omega, by omega⟩
      rw [if_pos hD2, if_pos hD2] at hK
      rw [show B + (sk t n p + 1) + 1 = B + (sk t n p + 1 + 1) by omega]
      exact hK
end M8
