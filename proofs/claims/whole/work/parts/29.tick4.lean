/-- a ring that may be: B bounds what counts up -/
def WC (R : Int → Int) (B c : Int) : Prop := (0 ≤ cfR R c 0 ∧ cfR R c 0 < R 0) ∧ (cfR R c 1 = 0 ∨ cfR R c 1 = 1) ∧ (0 ≤ cfR R c 2 ∧ cfR R c 2 ≤ 9) ∧ (0 ≤ cfR R c 3 ∧ cfR R c 3 ≤ 2) ∧ (0 ≤ cfR R c 4 ∧ cfR R c 4 ≤ 3) ∧ (0 ≤ cfR R c 5 ∧ cfR R c 5 ≤ 9 * B) ∧ (0 ≤ cfR R c 6 ∧ cfR R c 6 ≤ B) ∧ (cfR R c 7 = 0 ∨ cfR R c 7 = 1) ∧ (0 ≤ cfR R c 8 ∧ cfR R c 8 ≤ B)
def ND (R : Int → Int) : Prop := ∀ c e, 0 ≤ c → c < R 2 → 0 ≤ e → e < R 2 → c ≠ e → cfR R c 1 = cfR R e 1 → cfR R c 0 ≠ cfR R e 0
def WP (R : Int → Int) (B : Int) : Prop := 0 ≤ R 6 ∧ R 6 ≤ 4 ∧ ∀ b, 0 ≤ b → b < R 6 → (0 ≤ R (22 + 3 * b) ∧ R (22 + 3 * b) < R 0) ∧ (0 ≤ R (22 + 3 * b + 1) ∧ R (22 + 3 * b + 1) ≤ 12 * B) ∧ 0 ≤ R (22 + 3 * b + 2) ∧ R (22 + 3 * b + 2) ≤ 108 * B
def WR (R : Int → Int) (B : Int) : Prop := (12 ≤ R 0 ∧ R 0 ≤ 99) ∧ (1 ≤ R 1 ∧ R 1 ≤ 9) ∧ (0 ≤ R 2 ∧ R 2 ≤ 12) ∧ (0 ≤ R 3 ∧ R 3 ≤ B) ∧ (∀ c, 0 ≤ c → c < R 2 → WC R B c) ∧ WB R ∧ WP R B ∧ (∀ h, 0 ≤ h → h ≤ 2 → VH R h) ∧ ND R
theorem WR.G {R : Int → Int} {B : Int} (h : WR R B) : WG R := ⟨h.1.1, h.1.2, h.2.2.1.1, h.2.2.1.2, fun c c1 c2 => (h.2.2.2.2.1 c c1 c2).1⟩
theorem hT_cg {R R' : Int → Int} {h : Int} (hh : 0 ≤ h) (hh2 : h ≤ 2) (e : ∀ j, 34 ≤ j → j < 340 → R' j = R j) : R' (34 + h) = R (34 + h) ∧ R' (37 + h) = R (37 + h) ∧ ∀ i, 0 ≤ i → i < 100 → hT R' h i = hT R h i := ⟨e _ (by omega) (by omega), e _ (by omega) (by omega), fun i i1 i2 => e _ (by omega) (by omega)⟩
/-! texts that are alike read alike -/
theorem ch_cg {t t' : Int → Int} {n p : Int} (e : ∀ i, 0 ≤ i → i < n → t' i = t i) (hp : 0 ≤ p) : ch t' n p = ch t n p := by
  unfold ch
  by_cases h : p < n
  · rw [if_pos h, if_pos h, e p hp h]
  · rw [if_neg h, if_neg h]
theorem sk_cg {t t' : Int → Int} {n : Int} (e : ∀ i, 0 ≤ i → i < n → t' i = t i) : ∀ (f : Nat) (p : Int), (n - p).toNat = f → 0 ≤ p → sk t' n p = sk t n p
  | 0, p, h, hp => by rw [sk_s (show ¬ (p < n ∧ t' p = 32) by omega), sk_s (show ¬ (p < n ∧ t p = 32) by omega)]
  | f + 1, p, h, hp => by
    have et := e p hp (by omega)
    by_cases q : t p = 32
    · rw [sk_b (by omega) q, sk_b (t := t') (by omega) (by rw [et]; exact q)]
      exact sk_cg e f (p + 1) (by omega) (by omega)
    · rw [sk_s (fun z => q z.2), sk_s (t := t') (fun z => q (by rw [← et]; exact z.2))]
theorem skc {t t' : Int → Int} {n p : Int} (e : ∀ i, 0 ≤ i → i < n → t' i = t i) (hp : 0 ≤ p) : sk t' n p = sk t n p := sk_cg e _ p rfl hp
theorem sk0 {t : Int → Int} {n p : Int} (hp : 0 ≤ p) : 0 ≤ sk t n p := Int.le_trans hp (sk_ge p)
theorem nb_cg {t t' : Int → Int} {n p : Int} (e : ∀ i, 0 ≤ i → i < n → t' i = t i) (hp : 0 ≤ p) : nb t' n p = nb t n p := by
  have h1 := sk0 (t := t) (n := n) hp
  unfold nb
  rw [skc e hp, ch_cg e h1, skc e (show 0 ≤ sk t n p + 1 by omega)]
theorem c3_cg {t t' : Int → Int} {n p : Int} (e : ∀ i, 0 ≤ i → i < n → t' i = t i) (hp : 0 ≤ p) : c3 t' n p = c3 t n p := by
  have h1 := sk0 (t := t) (n := n) (show 0 ≤ p + 1 by omega)
  have h2 := sk0 (t := t) (n := n) (show 0 ≤ sk t n (p + 1) + 1 by omega)
  unfold c3
  rw [skc e (show 0 ≤ p + 1 by omega), skc e (show 0 ≤ sk t n (p + 1) + 1 by omega), ch_cg e h2, skc e (show 0 ≤ sk t n (sk t n (p + 1) + 1) + 1 by omega)]
theorem isD_cg {t t' : Int → Int} {n p : Int} (e : ∀ i, 0 ≤ i → i < n → t' i = t i) (hp : 0 ≤ p) : isD t' n p ↔ isD t n p := by
  by_cases h : p < n
  · simp only [isD, e p hp h]
  · constructor <;> exact fun z => absurd z.1 h
theorem iteD {α : Type} {P Q : Prop} [Decidable P] [Decidable Q] {a b : α} (h : P ↔ Q) : (if ¬ P then a else b) = (if ¬ Q then a else b) := by
  by_cases q : Q
  · rw [if_neg (fun z => z (h.mpr q)), if_neg (fun z => z q)]
  · rw [if_pos (fun z => q (h.mp z)), if_pos q]
theorem clP_cg {t t' : Int → Int} {n p : Int} (e : ∀ i, 0 ≤ i → i < n → t' i = t i) (hp : 0 ≤ p) : clP t' n p = clP t n p := by
  have h1 := sk0 (t := t) (n := n) (show 0 ≤ p + 1 by omega)
  have h3 := c3_ge (t := t) (n := n) p
  have e5 : c5 t' n p = c5 t n p := by
    unfold c5
    rw [c3_cg e hp]
    by_cases q : isD t n (c3 t n p + 1)
    · rw [if_pos q, if_pos ((isD_cg e (by omega)).mpr q)]
    · rw [if_neg q, if_neg (fun z => q ((isD_cg e (by omega)).mp z))]
  unfold clP
  rw [ch_cg e hp, skc e (show 0 ≤ p + 1 by omega), ch_cg e h1, c3_cg e hp, e5, iteD (isD_cg e (show 0 ≤ c3 t n p by omega))]
theorem tE_cg {t t' : Int → Int} {n : Int} (e : ∀ i, 0 ≤ i → i < n → t' i = t i) : ∀ (f : Nat) (b : Bool) (o p : Int), (n - p).toNat < f → 0 ≤ p → p ≤ n → tE t' n b o p = tE t n b o p
  | 0, b, o, p, h, _, _ => by omega
  | f + 1, false, o, p, h, h0, hp => by
    have hnb := nb_ge (t := t) (n := n) p
    rw [tE_F hp, tE_F hp, nb_cg e h0, ch_cg e (show 0 ≤ nb t n p by omega), clP_cg e (show 0 ≤ nb t n p by omega)]
    by_cases c1 : ch t n (nb t n p) = 40
    · have := ch_lt (t := t) (n := n) (p := nb t n p) (by omega)
      rw [if_pos c1, if_pos c1, tE_cg e f false (o + 1) (nb t n p + 1) (by omega) (by omega) (by omega)]
    · rw [if_neg c1, if_neg c1]
      by_cases c2 : (clP t n (nb t n p)).1 = true
      · have := clP_ok c2
        rw [if_pos c2, if_pos c2, tE_cg e f true o _ (by omega) (by omega) (by omega)]
      · rw [if_neg c2, if_neg c2]
  | f + 1, true, o, p, h, h0, hp => by
    have hnb := sk_ge (t := t) (n := n) p
    rw [tE_A hp, tE_A hp, skc e h0, ch_cg e (show 0 ≤ sk t n p by omega)]
    by_cases c1 : ch t n (sk t n p) = 41 ∧ 0 < o
    · have := ch_lt (t := t) (n := n) (p := sk t n p) (by omega)
      rw [if_pos c1, if_pos c1, tE_cg e f true _ (sk t n p + 1) (by omega) (by omega) (by omega)]
    · rw [if_neg c1, if_neg c1]
      by_cases c2 : ch t n (sk t n p) = 38 ∨ ch t n (sk t n p) = 124
      · have := ch_lt (t := t) (n := n) (p := sk t n p) (by omega)
        rw [if_pos c2, if_pos c2, tE_cg e f false _ (sk t n p + 1) (by omega) (by omega) (by omega)]
      · rw [if_neg c2, if_neg c2]
theorem tEc {t t' : Int → Int} {n : Int} (e : ∀ i, 0 ≤ i → i < n → t' i = t i) {b : Bool} {o p : Int} (h0 : 0 ≤ p) (hp : p ≤ n) : tE t' n b o p = tE t n b o p := tE_cg e _ b o p (Nat.lt_succ_self _) h0 hp
theorem acP_cg {t t' : Int → Int} {n p : Int} (e : ∀ i, 0 ≤ i → i < n → t' i = t i) (hp : 0 ≤ p) : acP t' n p = acP t n p := by
  have h1 := sk0 (t := t) (n := n) hp
  have h2 := sk0 (t := t) (n := n) (show 0 ≤ sk t n p + 1 by omega)
  have h3 := sk0 (t := t) (n := n) (show 0 ≤ sk t n (sk t n p + 1) + 1 by omega)
  unfold acP
  rw [skc e hp, ch_cg e h1, skc e (show 0 ≤ sk t n p + 1 by omega), skc e (show 0 ≤ sk t n (sk t n p + 1) + 1 by omega), ch_cg e h3, iteD (isD_cg e h2)]
theorem csF_cg {t t' : Int → Int} {n : Int} (e : ∀ i, 0 ≤ i → i < n → t' i = t i) : ∀ (f : Nat) (c p : Int), 0 ≤ p → p ≤ n → csF t' n f c p = csF t n f c p
  | 0, c, p, _, _ => rfl
  | f + 1, c, p, h0, hp => by
    have tl := tE_le (t := t) (n := n) _ false 0 p (Nat.lt_succ_self _) hp
    have al := acP_rg (t := t) (n := n) (p := (tE t n false 0 p).2) tl.2.1
    have g := sk_ge (t := t) (n := n) (acP t n (tE t n false 0 p).2).2
    simp only [csF]
    rw [tEc e h0 hp, acP_cg e (show 0 ≤ (tE t n false 0 p).2 by omega), skc e (show 0 ≤ (acP t n (tE t n false 0 p).2).2 by omega), ch_cg e (show 0 ≤ sk t n (acP t n (tE t n false 0 p).2).2 by omega)]
    by_cases q : ch t n (sk t n (acP t n (tE t n false 0 p).2).2) = -1
    · rw [if_pos q, if_pos q]
    · have := ch_lt q
      rw [if_neg q, if_neg q, csF_cg e f (c + 1) _ (by omega) (by omega)]
theorem cvS_cg {t t' : Int → Int} {n g dd oo v p : Int} (e : ∀ i, 0 ≤ i → i < n → t' i = t i) (hp : 0 ≤ p) (hc : (clP t n p).1 = true) : cvS t' n g dd oo v p = cvS t n g dd oo v p := by
  have h1 := sk0 (t := t) (n := n) (show 0 ≤ p + 1 by omega)
  have h2 := sk0 (t := t) (n := n) (show 0 ≤ sk t n (p + 1) + 1 by omega)
  have h3 := c3_ge (t := t) (n := n) p
  unfold cvS
  rw [ch_cg e hp]
  by_cases c1 : ch t n p = 42
  · rw [if_pos c1, if_pos c1]
  · rw [if_neg c1, if_neg c1]
    have hD : isD t n (c3 t n p) := by
      unfold clP at hc
      rw [if_neg c1] at hc
      by_cases q : isD t n (c3 t n p)
      · exact q
      · revert hc
        repeat' split
        all_goals first | (intro z; cases z; done) | (intro _; contradiction) | (intro _; rename_i z; exact absurd q z)
    have eV : cVal t' n p = cVal t n p := by
      unfold cVal cNum
      rw [skc e (show 0 ≤ p + 1 by omega), skc e (show 0 ≤ sk t n (p + 1) + 1 by omega), ch_cg e h2, c3_cg e hp, e (c3 t n p) (by omega) hD.1]
      by_cases q : isD t n (c3 t n p + 1)
      · rw [if_pos q, if_pos ((isD_cg e (by omega)).mpr q), e (c3 t n p + 1) (by omega) q.1]
      · rw [if_neg q, if_neg (fun z => q ((isD_cg e (by omega)).mp z))]
    have eH : cHas t' n p g dd oo v = cHas t n p g dd oo v := by unfold cHas; rw [ch_cg e hp]
    rw [eV, eH, skc e (show 0 ≤ p + 1 by omega), ch_cg e h1]
theorem eE_ct {t t' : Int → Int} {n : Int} {cv cv' : Int → Int} (e : ∀ i, 0 ≤ i → i < n → t' i = t i) (ecv : ∀ p, 0 ≤ p → (clP t n p).1 = true → cv' p = cv p) : ∀ (f : Nat) (b : Bool) (o p : Int) (cs cl tu : Int → Int), (n - p).toNat < f → 0 ≤ p → p ≤ n → (tE t n b o p).1 = true → eE t' n cv' b o p cs cl tu = eE t n cv b o p cs cl tu
  | 0, b, o, p, _, _, _, h, _, _, _ => by omega
  | f + 1, false, o, p, cs, cl, tu, h, h0, hp, ht => by
    have hnb := nb_ge (t := t) (n := n) p
    have ht' := ht
    rw [tE_F hp] at ht
    have en := nb_cg (t := t) (t' := t') e h0
    have ec := ch_cg (t := t) (t' := t') e (show 0 ≤ nb t n p by omega)
    have es := skc (t := t) (t' := t') e h0
    have esc := ch_cg (t := t) (t' := t') e (sk0 (t := t) (n := n) h0)
    by_cases c1 : ch t n (nb t n p) = 40
    · have := ch_lt (t := t) (n := n) (p := nb t n p) (by omega)
      rw [if_pos c1] at ht
      by_cases c2 : o = 4
      · rw [if_pos c2] at ht; cases ht
      · rw [if_neg c2] at ht
        rw [eE_F1 hp c1 ht, eE_F1 (t := t') hp (by rw [en, ec]; exact c1) (by rw [en, tEc e (by omega) (by omega)]; exact ht), en, es, esc]
        exact eE_ct e ecv f false (o + 1) _ _ _ _ (by omega) (by omega) (by omega) ht
    · rw [if_neg c1] at ht
      by_cases c2 : (clP t n (nb t n p)).1 = true
      · rw [if_pos c2] at ht
        have := clP_ok c2
        have ecl := clP_cg (t := t) (t' := t') e (show 0 ≤ nb t n p by omega)
        rw [eE_F2 hp c1 c2 ht, eE_F2 (t := t') hp (by rw [en, ec]; exact c1) (by rw [en, ecl]; exact c2) (by rw [en, ecl, tEc e (by omega) (by omega)]; exact ht), en, ecl, es, esc, ecv _ (by omega) c2]
        exact eE_ct e ecv f true o _ _ _ _ (by omega) (by omega) (by omega) ht
      · rw [if_neg c2] at ht; cases ht
  | f + 1, true, o, p, cs, cl, tu, h, h0, hp, ht => by
    have hnb := sk_ge (t := t) (n := n) p
    rw [tE_A hp] at ht
    have es := skc (t := t) (t' := t') e h0
    have esc := ch_cg (t := t) (t' := t') e (sk0 (t := t) (n := n) h0)
    by_cases c1 : ch t n (sk t n p) = 41 ∧ 0 < o
    · have := ch_lt (t := t) (n := n) (p := sk t n p) (by omega)
      rw [if_pos c1] at ht
      rw [eE_A1 c1.1 ht, eE_A1 (t := t') (by rw [es, esc]; exact c1.1) (by rw [es, tEc e (by omega) (by omega)]; exact ht), es]
      exact eE_ct e ecv f true _ _ _ _ _ (by omega) (by omega) (by omega) ht
    · rw [if_neg c1] at ht
      by_cases c2 : ch t n (sk t n p) = 38 ∨ ch t n (sk t n p) = 124
      · have := ch_lt (t := t) (n := n) (p := sk t n p) (by omega)
        rw [if_pos c2] at ht
        have ht2 : (tE t' n false o (sk t' n p + 1)).1 = true := by rw [es, tEc e (by omega) (by omega)]; exact ht
        by_cases c3 : ch t n (sk t n p) = 124
        · rw [eE_A2 c3 ht, eE_A2 (t := t') (by rw [es, esc]; exact c3) ht2, es]
          exact eE_ct e ecv f false _ _ _ _ _ (by omega) (by omega) (by omega) ht
        · rw [eE_A3 (by omega) ht, eE_A3 (t := t') (by rw [es, esc]; omega) ht2, es]
          exact eE_ct e ecv f false _ _ _ _ _ (by omega) (by omega) (by omega) ht
      · rw [if_neg c2] at ht
        by_cases c3 : ch t n (sk t n p) = 58 ∧ o = 0
        · rw [eE_A4 c3.1, eE_A4 (t := t') (by rw [es, esc]; exact c3.1)]
        · rw [if_neg c3] at ht; cases ht
