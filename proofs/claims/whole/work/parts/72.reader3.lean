/-! what the reader leaves: claims, labels, and what they come to -/
def RF (d d' : HD) (c l : Int) : Prop := (∀ a, a ≠ 9 → (a < 11 ∨ 15 < a) → a ≠ 19 → a ≠ 20 → d' a = d a) ∧ (∀ i, i ≠ 2 → i ≠ 3 → i ≠ 5 → d' 9 i = d 9 i) ∧ (∀ a i, i < c → 11 ≤ a → a ≤ 15 → d' a i = d a i) ∧ ∀ a i, i < l → (a = 19 ∨ a = 20) → d' a i = d a i
def LI (d : HD) (c l : Int) : Prop := (∀ i, 0 ≤ i → i < l → d 19 i = -1 ∨ (0 ≤ d 19 i ∧ d 19 i < i)) ∧ ∀ i, 0 ≤ i → i < c → (0 ≤ d 14 i ∧ d 14 i < l) ∧ 0 ≤ d 15 i ∧ d 15 i < l
/-- F: the claims at the end; lam: what the labels come to at the end -/
def FZ (d : HD) (c c' l l' : Int) (F : HD) (lam : Int → Int) : Prop := (∀ a i, 11 ≤ a → a ≤ 15 → c ≤ i → i < c' → F a i = d a i) ∧ ∀ i, l ≤ i → i < l' → lam i = if d 19 i = -1 then d 20 i else lam (d 19 i)
def gF (F : HD) (lam : Int → Int) (N : Nat) (g dd oo v : Int) : Nat → Int → Int
  | 0, x => x
  | f + 1, x => if 0 ≤ x ∧ x < N then gF F lam N g dd oo v f (if soS (vlS (F 11 x) g dd oo v) (F 12 x) (F 13 x) ≠ 0 then lam (F 14 x) else lam (F 15 x)) else x
def RC (F : HD) (lam : Int → Int) (N : Nat) (g dd oo v : Int) (k : Nat) (x y : Int) : Prop := ∀ f : Nat, gF F lam N g dd oo v (f + k) x = gF F lam N g dd oo v f y
def CHN (d : HD) (c c' l l' g dd oo v x so no : Int) : Prop := ∀ (F : HD) (lam : Int → Int) (N : Nat), FZ d c c' l l' F lam → c' ≤ N → ∃ k : Nat, (k : Int) ≤ c' - c ∧ RC F lam N g dd oo v k c (if x ≠ 0 then lam so else lam no)
def tB (t : Int → Int) (n o q : Int) : Bool × Int := if ch t n q = 40 then (if o = 4 then (false, q) else tE t n false (o + 1) (q + 1)) else if (clP t n q).1 = true then tE t n true o (clP t n q).2 else (false, (clP t n q).2)
def eB (t : Int → Int) (n : Int) (cv : Int → Int) (o q fl : Int) (cs cl tu : Int → Int) : Int := if ch t n q = 40 then eE t n cv false (o + 1) (q + 1) (fU cs (o + 1) 0) (fU cl (o + 1) 1) (fU tu (o + 1) fl) else eE t n cv true o (clP t n q).2 cs (fU cl o (an (cl o) (xr (cv q) fl))) tu
def EN (t : Int → Int) (n : Int) (d : HD) (p c l e : Int) : Prop := RT d n t ∧ (d 9 2 = p ∧ d 9 3 = c ∧ d 9 5 = l) ∧ LI d c l ∧ (0 ≤ p ∧ p ≤ n ∧ 0 ≤ c ∧ c ≤ p ∧ 0 ≤ l ∧ l ≤ 2 * p + e)
def XB (t : Int → Int) (n : Int) (d d' : HD) (o p p' c c' l l' so no : Int) : Prop := RF d d' c l ∧ (d' 9 2 = p' ∧ d' 9 3 = c' ∧ d' 9 5 = l') ∧ LI d' c' l' ∧ (p < p' ∧ p' ≤ n ∧ c ≤ c' ∧ c' - c ≤ p' - p ∧ l ≤ l' ∧ l' - l ≤ 2 * (p' - p) - 2) ∧ tB t n o (sk t n p) = tE t n true o p' ∧ ∀ g dd oo v, ∃ x, (x = 0 ∨ x = 1) ∧ ((tE t n true o p').1 = true → ∀ fl cs cl tu, eB t n (cvS t n g dd oo v) o (sk t n p) fl cs cl tu = eE t n (cvS t n g dd oo v) true o p' cs (fU cl o (an (cl o) (xr x fl))) tu) ∧ CHN d' c c' l l' g dd oo v x so no
def XC (t : Int → Int) (n : Int) (d d' : HD) (o p p' c c' l l' so no : Int) : Prop := RF d d' c l ∧ (d' 9 2 = p' ∧ d' 9 3 = c' ∧ d' 9 5 = l') ∧ LI d' c' l' ∧ (p < p' ∧ p' ≤ n ∧ c ≤ c' ∧ c' - c ≤ p' - p ∧ l ≤ l' ∧ l' - l ≤ 2 * (p' - p) - 1) ∧ (tE t n false o p = tE t n true o p' ∧ sk t n p' = p' ∧ ch t n p' ≠ 38) ∧ ∀ g dd oo v, ∃ x, (x = 0 ∨ x = 1) ∧ ((tE t n true o p').1 = true → ∀ y s cs cl tu, eE t n (cvS t n g dd oo v) false o p (fU cs o s) (fU cl o y) tu = eE t n (cvS t n g dd oo v) true o p' (fU cs o s) (fU cl o (an y x)) tu) ∧ CHN d' c c' l l' g dd oo v x so no
def XT (t : Int → Int) (n : Int) (d d' : HD) (o p p' c c' l l' so no : Int) : Prop := RF d d' c l ∧ (d' 9 2 = p' ∧ d' 9 3 = c' ∧ d' 9 5 = l') ∧ LI d' c' l' ∧ (p < p' ∧ p' ≤ n ∧ c ≤ c' ∧ c' - c ≤ p' - p ∧ l ≤ l' ∧ l' - l ≤ 2 * (p' - p)) ∧ (tE t n false o p = tE t n true o p' ∧ sk t n p' = p' ∧ ch t n p' ≠ 38 ∧ ch t n p' ≠ 124) ∧ ∀ g dd oo v, ∃ x, (x = 0 ∨ x = 1) ∧ (∃ e c1, or1 e c1 = x ∧ ((tE t n true o p').1 = true → ∀ s cs cl tu, (s = 0 ∨ s = 1) → eE t n (cvS t n g dd oo v) false o p (fU cs o s) (fU cl o 1) tu = eE t n (cvS t n g dd oo v) true o p' (fU cs o (or1 s e)) (fU cl o c1) tu)) ∧ CHN d' c c' l l' g dd oo v x so no
def PB (E : EE) (G : HG) (t : Int → Int) (n : Int) (k : Nat) (o : Int) : Prop := ∀ (d : HD) (p c l so no : Int) (K : PQ), EN t n d p c l 14 → (0 ≤ so ∧ so < l) → (0 ≤ no ∧ no < l) → (∀ d' p', RF d d' c l → d' 9 2 = p' → tB t n o (sk t n p) = (false, p') → K (some (kI 0)) G d') → (∀ d' p' c' l', XB t n d d' o p p' c c' l l' so no → K (some (kI 1)) G d') → AM E mX3_readBare k 0 0 [kR 9, kI so, kI no, kI o] G d K
def PC (E : EE) (G : HG) (t : Int → Int) (n : Int) (k : Nat) (o : Int) : Prop := ∀ (d : HD) (p c l so no : Int) (K : PQ), EN t n d p c l 13 → (0 ≤ so ∧ so < l) → (0 ≤ no ∧ no < l) → (∀ d' p', RF d d' c l → d' 9 2 = p' → tE t n false o p = (false, p') → K (some (kI 0)) G d') → (∀ d' p' c' l', XC t n d d' o p p' c c' l l' so no → K (some (kI 1)) G d') → AM E mX3_readCase k 0 0 [kR 9, kI so, kI no, kI o] G d K
def PT (E : EE) (G : HG) (t : Int → Int) (n : Int) (k : Nat) (o : Int) : Prop := ∀ (d : HD) (p c l so no : Int) (K : PQ), EN t n d p c l 12 → (0 ≤ so ∧ so < l) → (0 ≤ no ∧ no < l) → (∀ d' p', RF d d' c l → d' 9 2 = p' → tE t n false o p = (false, p') → K (some (kI 0)) G d') → (∀ d' p' c' l', XT t n d d' o p p' c c' l l' so no → K (some (kI 1)) G d') → AM E mX3_readTest k 0 0 [kR 9, kI so, kI no, kI o] G d K
section RD3
variable {d d' d1 d2 : HD} {c l c1 l1 n : Int} {t : Int → Int}
theorem RF.rf : RF d d c l := ⟨fun _ _ _ _ _ => rfl, fun _ _ _ _ => rfl, fun _ _ _ _ _ => rfl, fun _ _ _ _ => rfl⟩
theorem RF.tr (h1 : RF d d1 c l) (h2 : RF d1 d2 c1 l1) (hc : c ≤ c1) (hl : l ≤ l1) : RF d d2 c l := ⟨fun a q1 q2 q3 q4 => (h2.1 a q1 q2 q3 q4).trans (h1.1 a q1 q2 q3 q4), fun i q1 q2 q3 => (h2.2.1 i q1 q2 q3).trans (h1.2.1 i q1 q2 q3), fun a i q1 q2 q3 => (h2.2.2.1 a i (by omega) q2 q3).trans (h1.2.2.1 a i q1 q2 q3), fun a i q1 q2 => (h2.2.2.2 a i (by omega) q2).trans (h1.2.2.2 a i q1 q2)⟩
theorem RF.u {a : Nat} {i v : Int} (h : RF d d' c l) (ok : (a = 9 ∧ (i = 2 ∨ i = 3 ∨ i = 5)) ∨ (11 ≤ a ∧ a ≤ 15 ∧ c ≤ i) ∨ ((a = 19 ∨ a = 20) ∧ l ≤ i)) : RF d (kU d' a i v) c l := by
  refine ⟨fun b q1 q2 q3 q4 => ?_, fun j q1 q2 q3 => ?_, fun b j q1 q2 q3 => ?_, fun b j q1 q2 => ?_⟩
  · rw [kU_ne (by omega)]; exact h.1 b q1 q2 q3 q4
  · unfold kU; rw [if_neg (by omega)]; exact h.2.1 j q1 q2 q3
  · unfold kU; rw [if_neg (by omega)]; exact h.2.2.1 b j q1 q2 q3
  · unfold kU; rw [if_neg (by omega)]; exact h.2.2.2 b j q1 q2
theorem RF.T (h : RF d d' c l) (hT : RT d n t) : RT d' n t := ⟨by rw [h.2.1 1 (by decide) (by decide) (by decide)]; exact hT.1, fun i i1 i2 => by rw [h.1 10 (by decide) (by decide) (by decide) (by decide)]; exact hT.2 i i1 i2⟩
theorem RF.nl (h0 : 0 ≤ l) : RF d (nlD d l) c l := ((RF.rf.u (Or.inr (Or.inr ⟨Or.inl rfl, Int.le_refl _⟩))).u (Or.inr (Or.inr ⟨Or.inr rfl, Int.le_refl _⟩))).u (Or.inl ⟨rfl, Or.inr (Or.inr rfl)⟩)
theorem LI.u {a : Nat} {i v : Int} (h : LI d c l) (h1 : a ≠ 14) (h2 : a ≠ 15) (h3 : a ≠ 19) : LI (kU d a i v) c l := by
  refine ⟨fun j j1 j2 => ?_, fun j j1 j2 => ?_⟩
  · rw [kU_ne (by omega)]; exact h.1 j j1 j2
  · rw [kU_ne (by omega), kU_ne (by omega)]; exact h.2 j j1 j2
theorem LI.j {i v : Int} (h : LI d c l) (hv : 0 ≤ v) (hv2 : v < i) : LI (kU d 19 i v) c l := by
  refine ⟨fun j j1 j2 => ?_, fun j j1 j2 => ?_⟩
  · by_cases q : j = i
    · subst q; rw [kU_s]; exact Or.inr ⟨hv, hv2⟩
    · rw [kU_f q]; exact h.1 j j1 j2
  · rw [kU_ne (by decide), kU_ne (by decide)]; exact h.2 j j1 j2
theorem LI.nl (h : LI d c l) (h0 : 0 ≤ l) : LI (nlD d l) c (l + 1) := by
  unfold nlD
  refine ⟨fun j j1 j2 => ?_, fun j j1 j2 => ?_⟩
  · rw [kU_ne (by decide), kU_ne (by decide)]
    by_cases q : j = l
    · subst q; rw [kU_s]; exact Or.inl rfl
    · rw [kU_f q]; exact h.1 j j1 (by omega)
  · rw [kU_ne (by decide), kU_ne (by decide), kU_ne (by decide), kU_ne (by decide), kU_ne (by decide), kU_ne (by decide)]
    have := h.2 j j1 j2
    omega
theorem fU_2 {f : Int → Int} {i a b : Int} : fU (fU f i a) i b = fU f i b := by
  funext j
  unfold fU
  split <;> rfl
theorem FZ.sub {c0 c' c3 l0 l' l3 : Int} {F : HD} {lam : Int → Int} (h : FZ d2 c0 c3 l0 l3 F lam) (r1 : ∀ a i, c ≤ i → i < c' → 11 ≤ a → a ≤ 15 → d2 a i = d1 a i) (r2 : ∀ a i, l ≤ i → i < l' → (a = 19 ∨ a = 20) → d2 a i = d1 a i) (b1 : c0 ≤ c) (b2 : c' ≤ c3) (b3 : l0 ≤ l) (b4 : l' ≤ l3) : FZ d1 c c' l l' F lam := by
  refine ⟨fun a i q1 q2 q3 q4 => ?_, fun i q1 q2 => ?_⟩
  · rw [← r1 a i q3 q4 q1 q2]; exact h.1 a i q1 q2 (by omega) (by omega)
  · rw [← r2 19 i q1 q2 (Or.inl rfl), ← r2 20 i q1 q2 (Or.inr rfl)]; exact h.2 i (by omega) (by omega)
theorem RC.rf {F : HD} {lam : Int → Int} {N : Nat} {g dd oo v x : Int} : RC F lam N g dd oo v 0 x x := fun _ => rfl
theorem RC.tr {F : HD} {lam : Int → Int} {N k1 k2 : Nat} {g dd oo v x y z : Int} (h1 : RC F lam N g dd oo v k1 x y) (h2 : RC F lam N g dd oo v k2 y z) : RC F lam N g dd oo v (k1 + k2) x z := fun f => by
  rw [show f + (k1 + k2) = (f + k2) + k1 by omega, h1 (f + k2), h2 f]
theorem tE_B {o p : Int} (hp : p ≤ n) : tE t n false o p = tB t n o (nb t n p) := tE_F hp
theorem eE_B {o p : Int} {cv cs cl tu : Int → Int} (hp : p ≤ n) (ht : (tB t n o (nb t n p)).1 = true) : eE t n cv false o p cs cl tu = eB t n cv o (nb t n p) (if ch t n (sk t n p) = 33 then 1 else 0) cs cl tu := by
  unfold tB at ht
  unfold eB
  by_cases c1 : ch t n (nb t n p) = 40
  · rw [if_pos c1] at ht ⊢
    by_cases c2 : o = 4
    · rw [if_pos c2] at ht; cases ht
    · rw [if_neg c2] at ht
      exact eE_F1 hp c1 ht
  · rw [if_neg c1] at ht ⊢
    by_cases c2 : (clP t n (nb t n p)).1 = true
    · rw [if_pos c2] at ht
      exact eE_F2 hp c1 c2 ht
    · rw [if_neg c2] at ht; cases ht
theorem tE_skA {o p : Int} (hp : p ≤ n) : tE t n true o (sk t n p) = tE t n true o p := by
  rw [tE_A (sk_le hp), tE_A hp, sk_sk]
theorem eE_skA {o p : Int} {cv cs cl tu : Int → Int} (hp : p ≤ n) (ht : (tE t n true o p).1 = true) : eE t n cv true o (sk t n p) cs cl tu = eE t n cv true o p cs cl tu := by
  have hs := sk_ge (t := t) (n := n) p
  have e := eE_of (t := t) (n := n) (cv := cv) (f := (n - p).toNat + 1) (b := true) (o := o) (p := sk t n p) (cs := cs) (cl := cl) (tu := tu) (sk_le hp) (by omega) (by rw [tE_skA hp]; exact ht)
  rw [← e]
  show eF t n cv ((n - p).toNat + 1) true o (sk t n p) cs cl tu = eF t n cv ((n - p).toNat + 1) true o p cs cl tu
  simp only [eF]
  rw [sk_sk]
theorem an_as (x y z : Int) : an (an x y) z = an x (an y z) := by
  unfold an
  by_cases h1 : x = 0 <;> by_cases h2 : y = 0 <;> by_cases h3 : z = 0 <;> simp [h1, h2, h3]
theorem or1_as (x y z : Int) : or1 (or1 x y) z = or1 x (or1 y z) := by
  unfold or1
  by_cases h1 : x = 0 <;> by_cases h2 : y = 0 <;> by_cases h3 : z = 0 <;> simp [h1, h2, h3]
theorem cvS_so {g dd oo v q : Int} (hc : (clP t n q).1 = true) (h : ch t n q ≠ 42) : cvS t n g dd oo v q = soS (vlS (ch t n q) g dd oo v) (ch t n (sk t n (q + 1))) (cVal t n q) := by
  unfold cvS
  rw [if_neg h]
  unfold soS
  have hv : cHas t n q g dd oo v = vlS (ch t n q) g dd oo v := rfl
  rw [hv]
  by_cases h1 : ch t n (sk t n (q + 1)) = 60
  · rw [if_pos h1, if_pos h1]
  · rw [if_neg h1, if_neg h1]
    by_cases h2 : ch t n (sk t n (q + 1)) = 62
    · rw [if_pos h2, if_pos h2]
    · rw [if_neg h2, if_neg h2]
      by_cases h3 : ch t n (sk t n (q + 1)) = 61
      · rw [if_pos h3]
      · exfalso
        unfold clP at hc
        rw [if_neg h] at hc
        by_cases h4 : ¬ (ch t n q = 103 ∨ ch t n q = 100 ∨ ch t n q = 111 ∨ ch t n q = 118)
        · rw [if_pos h4] at hc; cases hc
        · rw [if_neg h4, if_pos (by omega)] at hc; cases hc
theorem cvS_b {g dd oo v q : Int} : cvS t n g dd oo v q = 0 ∨ cvS t n g dd oo v q = 1 := by
  unfold cvS
  repeat' split
  all_goals simp
theorem EN.pl {p p' e e' : Int} (h : EN t n d p c l e) (h1 : 0 ≤ p') (h2 : p' ≤ n) (h3 : c ≤ p') (h4 : l ≤ 2 * p' + e') : EN t n (kU d 9 2 p') p' c l e' := by
  obtain ⟨hT, ⟨f2, f3, f5⟩, hL, b1, b2, b3, b4, b5, b6⟩ := h
  exact ⟨hT.u (by decide) (Or.inr (by decide)), ⟨kU_s, by rw [kU_f (by decide)]; exact f3, by rw [kU_f (by decide)]; exact f5⟩, hL.u (by decide) (by decide) (by decide), h1, h2, b3, h3, b5, h4⟩
theorem EN.nl {p e e' : Int} (h : EN t n d p c l e) (h4 : l + 1 ≤ 2 * p + e') : EN t n (nlD d l) p c (l + 1) e' := by
  obtain ⟨hT, ⟨f2, f3, f5⟩, hL, b1, b2, b3, b4, b5, b6⟩ := h
  have r := RF.nl (d := d) (c := c) b5
  refine ⟨r.T hT, ⟨?_, ?_, ?_⟩, hL.nl b5, b1, b2, b3, b4, by omega, h4⟩
  · unfold nlD; rw [kU_f (by decide), kU_ne (by decide), kU_ne (by decide)]; exact f2
  · unfold nlD; rw [kU_f (by decide), kU_ne (by decide), kU_ne (by decide)]; exact f3
  · unfold nlD; rw [kU_s]
end RD3
