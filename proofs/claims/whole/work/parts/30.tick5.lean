theorem csStep {t : Int → Int} {n c x : Int} {g : Nat} {s : Int × Int} (h : csF t n (g + 1) c x = s) (hs : 0 ≤ s.1) (hx : x ≤ n) : (tE t n false 0 x).1 = true ∧ (acP t n (tE t n false 0 x).2).1 = true ∧ (s.1 = c + 1 ∨ (csF t n g (c + 1) (sk t n (acE t n (sk t n (tE t n false 0 x).2)) + 1) = s ∧ sk t n (acE t n (sk t n (tE t n false 0 x).2)) + 1 ≤ n)) := by
  simp only [csF] at h
  have htE : (tE t n false 0 x).1 = true := by
    cases q : (tE t n false 0 x).1 with
    | true => rfl
    | false => rw [if_pos q] at h; rw [← h] at hs; have hs : (0 : Int) ≤ -1 := hs; omega
  rw [if_neg (by rw [htE]; decide)] at h
  have tl := tE_le (t := t) (n := n) _ false 0 x (Nat.lt_succ_self _) hx
  have haP : (acP t n (tE t n false 0 x).2).1 = true := by
    cases q : (acP t n (tE t n false 0 x).2).1 with
    | true => rfl
    | false => rw [if_pos q] at h; rw [← h] at hs; have hs : (0 : Int) ≤ -1 := hs; omega
  rw [if_neg (by rw [haP]; decide)] at h
  obtain ⟨p1, p2, p3, p4, p5, p6, p7⟩ := acP_ok haP tl.2.1
  rw [p3] at h
  refine ⟨htE, haP, ?_⟩
  by_cases z1 : ch t n (sk t n (acE t n (sk t n (tE t n false 0 x).2))) = -1
  · rw [if_pos z1] at h; rw [← h]; exact Or.inl rfl
  · rw [if_neg z1] at h
    have yE := ch_lt z1
    by_cases z2 : ch t n (sk t n (acE t n (sk t n (tE t n false 0 x).2))) ≠ 59 ∨ c + 1 = 6
    · rw [if_pos z2] at h; rw [← h] at hs; have hs : (0 : Int) ≤ -1 := hs; omega
    · rw [if_neg z2] at h
      exact Or.inr ⟨h, by omega⟩
theorem clF_cg {t t' : Int → Int} {n g dd oo v : Int} {s : Int × Int} (e : ∀ i, 0 ≤ i → i < n → t' i = t i) : ∀ (f q : Nat) (c x : Int), 0 ≤ x → x ≤ n → csF t n q c x = s → s.1 = c + f → f ≤ q → 0 ≤ c → clF t' n (cvS t' n g dd oo v) v f c x = clF t n (cvS t n g dd oo v) v f c x
  | 0, q, c, x, _, _, _, _, _, _ => rfl
  | f + 1, 0, c, x, _, _, _, _, h, _ => by omega
  | f + 1, q + 1, c, x, x0, xn, hs, hf, hq, hc => by
    obtain ⟨htE, haP, hnx⟩ := csStep hs (by omega) xn
    have tl := tE_le (t := t) (n := n) _ false 0 x (Nat.lt_succ_self _) xn
    obtain ⟨p1, p2, p3, p4, p5, p6, p7⟩ := acP_ok haP tl.2.1
    have eev : evT t' n (cvS t' n g dd oo v) x = evT t n (cvS t n g dd oo v) x := eE_ct e (fun p hp hcl => cvS_cg e hp hcl) _ false 0 x _ _ _ (Nat.lt_succ_self _) x0 xn htE
    have y0 : 0 ≤ (tE t n false 0 x).2 := by omega
    have s0 := sk0 (t := t) (n := n) y0
    simp only [clF]
    rw [eev, tEc e x0 xn, skc e y0]
    generalize sk t n (tE t n false 0 x).2 = a1 at *
    have s1 := sk0 (t := t) (n := n) (show 0 ≤ a1 + 1 by omega)
    have eD : acD t' n a1 = acD t n a1 := by unfold acD; rw [skc e (show 0 ≤ a1 + 1 by omega), e _ s1 p2.1]
    have eC : acC t' n a1 = acC t n a1 := by unfold acC; rw [skc e (show 0 ≤ a1 + 1 by omega), skc e (show 0 ≤ sk t n (a1 + 1) + 1 by omega)]
    have ec := ch_cg (t := t) (t' := t') e (show 0 ≤ acC t n a1 by omega)
    have eW : acW t' n a1 v = acW t n a1 v := by unfold acW; rw [eD, ch_cg e (show 0 ≤ a1 by omega)]
    have eE' : acE t' n a1 = acE t n a1 := by unfold acE; rw [eC, ec]
    have a0 : 0 ≤ acE t n a1 := by unfold acE; split <;> omega
    have g0 := sk0 (t := t) (n := n) a0
    rw [eW, eC, ec, eE', skc e a0]
    by_cases z : evT t n (cvS t n g dd oo v) x ≠ 0
    · rw [if_pos z, if_pos z]
    · rw [if_neg z, if_neg z]
      rcases hnx with hn | ⟨hn, hl⟩
      · have : f = 0 := by omega
        subst this
        rfl
      · exact clF_cg e f q (c + 1) _ (by omega) hl hn (by omega) (by omega) (by omega)
theorem clS_cg {R R' : Int → Int} {h g dd oo v : Int} (hh : 0 ≤ h) (hh2 : h ≤ 2) (e : ∀ j, 34 ≤ j → j < 340 → R' j = R j) (hV : VH R h) : clS R' h g dd oo v = clS R h g dd oo v := by
  obtain ⟨e1, e2, e3⟩ := hT_cg hh hh2 e
  obtain ⟨V1, V2, V3⟩ := hV
  unfold clS
  rw [e1, e2]
  rcases V3 with q | ⟨q1, q2, q3⟩
  · rw [q]; rfl
  · exact clF_cg (fun i i1 i2 => e3 i i1 (by omega)) _ 6 0 0 (by omega) V1 rfl (by unfold csP at q3; omega) (by omega) (by omega)
theorem VH_cg {R R' : Int → Int} {h : Int} (hh : 0 ≤ h) (hh2 : h ≤ 2) (e : ∀ j, 34 ≤ j → j < 340 → R' j = R j) (hV : VH R h) : VH R' h := by
  obtain ⟨e1, e2, e3⟩ := hT_cg hh hh2 e
  obtain ⟨V1, V2, V3⟩ := hV
  refine ⟨by omega, by omega, ?_⟩
  rcases V3 with q | ⟨q1, q2, q3⟩
  · exact Or.inl (by omega)
  · refine Or.inr ⟨by omega, by omega, ?_⟩
    rw [e1, e2, ← q3]
    unfold csP
    rw [csF_cg (fun i i1 i2 => e3 i i1 (by omega)) 6 0 0 (by omega) V1]
/-- what a clause tells of pace and change is small -/
theorem clF_rg {t : Int → Int} {n v : Int} {cv : Int → Int} {s : Int × Int} (hv : 0 ≤ v) (hv2 : v ≤ 9) : ∀ (f q : Nat) (c x : Int), 0 ≤ x → x ≤ n → csF t n q c x = s → s.1 = c + f → f ≤ q → 0 ≤ c → (-9 ≤ (clF t n cv v f c x).2.1 ∧ (clF t n cv v f c x).2.1 ≤ 18) ∧ ((clF t n cv v f c x).2.2 = 0 ∨ (clF t n cv v f c x).2.2 = 1) ∧ (clF t n cv v f c x).1 < c + f ∧ ((clF t n cv v f c x).1 = -4 ∨ c ≤ (clF t n cv v f c x).1)
  | 0, q, c, x, _, _, _, _, _, _ => by simp only [clF]; refine ⟨⟨by omega, by omega⟩, by simp, by omega, by simp⟩
  | f + 1, 0, c, x, _, _, _, _, h, _ => by omega
  | f + 1, q + 1, c, x, x0, xn, hs, hf, hq, hc => by
    obtain ⟨htE, haP, hnx⟩ := csStep hs (by omega) xn
    have tl := tE_le (t := t) (n := n) _ false 0 x (Nat.lt_succ_self _) xn
    obtain ⟨p1, p2, p3, p4, p5, p6, p7⟩ := acP_ok haP tl.2.1
    have s0 := sk0 (t := t) (n := n) (show 0 ≤ (tE t n false 0 x).2 by omega)
    simp only [clF]
    generalize sk t n (tE t n false 0 x).2 = a1 at *
    by_cases z : evT t n cv x ≠ 0
    · rw [if_pos z]
      obtain ⟨q1, q2, q3⟩ := p2
      refine ⟨?_, ?_, by show c < _; omega, Or.inr (Int.le_refl _)⟩
      · show -9 ≤ acW t n a1 v ∧ acW t n a1 v ≤ 18
        unfold acW acD
        split
        · omega
        · split <;> omega
      · show (if ch t n (acC t n a1) = 99 then (1 : Int) else 0) = 0 ∨ (if ch t n (acC t n a1) = 99 then (1 : Int) else 0) = 1
        split <;> simp
    · rw [if_neg z]
      rcases hnx with hn | ⟨hn, hl⟩
      · have : f = 0 := by omega
        subst this
        simp only [clF]
        refine ⟨⟨by omega, by omega⟩, by simp, by omega, by simp⟩
      · have a0 : 0 ≤ acE t n a1 := by unfold acE; split <;> omega
        have g0 := sk0 (t := t) (n := n) a0
        have ih := clF_rg (cv := cv) hv hv2 f q (c + 1) _ (by omega) hl hn (by omega) (by omega) (by omega)
        exact ⟨ih.1, ih.2.1, by have := ih.2.2.1; omega, by have := ih.2.2.2; omega⟩
theorem clS_rg {R : Int → Int} {h g dd oo v : Int} (hV : VH R h) (hv : 0 ≤ v) (hv2 : v ≤ 9) : (-9 ≤ (clS R h g dd oo v).2.1 ∧ (clS R h g dd oo v).2.1 ≤ 18) ∧ ((clS R h g dd oo v).2.2 = 0 ∨ (clS R h g dd oo v).2.2 = 1) ∧ (clS R h g dd oo v).1 < R (37 + h) + 1 ∧ ((clS R h g dd oo v).1 = -4 ∨ 0 ≤ (clS R h g dd oo v).1) := by
  obtain ⟨V1, V2, V3⟩ := hV
  unfold clS
  rcases V3 with q | ⟨q1, q2, q3⟩
  · rw [q]
    refine ⟨⟨by show -9 ≤ v; omega, by show v ≤ 18; omega⟩, Or.inl rfl, by show (-4 : Int) < _; omega, Or.inl rfl⟩
  · have := clF_rg (t := hT R h) (n := R (34 + h)) (cv := cvS (hT R h) (R (34 + h)) g dd oo v) hv hv2 (R (37 + h)).toNat 6 0 0 (by omega) V1 rfl (by unfold csP at q3; omega) (by omega) (by omega)
    exact ⟨this.1, this.2.1, by have := this.2.2.1; omega, by have := this.2.2.2; omega⟩
/-! who is ahead -/
theorem ahF_le {R : Int → Int} {c : Int} : ∀ (k : Nat) (j : Nat), j < k → (j : Int) ≠ c → cfR R j 1 = cfR R c 1 → (ahF R c k).1 ≤ onS (R 0) (cfR R c 0) (cfR R j 0)
  | 0, j, h, _, _ => by omega
  | k + 1, j, h, h1, h2 => by
    simp only [ahF]
    by_cases q : j = k
    · subst q
      split
      · exact Int.le_refl _
      · rename_i z
        by_cases z2 : onS (R 0) (cfR R c 0) (cfR R j 0) < (ahF R c j).1
        · exact absurd ⟨h1, h2, z2⟩ z
        · omega
    · have ih := ahF_le (R := R) (c := c) k j (by omega) h1 h2
      split
      · rename_i z; have := z.2.2; show _ ≤ _; omega
      · exact ih
theorem ahF_is {R : Int → Int} {c : Int} : ∀ k : Nat, ((ahF R c k).2 = c ∧ (ahF R c k).1 = R 0) ∨ ((ahF R c k).2 ≠ c ∧ 0 ≤ (ahF R c k).2 ∧ (ahF R c k).2 < k ∧ cfR R (ahF R c k).2 1 = cfR R c 1 ∧ (ahF R c k).1 = onS (R 0) (cfR R c 0) (cfR R (ahF R c k).2 0))
  | 0 => Or.inl ⟨rfl, rfl⟩
  | k + 1 => by
    have ih := ahF_is (R := R) (c := c) k
    simp only [ahF]
    split
    · rename_i z
      exact Or.inr ⟨z.1, by show (0 : Int) ≤ k; omega, by show (k : Int) < _; omega, z.2.1, rfl⟩
    · rcases ih with h | ⟨h1, h2, h3, h4, h5⟩
      · exact Or.inl h
      · exact Or.inr ⟨h1, h2, by omega, h4, h5⟩
theorem gapS_eq {R : Int → Int} {c : Int} : gapS R c = (ahF R c (R 2).toNat).1 - 1 := by
  unfold gapS aheadS
  rcases ahF_is (R := R) (c := c) (R 2).toNat with ⟨h1, h2⟩ | ⟨h1, h2, h3, h4, h5⟩
  · rw [if_pos h1, h2]
  · rw [if_neg h1, ← h5]
theorem gapS_le {R : Int → Int} {c e : Int} (he : 0 ≤ e) (he2 : e < R 2) (hne : e ≠ c) (hl : cfR R e 1 = cfR R c 1) : gapS R c ≤ onS (R 0) (cfR R c 0) (cfR R e 0) - 1 := by
  have := ahF_le (R := R) (c := c) (R 2).toNat e.toNat (by omega) (by omega) (by rw [show ((e.toNat : Nat) : Int) = e by omega]; exact hl)
  rw [show ((e.toNat : Nat) : Int) = e by omega] at this
  rw [gapS_eq]
  omega
theorem onS_0 {n a b : Int} (hn : 0 < n) (ha : 0 ≤ a) (ha2 : a < n) (hb : 0 ≤ b) (hb2 : b < n) : onS n a b = if a ≤ b then b - a else b - a + n := by
  unfold onS
  split
  · rw [show b - a + n = (b - a) + n * 1 by omega, Int.add_mul_emod_self_left, Int.emod_eq_of_lt (by omega) (by omega)]
  · rw [Int.emod_eq_of_lt (by omega) (by omega)]
theorem gapS_0 {R : Int → Int} {c : Int} (hW : WG R) (hD : ND R) (hc : 0 ≤ c) (hc2 : c < R 2) : 0 ≤ gapS R c := by
  obtain ⟨w1, w2, w3, w4, w5⟩ := hW
  rw [gapS_eq]
  rcases ahF_is (R := R) (c := c) (R 2).toNat with ⟨h1, h2⟩ | ⟨h1, h2, h3, h4, h5⟩
  · omega
  · have a := w5 c hc hc2
    have b := w5 _ h2 (by omega)
    have := hD c _ hc hc2 h2 (by omega) (fun q => h1 q.symm) h4.symm
    rw [h5, onS_0 (by omega) a.1 a.2 b.1 b.2]
    split <;> omega
theorem hrF_le {R : Int → Int} {c : Int} : ∀ (k : Nat) (j : Nat), j < k → cfR R j 1 ≠ cfR R c 1 → (hrF R c k).1 ≤ onS (R 0) (cfR R j 0) (cfR R c 0)
  | 0, j, h, _ => by omega
  | k + 1, j, h, h2 => by
    simp only [hrF]
    by_cases q : j = k
    · subst q
      split
      · exact Int.le_refl _
      · rename_i z
        by_cases z2 : onS (R 0) (cfR R j 0) (cfR R c 0) < (hrF R c j).1
        · exact absurd ⟨h2, z2⟩ z
        · omega
    · have ih := hrF_le (R := R) (c := c) k j (by omega) h2
      split
      · rename_i z; have := z.2; show _ ≤ _; omega
      · exact ih
theorem hrF_is {R : Int → Int} {c : Int} (hW : WG R) (hc : 0 ≤ c) (hc2 : c < R 2) : ∀ k : Nat, (k : Int) ≤ R 2 → ((hrF R c k).2 = -1 ∧ ∀ j : Nat, j < k → cfR R j 1 = cfR R c 1) ∨ (0 ≤ (hrF R c k).2 ∧ (hrF R c k).2 < k)
  | 0, _ => Or.inl ⟨rfl, fun j h => by omega⟩
  | k + 1, hk => by
    have ih := hrF_is hW hc hc2 k (by omega)
    obtain ⟨w1, w2, w3, w4, w5⟩ := hW
    have ho := onS_rg (n := R 0) (a := cfR R k 0) (b := cfR R c 0) (by omega)
    simp only [hrF]
    split
    · exact Or.inr ⟨by show (0 : Int) ≤ k; omega, by show (k : Int) < _; omega⟩
    · rename_i z
      rcases ih with ⟨h1, h2⟩ | h
      · refine Or.inl ⟨h1, fun j hj => ?_⟩
        by_cases q : j = k
        · subst q
          by_cases z1 : cfR R j 1 = cfR R c 1
          · exact z1
          · have h3 : ∀ (n : Nat), (n : Int) ≤ R 2 → (∀ j : Nat, j < n → cfR R j 1 = cfR R c 1) → (hrF R c n).1 = 1000 := by
              intro n
              induction n with
              | zero => intro _ _; rfl
              | succ n ih2 =>
                intro hn2 hall
                simp only [hrF]
                rw [if_neg (fun q => q.1 (hall n (by omega)))]
                exact ih2 (by omega) (fun j hj => hall j (by omega))
            rw [h3 j (by omega) h2] at z
            exact absurd ⟨z1, by omega⟩ z
        · exact h2 j (by omega)
      · exact Or.inr ⟨h.1, by omega⟩
/-- who has room beside has nobody just beside -/
theorem room_free {R : Int → Int} {c e : Int} (hW : WG R) (hc : 0 ≤ c) (hc2 : c < R 2) (hr : roomS R c ≠ 0) (he : 0 ≤ e) (he2 : e < R 2) (hl : cfR R e 1 ≠ cfR R c 1) : cfR R e 0 ≠ cfR R c 0 := by
  intro q
  obtain ⟨w1, w2, w3, w4, w5⟩ := id hW
  have hle := hrF_le (R := R) (c := c) (R 2).toNat e.toNat (by omega) (by rw [show ((e.toNat : Nat) : Int) = e by omega]; exact hl)
  rw [show ((e.toNat : Nat) : Int) = e by omega, q] at hle
  have wc := w5 c hc hc2
  rw [onS_0 (by omega) wc.1 wc.2 wc.1 wc.2, if_pos (by omega)] at hle
  unfold roomS at hr
  rcases hrF_is hW hc hc2 (R 2).toNat (by omega) with ⟨h1, h2⟩ | h
  · have := h2 e.toNat (by omega)
    rw [show ((e.toNat : Nat) : Int) = e by omega] at this
    exact hl this
  · rw [if_neg (by omega), if_neg (by omega)] at hr
    exact hr rfl
