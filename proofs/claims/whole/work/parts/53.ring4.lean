section CU
variable {A : Nat} {d : HD} {R : Int → Int}
theorem CV.w {c : Nat} {w v : Int} (h : CV d A R) (h5 : R 5 ≤ 4) (h6 : R 6 ≤ 4) (h1 : 0 ≤ w) (h2 : w ≤ 7) : CV (kU d (A + 9 + 2 * c) w v) A (fU R (340 + 24 * c + w) v) := by
  obtain ⟨h0, hc', hb, hl⟩ := h
  have e : ∀ j, j < 340 → fU R (340 + 24 * c + w) v j = R j := fun j hj => fU_n (by omega)
  refine ⟨?_, fun e' e1 => ⟨fun w' w1 w2 => ?_, fun i q i1 i2 i3 q1 q2 => ?_⟩, fun b b1 b2 => ?_, fun b b1 b2 => ?_⟩
  · rw [kU_ne (by omega), e 0 (by omega), e 1 (by omega), e 2 (by omega), e 3 (by omega), e 4 (by omega), e 5 (by omega), e 6 (by omega)]; exact h0
  · rw [e 2 (by omega)] at e1
    by_cases q : e' = c ∧ w' = w
    · obtain ⟨q1, q2⟩ := q
      subst q1
      subst q2
      rw [kU_s]
      unfold cfR
      rw [fU_s]
    · have x : cfR (fU R (340 + 24 * c + w) v) e' w' = cfR R e' w' := by unfold cfR; rw [fU_n (by omega)]
      rw [x]
      unfold kU
      rw [if_neg (by omega)]
      exact (hc' e' e1).1 w' w1 w2
  · rw [e 2 (by omega)] at e1
    have x : ∀ z, 8 ≤ z → z < 24 → cfR (fU R (340 + 24 * c + w) v) e' z = cfR R e' z := fun z z1 z2 => by unfold cfR; rw [fU_n (by omega)]
    rw [x 8 (by omega) (by omega)] at i3
    rw [x 8 (by omega) (by omega), x _ (by omega) (by omega), kU_ne (by omega)]
    exact (hc' e' e1).2 i q i1 i2 i3 q1 q2
  · rw [e 5 (by omega)] at b2
    rw [kU_ne (by omega), kU_ne (by omega), kU_ne (by omega), e _ (by omega), e _ (by omega), e _ (by omega)]
    exact hb b b1 b2
  · rw [e 6 (by omega)] at b2
    rw [kU_ne (by omega), kU_ne (by omega), kU_ne (by omega), e _ (by omega), e _ (by omega), e _ (by omega)]
    exact hl b b1 b2
theorem CV.l1 {b v : Int} (h : CV d A R) (hb0 : 0 ≤ b) (hb2 : b < R 6) (h6 : R 6 ≤ 4) (h5 : R 5 ≤ 4) : CV (kU d (A + 7) b v) A (fU R (22 + 3 * b + 1) v) := by
  obtain ⟨h0, hc', hb, hl⟩ := h
  have e : ∀ j, j ≠ 22 + 3 * b + 1 → fU R (22 + 3 * b + 1) v j = R j := fun j hj => fU_n hj
  refine ⟨?_, fun e' e1 => ⟨fun w' w1 w2 => ?_, fun i q i1 i2 i3 q1 q2 => ?_⟩, fun x b1 b2 => ?_, fun x b1 b2 => ?_⟩
  · rw [kU_ne (by omega), e 0 (by omega), e 1 (by omega), e 2 (by omega), e 3 (by omega), e 4 (by omega), e 5 (by omega), e 6 (by omega)]; exact h0
  · rw [e 2 (by omega)] at e1
    rw [kU_ne (by omega), show cfR (fU R (22 + 3 * b + 1) v) e' w' = cfR R e' w' from e _ (by omega)]
    exact (hc' e' e1).1 w' w1 w2
  · rw [e 2 (by omega)] at e1
    have x : ∀ z, 0 ≤ z → cfR (fU R (22 + 3 * b + 1) v) e' z = cfR R e' z := fun z z1 => e _ (by omega)
    rw [x 8 (by omega)] at i3
    rw [x 8 (by omega), x _ (by omega), kU_ne (by omega)]
    exact (hc' e' e1).2 i q i1 i2 i3 q1 q2
  · rw [e 5 (by omega)] at b2
    rw [kU_ne (by omega), kU_ne (by omega), kU_ne (by omega), e _ (by omega), e _ (by omega), e _ (by omega)]
    exact hb x b1 b2
  · rw [e 6 (by omega)] at b2
    rw [kU_ne (by omega), kU_ne (show A + 8 ≠ A + 7 by omega), e _ (by omega), e (22 + 3 * x + 2) (by omega)]
    by_cases q : x = b
    · subst q
      rw [kU_s, fU_s]
      exact ⟨(hl x b1 b2).1, rfl, (hl x b1 b2).2.2⟩
    · rw [kU_f q, e _ (by omega)]
      exact hl x b1 b2
theorem CV.l2 {b v : Int} (h : CV d A R) (hb0 : 0 ≤ b) (hb2 : b < R 6) (h6 : R 6 ≤ 4) (h5 : R 5 ≤ 4) : CV (kU d (A + 8) b v) A (fU R (22 + 3 * b + 2) v) := by
  obtain ⟨h0, hc', hb, hl⟩ := h
  have e : ∀ j, j ≠ 22 + 3 * b + 2 → fU R (22 + 3 * b + 2) v j = R j := fun j hj => fU_n hj
  refine ⟨?_, fun e' e1 => ⟨fun w' w1 w2 => ?_, fun i q i1 i2 i3 q1 q2 => ?_⟩, fun x b1 b2 => ?_, fun x b1 b2 => ?_⟩
  · rw [kU_ne (by omega), e 0 (by omega), e 1 (by omega), e 2 (by omega), e 3 (by omega), e 4 (by omega), e 5 (by omega), e 6 (by omega)]; exact h0
  · rw [e 2 (by omega)] at e1
    rw [kU_ne (by omega), show cfR (fU R (22 + 3 * b + 2) v) e' w' = cfR R e' w' from e _ (by omega)]
    exact (hc' e' e1).1 w' w1 w2
  · rw [e 2 (by omega)] at e1
    have x : ∀ z, 0 ≤ z → cfR (fU R (22 + 3 * b + 2) v) e' z = cfR R e' z := fun z z1 => e _ (by omega)
    rw [x 8 (by omega)] at i3
    rw [x 8 (by omega), x _ (by omega), kU_ne (by omega)]
    exact (hc' e' e1).2 i q i1 i2 i3 q1 q2
  · rw [e 5 (by omega)] at b2
    rw [kU_ne (by omega), kU_ne (by omega), kU_ne (by omega), e _ (by omega), e _ (by omega), e _ (by omega)]
    exact hb x b1 b2
  · rw [e 6 (by omega)] at b2
    rw [kU_ne (by omega), kU_ne (show A + 7 ≠ A + 8 by omega), e _ (by omega), e (22 + 3 * x + 1) (by omega)]
    by_cases q : x = b
    · subst q
      rw [kU_s, fU_s]
      exact ⟨(hl x b1 b2).1, (hl x b1 b2).2.1, rfl⟩
    · rw [kU_f q, e _ (by omega)]
      exact hl x b1 b2
/-- a word of the ring itself that no count is: 1 most, 2 now, 3 firstStood -/
theorem CV.h {i q v : Int} (h : CV d A R) (hq : (i = 1 ∧ q = 1) ∨ (i = 2 ∧ q = 3) ∨ (i = 3 ∧ q = 4)) : CV (kU d A i v) A (fU R q v) := by
  obtain ⟨h0, hc', hb, hl⟩ := h
  have e : ∀ j, j ≠ q → fU R q v j = R j := fun j hj => fU_n hj
  refine ⟨?_, fun e' e1 => ⟨fun w' w1 w2 => ?_, fun i' q' i1 i2 i3 q1 q2 => ?_⟩, fun x b1 b2 => ?_, fun x b1 b2 => ?_⟩
  · obtain ⟨a0, a1, a2, a3, a4, a5, a6⟩ := h0
    rcases hq with ⟨rfl, rfl⟩ | ⟨rfl, rfl⟩ | ⟨rfl, rfl⟩
    · refine ⟨by rw [kU_f (by decide), e 0 (by decide)]; exact a0, by rw [kU_s, fU_s], by rw [kU_f (by decide), e 3 (by decide)]; exact a2, by rw [kU_f (by decide), e 4 (by decide)]; exact a3, by rw [kU_f (by decide), e 2 (by decide)]; exact a4, by rw [kU_f (by decide), e 5 (by decide)]; exact a5, by rw [kU_f (by decide), e 6 (by decide)]; exact a6⟩
    · refine ⟨by rw [kU_f (by decide), e 0 (by decide)]; exact a0, by rw [kU_f (by decide), e 1 (by decide)]; exact a1, by rw [kU_s, fU_s], by rw [kU_f (by decide), e 4 (by decide)]; exact a3, by rw [kU_f (by decide), e 2 (by decide)]; exact a4, by rw [kU_f (by decide), e 5 (by decide)]; exact a5, by rw [kU_f (by decide), e 6 (by decide)]; exact a6⟩
    · refine ⟨by rw [kU_f (by decide), e 0 (by decide)]; exact a0, by rw [kU_f (by decide), e 1 (by decide)]; exact a1, by rw [kU_f (by decide), e 3 (by decide)]; exact a2, by rw [kU_s, fU_s], by rw [kU_f (by decide), e 2 (by decide)]; exact a4, by rw [kU_f (by decide), e 5 (by decide)]; exact a5, by rw [kU_f (by decide), e 6 (by decide)]; exact a6⟩
  · rw [e 2 (by omega)] at e1
    rw [kU_ne (by omega), show cfR (fU R q v) e' w' = cfR R e' w' from e _ (by omega)]
    exact (hc' e' e1).1 w' w1 w2
  · rw [e 2 (by omega)] at e1
    have x : ∀ z, 0 ≤ z → cfR (fU R q v) e' z = cfR R e' z := fun z z1 => e _ (by omega)
    rw [x 8 (by omega)] at i3
    rw [x 8 (by omega), x _ (by omega), kU_ne (by omega)]
    exact (hc' e' e1).2 i' q' i1 i2 i3 q1 q2
  · rw [e 5 (by omega)] at b2
    rw [kU_ne (by omega), kU_ne (by omega), kU_ne (by omega), e _ (by omega), e _ (by omega), e _ (by omega)]
    exact hb x b1 b2
  · rw [e 6 (by omega)] at b2
    rw [kU_ne (by omega), kU_ne (by omega), kU_ne (by omega), e _ (by omega), e _ (by omega), e _ (by omega)]
    exact hl x b1 b2
/-- pictures that agree where it counts -/
theorem CV.cg {R' : Int → Int} (h : CV d A R) (e : ∀ j, 0 ≤ j → R' j = R j) : CV d A R' := by
  obtain ⟨h0, hc', hb, hl⟩ := h
  have ec : ∀ c w : Int, 0 ≤ c → 0 ≤ w → cfR R' c w = cfR R c w := fun c w c1 w1 => e _ (by omega)
  refine ⟨?_, fun e' e1 => ⟨fun w' w1 w2 => ?_, fun i' q' i1 i2 i3 q1 q2 => ?_⟩, fun x b1 b2 => ?_, fun x b1 b2 => ?_⟩
  · rw [e 0 (by omega), e 1 (by omega), e 2 (by omega), e 3 (by omega), e 4 (by omega), e 5 (by omega), e 6 (by omega)]; exact h0
  · rw [e 2 (by omega)] at e1
    rw [ec _ _ (by omega) (by omega)]
    exact (hc' e' e1).1 w' w1 w2
  · rw [e 2 (by omega)] at e1
    rw [ec _ _ (by omega) (by omega)] at i3
    rw [ec _ 8 (by omega) (by omega), ec _ _ (by omega) (by omega)]
    exact (hc' e' e1).2 i' q' i1 i2 i3 q1 q2
  · rw [e 5 (by omega)] at b2
    rw [e _ (by omega), e _ (by omega), e _ (by omega)]
    exact hb x b1 b2
  · rw [e 6 (by omega)] at b2
    rw [e _ (by omega), e _ (by omega), e _ (by omega)]
    exact hl x b1 b2
end CU
