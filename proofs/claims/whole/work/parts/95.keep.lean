/-! what may be stays what may be -/
section KP
variable {R R' : Int → Int} {B : Int}
theorem WC.cg {c : Int} (h : WC R B c) (e0 : R' 0 = R 0) (e : ∀ w, 0 ≤ w → w ≤ 8 → cfR R' c w = cfR R c w) : WC R' B c := by
  unfold WC at h ⊢
  rw [e0, e 0 (by omega) (by omega), e 1 (by omega) (by omega), e 2 (by omega) (by omega), e 3 (by omega) (by omega), e 4 (by omega) (by omega), e 5 (by omega) (by omega), e 6 (by omega) (by omega), e 7 (by omega) (by omega), e 8 (by omega) (by omega)]
  exact h
theorem WB.cg (h : WB R) (e : ∀ j, j < 34 → R' j = R j) : WB R' := by
  obtain ⟨b1, b2, b3⟩ := h
  refine ⟨by rw [e 5 (by omega)]; exact b1, by rw [e 5 (by omega)]; exact b2, fun b q1 q2 => ?_⟩
  rw [e 5 (by omega)] at q2
  rw [e 0 (by omega), e _ (by omega), e _ (by omega), e _ (by omega)]
  exact b3 b q1 q2
theorem WP.cg (h : WP R B) (e : ∀ j, j < 34 → R' j = R j) : WP R' B := by
  obtain ⟨b1, b2, b3⟩ := h
  refine ⟨by rw [e 6 (by omega)]; exact b1, by rw [e 6 (by omega)]; exact b2, fun b q1 q2 => ?_⟩
  rw [e 6 (by omega)] at q2
  rw [e 0 (by omega), e _ (by omega), e _ (by omega), e _ (by omega)]
  exact b3 b q1 q2
theorem WR.w1 {car w v : Int} (h : WR R B) (hc : 0 ≤ car) (hc2 : car < R 2) (hw : (w = 2 ∧ 0 ≤ v ∧ v ≤ 9) ∨ (w = 3 ∧ 0 ≤ v ∧ v ≤ 2) ∨ (w = 4 ∧ 0 ≤ v ∧ v ≤ 3) ∨ (w = 7 ∧ (v = 0 ∨ v = 1))) : WR (fU R (340 + 24 * car + w) v) B := by
  obtain ⟨h0, h1, h2, h3, wc, wb, wp, wv, wd⟩ := h
  have e : ∀ j, j < 340 → fU R (340 + 24 * car + w) v j = R j := fun j hj => fU_n (by omega)
  have ec : ∀ c z, 0 ≤ c → 0 ≤ z → z < 24 → (c ≠ car ∨ z ≠ w) → cfR (fU R (340 + 24 * car + w) v) c z = cfR R c z := fun c z c1 z1 z2 hn => by unfold cfR; rw [fU_n (by omega)]
  refine ⟨by rw [e 0 (by omega)]; exact h0, by rw [e 1 (by omega)]; exact h1, by rw [e 2 (by omega)]; exact h2, by rw [e 3 (by omega)]; exact h3, fun c c1 c2 => ?_, wb.cg (fun j hj => e j (by omega)), wp.cg (fun j hj => e j (by omega)), fun q q1 q2 => VH_cg q1 q2 (fun j _ j2 => e j j2) (wv q q1 q2), fun c q c1 c2 q1 q2 hne hl => ?_⟩
  · rw [e 2 (by omega)] at c2
    have hq := wc c c1 c2
    by_cases z : c = car
    · subst z
      have es : cfR (fU R (340 + 24 * c + w) v) c w = v := by unfold cfR; rw [fU_s]
      obtain ⟨a0, a1, a2, a3, a4, a5, a6, a7, a8⟩ := hq
      unfold WC
      rw [e 0 (by omega), ec c 0 c1 (by omega) (by omega) (by omega), ec c 1 c1 (by omega) (by omega) (by omega), ec c 5 c1 (by omega) (by omega) (by omega), ec c 6 c1 (by omega) (by omega) (by omega), ec c 8 c1 (by omega) (by omega) (by omega)]
      rcases hw with ⟨rfl, hv⟩ | ⟨rfl, hv⟩ | ⟨rfl, hv⟩ | ⟨rfl, hv⟩
      · rw [es, ec c 3 c1 (by omega) (by omega) (by omega), ec c 4 c1 (by omega) (by omega) (by omega), ec c 7 c1 (by omega) (by omega) (by omega)]; exact ⟨a0, a1, hv, a3, a4, a5, a6, a7, a8⟩
      · rw [es, ec c 2 c1 (by omega) (by omega) (by omega), ec c 4 c1 (by omega) (by omega) (by omega), ec c 7 c1 (by omega) (by omega) (by omega)]; exact ⟨a0, a1, a2, hv, a4, a5, a6, a7, a8⟩
      · rw [es, ec c 2 c1 (by omega) (by omega) (by omega), ec c 3 c1 (by omega) (by omega) (by omega), ec c 7 c1 (by omega) (by omega) (by omega)]; exact ⟨a0, a1, a2, a3, hv, a5, a6, a7, a8⟩
      · rw [es, ec c 2 c1 (by omega) (by omega) (by omega), ec c 3 c1 (by omega) (by omega) (by omega), ec c 4 c1 (by omega) (by omega) (by omega)]; exact ⟨a0, a1, a2, a3, a4, a5, a6, hv, a8⟩
    · exact hq.cg (e 0 (by omega)) (fun w' q1 q2 => ec c w' c1 q1 (by omega) (Or.inl z))
  · rw [e 2 (by omega)] at c2 q2
    rw [ec c 1 c1 (by omega) (by omega) (by omega), ec q 1 q1 (by omega) (by omega) (by omega)] at hl
    rw [ec c 0 c1 (by omega) (by omega) (by omega), ec q 0 q1 (by omega) (by omega) (by omega)]
    exact wd c q c1 c2 q1 q2 hne hl
/-- a car comes -/
theorem WR.put {lane cell pace : Int} (h : WR R B) (h2 : R 2 < 12) (hl : lane = 0 ∨ lane = 1) (hc : 0 ≤ cell ∧ cell < R 0) (hp : 0 ≤ pace ∧ pace ≤ 9) (hB : 0 ≤ B) (hf : ∀ c, 0 ≤ c → c < R 2 → ¬ (cfR R c 1 = lane ∧ cfR R c 0 = cell)) : WR (putR R lane cell pace) B := by
  obtain ⟨h0, h1, h2', h3, wc, wb, wp, wv, wd⟩ := h
  have ej : ∀ j, j < 340 → j ≠ 2 → putR R lane cell pace j = R j := fun j j1 j2 => by
    unfold putR
    rw [fU_n j2, fU_n (by omega), fU_n (by omega), fU_n (by omega)]
    unfold zrR
    rw [if_neg (by omega)]
  have e2 : putR R lane cell pace 2 = R 2 + 1 := by unfold putR; rw [fU_s]
  have ec : ∀ c w, 0 ≤ c → c < R 2 → 0 ≤ w → w < 24 → cfR (putR R lane cell pace) c w = cfR R c w := fun c w c1 c2 q1 q2 => by
    unfold cfR putR
    rw [fU_n (by omega), fU_n (by omega), fU_n (by omega), fU_n (by omega)]
    unfold zrR
    rw [if_neg (by omega)]
  have en : ∀ w, 0 ≤ w → w < 24 → cfR (putR R lane cell pace) (R 2) w = if w = 0 then cell else if w = 1 then lane else if w = 2 then pace else 0 := fun w q1 q2 => by
    unfold cfR putR
    rw [fU_n (by omega)]
    by_cases z2 : w = 2
    · subst z2; rw [fU_s]; rfl
    · rw [fU_n (by omega)]
      by_cases z1 : w = 1
      · subst z1; rw [fU_s]; rfl
      · rw [fU_n (by omega)]
        by_cases z0 : w = 0
        · subst z0; rw [show 340 + 24 * R 2 + 0 = 340 + 24 * R 2 by omega, fU_s]; rfl
        · rw [fU_n (by omega), if_neg z0, if_neg z1, if_neg z2]
          unfold zrR
          rw [if_pos (by omega)]
  have n0 : cfR (putR R lane cell pace) (R 2) 0 = cell := en 0 (by omega) (by omega)
  have n1 : cfR (putR R lane cell pace) (R 2) 1 = lane := en 1 (by omega) (by omega)
  have n2 : cfR (putR R lane cell pace) (R 2) 2 = pace := en 2 (by omega) (by omega)
  have n3 : cfR (putR R lane cell pace) (R 2) 3 = 0 := en 3 (by omega) (by omega)
  have n4 : cfR (putR R lane cell pace) (R 2) 4 = 0 := en 4 (by omega) (by omega)
  have n5 : cfR (putR R lane cell pace) (R 2) 5 = 0 := en 5 (by omega) (by omega)
  have n6 : cfR (putR R lane cell pace) (R 2) 6 = 0 := en 6 (by omega) (by omega)
  have n7 : cfR (putR R lane cell pace) (R 2) 7 = 0 := en 7 (by omega) (by omega)
  have n8 : cfR (putR R lane cell pace) (R 2) 8 = 0 := en 8 (by omega) (by omega)
  have wb' : WB (putR R lane cell pace) := by
    obtain ⟨b1, b2, b3⟩ := wb
    refine ⟨by rw [ej 5 (by omega) (by omega)]; exact b1, by rw [ej 5 (by omega) (by omega)]; exact b2, fun b q1 q2 => ?_⟩
    rw [ej 5 (by omega) (by omega)] at q2
    rw [ej 0 (by omega) (by omega), ej _ (by omega) (by omega), ej _ (by omega) (by omega), ej _ (by omega) (by omega)]
    exact b3 b q1 q2
  have wp' : WP (putR R lane cell pace) B := by
    obtain ⟨b1, b2, b3⟩ := wp
    refine ⟨by rw [ej 6 (by omega) (by omega)]; exact b1, by rw [ej 6 (by omega) (by omega)]; exact b2, fun b q1 q2 => ?_⟩
    rw [ej 6 (by omega) (by omega)] at q2
    rw [ej 0 (by omega) (by omega), ej _ (by omega) (by omega), ej _ (by omega) (by omega), ej _ (by omega) (by omega)]
    exact b3 b q1 q2
  refine ⟨by rw [ej 0 (by omega) (by omega)]; exact h0, by rw [ej 1 (by omega) (by omega)]; exact h1, by rw [e2]; omega, by rw [ej 3 (by omega) (by omega)]; exact h3, fun c c1 c2 => ?_, wb', wp', fun q q1 q2 => VH_cg q1 q2 (fun j j1 j2 => ej j j2 (by omega)) (wv q q1 q2), fun c q c1 c2 q1 q2 hne hl' => ?_⟩
  · rw [e2] at c2
    by_cases z : c = R 2
    · subst z
      unfold WC
      rw [n0, n1, n2, n3, n4, n5, n6, n7, n8, ej 0 (by omega) (by omega)]
      exact ⟨hc, hl, hp, by omega, by omega, by omega, by omega, by omega, by omega⟩
    · exact (wc c c1 (by omega)).cg (ej 0 (by omega) (by omega)) (fun w w1 w2 => ec c w c1 (by omega) w1 (by omega))
  · rw [e2] at c2 q2
    by_cases z : c = R 2
    · by_cases y : q = R 2
      · omega
      · rw [z, n1, ec q 1 q1 (by omega) (by omega) (by omega)] at hl'
        rw [z, n0, ec q 0 q1 (by omega) (by omega) (by omega)]
        intro t
        exact hf q q1 (by omega) ⟨hl'.symm, t.symm⟩
    · by_cases y : q = R 2
      · rw [y, n1, ec c 1 c1 (by omega) (by omega) (by omega)] at hl'
        rw [y, n0, ec c 0 c1 (by omega) (by omega) (by omega)]
        intro t
        exact hf c c1 (by omega) ⟨hl', t⟩
      · rw [ec c 1 c1 (by omega) (by omega) (by omega), ec q 1 q1 (by omega) (by omega) (by omega)] at hl'
        rw [ec c 0 c1 (by omega) (by omega) (by omega), ec q 0 q1 (by omega) (by omega) (by omega)]
        exact wd c q c1 (by omega) q1 (by omega) hne hl'
theorem caF_n {lane cell : Int} : ∀ k : Nat, caF R lane cell k < 0 → ∀ c : Nat, c < k → ¬ (cfR R c 1 = lane ∧ cfR R c 0 = cell)
  | 0, _, c, h => by omega
  | k + 1, hk, c, h => by
    simp only [caF] at hk
    by_cases q : 0 ≤ caF R lane cell k
    · rw [if_pos q] at hk; omega
    · rw [if_neg q] at hk
      by_cases z : c = k
      · subst z
        intro y
        rw [if_pos y] at hk
        omega
      · exact caF_n k (by omega) c (by omega)
theorem WR.ev0 (h : WR R B) : WR (fU (fU R 2 0) 4 (-4)) B := by
  obtain ⟨h0, h1, h2, h3, wc, wb, wp, wv, wd⟩ := h
  have e : ∀ j, j ≠ 2 → j ≠ 4 → fU (fU R 2 0) 4 (-4) j = R j := fun j j1 j2 => by rw [fU_n j2, fU_n j1]
  have e2 : fU (fU R 2 0) 4 (-4) 2 = 0 := by rw [fU_n (by omega), fU_s]
  refine ⟨by rw [e 0 (by omega) (by omega)]; exact h0, by rw [e 1 (by omega) (by omega)]; exact h1, by rw [e2]; omega, by rw [e 3 (by omega) (by omega)]; exact h3, fun c c1 c2 => by rw [e2] at c2; omega, ?_, ?_, fun q q1 q2 => VH_cg q1 q2 (fun j j1 j2 => e j (by omega) (by omega)) (wv q q1 q2), fun c q c1 c2 q1 q2 => by rw [e2] at c2; omega⟩
  · obtain ⟨b1, b2, b3⟩ := wb
    refine ⟨by rw [e 5 (by omega) (by omega)]; exact b1, by rw [e 5 (by omega) (by omega)]; exact b2, fun b q1 q2 => ?_⟩
    rw [e 5 (by omega) (by omega)] at q2
    rw [e 0 (by omega) (by omega), e _ (by omega) (by omega), e _ (by omega) (by omega), e _ (by omega) (by omega)]
    exact b3 b q1 q2
  · obtain ⟨b1, b2, b3⟩ := wp
    refine ⟨by rw [e 6 (by omega) (by omega)]; exact b1, by rw [e 6 (by omega) (by omega)]; exact b2, fun b q1 q2 => ?_⟩
    rw [e 6 (by omega) (by omega)] at q2
    rw [e 0 (by omega) (by omega), e _ (by omega) (by omega), e _ (by omega) (by omega), e _ (by omega) (by omega)]
    exact b3 b q1 q2
theorem dv_lt {a b L n : Int} (h : a < b) (hn : 0 < n) (hL : n ≤ L) : a * L / n < b * L / n := by
  have h1 : a * L + n ≤ b * L := by
    have : (a + 1) * L ≤ b * L := Int.mul_le_mul_of_nonneg_right (by omega) (by omega)
    have e : (a + 1) * L = a * L + L := by rw [Int.add_mul]; omega
    omega
  have h2 : (a * L + n) / n ≤ b * L / n := Int.ediv_le_ediv hn h1
  have h3 : (a * L + n) / n = a * L / n + 1 := Int.add_ediv_of_dvd_right (Int.dvd_refl n) ▸ by rw [Int.ediv_self (by omega)]
  omega
theorem WR.ev {n pace : Int} (h : WR R B) (hB : 0 ≤ B) (h1 : 1 ≤ n) (h2 : n ≤ 12) (h3 : n ≤ R 0) (hp : 0 ≤ pace ∧ pace ≤ 9) : ∀ k : Nat, (k : Int) ≤ n → WR (evF R n pace k) B ∧ ∀ c : Nat, c < k → cfR (evF R n pace k) c 0 = (c : Int) * R 0 / n
  | 0, _ => ⟨h.ev0, fun c hc => by omega⟩
  | k + 1, hk => by
    obtain ⟨w, hc⟩ := WR.ev h hB h1 h2 h3 hp k (by omega)
    have e := evF_0 (R := R) (pace := pace) h2 k (by omega)
    have r0 := h.1
    have c0 : 0 ≤ (k : Int) * R 0 / n := Int.ediv_nonneg (Int.mul_nonneg (by omega) (by omega)) (by omega)
    have c1 : (k : Int) * R 0 / n < R 0 := by
      have := dv_lt (a := k) (b := n) (L := R 0) (n := n) (by omega) (by omega) h3
      rw [Int.mul_comm n, Int.mul_ediv_cancel _ (by omega)] at this
      exact this
    simp only [evF]
    refine ⟨w.put (by rw [e.2]; omega) (Or.inl rfl) (by rw [e.1]; exact ⟨c0, c1⟩) hp hB (fun c q1 q2 z => ?_), fun c hc' => ?_⟩
    · rw [e.2] at q2
      have := hc c.toNat (by omega)
      rw [toN q1] at this
      have := dv_lt (a := c) (b := k) (L := R 0) (n := n) q2 (by omega) h3
      omega
    · by_cases z : c = k
      · subst z
        unfold cfR putR
        rw [e.2, fU_n (by omega), fU_n (by omega), fU_n (by omega), show 340 + 24 * (c : Int) + 0 = 340 + 24 * (c : Int) by omega, fU_s]
      · rw [← hc c (by omega)]
        unfold cfR putR
        rw [e.2, fU_n (by omega), fU_n (by omega), fU_n (by omega), fU_n (by omega)]
        unfold zrR
        rw [if_neg (by omega)]
theorem WR.brd {a b limit : Int} (h : WR R B) (h5 : R 5 < 4) (ha : 0 ≤ a ∧ a < R 0) (hb : 0 ≤ b ∧ b < R 0) (hl : 0 ≤ limit ∧ limit ≤ 9) : WR (fU (fU (fU (fU R (10 + 3 * R 5) a) (10 + 3 * R 5 + 1) b) (10 + 3 * R 5 + 2) limit) 5 (R 5 + 1)) B := by
  obtain ⟨h0, h1, h2, h3, wc, wb, wp, wv, wd⟩ := h
  obtain ⟨b1, b2, b3⟩ := wb
  have ej : ∀ j, (j < 5 ∨ (5 < j ∧ j < 10) ∨ (10 ≤ j ∧ j < 10 + 3 * R 5) ∨ 22 ≤ j) → fU (fU (fU (fU R (10 + 3 * R 5) a) (10 + 3 * R 5 + 1) b) (10 + 3 * R 5 + 2) limit) 5 (R 5 + 1) j = R j := fun j hj => by rw [fU_n (by omega), fU_n (by omega), fU_n (by omega), fU_n (by omega)]
  have ec : ∀ c w : Int, 0 ≤ c → 0 ≤ w → cfR (fU (fU (fU (fU R (10 + 3 * R 5) a) (10 + 3 * R 5 + 1) b) (10 + 3 * R 5 + 2) limit) 5 (R 5 + 1)) c w = cfR R c w := fun c w q1 q2 => ej _ (by omega)
  refine ⟨by rw [ej 0 (by omega)]; exact h0, by rw [ej 1 (by omega)]; exact h1, by rw [ej 2 (by omega)]; exact h2, by rw [ej 3 (by omega)]; exact h3, fun c c1 c2 => ?_, ⟨by rw [fU_s]; omega, by rw [fU_s]; omega, fun x q1 q2 => ?_⟩, ?_, fun q q1 q2 => VH_cg q1 q2 (fun j j1 j2 => ej j (by omega)) (wv q q1 q2), fun c q c1 c2 q1 q2 hne hl' => ?_⟩
  · rw [ej 2 (by omega)] at c2
    exact (wc c c1 c2).cg (ej 0 (by omega)) (fun w w1 w2 => ec c w c1 w1)
  · rw [fU_s] at q2
    rw [ej 0 (by omega)]
    by_cases z : x = R 5
    · subst z
      rw [fU_n (by omega), fU_n (by omega), fU_n (by omega), fU_s, fU_n (by omega), fU_n (by omega), fU_s, fU_n (by omega), fU_s]
      exact ⟨ha, hb, hl⟩
    · rw [ej _ (by omega), ej _ (by omega), ej _ (by omega)]
      exact b3 x q1 (by omega)
  · obtain ⟨p1, p2, p3⟩ := wp
    refine ⟨by rw [ej 6 (by omega)]; exact p1, by rw [ej 6 (by omega)]; exact p2, fun x q1 q2 => ?_⟩
    rw [ej 6 (by omega)] at q2
    rw [ej 0 (by omega), ej _ (by omega), ej _ (by omega), ej _ (by omega)]
    exact p3 x q1 q2
  · rw [ej 2 (by omega)] at c2 q2
    rw [ec c 1 c1 (by omega), ec q 1 q1 (by omega)] at hl'
    rw [ec c 0 c1 (by omega), ec q 0 q1 (by omega)]
    exact wd c q c1 c2 q1 q2 hne hl'
theorem WR.lop {cell : Int} (h : WR R B) (hB : 0 ≤ B) (h6 : R 6 < 4) (ha : 0 ≤ cell ∧ cell < R 0) : WR (fU (fU (fU (fU R (22 + 3 * R 6) cell) (22 + 3 * R 6 + 1) 0) (22 + 3 * R 6 + 2) 0) 6 (R 6 + 1)) B := by
  obtain ⟨h0, h1, h2, h3, wc, wb, wp, wv, wd⟩ := h
  obtain ⟨b1, b2, b3⟩ := wp
  have ej : ∀ j, (j < 6 ∨ (6 < j ∧ j < 22) ∨ (22 ≤ j ∧ j < 22 + 3 * R 6) ∨ 34 ≤ j) → fU (fU (fU (fU R (22 + 3 * R 6) cell) (22 + 3 * R 6 + 1) 0) (22 + 3 * R 6 + 2) 0) 6 (R 6 + 1) j = R j := fun j hj => by rw [fU_n (by omega), fU_n (by omega), fU_n (by omega), fU_n (by omega)]
  have ec : ∀ c w : Int, 0 ≤ c → 0 ≤ w → cfR (fU (fU (fU (fU R (22 + 3 * R 6) cell) (22 + 3 * R 6 + 1) 0) (22 + 3 * R 6 + 2) 0) 6 (R 6 + 1)) c w = cfR R c w := fun c w q1 q2 => ej _ (by omega)
  refine ⟨by rw [ej 0 (by omega)]; exact h0, by rw [ej 1 (by omega)]; exact h1, by rw [ej 2 (by omega)]; exact h2, by rw [ej 3 (by omega)]; exact h3, fun c c1 c2 => ?_, ?_, ⟨by rw [fU_s]; omega, by rw [fU_s]; omega, fun x q1 q2 => ?_⟩, fun q q1 q2 => VH_cg q1 q2 (fun j j1 j2 => ej j (by omega)) (wv q q1 q2), fun c q c1 c2 q1 q2 hne hl' => ?_⟩
  · rw [ej 2 (by omega)] at c2
    exact (wc c c1 c2).cg (ej 0 (by omega)) (fun w w1 w2 => ec c w c1 w1)
  · obtain ⟨p1, p2, p3⟩ := wb
    refine ⟨by rw [ej 5 (by omega)]; exact p1, by rw [ej 5 (by omega)]; exact p2, fun x q1 q2 => ?_⟩
    rw [ej 5 (by omega)] at q2
    rw [ej 0 (by omega), ej _ (by omega), ej _ (by omega), ej _ (by omega)]
    exact p3 x q1 q2
  · rw [fU_s] at q2
    rw [ej 0 (by omega)]
    by_cases z : x = R 6
    · subst z
      rw [fU_n (by omega), fU_n (by omega), fU_n (by omega), fU_s, fU_n (by omega), fU_n (by omega), fU_s, fU_n (by omega), fU_s]
      exact ⟨ha, ⟨by omega, by omega⟩, by omega, by omega⟩
    · rw [ej _ (by omega), ej _ (by omega), ej _ (by omega)]
      exact b3 x q1 (by omega)
  · rw [ej 2 (by omega)] at c2 q2
    rw [ec c 1 c1 (by omega), ec q 1 q1 (by omega)] at hl'
    rw [ec c 0 c1 (by omega), ec q 0 q1 (by omega)]
    exact wd c q c1 c2 q1 q2 hne hl'
theorem WR.r0 {v : Int} (h : WR R B) (h2 : R 2 = 0) (h5 : R 5 = 0) (h6 : R 6 = 0) (hv : 12 ≤ v ∧ v ≤ 99) : WR (fU R 0 v) B := by
  obtain ⟨h0, h1, h2', h3, wc, wb, wp, wv, wd⟩ := h
  have e : ∀ j, j ≠ 0 → fU R 0 v j = R j := fun j hj => fU_n hj
  refine ⟨by rw [fU_s]; exact hv, by rw [e 1 (by omega)]; exact h1, by rw [e 2 (by omega)]; exact h2', by rw [e 3 (by omega)]; exact h3, fun c c1 c2 => by rw [e 2 (by omega)] at c2; omega, ⟨by rw [e 5 (by omega)]; omega, by rw [e 5 (by omega)]; omega, fun b q1 q2 => by rw [e 5 (by omega)] at q2; omega⟩, ⟨by rw [e 6 (by omega)]; omega, by rw [e 6 (by omega)]; omega, fun b q1 q2 => by rw [e 6 (by omega)] at q2; omega⟩, fun q q1 q2 => VH_cg q1 q2 (fun j j1 j2 => e j (by omega)) (wv q q1 q2), fun c q c1 c2 => by rw [e 2 (by omega)] at c2; omega⟩
theorem WR.r1 {v : Int} (h : WR R B) (hv : 1 ≤ v ∧ v ≤ 9) : WR (fU R 1 v) B := by
  obtain ⟨h0, h1, h2, h3, wc, wb, wp, wv, wd⟩ := h
  have e : ∀ j, j ≠ 1 → fU R 1 v j = R j := fun j hj => fU_n hj
  have ec : ∀ c w : Int, 0 ≤ c → 0 ≤ w → cfR (fU R 1 v) c w = cfR R c w := fun c w q1 q2 => e _ (by omega)
  refine ⟨by rw [e 0 (by omega)]; exact h0, by rw [fU_s]; exact hv, by rw [e 2 (by omega)]; exact h2, by rw [e 3 (by omega)]; exact h3, fun c c1 c2 => ?_, ?_, ?_, fun q q1 q2 => VH_cg q1 q2 (fun j j1 j2 => e j (by omega)) (wv q q1 q2), fun c q c1 c2 q1 q2 hne hl' => ?_⟩
  · rw [e 2 (by omega)] at c2
    exact (wc c c1 c2).cg (e 0 (by omega)) (fun w w1 w2 => ec c w c1 w1)
  · obtain ⟨p1, p2, p3⟩ := wb
    refine ⟨by rw [e 5 (by omega)]; exact p1, by rw [e 5 (by omega)]; exact p2, fun x q1 q2 => ?_⟩
    rw [e 5 (by omega)] at q2
    rw [e 0 (by omega), e _ (by omega), e _ (by omega), e _ (by omega)]
    exact p3 x q1 q2
  · obtain ⟨p1, p2, p3⟩ := wp
    refine ⟨by rw [e 6 (by omega)]; exact p1, by rw [e 6 (by omega)]; exact p2, fun x q1 q2 => ?_⟩
    rw [e 6 (by omega)] at q2
    rw [e 0 (by omega), e _ (by omega), e _ (by omega), e _ (by omega)]
    exact p3 x q1 q2
  · rw [e 2 (by omega)] at c2 q2
    rw [ec c 1 c1 (by omega), ec q 1 q1 (by omega)] at hl'
    rw [ec c 0 c1 (by omega), ec q 0 q1 (by omega)]
    exact wd c q c1 c2 q1 q2 hne hl'
theorem WR.hab {h tp : Int} {T : Int → Int} (hW : WR R B) (hh : 0 ≤ h) (hh2 : h ≤ 2) (ht0 : 0 ≤ tp) (ht : tp ≤ 100) (hc : 0 ≤ (csP T tp).1) : WR (habR R h tp T (csP T tp).1) B := by
  obtain ⟨h0, h1, h2, h3, wc, wb, wp, wv, wd⟩ := hW
  have e : ∀ j, (j < 34 ∨ 340 ≤ j) → habR R h tp T (csP T tp).1 j = R j := fun j hj => habR_o hh hh2 ht hj
  have ec : ∀ c w : Int, 0 ≤ c → 0 ≤ w → cfR (habR R h tp T (csP T tp).1) c w = cfR R c w := fun c w q1 q2 => e _ (by omega)
  refine ⟨by rw [e 0 (by omega)]; exact h0, by rw [e 1 (by omega)]; exact h1, by rw [e 2 (by omega)]; exact h2, by rw [e 3 (by omega)]; exact h3, fun c c1 c2 => ?_, wb.cg (fun j hj => e j (by omega)), wp.cg (fun j hj => e j (by omega)), fun q q1 q2 => ?_, fun c q c1 c2 q1 q2 hne hl' => ?_⟩
  · rw [e 2 (by omega)] at c2
    exact (wc c c1 c2).cg (e 0 (by omega)) (fun w w1 w2 => ec c w c1 w1)
  · by_cases z : q = h
    · subst z
      obtain ⟨s1, s2, s3⟩ := habR_s (R := R) (h := q) (tp := tp) (c := (csP T tp).1) (T := T) q1 q2
      have rg := (csP_rg (t := T) ht0).2
      unfold VH
      rw [s1, s2]
      refine ⟨ht0, ht, Or.inr ⟨by omega, by omega, ?_⟩⟩
      exact congrArg Prod.fst (csF_cg (t := T) s3 6 0 0 (by omega) ht0)
    · obtain ⟨s1, s2, s3⟩ := habR_c1 (R := R) (h := h) (q := q) (tp := tp) (c := (csP T tp).1) (T := T) q1 q2 hh hh2 ht z
      exact VH_c1 s1 s2 s3 (wv q q1 q2)
  · rw [e 2 (by omega)] at c2 q2
    rw [ec c 1 c1 (by omega), ec q 1 q1 (by omega)] at hl'
    rw [ec c 0 c1 (by omega), ec q 0 q1 (by omega)]
    exact wd c q c1 c2 q1 q2 hne hl'
theorem WR.pc {S : SS} {s i : Int} {N : Nat} (h : WR R B) (hN : (N : Int) ≤ R 2) (hok : ∀ k : Nat, k < N → 0 ≤ S.2.2 s (i + k) ∧ S.2.2 s (i + k) ≤ 9) : ∀ k : Nat, k ≤ N → WR (pcF R S s i k) B
  | 0, _ => h
  | k + 1, hk => by
    simp only [pcF]
    exact (WR.pc h hN hok k (by omega)).w1 (by omega) (by rw [pcF_2]; omega) (Or.inl ⟨rfl, hok k (by omega)⟩)
theorem pokF_k {S : SS} {s i : Int} : ∀ N : Nat, pokF S s i N = true → ∀ k : Nat, k < N → 0 ≤ S.2.2 s (i + k) ∧ S.2.2 s (i + k) ≤ 9
  | 0, _, k, h => by omega
  | N + 1, h, k, hk => by
    simp only [pokF, Bool.and_eq_true, decide_eq_true_eq] at h
    by_cases z : k = N
    · subst z; exact h.2
    · exact pokF_k N h.1 k (by omega)
theorem WR.tps {S : SS} {s i : Int} {N : Nat} (h : WR R B) (hN : (N : Int) ≤ R 2) (hok : ∀ k : Nat, k < N → S.2.2 s (i + k) = 0 ∨ S.2.2 s (i + k) = 1) : ∀ k : Nat, k ≤ N → WR (tpF R S s i k) B
  | 0, _ => h
  | k + 1, hk => by
    simp only [tpF]
    exact (WR.tps h hN hok k (by omega)).w1 (by omega) (by rw [tpF_2]; omega) (Or.inr (Or.inr (Or.inr ⟨rfl, hok k (by omega)⟩)))
end KP
