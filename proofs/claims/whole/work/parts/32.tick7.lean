section TW
variable {R : Int → Int} {B : Int}
theorem tk1_W (h : WR R B) : WR (tk1 R) (B + 1) := by
  obtain ⟨h0, h1, h2, h3, hc, hb, hp, hv, hd⟩ := id h
  have hW := h.G
  have e : ∀ j, j < 340 → tk1 R j = R j := fun j hj => ntF_at _ j (by omega)
  have ec : ∀ c w, 0 ≤ c → 0 ≤ w → w < 8 → cfR (tk1 R) c w = cfR R c w := fun c w c1 w1 w2 => ntF_c _ c1 w1 w2
  refine ⟨by rw [e 0 (by omega)]; exact h0, by rw [e 1 (by omega)]; exact h1, by rw [e 2 (by omega)]; exact h2, by rw [e 3 (by omega)]; omega, fun c c1 c2 => ?_, ?_, ?_, fun q q1 q2 => ?_, fun c q c1 c2 q1 q2 hne hl => ?_⟩
  · rw [e 2 (by omega)] at c2
    obtain ⟨a1, a2, a3, a4, a5, a6, a7, a8, a9⟩ := hc c c1 c2
    have n8 := ((ntF_n hW (R 2).toNat c (by omega) c1 c2).2 (by omega)).1
    unfold WC
    rw [ec c 0 c1 (by omega) (by omega), ec c 1 c1 (by omega) (by omega), ec c 2 c1 (by omega) (by omega), ec c 3 c1 (by omega) (by omega), ec c 4 c1 (by omega) (by omega), ec c 5 c1 (by omega) (by omega), ec c 6 c1 (by omega) (by omega), ec c 7 c1 (by omega) (by omega), e 0 (by omega), show cfR (tk1 R) c 8 = cfR R c 8 + 1 from n8]
    exact ⟨a1, a2, a3, a4, a5, by omega, by omega, a8, by omega⟩
  · obtain ⟨b1, b2, b3⟩ := hb
    refine ⟨by rw [e 5 (by omega)]; exact b1, by rw [e 5 (by omega)]; exact b2, fun b q1 q2 => ?_⟩
    rw [e 5 (by omega)] at q2
    rw [e 0 (by omega), e _ (by omega), e _ (by omega), e _ (by omega)]
    exact b3 b q1 q2
  · obtain ⟨b1, b2, b3⟩ := hp
    refine ⟨by rw [e 6 (by omega)]; exact b1, by rw [e 6 (by omega)]; exact b2, fun b q1 q2 => ?_⟩
    rw [e 6 (by omega)] at q2
    rw [e 0 (by omega), e _ (by omega), e _ (by omega), e _ (by omega)]
    have := b3 b q1 q2
    exact ⟨this.1, ⟨this.2.1.1, by have := this.2.1.2; omega⟩, this.2.2.1, by have := this.2.2.2; omega⟩
  · exact VH_cg q1 q2 (fun j j1 j2 => e j (by omega)) (hv q q1 q2)
  · rw [e 2 (by omega)] at c2 q2
    rw [ec c 1 c1 (by omega) (by omega), ec q 1 q1 (by omega) (by omega)] at hl
    rw [ec c 0 c1 (by omega) (by omega), ec q 0 q1 (by omega) (by omega)]
    exact hd c q c1 c2 q1 q2 hne hl
theorem dec_rg (h : WR R B) {c : Int} (c1 : 0 ≤ c) (c2 : c < R 2) : (-9 ≤ (decS (tk1 R) c).2.1 ∧ (decS (tk1 R) c).2.1 ≤ 18) ∧ ((decS (tk1 R) c).2.2 = 0 ∨ (decS (tk1 R) c).2.2 = 1) := by
  have h1 := tk1_W h
  have e2 : tk1 R 2 = R 2 := ntF_at _ 2 (by omega)
  obtain ⟨_, _, _, _, hc, _, _, hv, _⟩ := h1
  obtain ⟨a1, a2, a3, a4, a5, a6, a7, a8, a9⟩ := hc c c1 (by omega)
  have := clS_rg (R := tk1 R) (h := cfR (tk1 R) c 3) (g := tk1 R (seeS (tk1 R) c)) (dd := tk1 R (seeS (tk1 R) c + 1)) (oo := tk1 R (seeS (tk1 R) c + 2)) (v := cfR (tk1 R) c 2) (hv _ a4.1 a4.2) a3.1 a3.2
  exact ⟨this.1, this.2.1⟩
theorem tk2_at {j : Int} (hj : j < 340 ∨ ((j - 340) % 24 < 8 ∧ (j - 340) % 24 ≠ 1 ∧ (j - 340) % 24 ≠ 6)) : tk2 R j = R j := by
  unfold tk2
  rw [lcF_at _ j (by omega)]
  exact ntF_at _ j (by omega)
theorem tk2_W (h : WR R B) : WG (tk2 R) ∧ (∀ c, 0 ≤ c → c < R 2 → (cfR (tk2 R) c 1 = 0 ∨ cfR (tk2 R) c 1 = 1) ∧ 0 ≤ cfR (tk2 R) c 6 ∧ cfR (tk2 R) c 6 ≤ B + 1) ∧ ND (tk2 R) := by
  have h1 := tk1_W h
  have e2 : tk1 R 2 = R 2 := ntF_at _ 2 (by omega)
  -- the changes counted in tk1 are those of R
  obtain ⟨h0, h1', h2, h3, hc, hb, hp, hv, hd⟩ := id h
  have hW1 : WR (tk1 R) (B + 1) := h1
  have hN : (((R 2).toNat : Nat) : Int) ≤ tk1 R 2 := by omega
  obtain ⟨q1, q2, q3⟩ := lcF_w (wo := fun c => (decS (tk1 R) c).2.2) hW1 (R 2).toNat hN
  refine ⟨q1, fun c c1 c2 => ?_, q3⟩
  have hc6 : ∀ (k : Nat), cfR (lcF (tk1 R) (fun c => (decS (tk1 R) c).2.2) k) c 6 ≤ B + 1 ∧ ((k : Int) ≤ c → cfR (lcF (tk1 R) (fun c => (decS (tk1 R) c).2.2) k) c 6 ≤ B) := by
    intro k
    induction k with
    | zero =>
      have e6 : cfR (tk1 R) c 6 = cfR R c 6 := ntF_c _ c1 (by omega) (by omega)
      have := (hc c c1 c2).2.2.2.2.2.2.1.2
      exact ⟨by show cfR (tk1 R) c 6 ≤ _; omega, fun _ => by show cfR (tk1 R) c 6 ≤ _; omega⟩
    | succ k ih =>
      simp only [lcF]
      split
      · by_cases q : c = k
        · subst q
          have := ih.2 (by omega)
          have e6 : cfR (fU (fU (lcF (tk1 R) (fun c => (decS (tk1 R) c).2.2) k) (340 + 24 * k + 1) (1 - cfR (lcF (tk1 R) (fun c => (decS (tk1 R) c).2.2) k) k 1)) (340 + 24 * k + 6) (cfR (lcF (tk1 R) (fun c => (decS (tk1 R) c).2.2) k) k 6 + 1)) k 6 = cfR (lcF (tk1 R) (fun c => (decS (tk1 R) c).2.2) k) k 6 + 1 := by
            show fU _ _ _ (340 + 24 * (k : Int) + 6) = _
            rw [fU_s]
          exact ⟨by omega, fun z => by omega⟩
        · have e6 : cfR (fU (fU (lcF (tk1 R) (fun c => (decS (tk1 R) c).2.2) k) (340 + 24 * k + 1) (1 - cfR (lcF (tk1 R) (fun c => (decS (tk1 R) c).2.2) k) k 1)) (340 + 24 * k + 6) (cfR (lcF (tk1 R) (fun c => (decS (tk1 R) c).2.2) k) k 6 + 1)) c 6 = cfR (lcF (tk1 R) (fun c => (decS (tk1 R) c).2.2) k) c 6 := by
            unfold cfR
            rw [fU_n (by omega), fU_n (by omega)]
          exact ⟨by rw [e6]; exact ih.1, fun z => by rw [e6]; exact ih.2 (by omega)⟩
      · exact ⟨ih.1, fun z => ih.2 (by omega)⟩
  exact ⟨(q2 c c1 (by omega)).1, (q2 c c1 (by omega)).2.1, (hc6 _).1⟩
theorem tk2_B (h : WR R B) : WB (tk2 R) := by
  obtain ⟨b1, b2, b3⟩ := h.2.2.2.2.2.1
  have e : ∀ j, j < 340 → tk2 R j = R j := fun j hj => tk2_at (Or.inl hj)
  refine ⟨by rw [e 5 (by omega)]; exact b1, by rw [e 5 (by omega)]; exact b2, fun b q1 q2 => ?_⟩
  rw [e 5 (by omega)] at q2
  rw [e 0 (by omega), e _ (by omega), e _ (by omega), e _ (by omega)]
  exact b3 b q1 q2
theorem tkW_rg (h : WR R B) {c : Int} (c1 : 0 ≤ c) (c2 : c < R 2) : 0 ≤ tkW R c ∧ tkW R c ≤ 9 ∧ tkW R c ≤ gapS (tk2 R) c := by
  obtain ⟨w1, w2, w3⟩ := tk2_W h
  have e : ∀ j, j < 340 → tk2 R j = R j := fun j hj => tk2_at (Or.inl hj)
  have hg := gapS_0 w1 w3 c1 (by rw [e 2 (by omega)]; exact c2)
  have hb := tk2_B h
  have hl := limF_rg (R := tk2 R) (cell := cfR (tk2 R) c 0) hb (by rw [e 1 (by omega)]; exact h.2.1.1) (by rw [e 1 (by omega)]; exact h.2.1.2) (tk2 R 5).toNat (by have := hb.1; omega)
  have hm : 0 ≤ mstS (tk2 R) c ∧ mstS (tk2 R) c ≤ 9 ∧ mstS (tk2 R) c ≤ gapS (tk2 R) c := by
    unfold mstS
    split <;> omega
  unfold tkW limS
  split
  · omega
  · split
    · omega
    · split <;> omega
theorem tk3_W (h : WR R B) (hB : 0 ≤ B) : WR (tk3 R) (B + 1) := by
  obtain ⟨h0, h1, h2, h3, hc, hb, hp, hv, hd⟩ := id h
  obtain ⟨w1, w2, w3⟩ := tk2_W h
  have e2 : ∀ j, j < 340 → tk2 R j = R j := fun j hj => tk2_at (Or.inl hj)
  have e6 : 0 ≤ tk2 R 6 := by rw [e2 6 (by omega)]; exact hp.1
  have e62 : tk2 R 6 ≤ 4 := by rw [e2 6 (by omega)]; exact hp.2.1
  have ec2 : ∀ c w, 0 ≤ c → 0 ≤ w → w < 8 → w ≠ 1 → w ≠ 6 → cfR (tk2 R) c w = cfR R c w := fun c w c1 w1 w2 q1 q6 => by unfold cfR; exact tk2_at (by omega)
  have e3 : ∀ j, (j < 22 ∨ (34 ≤ j ∧ j < 340) ∨ (22 ≤ j ∧ j < 34 ∧ (j - 22) % 3 = 0)) → tk3 R j = R j := fun j hj => by
    show goF (tk2 R) (tkW R) (R 2).toNat j = _
    rw [goF_at _ j (by omega) e6 e62]
    exact e2 j (by omega)
  have cc : ∀ c, 0 ≤ c → c < R 2 → (cfR (tk3 R) c 0 = (cfR R c 0 + tkW R c) % R 0 ∧ cfR (tk3 R) c 2 = tkW R c ∧ cfR (tk3 R) c 5 = cfR R c 5 + tkW R c ∧ cfR (tk3 R) c 7 = 0) := fun c c1 c2 => by
    have := (goF_c (w := tkW R) e6 e62 (R 2).toNat c c1).2 (by omega)
    rw [ec2 c 0 c1 (by omega) (by omega) (by omega) (by omega), ec2 c 5 c1 (by omega) (by omega) (by omega) (by omega), e2 0 (by omega)] at this
    exact this
  have un : ∀ c q, 0 ≤ c → 0 ≤ q → q < 24 → q ≠ 0 → q ≠ 2 → q ≠ 5 → q ≠ 7 → cfR (tk3 R) c q = cfR (tk2 R) c q := fun c q c1 q1 q2 a b c' d' => by
    show goF (tk2 R) (tkW R) (R 2).toNat (340 + 24 * c + q) = _
    rw [goF_at _ _ (by omega) e6 e62]
    rfl
  have k2 : ∀ c, 0 ≤ c → c < R 2 → cfR (tk2 R) c 8 = cfR R c 8 + 1 := fun c c1 c2 => by
    have n8 := ((ntF_n h.G (R 2).toNat c (by omega) c1 c2).2 (by omega)).1
    rw [← n8]
    unfold cfR tk2
    rw [lcF_at _ _ (by omega)]
    rfl
  refine ⟨by rw [e3 0 (by omega)]; exact h0, by rw [e3 1 (by omega)]; exact h1, by rw [e3 2 (by omega)]; exact h2, by rw [e3 3 (by omega)]; omega, fun c c1 c2 => ?_, ?_, ?_, fun q q1 q2 => ?_, fun c q c1 c2 q1 q2 hne hl => ?_⟩
  · rw [e3 2 (by omega)] at c2
    obtain ⟨a1, a2, a3, a4, a5, a6, a7, a8, a9⟩ := hc c c1 c2
    obtain ⟨p0, p2, p5, p7⟩ := cc c c1 c2
    have tw := tkW_rg h c1 c2
    have l := w2 c c1 c2
    unfold WC
    rw [p0, p2, p5, p7, un c 1 c1 (by omega) (by omega) (by omega) (by omega) (by omega) (by omega), un c 3 c1 (by omega) (by omega) (by omega) (by omega) (by omega) (by omega), un c 4 c1 (by omega) (by omega) (by omega) (by omega) (by omega) (by omega), un c 6 c1 (by omega) (by omega) (by omega) (by omega) (by omega) (by omega), un c 8 c1 (by omega) (by omega) (by omega) (by omega) (by omega) (by omega), ec2 c 3 c1 (by omega) (by omega) (by omega) (by omega), ec2 c 4 c1 (by omega) (by omega) (by omega) (by omega), k2 c c1 c2, e3 0 (by omega)]
    have m1 := Int.emod_nonneg (cfR R c 0 + tkW R c) (show R 0 ≠ 0 by omega)
    have m2 := Int.emod_lt_of_pos (cfR R c 0 + tkW R c) (show 0 < R 0 by omega)
    exact ⟨⟨m1, m2⟩, l.1, ⟨tw.1, tw.2.1⟩, a4, a5, by omega, by omega, Or.inl rfl, by omega⟩
  · obtain ⟨b1, b2, b3⟩ := hb
    refine ⟨by rw [e3 5 (by omega)]; exact b1, by rw [e3 5 (by omega)]; exact b2, fun b q1 q2 => ?_⟩
    rw [e3 5 (by omega)] at q2
    rw [e3 0 (by omega), e3 _ (by omega), e3 _ (by omega), e3 _ (by omega)]
    exact b3 b q1 q2
  · obtain ⟨b1, b2, b3⟩ := hp
    refine ⟨by rw [e3 6 (by omega)]; exact b1, by rw [e3 6 (by omega)]; exact b2, fun b q1 q2 => ?_⟩
    rw [e3 6 (by omega)] at q2
    rw [e3 0 (by omega), e3 (22 + 3 * b) (by omega)]
    have gl := goF_l (R := tk2 R) (w := tkW R) e6 e62 (fun c c1 c2 => by rw [e2 2 (by omega)] at c2; exact ⟨(tkW_rg h c1 c2).1, (tkW_rg h c1 c2).2.1⟩) (R 2).toNat b.toNat (by rw [e2 2 (by omega)]; omega) (by omega)
    rw [show ((b.toNat : Nat) : Int) = b by omega, e2 _ (by omega), e2 _ (by omega)] at gl
    have gl' : (R (22 + 3 * b + 1) ≤ tk3 R (22 + 3 * b + 1) ∧ tk3 R (22 + 3 * b + 1) ≤ R (22 + 3 * b + 1) + ((R 2).toNat : Nat)) ∧ R (22 + 3 * b + 2) ≤ tk3 R (22 + 3 * b + 2) ∧ tk3 R (22 + 3 * b + 2) ≤ R (22 + 3 * b + 2) + 9 * ((R 2).toNat : Nat) := gl
    have := b3 b q1 q2
    exact ⟨this.1, ⟨by omega, by omega⟩, by omega, by omega⟩
  · exact VH_cg q1 q2 (fun j j1 j2 => e3 j (by omega)) (hv q q1 q2)
  · rw [e3 2 (by omega)] at c2 q2
    rw [un c 1 c1 (by omega) (by omega) (by omega) (by omega) (by omega) (by omega), un q 1 q1 (by omega) (by omega) (by omega) (by omega) (by omega) (by omega)] at hl
    rw [(cc c c1 c2).1, (cc q q1 q2).1]
    have t1 := tkW_rg h c1 c2
    have t2 := tkW_rg h q1 q2
    have g1 := gapS_le (R := tk2 R) (c := c) (e := q) q1 (by rw [e2 2 (by omega)]; exact q2) (fun z => hne z.symm) hl.symm
    have g2 := gapS_le (R := tk2 R) (c := q) (e := c) c1 (by rw [e2 2 (by omega)]; exact c2) hne hl
    rw [ec2 c 0 c1 (by omega) (by omega) (by omega) (by omega), ec2 q 0 q1 (by omega) (by omega) (by omega) (by omega), e2 0 (by omega)] at g1 g2
    have a := (hc c c1 c2).1
    have b := (hc q q1 q2).1
    rw [onS_0 (by omega) a.1 a.2 b.1 b.2] at g1
    rw [onS_0 (by omega) b.1 b.2 a.1 a.2] at g2
    have md : ∀ x, 0 ≤ x → x < R 0 + 9 → x % R 0 = if x < R 0 then x else x - R 0 := fun x x0 x1 => by
      split
      · exact Int.emod_eq_of_lt x0 (by omega)
      · rw [show x = (x - R 0) + R 0 * 1 by omega, Int.add_mul_emod_self_left, Int.emod_eq_of_lt (by omega) (by omega)]
        omega
    rw [md _ (by omega) (by omega), md _ (by omega) (by omega)]
    generalize cfR R c 0 = x at *
    generalize cfR R q 0 = y at *
    generalize tkW R c = u at *
    generalize tkW R q = v at *
    rcases Int.lt_trichotomy x y with z | z | z
    · rw [if_pos (by omega)] at g1
      rw [if_neg (by omega)] at g2
      split <;> split <;> omega
    · rw [if_pos (by omega)] at g1
      omega
    · rw [if_neg (by omega)] at g1
      rw [if_pos (by omega)] at g2
      split <;> split <;> omega
theorem nfR_n {j : Int} (h : j ≠ 4) : nfR R j = R j := by
  unfold nfR nf1
  rw [fU_n h]
  split
  · rw [fU_n h]
  · rfl
/-- a ring that may be may be after a tick -/
theorem tick_W (h : WR R B) (hB : 0 ≤ B) : WR (tickR R) (B + 1) := by
  have h3 := tk3_W h hB
  have e3 : tk3 R 3 = R 3 := by
    have e6 : tk2 R 6 = R 6 := tk2_at (by omega)
    show goF (tk2 R) (tkW R) (R 2).toNat 3 = _
    rw [goF_at _ 3 (by omega) (by rw [e6]; exact h.2.2.2.2.2.2.1.1) (by rw [e6]; exact h.2.2.2.2.2.2.1.2.1)]
    exact tk2_at (by omega)
  have e : ∀ j, j ≠ 3 → j ≠ 4 → tickR R j = tk3 R j := fun j j1 j2 => by unfold tickR; rw [nfR_n j2, fU_n j1]
  have ec : ∀ c w, 0 ≤ c → 0 ≤ w → cfR (tickR R) c w = cfR (tk3 R) c w := fun c w c1 w1 => e _ (by omega) (by omega)
  have t3 : tickR R 3 = R 3 + 1 := by unfold tickR; rw [nfR_n (by omega), fU_s, e3]
  obtain ⟨h0, h1, h2, h3', hc, hb, hp, hv, hd⟩ := h3
  refine ⟨by rw [e 0 (by omega) (by omega)]; exact h0, by rw [e 1 (by omega) (by omega)]; exact h1, by rw [e 2 (by omega) (by omega)]; exact h2, ?_, fun c c1 c2 => ?_, ?_, ?_, fun q q1 q2 => ?_, fun c q c1 c2 q1 q2 hne hl => ?_⟩
  · have := h.2.2.2.1; rw [t3]; omega
  · rw [e 2 (by omega) (by omega)] at c2
    unfold WC
    rw [ec c 0 c1 (by omega), ec c 1 c1 (by omega), ec c 2 c1 (by omega), ec c 3 c1 (by omega), ec c 4 c1 (by omega), ec c 5 c1 (by omega), ec c 6 c1 (by omega), ec c 7 c1 (by omega), ec c 8 c1 (by omega), e 0 (by omega) (by omega)]
    exact hc c c1 c2
  · obtain ⟨b1, b2, b3⟩ := hb
    refine ⟨by rw [e 5 (by omega) (by omega)]; exact b1, by rw [e 5 (by omega) (by omega)]; exact b2, fun b q1 q2 => ?_⟩
    rw [e 5 (by omega) (by omega)] at q2
    rw [e 0 (by omega) (by omega), e _ (by omega) (by omega), e _ (by omega) (by omega), e _ (by omega) (by omega)]
    exact b3 b q1 q2
  · obtain ⟨b1, b2, b3⟩ := hp
    refine ⟨by rw [e 6 (by omega) (by omega)]; exact b1, by rw [e 6 (by omega) (by omega)]; exact b2, fun b q1 q2 => ?_⟩
    rw [e 6 (by omega) (by omega)] at q2
    rw [e 0 (by omega) (by omega), e _ (by omega) (by omega), e _ (by omega) (by omega), e _ (by omega) (by omega)]
    exact b3 b q1 q2
  · exact VH_cg q1 q2 (fun j j1 j2 => e j (by omega) (by omega)) (hv q q1 q2)
  · rw [e 2 (by omega) (by omega)] at c2 q2
    rw [ec c 1 c1 (by omega), ec q 1 q1 (by omega)] at hl
    rw [ec c 0 c1 (by omega), ec q 0 q1 (by omega)]
    exact hd c q c1 c2 q1 q2 hne hl
end TW
