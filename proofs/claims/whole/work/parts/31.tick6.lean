def ntF (R : Int → Int) : Nat → (Int → Int)
  | 0 => R
  | k + 1 => noteR (ntF R k) k
def lcF (R wo : Int → Int) : Nat → (Int → Int)
  | 0 => R
  | k + 1 => if wo k ≠ 0 ∧ roomS (lcF R wo k) k ≠ 0 then fU (fU (lcF R wo k) (340 + 24 * k + 1) (1 - cfR (lcF R wo k) k 1)) (340 + 24 * k + 6) (cfR (lcF R wo k) k 6 + 1) else lcF R wo k
def goF (R w : Int → Int) : Nat → (Int → Int)
  | 0 => R
  | k + 1 => goR (fU (goF R w k) (340 + 24 * k + 2) (w k)) k
def tk1 (R : Int → Int) : Int → Int := ntF R (R 2).toNat
def tk2 (R : Int → Int) : Int → Int := lcF (tk1 R) (fun c => (decS (tk1 R) c).2.2) (R 2).toNat
def tkW (R : Int → Int) (c : Int) : Int := limS (tk2 R) (decS (tk1 R) c).2.1 c
def tk3 (R : Int → Int) : Int → Int := goF (tk2 R) (tkW R) (R 2).toNat
def tickR (R : Int → Int) : Int → Int := nfR (fU (tk3 R) 3 (tk3 R 3 + 1))
section TS
variable {R : Int → Int}
theorem ntF_at : ∀ (k : Nat) (j : Int), (j < 340 ∨ 340 + 24 * k ≤ j ∨ (j - 340) % 24 < 8 ∨ 21 ≤ (j - 340) % 24) → ntF R k j = R j
  | 0, j, _ => rfl
  | k + 1, j, h => by
    simp only [ntF]
    rw [noteR_n (ntF R k) k j (by omega)]
    exact ntF_at k j (by omega)
theorem ntF_c (k : Nat) {c w : Int} (hc : 0 ≤ c) (hw : 0 ≤ w) (hw2 : w < 8) : cfR (ntF R k) c w = cfR R c w := by
  unfold cfR
  exact ntF_at k _ (by omega)
theorem ntF_g (k : Nat) : geo R (ntF R k) := ⟨ntF_at k 0 (by omega), ntF_at k 2 (by omega), fun c c1 c2 => ⟨ntF_c k c1 (by omega) (by omega), ntF_c k c1 (by omega) (by omega), ntF_c k c1 (by omega) (by omega)⟩⟩
/-- what cars have noted, once k have -/
theorem ntF_n (hW : WG R) : ∀ (k : Nat) (c : Int), (k : Int) ≤ R 2 → 0 ≤ c → c < R 2 → ((k : Int) ≤ c → ∀ w, 0 ≤ w → w < 24 → cfR (ntF R k) c w = cfR R c w) ∧ (c < k → cfR (ntF R k) c 8 = cfR R c 8 + 1 ∧ cfR (ntF R k) c 9 = gapS R c ∧ cfR (ntF R k) c 10 = leadS R c ∧ cfR (ntF R k) c 11 = otherS R c ∧ ∀ w, 12 ≤ w → w < 21 → cfR (ntF R k) c w = cfR R c (w - 3))
  | 0, c, _, _, _ => ⟨fun _ w _ _ => rfl, fun h => by omega⟩
  | k + 1, c, hk, hc, hc2 => by
    obtain ⟨ih1, ih2⟩ := ntF_n hW k c (by omega) hc hc2
    have g := ntF_g (R := R) k
    constructor
    · intro h w w1 w2
      simp only [ntF]
      unfold cfR
      rw [noteR_n (ntF R k) k _ (by omega)]
      exact ih1 (by omega) w w1 w2
    · intro h
      simp only [ntF]
      by_cases q : c = k
      · subst q
        have ih := ih1 (by omega)
        have e8 := ih 8 (by omega) (by omega)
        refine ⟨?_, ?_, ?_, ?_, fun w w1 w2 => ?_⟩
        · unfold noteR
          rw [e8]
          show fU _ _ _ (340 + 24 * (k : Int) + 8) = _
          rw [fU_s]
        · show noteR (ntF R k) k (340 + 24 * (k : Int) + 9) = _
          unfold noteR
          rw [fU_n (by omega), fU_n (by omega), fU_n (by omega), fU_s, gapS_g g hW hc hc2]
        · show noteR (ntF R k) k (340 + 24 * (k : Int) + 10) = _
          unfold noteR
          rw [fU_n (by omega), fU_n (by omega), fU_s, leadS_g g hW hc hc2]
        · show noteR (ntF R k) k (340 + 24 * (k : Int) + 11) = _
          unfold noteR
          rw [fU_n (by omega), fU_s, otherS_g g hc hc2]
        · show noteR (ntF R k) k (340 + 24 * (k : Int) + w) = _
          unfold noteR
          rw [fU_n (by omega), fU_n (by omega), fU_n (by omega), fU_n (by omega)]
          unfold shN
          rw [if_pos (by omega), show 340 + 24 * (k : Int) + w - 3 = 340 + 24 * (k : Int) + (w - 3) by omega]
          exact ih (w - 3) (by omega) (by omega)
      · obtain ⟨b1, b2, b3, b4, b5⟩ := ih2 (by omega)
        have un : ∀ w, 0 ≤ w → w < 24 → cfR (noteR (ntF R k) k) c w = cfR (ntF R k) c w := fun w w1 w2 => by
          unfold cfR
          exact noteR_n (ntF R k) k _ (by omega)
        exact ⟨(un 8 (by omega) (by omega)).trans b1, (un 9 (by omega) (by omega)).trans b2, (un 10 (by omega) (by omega)).trans b3, (un 11 (by omega) (by omega)).trans b4, fun w w1 w2 => (un w (by omega) (by omega)).trans (b5 w w1 w2)⟩
theorem lcF_at {wo : Int → Int} : ∀ (k : Nat) (j : Int), (j < 340 ∨ 340 + 24 * k ≤ j ∨ ((j - 340) % 24 ≠ 1 ∧ (j - 340) % 24 ≠ 6)) → lcF R wo k j = R j
  | 0, j, _ => rfl
  | k + 1, j, h => by
    have ih := lcF_at (wo := wo) k j (by omega)
    simp only [lcF]
    split
    · rw [fU_n (by omega), fU_n (by omega)]; exact ih
    · exact ih
theorem lcF_c {wo : Int → Int} (k : Nat) {c w : Int} (hc : 0 ≤ c) (hw : 0 ≤ w) (hw2 : w < 24) (h1 : w ≠ 1) (h6 : w ≠ 6) : cfR (lcF R wo k) c w = cfR R c w := by
  unfold cfR
  exact lcF_at k _ (by omega)
theorem lcF_w {wo : Int → Int} {B : Int} (hR : WR R B) : ∀ k : Nat, (k : Int) ≤ R 2 → WG (lcF R wo k) ∧ (∀ c, 0 ≤ c → c < R 2 → (cfR (lcF R wo k) c 1 = 0 ∨ cfR (lcF R wo k) c 1 = 1) ∧ 0 ≤ cfR (lcF R wo k) c 6 ∧ cfR (lcF R wo k) c 6 ≤ B + 1 ∧ ((k : Int) ≤ c → cfR (lcF R wo k) c 6 ≤ B)) ∧ ND (lcF R wo k)
  | 0, _ => ⟨hR.G, fun c c1 c2 => by
      obtain ⟨_, q1, _, _, _, _, q6, _⟩ := hR.2.2.2.2.1 c c1 c2
      exact ⟨q1, q6.1, by have := q6.2; show cfR R c 6 ≤ B + 1; omega, fun _ => q6.2⟩, hR.2.2.2.2.2.2.2.2⟩
  | k + 1, hk => by
    obtain ⟨i1, i2, i3⟩ := lcF_w (wo := wo) hR k (by omega)
    have e0 : lcF R wo k 0 = R 0 := lcF_at k 0 (by omega)
    have e2 : lcF R wo k 2 = R 2 := lcF_at k 2 (by omega)
    simp only [lcF]
    split
    · rename_i z
      have un : ∀ c w : Int, 0 ≤ c → 0 ≤ w → w < 24 → (c ≠ k ∨ (w ≠ 1 ∧ w ≠ 6)) → cfR (fU (fU (lcF R wo k) (340 + 24 * k + 1) (1 - cfR (lcF R wo k) k 1)) (340 + 24 * k + 6) (cfR (lcF R wo k) k 6 + 1)) c w = cfR (lcF R wo k) c w := fun c w c1 w1 w2 hh => by
        unfold cfR
        rw [fU_n (by omega), fU_n (by omega)]
      have l1 : cfR (fU (fU (lcF R wo k) (340 + 24 * k + 1) (1 - cfR (lcF R wo k) k 1)) (340 + 24 * k + 6) (cfR (lcF R wo k) k 6 + 1)) k 1 = 1 - cfR (lcF R wo k) k 1 := by
        show fU _ _ _ (340 + 24 * (k : Int) + 1) = _
        rw [fU_n (by omega), fU_s]
      have l6 : cfR (fU (fU (lcF R wo k) (340 + 24 * k + 1) (1 - cfR (lcF R wo k) k 1)) (340 + 24 * k + 6) (cfR (lcF R wo k) k 6 + 1)) k 6 = cfR (lcF R wo k) k 6 + 1 := by
        show fU _ _ _ (340 + 24 * (k : Int) + 6) = _
        rw [fU_s]
      have f0 : fU (fU (lcF R wo k) (340 + 24 * k + 1) (1 - cfR (lcF R wo k) k 1)) (340 + 24 * k + 6) (cfR (lcF R wo k) k 6 + 1) 0 = R 0 := by rw [fU_n (by omega), fU_n (by omega)]; exact e0
      have f2 : fU (fU (lcF R wo k) (340 + 24 * k + 1) (1 - cfR (lcF R wo k) k 1)) (340 + 24 * k + 6) (cfR (lcF R wo k) k 6 + 1) 2 = R 2 := by rw [fU_n (by omega), fU_n (by omega)]; exact e2
      generalize fU (fU (lcF R wo k) (340 + 24 * k + 1) (1 - cfR (lcF R wo k) k 1)) (340 + 24 * k + 6) (cfR (lcF R wo k) k 6 + 1) = Q at *
      obtain ⟨w1, w2, w3, w4, w5⟩ := id i1
      have ik := i2 k (by omega) (by omega)
      refine ⟨⟨by omega, by omega, by omega, by omega, fun c c1 c2 => ?_⟩, fun c c1 c2 => ?_, fun c e c1 c2 e1 e2' hne hl => ?_⟩
      · rw [un c 0 c1 (by omega) (by omega) (by omega), f0, ← e0]; exact w5 c c1 (by omega)
      · by_cases q : c = k
        · subst q
          rw [l1, l6]
          have := ik.2.2.2 (by omega)
          exact ⟨by omega, by omega, by omega, fun h => by omega⟩
        · rw [un c 1 c1 (by omega) (by omega) (by omega), un c 6 c1 (by omega) (by omega) (by omega)]
          have := i2 c c1 (by omega)
          exact ⟨this.1, this.2.1, this.2.2.1, fun h => this.2.2.2 (by omega)⟩
      · rw [un c 0 c1 (by omega) (by omega) (by omega), un e 0 e1 (by omega) (by omega) (by omega)]
        by_cases q1 : c = k
        · subst q1
          rw [l1, un e 1 e1 (by omega) (by omega) (by omega)] at hl
          have ie := i2 e e1 (by omega)
          exact fun h => room_free i1 (by omega) (by omega) z.2 e1 (by omega) (by omega) h.symm
        · by_cases q2 : e = k
          · subst q2
            rw [l1, un c 1 c1 (by omega) (by omega) (by omega)] at hl
            have ic := i2 c c1 (by omega)
            exact room_free i1 (by omega) (by omega) z.2 c1 (by omega) (by omega)
          · rw [un c 1 c1 (by omega) (by omega) (by omega), un e 1 e1 (by omega) (by omega) (by omega)] at hl
            exact i3 c e c1 (by omega) e1 (by omega) hne hl
    · exact ⟨i1, fun c c1 c2 => ⟨(i2 c c1 c2).1, (i2 c c1 c2).2.1, (i2 c c1 c2).2.2.1, fun h => (i2 c c1 c2).2.2.2 (by omega)⟩, i3⟩
theorem goF_at {w : Int → Int} : ∀ (k : Nat) (j : Int), (j < 22 ∨ (34 ≤ j ∧ j < 340) ∨ 340 + 24 * k ≤ j ∨ (340 ≤ j ∧ (j - 340) % 24 ≠ 0 ∧ (j - 340) % 24 ≠ 2 ∧ (j - 340) % 24 ≠ 5 ∧ (j - 340) % 24 ≠ 7) ∨ (22 ≤ j ∧ j < 34 ∧ (j - 22) % 3 = 0)) → 0 ≤ R 6 → R 6 ≤ 4 → goF R w k j = R j
  | 0, j, _, _, _ => rfl
  | k + 1, j, h, h6, h62 => by
    have ih := goF_at (w := w) k j (by omega) h6 h62
    have e6 := goF_at (w := w) k 6 (by omega) h6 h62
    simp only [goF]
    unfold goR
    rw [fU_n (by omega), fU_n (by omega), fU_n (by omega)]
    rw [lpF_at _ j (by rw [fU_n (by omega), e6]; omega), fU_n (by omega)]
    exact ih
theorem goF_c {w : Int → Int} (h6 : 0 ≤ R 6) (h62 : R 6 ≤ 4) : ∀ (k : Nat) (c : Int), 0 ≤ c → ((k : Int) ≤ c → ∀ q, 0 ≤ q → q < 24 → cfR (goF R w k) c q = cfR R c q) ∧ (c < k → cfR (goF R w k) c 0 = (cfR R c 0 + w c) % R 0 ∧ cfR (goF R w k) c 2 = w c ∧ cfR (goF R w k) c 5 = cfR R c 5 + w c ∧ cfR (goF R w k) c 7 = 0)
  | 0, c, _ => ⟨fun _ q _ _ => rfl, fun h => by omega⟩
  | k + 1, c, hc => by
    obtain ⟨ih1, ih2⟩ := goF_c (w := w) h6 h62 k c hc
    have e6 := goF_at (R := R) (w := w) k 6 (by omega) h6 h62
    have e0 := goF_at (R := R) (w := w) k 0 (by omega) h6 h62
    have un : ∀ q, 0 ≤ q → q < 24 → (c ≠ k ∨ (q ≠ 0 ∧ q ≠ 2 ∧ q ≠ 5 ∧ q ≠ 7)) → cfR (goF R w (k + 1)) c q = cfR (goF R w k) c q := fun q q1 q2 hh => by
      simp only [goF]
      unfold goR
      show fU _ _ _ (340 + 24 * c + q) = _
      rw [fU_n (by omega), fU_n (by omega), fU_n (by omega), lpF_at _ _ (by rw [fU_n (by omega), e6]; omega), fU_n (by omega)]
      rfl
    constructor
    · intro h q q1 q2
      rw [un q q1 q2 (by omega)]
      exact ih1 (by omega) q q1 q2
    · intro h
      by_cases q : c = k
      · subst q
        have ih := ih1 (by omega)
        have p0 := ih 0 (by omega) (by omega)
        have p5 := ih 5 (by omega) (by omega)
        have g2 : cfR (fU (goF R w k) (340 + 24 * (k : Int) + 2) (w k)) k 2 = w k := by show fU _ _ _ (340 + 24 * (k : Int) + 2) = _; rw [fU_s]
        have g0 : cfR (fU (goF R w k) (340 + 24 * (k : Int) + 2) (w k)) k 0 = cfR R k 0 := by show fU _ _ _ (340 + 24 * (k : Int) + 0) = _; rw [fU_n (by omega)]; exact p0
        have g5 : cfR (fU (goF R w k) (340 + 24 * (k : Int) + 2) (w k)) k 5 = cfR R k 5 := by show fU _ _ _ (340 + 24 * (k : Int) + 5) = _; rw [fU_n (by omega)]; exact p5
        have gl : fU (goF R w k) (340 + 24 * (k : Int) + 2) (w k) 0 = R 0 := by rw [fU_n (by omega)]; exact e0
        simp only [goF]
        unfold goR
        rw [g0, g2, g5, gl]
        refine ⟨?_, ?_, ?_, ?_⟩
        · show fU _ _ _ (340 + 24 * (k : Int) + 0) = _
          rw [fU_n (by omega), fU_n (by omega), fU_s]
        · show fU _ _ _ (340 + 24 * (k : Int) + 2) = _
          rw [fU_n (by omega), fU_n (by omega), fU_n (by omega), lpF_at _ _ (by rw [fU_n (by omega), e6]; omega), fU_s]
        · show fU _ _ _ (340 + 24 * (k : Int) + 5) = _
          rw [fU_n (by omega), fU_s]
        · show fU _ _ _ (340 + 24 * (k : Int) + 7) = _
          rw [fU_s]
      · obtain ⟨b1, b2, b3, b4⟩ := ih2 (by omega)
        exact ⟨(un 0 (by omega) (by omega) (by omega)).trans b1, (un 2 (by omega) (by omega) (by omega)).trans b2, (un 5 (by omega) (by omega) (by omega)).trans b3, (un 7 (by omega) (by omega) (by omega)).trans b4⟩
theorem lpF_rg {cell pace : Int} (hp : 0 ≤ pace) (hp2 : pace ≤ 9) : ∀ (b : Nat) (q : Nat), (R (22 + 3 * q + 1) ≤ lpF R cell pace b (22 + 3 * q + 1) ∧ lpF R cell pace b (22 + 3 * q + 1) ≤ R (22 + 3 * q + 1) + 1) ∧ R (22 + 3 * q + 2) ≤ lpF R cell pace b (22 + 3 * q + 2) ∧ lpF R cell pace b (22 + 3 * q + 2) ≤ R (22 + 3 * q + 2) + 9
  | 0, q => by simp only [lpF]; omega
  | b + 1, q => by
    have ih := lpF_rg (cell := cell) hp hp2 b q
    simp only [lpF]
    split
    · by_cases h : q = b
      · subst h
        rw [fU_n (by omega), fU_s, fU_s]
        omega
      · rw [fU_n (by omega), fU_n (by omega), fU_n (by omega), fU_n (by omega)]
        exact ih
    · exact ih
theorem goF_l {w : Int → Int} (h6 : 0 ≤ R 6) (h62 : R 6 ≤ 4) (hw : ∀ c, 0 ≤ c → c < R 2 → 0 ≤ w c ∧ w c ≤ 9) : ∀ (k : Nat) (q : Nat), (k : Int) ≤ R 2 → (q : Int) < 4 → (R (22 + 3 * q + 1) ≤ goF R w k (22 + 3 * q + 1) ∧ goF R w k (22 + 3 * q + 1) ≤ R (22 + 3 * q + 1) + k) ∧ R (22 + 3 * q + 2) ≤ goF R w k (22 + 3 * q + 2) ∧ goF R w k (22 + 3 * q + 2) ≤ R (22 + 3 * q + 2) + 9 * k
  | 0, q, _, _ => by simp only [goF]; omega
  | k + 1, q, hk, hq => by
    have ih := goF_l h6 h62 hw k q (by omega) hq
    have hwk := hw k (by omega) (by omega)
    have g2 : cfR (fU (goF R w k) (340 + 24 * (k : Int) + 2) (w k)) k 2 = w k := by show fU _ _ _ (340 + 24 * (k : Int) + 2) = _; rw [fU_s]
    have lp := lpF_rg (R := fU (goF R w k) (340 + 24 * (k : Int) + 2) (w k)) (cell := cfR (fU (goF R w k) (340 + 24 * (k : Int) + 2) (w k)) k 0) hwk.1 hwk.2 (fU (goF R w k) (340 + 24 * (k : Int) + 2) (w k) 6).toNat q
    rw [fU_n (show 22 + 3 * (q : Int) + 1 ≠ 340 + 24 * (k : Int) + 2 by omega), fU_n (show 22 + 3 * (q : Int) + 2 ≠ 340 + 24 * (k : Int) + 2 by omega)] at lp
    have x : ∀ j, j < 340 → goF R w (k + 1) j = lpF (fU (goF R w k) (340 + 24 * (k : Int) + 2) (w k)) (cfR (fU (goF R w k) (340 + 24 * (k : Int) + 2) (w k)) k 0) (w k) (fU (goF R w k) (340 + 24 * (k : Int) + 2) (w k) 6).toNat j := fun j hj => by
      simp only [goF]
      unfold goR
      rw [g2, fU_n (by omega), fU_n (by omega), fU_n (by omega)]
    rw [x _ (by omega), x _ (by omega)]
    omega
end TS
