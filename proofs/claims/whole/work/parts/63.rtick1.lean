/-! the class's tick against tickR: what it rests on -/
def HZ (A H : Nat) : Prop := H + 8 < A ∨ A + 33 ≤ H
/-- ring A's habits are those of R -/
def HS (G : HG) (d : HD) (A : Nat) (R : Int → Int) : Prop := ∀ h : Nat, h < 3 → HZ A (G.2.2 (A + 2) (h : Int)) ∧ HB G d (G.2.2 (A + 2) (h : Int)) R h
section T1
variable {G : HG} {d d' : HD} {A H N : Nat} {R R' : Int → Int}
theorem chF_cg {g dd oo v : Int} (ed : ∀ i : Nat, i ≤ 8 → d' (H + i) = d (H + i)) : ∀ (f : Nat) (x : Int), chF d' H N g dd oo v f x = chF d H N g dd oo v f x
  | 0, x => rfl
  | f + 1, x => by
    simp only [chF, chF_cg ed f, ed 1 (by omega), ed 2 (by omega), ed 3 (by omega), ed 4 (by omega), ed 5 (by omega)]
theorem HB.cg {h : Int} (hb : HB G d H R h) (hh : 0 ≤ h) (hh2 : h ≤ 2) (hV : VH R h) (e : ∀ j, 34 ≤ j → j < 340 → R' j = R j) (ed : ∀ i : Nat, i ≤ 8 → d' (H + i) = d (H + i)) : HB G d' H R' h := by
  obtain ⟨N, C, hO, hC, hdg, hch⟩ := hb
  have e0 : d' H = d H := ed 0 (by omega)
  refine ⟨N, C, ⟨⟨hO.1.1, by rw [e0]; exact hO.1.2.1, hO.1.2.2⟩, hO.2⟩, by rw [e _ (by omega) (by omega)]; exact hC, fun i i1 i2 => by rw [ed 7 (by omega)]; exact hdg i i1 i2, fun g dd oo v v1 v2 => ?_⟩
  have ea : chA d' H N g dd oo v = chA d H N g dd oo v := by unfold chA; rw [chF_cg ed]
  have ep : ∀ x, pcS d' H x v = pcS d H x v := fun x => by unfold pcS; rw [ed 6 (by omega), ed 7 (by omega)]
  rw [ea, ep, ed 8 (by omega), clS_cg hh hh2 e hV]
  exact hch g dd oo v v1 v2
theorem HS.cg (hs : HS G d A R) (hV : ∀ h, 0 ≤ h → h ≤ 2 → VH R h) (e : ∀ j, 34 ≤ j → j < 340 → R' j = R j) (ed : CM d d' A) : HS G d' A R' := by
  intro h hh
  obtain ⟨hz, hb⟩ := hs h hh
  refine ⟨hz, hb.cg (by omega) (by omega) (hV _ (by omega) (by omega)) e (fun i hi => ed _ ?_)⟩
  unfold HZ at hz
  omega
theorem ntF_l (c : Nat) {w : Int} (h1 : 0 ≤ w) (h2 : w < 24) : ∀ i : Nat, cfR (ntF R (c + 1 + i)) c w = cfR (ntF R (c + 1)) c w
  | 0 => rfl
  | i + 1 => by
    show cfR (noteR (ntF R (c + 1 + i)) ((c + 1 + i : Nat) : Int)) c w = _
    rw [← ntF_l c h1 h2 i]
    exact noteR_n _ _ _ (by omega)
/-- car c's own words, and the habits' texts, are all that decS looks at -/
theorem decS_cg {c : Int} (hc : 0 ≤ c) (e : ∀ j, 34 ≤ j → j < 340 → R' j = R j) (ew : ∀ w, 0 ≤ w → w < 24 → cfR R' c w = cfR R c w) (h3 : 0 ≤ cfR R c 3) (h32 : cfR R c 3 ≤ 2) (h4 : 0 ≤ cfR R c 4) (h42 : cfR R c 4 ≤ 3) (h8 : 1 ≤ cfR R c 8) (hV : VH R (cfR R c 3)) : decS R' c = decS R c := by
  have es : seeS R' c = seeS R c := by unfold seeS; rw [ew 4 (by omega) (by omega), ew 8 (by omega) (by omega)]
  obtain ⟨s, hs⟩ : ∃ s : Int, s = (if cfR R c 4 < cfR R c 8 then cfR R c 4 else cfR R c 8 - 1) := ⟨_, rfl⟩
  have s0 : 0 ≤ s ∧ s ≤ 3 := by
    by_cases q : cfR R c 4 < cfR R c 8
    · rw [if_pos q] at hs; omega
    · rw [if_neg q] at hs; omega
  have e2 : seeS R c = 340 + 24 * c + 9 + 3 * s := by unfold seeS; rw [hs]
  have eq : ∀ q, 0 ≤ q → q < 3 → R' (seeS R c + q) = R (seeS R c + q) := fun q q1 q2 => by
    have := ew (9 + 3 * s + q) (by omega) (by omega)
    unfold cfR at this
    rw [e2, show 340 + 24 * c + 9 + 3 * s + q = 340 + 24 * c + (9 + 3 * s + q) by omega]
    exact this
  have e0 := eq 0 (by omega) (by omega)
  rw [show seeS R c + 0 = seeS R c by omega] at e0
  unfold decS
  rw [es, e0, eq 1 (by omega) (by omega), eq 2 (by omega) (by omega), ew 3 (by omega) (by omega), ew 2 (by omega) (by omega), clS_cg h3 h32 e hV]
end T1
def spF (R w : Int → Int) : Nat → (Int → Int)
  | 0 => R
  | k + 1 => fU (fU (spF R w k) (340 + 24 * k + 2) (w k)) (340 + 24 * k + 7) 0
/-- X, but with the cars j .. N-1 already settled -/
def seF (X w : Int → Int) (j N : Nat) : Int → Int := fun i => if 340 + 24 * (j : Int) ≤ i ∧ i < 340 + 24 * (N : Int) ∧ (i - 340) % 24 = 2 then w ((i - 340) / 24) else if 340 + 24 * (j : Int) ≤ i ∧ i < 340 + 24 * (N : Int) ∧ (i - 340) % 24 = 7 then 0 else X i
section T2
variable {R X Y w : Int → Int}
theorem spF_at : ∀ (k : Nat) (i : Int), (i < 340 ∨ 340 + 24 * k ≤ i ∨ ((i - 340) % 24 ≠ 2 ∧ (i - 340) % 24 ≠ 7)) → spF R w k i = R i
  | 0, i, _ => rfl
  | k + 1, i, h => by
    simp only [spF]
    rw [fU_n (by omega), fU_n (by omega), spF_at k i (by omega)]
theorem spF_se : ∀ k : Nat, spF R w k = seF R w 0 k
  | 0 => by
    funext i
    unfold seF
    rw [if_neg (by omega), if_neg (by omega)]
    rfl
  | k + 1 => by
    funext i
    simp only [spF]
    rw [spF_se k]
    unfold fU
    by_cases q1 : i = 340 + 24 * (k : Int) + 7
    · rw [if_pos q1]
      unfold seF
      rw [if_neg (by omega), if_pos (by omega)]
    · rw [if_neg q1]
      by_cases q2 : i = 340 + 24 * (k : Int) + 2
      · rw [if_pos q2]
        unfold seF
        rw [if_pos (by omega)]
        congr 1
        omega
      · rw [if_neg q2]
        unfold seF
        by_cases q3 : 340 + 24 * ((0 : Nat) : Int) ≤ i ∧ i < 340 + 24 * (k : Int) ∧ (i - 340) % 24 = 2
        · rw [if_pos q3, if_pos (by omega)]
        · rw [if_neg q3, if_neg (show ¬ (340 + 24 * ((0 : Nat) : Int) ≤ i ∧ i < 340 + 24 * ((k + 1 : Nat) : Int) ∧ (i - 340) % 24 = 2) by omega)]
          by_cases q4 : 340 + 24 * ((0 : Nat) : Int) ≤ i ∧ i < 340 + 24 * (k : Int) ∧ (i - 340) % 24 = 7
          · rw [if_pos q4, if_pos (by omega)]
          · rw [if_neg q4, if_neg (by omega)]
theorem lpF_ag {cell pace : Int} (e : ∀ i, i < 340 → X i = Y i) : ∀ (b : Nat) (i : Int), (b : Int) ≤ 4 → i < 340 → lpF X cell pace b i = lpF Y cell pace b i
  | 0, i, _, h => e i h
  | b + 1, i, hb, h => by
    simp only [lpF]
    rw [e 0 (by omega), e (22 + 3 * (b : Int)) (by omega), e (22 + 3 * (b : Int) + 1) (by omega), e (22 + 3 * (b : Int) + 2) (by omega)]
    have ih := lpF_ag (cell := cell) (pace := pace) e b i (by omega) h
    split
    · unfold fU
      rw [ih]
    · exact ih
theorem limF_ag {cell : Int} (e : ∀ i, i < 340 → X i = Y i) : ∀ b : Nat, (b : Int) ≤ 4 → limF X cell b = limF Y cell b
  | 0, _ => e 1 (by omega)
  | b + 1, hb => by
    simp only [limF]
    rw [e 0 (by omega), e (10 + 3 * (b : Int)) (by omega), e (10 + 3 * (b : Int) + 1) (by omega), e (10 + 3 * (b : Int) + 2) (by omega), limF_ag e b (by omega)]
theorem seF_lo {j N : Nat} {i : Int} (h : i < 340 ∨ i < 340 + 24 * (j : Int) ∨ ((i - 340) % 24 ≠ 2 ∧ (i - 340) % 24 ≠ 7)) : seF X w j N i = X i := by
  unfold seF
  rw [if_neg (by omega), if_neg (by omega)]
theorem seF_2 {j N : Nat} {i : Int} (h1 : 340 + 24 * (j : Int) ≤ i) (h2 : i < 340 + 24 * (N : Int)) (h3 : (i - 340) % 24 = 2) : seF X w j N i = w ((i - 340) / 24) := by
  unfold seF
  rw [if_pos ⟨h1, h2, h3⟩]
theorem seF_7 {j N : Nat} {i : Int} (h1 : 340 + 24 * (j : Int) ≤ i) (h2 : i < 340 + 24 * (N : Int)) (h3 : (i - 340) % 24 = 7) : seF X w j N i = 0 := by
  unfold seF
  rw [if_neg (by omega), if_pos ⟨h1, h2, h3⟩]
theorem seF_hi {j N : Nat} {i : Int} (h1 : 340 + 24 * (N : Int) ≤ i) : seF X w j N i = X i := by
  unfold seF
  rw [if_neg (by omega), if_neg (by omega)]
theorem seF_st {j N : Nat} (hj : j < N) (h6 : 0 ≤ X 6) (h62 : X 6 ≤ 4) : gnR (seF X w j N) j = seF (goR (fU X (340 + 24 * j + 2) (w j)) j) w (j + 1) N := by
  have e0 : cfR (seF X w j N) j 0 = cfR (fU X (340 + 24 * (j : Int) + 2) (w j)) j 0 := by unfold cfR; rw [seF_lo (by omega), fU_n (by omega)]
  have e2 : cfR (seF X w j N) j 2 = cfR (fU X (340 + 24 * (j : Int) + 2) (w j)) j 2 := by
    unfold cfR
    rw [seF_2 (by omega) (by omega) (by omega), fU_s]
    congr 1
    omega
  have e5 : cfR (seF X w j N) j 5 = cfR (fU X (340 + 24 * (j : Int) + 2) (w j)) j 5 := by unfold cfR; rw [seF_lo (by omega), fU_n (by omega)]
  have es : ∀ i, i < 340 → seF X w j N i = fU X (340 + 24 * (j : Int) + 2) (w j) i := fun i hi => by rw [seF_lo (by omega), fU_n (by omega)]
  have E0 : seF X w j N 0 = fU X (340 + 24 * (j : Int) + 2) (w j) 0 := es 0 (by omega)
  have E6 : seF X w j N 6 = fU X (340 + 24 * (j : Int) + 2) (w j) 6 := es 6 (by omega)
  have h6' : fU X (340 + 24 * (j : Int) + 2) (w j) 6 = X 6 := fU_n (by omega)
  unfold gnR goR
  rw [e0, e2, e5, E0, E6]
  generalize hY : fU X (340 + 24 * (j : Int) + 2) (w j) = Y at *
  rw [h6']
  obtain ⟨N6, hN6⟩ : ∃ N6 : Nat, X 6 = N6 := ⟨(X 6).toNat, by omega⟩
  rw [show (X 6).toNat = N6 by omega]
  funext i
  by_cases q5 : i = 340 + 24 * (j : Int) + 5
  · rw [q5, fU_s, seF_lo (by omega), fU_n (by omega), fU_s]
  · rw [fU_n q5]
    by_cases q0 : i = 340 + 24 * (j : Int) + 0
    · rw [q0, fU_s, seF_lo (by omega), fU_n (by omega), fU_n (by omega), fU_s]
    · rw [fU_n q0]
      by_cases lo : i < 340
      · rw [seF_lo (by omega), fU_n (by omega), fU_n (by omega), fU_n (by omega)]
        exact lpF_ag es N6 i (by omega) lo
      · rw [lpF_at N6 i (by omega)]
        by_cases q7 : i = 340 + 24 * (j : Int) + 7
        · rw [q7, seF_7 (by omega) (by omega) (by omega), seF_lo (by omega), fU_s]
        · by_cases q2 : i = 340 + 24 * (j : Int) + 2
          · rw [seF_2 (by omega) (by omega) (by omega), seF_lo (by omega), fU_n q7, fU_n q5, fU_n q0, lpF_at N6 i (by omega), ← hY, q2, fU_s]
            congr 1
            omega
          · have ey : fU (fU (fU (lpF Y (cfR Y j 0) (cfR Y j 2) N6) (340 + 24 * (j : Int) + 0) ((cfR Y j 0 + cfR Y j 2) % Y 0)) (340 + 24 * (j : Int) + 5) (cfR Y j 5 + cfR Y j 2)) (340 + 24 * (j : Int) + 7) 0 i = X i := by
              rw [fU_n q7, fU_n q5, fU_n q0, lpF_at N6 i (by omega), ← hY, fU_n q2]
            by_cases hi : 340 + 24 * (N : Int) ≤ i
            · rw [seF_hi hi, seF_hi hi, ey]
            · by_cases k2 : 340 + 24 * (j : Int) ≤ i ∧ (i - 340) % 24 = 2
              · rw [seF_2 (by omega) (by omega) (by omega), seF_2 (by omega) (by omega) (by omega)]
              · by_cases k7 : 340 + 24 * (j : Int) ≤ i ∧ (i - 340) % 24 = 7
                · rw [seF_7 (by omega) (by omega) (by omega), seF_7 (by omega) (by omega) (by omega)]
                · rw [seF_lo (by omega), seF_lo (by omega), ey]
end T2
section T2b
variable {R : Int → Int} {B : Int}
theorem tick_t (h : WR R B) {i : Int} (h1 : 34 ≤ i) (h2 : i < 340) : tickR R i = R i := by
  have e6 : tk2 R 6 = R 6 := tk2_at (by omega)
  unfold tickR
  rw [nfR_n (by omega), fU_n (by omega)]
  show goF (tk2 R) (tkW R) (R 2).toNat i = _
  rw [goF_at _ i (by omega) (by rw [e6]; exact h.2.2.2.2.2.2.1.1) (by rw [e6]; exact h.2.2.2.2.2.2.1.2.1)]
  exact tk2_at (by omega)
theorem tkN_t (h : WR R B) (hB : 0 ≤ B) : ∀ (k : Nat) (i : Int), 34 ≤ i → i < 340 → tkN R k i = R i
  | 0, i, _, _ => rfl
  | k + 1, i, h1, h2 => by
    simp only [tkN]
    rw [tick_t (tkN_W h hB k) h1 h2, tkN_t h hB k i h1 h2]
end T2b
