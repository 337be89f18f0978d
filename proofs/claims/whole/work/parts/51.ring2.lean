/-- only what a car has looked up and wants has changed -/
def SC (d d' : HD) (A : Nat) : Prop := (∀ a, (∀ c : Nat, c < 12 → a ≠ A + 9 + 2 * c) → d' a = d a) ∧ ∀ c : Nat, c < 12 → ∀ w, (w < 10 ∨ 15 < w) → d' (A + 9 + 2 * c) w = d (A + 9 + 2 * c) w
theorem SC.rf {d : HD} {A : Nat} : SC d d A := ⟨fun _ _ => rfl, fun _ _ _ _ => rfl⟩
theorem SC.tr {d d1 d2 : HD} {A : Nat} (h1 : SC d d1 A) (h2 : SC d1 d2 A) : SC d d2 A := ⟨fun a h => (h2.1 a h).trans (h1.1 a h), fun c hc w hw => (h2.2 c hc w hw).trans (h1.2 c hc w hw)⟩
theorem SC.u {d d' : HD} {A c : Nat} {i v : Int} (h : SC d d' A) (hc : c < 12) (h1 : 10 ≤ i) (h2 : i ≤ 15) : SC d (kU d' (A + 9 + 2 * c) i v) A := by
  refine ⟨fun a ha => ?_, fun e he w hw => ?_⟩
  · rw [kU_ne (ha c hc)]; exact h.1 a ha
  · unfold kU
    rw [if_neg (by omega)]
    exact h.2 e he w hw
theorem SC.o {d d' : HD} {A a : Nat} (h : SC d d' A) (ha : a < A + 9 ∨ A + 33 ≤ a ∨ (a - A) % 2 = 0) : d' a = d a := h.1 a (fun c hc => by omega)
/-- the picture of a class ring -/
def CV (d : HD) (A : Nat) (R : Int → Int) : Prop := (d A 0 = R 0 ∧ d A 1 = R 1 ∧ d A 2 = R 3 ∧ d A 3 = R 4 ∧ d A 4 = R 2 ∧ d A 5 = R 5 ∧ d A 6 = R 6) ∧ (∀ c : Nat, (c : Int) < R 2 → (∀ w, 0 ≤ w → w ≤ 8 → d (A + 9 + 2 * c) w = cfR R c w) ∧ ∀ i q, 0 ≤ i → i < 4 → i < cfR R c 8 → 0 ≤ q → q < 3 → d (A + 10 + 2 * c) (3 * ((cfR R c 8 - 1 - i) % 4) + q) = cfR R c (9 + 3 * i + q)) ∧ (∀ b, 0 ≤ b → b < R 5 → d (A + 3) b = R (10 + 3 * b) ∧ d (A + 4) b = R (10 + 3 * b + 1) ∧ d (A + 5) b = R (10 + 3 * b + 2)) ∧ ∀ b, 0 ≤ b → b < R 6 → d (A + 6) b = R (22 + 3 * b) ∧ d (A + 7) b = R (22 + 3 * b + 1) ∧ d (A + 8) b = R (22 + 3 * b + 2)
theorem CV.G {d : HD} {A : Nat} {R : Int → Int} (h : CV d A R) : CG d A R := ⟨h.1.1, h.1.2.2.2.2.1, fun c hc => ⟨(h.2.1 c hc).1 0 (by omega) (by omega), (h.2.1 c hc).1 1 (by omega) (by omega), (h.2.1 c hc).1 2 (by omega) (by omega)⟩⟩
theorem CV.s {d d' : HD} {A : Nat} {R : Int → Int} (h : CV d A R) (h2 : R 2 ≤ 12) (s : SC d d' A) : CV d' A R := by
  obtain ⟨h0, hc, hb, hl⟩ := h
  refine ⟨?_, fun c c1 => ⟨fun w w1 w2 => ?_, fun i q i1 i2 i3 q1 q2 => ?_⟩, ?_, ?_⟩
  · rw [s.o (a := A) (by omega)]; exact h0
  · rw [s.2 c (by omega) w (by omega)]; exact (hc c c1).1 w w1 w2
  · rw [s.o (by omega)]; exact (hc c c1).2 i q i1 i2 i3 q1 q2
  · rw [s.o (a := A + 3) (by omega), s.o (a := A + 4) (by omega), s.o (a := A + 5) (by omega)]; exact hb
  · rw [s.o (a := A + 6) (by omega), s.o (a := A + 7) (by omega), s.o (a := A + 8) (by omega)]; exact hl
theorem CG.s {d d' : HD} {A : Nat} {R : Int → Int} (h : CG d A R) (h2 : R 2 ≤ 12) (s : SC d d' A) : CG d' A R := by
  obtain ⟨h0, h1, hc⟩ := h
  refine ⟨?_, ?_, fun c c1 => ?_⟩
  · rw [s.o (by omega)]; exact h0
  · rw [s.o (by omega)]; exact h1
  · rw [s.2 c (by omega) 0 (by omega), s.2 c (by omega) 1 (by omega), s.2 c (by omega) 2 (by omega)]; exact hc c c1
/-- car c has looked, in a ring R -/
def CL (d : HD) (A : Nat) (R : Int → Int) (c : Nat) : Prop := d (A + 9 + 2 * c) 10 = gapS R c ∧ d (A + 9 + 2 * c) 11 = aheadS R c ∧ d (A + 9 + 2 * c) 12 = leadS R c ∧ d (A + 9 + 2 * c) 13 = otherS R c
section R2
variable {E : EE} {k A : Nat} {G : HG} {d : HD} {K : PQ} {R : Int → Int}
theorem C_lookFromAll (hG : RG G A) (hV : CG d A R) (hW : WG R) (hp : ∀ c, 0 ≤ c → c < R 2 → 0 ≤ cfR R c 2 ∧ cfR R c 2 ≤ 9) (hK : ∀ d', SC d d' A → (∀ c : Nat, (c : Int) < R 2 → CL d' A R c ∧ d' (A + 9 + 2 * c) 14 = d (A + 9 + 2 * c) 14 ∧ d' (A + 9 + 2 * c) 15 = d (A + 9 + 2 * c) 15) → K none G d') : AM E mX4_lookFromAll (k + 2) 0 0 [kR A] G d K := by
  have ho := hG.1
  obtain ⟨w1, w2, w3, w4, w5⟩ := id hW
  obtain ⟨N, hN⟩ : ∃ N : Nat, R 2 = N := ⟨(R 2).toNat, by omega⟩
  have loop : ∀ (f j : Nat), j + f = N → ∀ d', SC d d' A → (∀ c : Nat, c < j → CL d' A R c) → (∀ c : Nat, c < N → d' (A + 9 + 2 * c) 14 = d (A + 9 + 2 * c) 14 ∧ d' (A + 9 + 2 * c) 15 = d (A + 9 + 2 * c) 15) → AW E mX4_lookFromAll (k + 2) 0 0 2 [some (kR A), some (kI j)] [] G d' K := by
    intro f
    induction f with
    | zero =>
      intro j hj d' s hl h15
      have v4 := (hV.s (by omega) s).2.1
      rw [hN] at v4
      refine A_iload_n dX4_lookFromAll_2 rfl rfl ?_
      refine A_aload_n dX4_lookFromAll_3 rfl rfl ?_
      refine A_get (fi := 4) dX4_lookFromAll_4 fg_X4_24 rfl rfl (by assumption) ?_
      refine A_icmp_ge (tgt := 21) dX4_lookFromAll_7 (by decide) (fun c_7 => ?_) (fun c_7 => absurd c_7 (by omega))
      refine A_vret dX4_lookFromAll_21 rfl ?_
      exact hK d' s (fun c hc => ⟨hl c (by omega), h15 c (by omega)⟩)
    | succ f ih =>
      intro j hj d' s hl h15
      have V := hV.s (by omega) s
      have v4 := V.2.1
      rw [hN] at v4
      refine A_iload_n dX4_lookFromAll_2 rfl rfl ?_
      refine A_aload_n dX4_lookFromAll_3 rfl rfl ?_
      refine A_get (fi := 4) dX4_lookFromAll_4 fg_X4_24 rfl rfl (by assumption) ?_
      refine A_icmp_ge (tgt := 21) dX4_lookFromAll_7 (by decide) (fun c_7 => absurd c_7 (by omega)) (fun c_7 => ?_)
      refine A_aload_n dX4_lookFromAll_10 rfl rfl ?_
      refine A_iload_n dX4_lookFromAll_11 rfl rfl ?_
      refine A_inv1 dX4_lookFromAll_12 mv_X4_109 kCl_4 (Nat.le_of_ble_eq_true rfl) (by assumption) ?_
      refine C_lookFrom hG V hW (by omega) hp ?_
      refine A_iinc_ok dX4_lookFromAll_15 rfl rfl (by omega) (by omega) ?_
      refine A_goto (tgt := 2) dX4_lookFromAll_18 (by decide) ?_
      refine ih (j + 1) (by omega) _ ((((s.u (by omega) (by omega) (by omega)).u (by omega) (by omega) (by omega)).u (by omega) (by omega) (by omega)).u (by omega) (by omega) (by omega)) (fun c hc => ?_) (fun c hc => ?_)
      · unfold CL
        by_cases q : c = j
        · subst q
          rw [kU_f (by decide), kU_f (by decide), kU_f (by decide), kU_s, kU_f (by decide), kU_f (by decide), kU_s, kU_f (by decide), kU_s, kU_s]
          exact ⟨rfl, rfl, rfl, rfl⟩
        · rw [kU_ne (by omega), kU_ne (by omega), kU_ne (by omega), kU_ne (by omega)]
          exact hl c (by omega)
      · by_cases q : c = j
        · subst q
          rw [kU_f (by decide), kU_f (by decide), kU_f (by decide), kU_f (by decide), kU_f (by decide), kU_f (by decide), kU_f (by decide), kU_f (by decide)]
          exact h15 c hc
        · rw [kU_ne (by omega), kU_ne (by omega), kU_ne (by omega), kU_ne (by omega)]
          exact h15 c hc
  refine AM.of rfl (Nat.le_of_ble_eq_true rfl) ?_
  refine A_iconst dX4_lookFromAll_0 ⟨by decide, by decide⟩ ?_
  refine A_istore_n dX4_lookFromAll_1 rfl (Nat.le_of_ble_eq_true rfl) rfl ?_
  exact loop N 0 (by omega) d SC.rf (fun c hc => by omega) (fun c _ => ⟨rfl, rfl⟩)
theorem C_isTaken {lane cell : Int} (hG : RG G A) (hV : CG d A R) (h2 : 0 ≤ R 2) (h22 : R 2 ≤ 12) (hK : K (some (kI (if 0 ≤ caF R lane cell (R 2).toNat then 1 else 0))) G d) : AM E mX4_isTaken k 0 0 [kR A, kI lane, kI cell] G d K := by
  obtain ⟨ho, ⟨e7, a7⟩, -, -, -, -, -, -, -, hcar⟩ := id hG
  obtain ⟨v0, v4, vc⟩ := id hV
  obtain ⟨N, hN⟩ : ∃ N : Nat, R 2 = N := ⟨(R 2).toNat, by omega⟩
  rw [hN] at v4
  rw [show (R 2).toNat = N by omega] at hK
  have loop : ∀ (f j : Nat), j + f = N → caF R lane cell j = -1 → AW E mX4_isTaken k 0 0 2 [some (kR A), some (kI lane), some (kI cell), some (kI j)] [] G d K := by
    intro f
    induction f with
    | zero =>
      intro j hj hn
      have : j = N := by omega
      subst this
      rw [if_neg (by omega)] at hK
      refine A_iload_n dX4_isTaken_2 rfl rfl ?_
      refine A_aload_n dX4_isTaken_3 rfl rfl ?_
      refine A_get (fi := 4) dX4_isTaken_4 fg_X4_24 rfl rfl (by assumption) ?_
      refine A_icmp_ge (tgt := 44) dX4_isTaken_7 (by decide) (fun c_7 => ?_) (fun c_7 => absurd c_7 (by omega))
      refine A_iconst dX4_isTaken_44 ⟨by decide, by decide⟩ ?_
      refine A_zret dX4_isTaken_45 rfl (by first | exact Or.inl rfl | exact Or.inr rfl | assumption | omega) ?_
      exact hK
    | succ f ih =>
      intro j hj hn
      obtain ⟨ej, oj, -, -⟩ := hcar j (by omega)
      obtain ⟨d0, d1, d2⟩ := vc j (by omega)
      have e : caF R lane cell (j + 1) = if cfR R j 1 = lane ∧ cfR R j 0 = cell then (j : Int) else -1 := by simp only [caF]; rw [if_neg (by omega)]
      refine A_iload_n dX4_isTaken_2 rfl rfl ?_
      refine A_aload_n dX4_isTaken_3 rfl rfl ?_
      refine A_get (fi := 4) dX4_isTaken_4 fg_X4_24 rfl rfl (by assumption) ?_
      refine A_icmp_ge (tgt := 44) dX4_isTaken_7 (by decide) (fun c_7 => absurd c_7 (by omega)) (fun c_7 => ?_)
      refine A_aload_n dX4_isTaken_10 rfl rfl ?_
      refine A_getR (fi := 7) dX4_isTaken_11 fg_X4_35 rfl rfl (by assumption) (by assumption) ?_
      refine A_iload_n dX4_isTaken_14 rfl rfl ?_
      refine A_aald (t := 2) dX4_isTaken_15 (fun _ => rfl) (by decide) (by assumption) (by omega) (by omega) (by assumption) ?_
      refine A_get (fi := 1) dX4_isTaken_16 fg_X4_77 rfl rfl (by assumption) ?_
      refine A_iload_n dX4_isTaken_19 rfl rfl ?_
      refine A_icmp_ne (tgt := 38) dX4_isTaken_20 (by decide) (fun c_20 => ?_) (fun c_20 => ?_)
      · rw [d1] at c_20
        refine A_iinc_ok dX4_isTaken_38 rfl rfl (by omega) (by omega) ?_
        refine A_goto (tgt := 2) dX4_isTaken_41 (by decide) ?_
        exact ih (j + 1) (by omega) (by rw [e, if_neg (fun z => c_20 z.1)])
      · rw [d1] at c_20
        refine A_aload_n dX4_isTaken_23 rfl rfl ?_
        refine A_getR (fi := 7) dX4_isTaken_24 fg_X4_35 rfl rfl (by assumption) (by assumption) ?_
        refine A_iload_n dX4_isTaken_27 rfl rfl ?_
        refine A_aald (t := 2) dX4_isTaken_28 (fun _ => rfl) (by decide) (by assumption) (by omega) (by omega) (by assumption) ?_
        refine A_get (fi := 0) dX4_isTaken_29 fg_X4_80 rfl rfl (by assumption) ?_
        refine A_iload_n dX4_isTaken_32 rfl rfl ?_
        refine A_icmp_ne (tgt := 38) dX4_isTaken_33 (by decide) (fun c_33 => ?_) (fun c_33 => ?_)
        · rw [d0] at c_33
          refine A_iinc_ok dX4_isTaken_38 rfl rfl (by omega) (by omega) ?_
          refine A_goto (tgt := 2) dX4_isTaken_41 (by decide) ?_
          exact ih (j + 1) (by omega) (by rw [e, if_neg (fun z => c_33 z.2)])
        · rw [d0] at c_33
          have st := caF_st (R := R) (lane := lane) (cell := cell) (j := j + 1) (by rw [e, if_pos ⟨c_20, c_33⟩]; omega) (N - (j + 1))
          rw [show j + 1 + (N - (j + 1)) = N by omega, e, if_pos ⟨c_20, c_33⟩] at st
          rw [st, if_pos (by omega)] at hK
          refine A_iconst dX4_isTaken_36 ⟨by decide, by decide⟩ ?_
          refine A_zret dX4_isTaken_37 rfl (by first | exact Or.inl rfl | exact Or.inr rfl | assumption | omega) ?_
          exact hK
  refine AM.of rfl (Nat.le_of_ble_eq_true rfl) ?_
  refine A_iconst dX4_isTaken_0 ⟨by decide, by decide⟩ ?_
  refine A_istore_n dX4_isTaken_1 rfl (Nat.le_of_ble_eq_true rfl) rfl ?_
  exact loop N 0 (by omega) rfl
theorem evnF_0 {j : Nat} (h : evnF R j = 0) : ∀ n : Nat, evnF R (j + n) = 0
  | 0 => h
  | n + 1 => by
    have := evnF_0 h n
    show evnF R (j + n + 1) = 0
    simp only [evnF]
    rw [if_neg (by omega)]
theorem C_isEvenR (hG : RG G A) (hV : CG d A R) (h2 : 0 ≤ R 2) (h22 : R 2 ≤ 12) (hp : ∀ c, 0 ≤ c → c < R 2 → 0 ≤ cfR R c 2 ∧ cfR R c 2 ≤ 9) (hK : K (some (kI (evnS R))) G d) : AM E mX4_isEven k 0 0 [kR A] G d K := by
  obtain ⟨ho, ⟨e7, a7⟩, -, -, -, -, -, -, -, hcar⟩ := id hG
  obtain ⟨v0, v4, vc⟩ := id hV
  obtain ⟨N, hN⟩ : ∃ N : Nat, R 2 = N := ⟨(R 2).toNat, by omega⟩
  rw [hN] at v4
  unfold evnS at hK
  rw [show (R 2).toNat = N by omega] at hK
  have loop : ∀ (f j : Nat), j + f = N → evnF R j = 1 → AW E mX4_isEven k 0 0 2 [some (kR A), some (kI j)] [] G d K := by
    intro f
    induction f with
    | zero =>
      intro j hj hn
      have : j = N := by omega
      subst this
      rw [hn] at hK
      refine A_iload_n dX4_isEven_2 rfl rfl ?_
      refine A_aload_n dX4_isEven_3 rfl rfl ?_
      refine A_get (fi := 4) dX4_isEven_4 fg_X4_24 rfl rfl (by assumption) ?_
      refine A_icmp_ge (tgt := 51) dX4_isEven_7 (by decide) (fun c_7 => ?_) (fun c_7 => absurd c_7 (by omega))
      refine A_iconst dX4_isEven_51 ⟨by decide, by decide⟩ ?_
      refine A_zret dX4_isEven_52 rfl (by first | exact Or.inl rfl | exact Or.inr rfl | assumption | omega) ?_
      exact hK
    | succ f ih =>
      intro j hj hn
      obtain ⟨ej, oj, -, -⟩ := hcar j (by omega)
      obtain ⟨d0, d1, d2⟩ := vc j (by omega)
      obtain ⟨ez, oz, -, -⟩ := hcar 0 (by omega)
      obtain ⟨z0, z1, z2⟩ := vc 0 (by omega)
      have pj := hp j (by omega) (by omega)
      have z2' : d (A + 9 + 2 * 0) 2 = cfR R 0 2 := z2
      have ez' : G.2.2 (A + 1) 0 = A + 9 + 2 * 0 := ez
      have bad : evnF R (j + 1) = 0 → AW E mX4_isEven k 0 0 43 [some (kR A), some (kI j)] [] G d K := by
        intro h0
        have st := evnF_0 h0 (N - (j + 1))
        rw [show j + 1 + (N - (j + 1)) = N by omega] at st
        rw [st] at hK
        refine A_iconst dX4_isEven_43 ⟨by decide, by decide⟩ ?_
        refine A_zret dX4_isEven_44 rfl (by first | exact Or.inl rfl | exact Or.inr rfl | assumption | omega) ?_
        exact hK
      refine A_iload_n dX4_isEven_2 rfl rfl ?_
      refine A_aload_n dX4_isEven_3 rfl rfl ?_
      refine A_get (fi := 4) dX4_isEven_4 fg_X4_24 rfl rfl (by assumption) ?_
      refine A_icmp_ge (tgt := 51) dX4_isEven_7 (by decide) (fun c_7 => absurd c_7 (by omega)) (fun c_7 => ?_)
      refine A_aload_n dX4_isEven_10 rfl rfl ?_
      refine A_getR (fi := 7) dX4_isEven_11 fg_X4_35 rfl rfl (by assumption) (by assumption) ?_
      refine A_iload_n dX4_isEven_14 rfl rfl ?_
      refine A_aald (t := 2) dX4_isEven_15 (fun _ => rfl) (by decide) (by assumption) (by omega) (by omega) (by assumption) ?_
      refine A_get (fi := 2) dX4_isEven_16 fg_X4_83 rfl rfl (by assumption) ?_
      refine A_if_eq (tgt := 43) dX4_isEven_19 (by decide) (fun c_19 => ?_) (fun c_19 => ?_)
      · rw [d2] at c_19
        exact bad (by simp only [evnF]; rw [if_neg (by omega)])
      · rw [d2] at c_19
        refine A_aload_n dX4_isEven_22 rfl rfl ?_
        refine A_getR (fi := 7) dX4_isEven_23 fg_X4_35 rfl rfl (by assumption) (by assumption) ?_
        refine A_iload_n dX4_isEven_26 rfl rfl ?_
        refine A_aald (t := 2) dX4_isEven_27 (fun _ => rfl) (by decide) (by assumption) (by omega) (by omega) (by assumption) ?_
        refine A_get (fi := 2) dX4_isEven_28 fg_X4_83 rfl rfl (by assumption) ?_
        refine A_aload_n dX4_isEven_31 rfl rfl ?_
        refine A_getR (fi := 7) dX4_isEven_32 fg_X4_35 rfl rfl (by assumption) (by assumption) ?_
        refine A_iconst dX4_isEven_35 ⟨by decide, by decide⟩ ?_
        refine A_aald (t := 2) dX4_isEven_36 (fun _ => rfl) (by decide) (by assumption) (by omega) (by omega) (by assumption) ?_
        refine A_get (fi := 2) dX4_isEven_37 fg_X4_83 rfl rfl (by assumption) ?_
        refine A_icmp_eq (tgt := 45) dX4_isEven_40 (by decide) (fun c_40 => ?_) (fun c_40 => ?_)
        · rw [d2, z2'] at c_40
          refine A_iinc_ok dX4_isEven_45 rfl rfl (by omega) (by omega) ?_
          refine A_goto (tgt := 2) dX4_isEven_48 (by decide) ?_
          exact ih (j + 1) (by omega) (by simp only [evnF]; rw [if_pos (by omega)])
        · rw [d2, z2'] at c_40
          exact bad (by simp only [evnF]; rw [if_neg (by omega)])
  refine AM.of rfl (Nat.le_of_ble_eq_true rfl) ?_
  refine A_iconst dX4_isEven_0 ⟨by decide, by decide⟩ ?_
  refine A_istore_n dX4_isEven_1 rfl (Nat.le_of_ble_eq_true rfl) rfl ?_
  exact loop N 0 (by omega) rfl
end R2
