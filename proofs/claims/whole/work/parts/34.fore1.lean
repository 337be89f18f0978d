/-- so many ticks -/
def tkN (R : Int → Int) : Nat → (Int → Int)
  | 0 => R
  | k + 1 => tickR (tkN R k)
theorem tkN_W {R : Int → Int} {B : Int} (h : WR R B) (hB : 0 ≤ B) : ∀ k : Nat, WR (tkN R k) (B + k)
  | 0 => by rw [show B + ((0 : Nat) : Int) = B by omega]; exact h
  | k + 1 => by
    have := tick_W (tkN_W h hB k) (by omega)
    rw [show B + ((k + 1 : Nat) : Int) = B + k + 1 by omega]
    exact this
theorem tk3_e {R : Int → Int} {B : Int} (h : WR R B) {j : Int} (hj : j < 22) : tk3 R j = R j := by
  have e6 : tk2 R 6 = R 6 := tk2_at (by omega)
  show goF (tk2 R) (tkW R) (R 2).toNat j = _
  rw [goF_at _ j (by omega) (by rw [e6]; exact h.2.2.2.2.2.2.1.1) (by rw [e6]; exact h.2.2.2.2.2.2.1.2.1)]
  exact tk2_at (by omega)
theorem tick_3 {R : Int → Int} {B : Int} (h : WR R B) : tickR R 3 = R 3 + 1 := by
  unfold tickR; rw [nfR_n (by omega), fU_s, tk3_e h (by omega)]
theorem tick_2 {R : Int → Int} {B : Int} (h : WR R B) : tickR R 2 = R 2 := by
  unfold tickR; rw [nfR_n (by omega), fU_n (by omega), tk3_e h (by omega)]
theorem tkN_3 {R : Int → Int} {B : Int} (h : WR R B) (hB : 0 ≤ B) : ∀ k : Nat, tkN R k 3 = R 3 + k
  | 0 => by simp only [tkN]; omega
  | k + 1 => by
    simp only [tkN]
    rw [tick_3 (tkN_W h hB k), tkN_3 h hB k]
    omega
theorem tkN_2 {R : Int → Int} {B : Int} (h : WR R B) (hB : 0 ≤ B) : ∀ k : Nat, tkN R k 2 = R 2
  | 0 => rfl
  | k + 1 => by
    simp only [tkN]
    rw [tick_2 (tkN_W h hB k), tkN_2 h hB k]
def ticksS (R : Int → Int) (n : Int) : Int × (Int → Int) := if ¬ (1 ≤ n ∧ n ≤ 200) then (-1, R) else if 99999 < R 3 + n then (-3, R) else (R 3 + n, tkN R n.toNat)
def holdsA (R : Int → Int) (c : Int) : Int := if 0 ≤ c ∧ c < R 2 then (clS R (cfR R c 3) (gapS R c) (leadS R c) (otherS R c) (cfR R c 2)).1 else -1
def wenF (R : Int → Int) (who : Int) : Nat → Int
  | 0 => 0
  | k + 1 => wenF R who k + (if who < 0 ∨ who = k then cfR R k 5 else 0)
def wentS (R : Int → Int) (who : Int) : Int := wenF R who (R 2).toNat
theorem wenF_rg {R : Int → Int} {B who : Int} (h : WR R B) (hB : 0 ≤ B) : ∀ k : Nat, (k : Int) ≤ R 2 → 0 ≤ wenF R who k ∧ wenF R who k ≤ 9 * B * k
  | 0, _ => by simp only [wenF]; omega
  | k + 1, hk => by
    have ih := wenF_rg (who := who) h hB k (by omega)
    have wc := (h.2.2.2.2.1 k (by omega) (by omega)).2.2.2.2.2.1
    simp only [wenF]
    have e : 9 * B * ((k + 1 : Nat) : Int) = 9 * B * k + 9 * B := by rw [show ((k + 1 : Nat) : Int) = (k : Int) + 1 by omega, Int.mul_add]; omega
    rw [e]
    generalize 9 * B * (k : Int) = z at *
    split <;> omega
theorem wentS_rg {R : Int → Int} {B who : Int} (h : WR R B) (hB : 0 ≤ B) : 0 ≤ wentS R who ∧ wentS R who ≤ 108 * B := by
  have := wenF_rg (who := who) h hB (R 2).toNat (by have := h.2.2.1; omega)
  refine ⟨this.1, Int.le_trans this.2 ?_⟩
  have h12 : (((R 2).toNat : Nat) : Int) ≤ 12 := by have := h.2.2.1; omega
  have := Int.mul_le_mul_of_nonneg_left h12 (show 0 ≤ 9 * B by omega)
  omega
def costA (R : Int → Int) (car n who : Int) : Int := if ¬ ((0 ≤ car ∧ car < R 2) ∧ (1 ≤ n ∧ n ≤ 200) ∧ (who = -1 ∨ (0 ≤ who ∧ who < R 2))) then -100001 else wentS (tkN (fU R (340 + 24 * car + 7) 0) n.toNat) who - wentS (tkN (fU R (340 + 24 * car + 7) 1) n.toNat) who
/-- only rings 1 and 2 of z and scratch have changed -/
def MF (d d' : HD) (m : Nat) : Prop := (∀ a, (a < m ∨ m + 14 < a ∨ (m + 2 ≤ a ∧ a ≤ m + 6)) → d' a = d a) ∧ d' m 3 = d m 3 ∧ ∀ j, (j < 640 ∨ 1920 ≤ j) → d' (m + 1) j = d (m + 1) j
theorem MF.tr {d d1 d2 : HD} {m : Nat} (h1 : MF d d1 m) (h2 : MF d1 d2 m) : MF d d2 m := ⟨fun a h => (h2.1 a h).trans (h1.1 a h), h2.2.1.trans h1.2.1, fun j h => (h2.2.2 j h).trans (h1.2.2 j h)⟩
theorem MF.rf {d : HD} {m : Nat} : MF d d m := ⟨fun _ _ => rfl, rfl, fun _ _ => rfl⟩
theorem MF.mc {d d1 d' : HD} {m : Nat} {r : Int} (h : MF d d1 m) (h2 : MC d1 d' m r) (r1 : 1 ≤ r) (r2 : r ≤ 2) : MF d d' m := h.tr ⟨h2.1, h2.2.1, fun j hj => h2.2.2 j (by omega)⟩
theorem MF.cp {d d' : HD} {m : Nat} {to fr : Int} (h : MF d d' m) (r1 : 1 ≤ to) (r2 : to ≤ 2) : MF d (cpR d' m to fr 640) m := by
  refine h.tr ⟨fun a ha => ?_, ?_, fun j hj => ?_⟩
  · funext i; unfold cpR; rw [if_neg (by omega)]
  · unfold cpR; rw [if_neg (by omega)]
  · unfold cpR; rw [if_neg (by omega)]
theorem MF.z {d d' : HD} {m : Nat} {i v : Int} (h : MF d d' m) (h1 : 640 ≤ i) (h2 : i < 1920) : MF d (kU d' (m + 1) i v) m := by
  refine ⟨fun a ha => ?_, ?_, fun j hj => ?_⟩
  · rw [kU_ne (by omega)]; exact h.1 a ha
  · rw [kU_ne (by omega)]; exact h.2.1
  · unfold kU
    rw [if_neg (by omega)]
    exact h.2.2 j hj
theorem MC.PZ {d d' : HD} {m : Nat} {r q : Int} {R : Int → Int} (h : MC d d' m r) (hne : q ≠ r) (hR : PZ d m q R) : PZ d' m q R := fun j j1 j2 => by
  rw [h.2.2 _ (by omega)]; exact hR j j1 j2
theorem MF.PZ {d d' : HD} {m : Nat} {q : Int} {R : Int → Int} (h : MF d d' m) (hne : q ≤ 0 ∨ 3 ≤ q) (hR : PZ d m q R) : PZ d' m q R := fun j j1 j2 => by
  rw [h.2.2 _ (by omega)]; exact hR j j1 j2
theorem PZ.u_ne {d : HD} {m : Nat} {r q i v : Int} {R : Int → Int} (hR : PZ d m q R) (h : i < 640 * q ∨ 640 * q + 640 ≤ i) : PZ (kU d (m + 1) i v) m q R := fun j j1 j2 => by
  unfold kU
  rw [if_neg (by omega)]
  exact hR j j1 j2
/-- a tap or none leaves a ring that may be -/
theorem WR.tp {R : Int → Int} {B car v : Int} (h : WR R B) (hc : 0 ≤ car) (hc2 : car < R 2) (hv : v = 0 ∨ v = 1) : WR (fU R (340 + 24 * car + 7) v) B := by
  obtain ⟨h0, h1, h2, h3, hc', hb, hp, hV, hd⟩ := id h
  have e : ∀ j, j < 340 → fU R (340 + 24 * car + 7) v j = R j := fun j hj => fU_n (by omega)
  have ec : ∀ c w, 0 ≤ c → 0 ≤ w → w < 24 → (c ≠ car ∨ w ≠ 7) → cfR (fU R (340 + 24 * car + 7) v) c w = cfR R c w := fun c w c1 w1 w2 hh => by unfold cfR; rw [fU_n (by omega)]
  refine ⟨by rw [e 0 (by omega)]; exact h0, by rw [e 1 (by omega)]; exact h1, by rw [e 2 (by omega)]; exact h2, by rw [e 3 (by omega)]; exact h3, fun c c1 c2 => ?_, ?_, ?_, fun q q1 q2 => ?_, fun c q c1 c2 q1 q2 hne hl => ?_⟩
  · rw [e 2 (by omega)] at c2
    obtain ⟨a1, a2, a3, a4, a5, a6, a7, a8, a9⟩ := hc' c c1 c2
    unfold WC
    rw [ec c 0 c1 (by omega) (by omega) (by omega), ec c 1 c1 (by omega) (by omega) (by omega), ec c 2 c1 (by omega) (by omega) (by omega), ec c 3 c1 (by omega) (by omega) (by omega), ec c 4 c1 (by omega) (by omega) (by omega), ec c 5 c1 (by omega) (by omega) (by omega), ec c 6 c1 (by omega) (by omega) (by omega), ec c 8 c1 (by omega) (by omega) (by omega), e 0 (by omega)]
    refine ⟨a1, a2, a3, a4, a5, a6, a7, ?_, a9⟩
    by_cases q : c = car
    · subst q
      have : cfR (fU R (340 + 24 * c + 7) v) c 7 = v := by unfold cfR; rw [fU_s]
      rw [this]; exact hv
    · rw [ec c 7 c1 (by omega) (by omega) (by omega)]; exact a8
  · obtain ⟨b1, b2, b3⟩ := hb
    refine ⟨by rw [e 5 (by omega)]; exact b1, by rw [e 5 (by omega)]; exact b2, fun b q1 q2 => ?_⟩
    rw [e 5 (by omega)] at q2
    rw [e 0 (by omega), e _ (by omega), e _ (by omega), e _ (by omega)]
    exact b3 b q1 q2
  · obtain ⟨b1, b2, b3⟩ := hp
    refine ⟨by rw [e 6 (by omega)]; exact b1, by rw [e 6 (by omega)]; exact b2, fun b q1 q2 => ?_⟩
    rw [e 6 (by omega)] at q2
    rw [e 0 (by omega), e _ (by omega), e _ (by omega), e _ (by omega)]
    exact b3 b q1 q2
  · exact VH_cg q1 q2 (fun j j1 j2 => e j (by omega)) (hV q q1 q2)
  · rw [e 2 (by omega)] at c2 q2
    rw [ec c 1 c1 (by omega) (by omega) (by omega), ec q 1 q1 (by omega) (by omega) (by omega)] at hl
    rw [ec c 0 c1 (by omega) (by omega) (by omega), ec q 0 q1 (by omega) (by omega) (by omega)]
    exact hd c q c1 c2 q1 q2 hne hl
section F1
variable {E : EE} {k m : Nat} {G : HG} {d : HD} {K : PQ} {R : Int → Int}
theorem C_ticks {n B : Int} (hM : MO G m) (hR : PZ d m 0 R) (hW : WR R B) (hB : 0 ≤ B) (hB2 : B ≤ 100000) (hK : ∀ d', MC d d' m 0 → PZ d' m 0 (ticksS R n).2 → K (some (kI (ticksS R n).1)) G d') : AM E mX7_ticks (k + 8) 0 0 [kR m, kI n] G d K := by
  obtain ⟨ho, e0, a0, -⟩ := id hM
  have z3 := hR.z 3 (by omega) (by omega)
  have w3 := hW.2.2.2.1
  refine AM.of rfl (Nat.le_of_ble_eq_true rfl) ?_
  refine A_iload_n dX7_ticks_0 rfl rfl ?_
  refine A_i2l dX7_ticks_1 ?_
  refine A_lconst (x := 1) dX7_ticks_2 ⟨by decide, by decide⟩ rfl ?_
  refine A_ldc2 (x := 200) dX7_ticks_3 cs_X7_197 rfl ⟨by decide, by decide⟩ ?_
  refine A_ins3 dX7_ticks_6 ms_X7_53 (Nat.le_of_ble_eq_true rfl) ?_
  refine C_in ?_
  refine A_if_ne (tgt := 14) dX7_ticks_9 (by decide) (fun c_9 => ?_) (fun c_9 => ?_)
  · replace c_9 := i01n c_9
    refine A_aload_n dX7_ticks_14 rfl rfl ?_
    refine A_getR (fi := 0) dX7_ticks_15 fg_X7_7 rfl rfl (by assumption) (by assumption) ?_
    refine A_iconst dX7_ticks_18 ⟨by decide, by decide⟩ ?_
    refine A_iald dX7_ticks_19 (by assumption) (by omega) (by omega) ?_
    refine A_iload_n dX7_ticks_20 rfl rfl ?_
    refine A_iadd_ok dX7_ticks_21 (by omega) (by omega) ?_
    refine A_ldc (x := 99999) dX7_ticks_22 cs_X7_199 rfl ⟨by decide, by decide⟩ ?_
    rw [z3]
    refine A_icmp_le (tgt := 30) dX7_ticks_24 (by decide) (fun c_24 => ?_) (fun c_24 => ?_)
    · refine A_iconst dX7_ticks_30 ⟨by decide, by decide⟩ ?_
      refine A_istore_n dX7_ticks_31 rfl (Nat.le_of_ble_eq_true rfl) rfl ?_
      obtain ⟨N, hN⟩ : ∃ N : Nat, n = N := ⟨n.toNat, by omega⟩
      have e : ticksS R n = (R 3 + n, tkN R N) := by unfold ticksS; rw [if_neg (by omega), if_neg (by omega), hN]; rfl
      rw [e] at hK
      have loop : ∀ (q j : Nat), N - j < q → j ≤ N → ∀ d', MC d d' m 0 → PZ d' m 0 (tkN R j) → AW E mX7_ticks (k + 8) 0 0 32 [some (kR m), some (kI n), some (kI j)] [] G d' K := by
        intro q
        induction q with
        | zero => intro j h; omega
        | succ q ih =>
          intro j hj hjN d' hc hz
          refine A_iload_n dX7_ticks_32 rfl rfl ?_
          refine A_iload_n dX7_ticks_33 rfl rfl ?_
          refine A_icmp_ge (tgt := 48) dX7_ticks_34 (by decide) (fun c_34 => ?_) (fun c_34 => ?_)
          · have : j = N := by omega
            subst this
            have y3 := hz.z 3 (by omega) (by omega)
            rw [tkN_3 hW hB j, ← hN] at y3
            refine A_aload_n dX7_ticks_48 rfl rfl ?_
            refine A_getR (fi := 0) dX7_ticks_49 fg_X7_7 rfl rfl (by assumption) (by assumption) ?_
            refine A_iconst dX7_ticks_52 ⟨by decide, by decide⟩ ?_
            refine A_iald dX7_ticks_53 (by assumption) (by omega) (by omega) ?_
            rw [y3]
            refine A_iret dX7_ticks_54 rfl ?_
            exact hK d' hc hz
          · refine A_aload_n dX7_ticks_37 rfl rfl ?_
            refine A_iconst dX7_ticks_38 ⟨by decide, by decide⟩ ?_
            refine A_inv1 dX7_ticks_39 mv_X7_200 kCl_7 (Nat.le_of_ble_eq_true rfl) (by assumption) ?_
            refine C_tick hM hz (by omega) (by omega) (tkN_W hW hB j) (by omega) (by omega) (fun d2 m2 p2 => ?_)
            refine A_iinc_ok dX7_ticks_42 rfl rfl (by omega) (by omega) ?_
            refine A_goto (tgt := 32) dX7_ticks_45 (by decide) ?_
            exact ih (j + 1) (by omega) (by omega) d2 (hc.tr m2) p2
      exact loop (N + 1) 0 (by omega) (by omega) d MC.rf hR
    · refine A_bipush dX7_ticks_27 ⟨by decide, by decide⟩ rfl ?_
      refine A_iret dX7_ticks_29 rfl ?_
      have e : ticksS R n = (-3, R) := by unfold ticksS; rw [if_neg (by omega), if_pos (by omega)]
      rw [e] at hK
      exact hK d MC.rf hR
  · replace c_9 := i01e c_9
    refine A_iconst dX7_ticks_12 ⟨by decide, by decide⟩ ?_
    refine A_iret dX7_ticks_13 rfl ?_
    have e : ticksS R n = (-1, R) := by unfold ticksS; rw [if_pos (by omega)]
    rw [e] at hK
    exact hK d MC.rf hR
theorem C_holds {car B : Int} (hM : MO G m) (hR : PZ d m 0 R) (hW : WR R B) (hK : ∀ d', MC d d' m 0 → PZ d' m 0 R → K (some (kI (holdsA R car))) G d') : AM E mX7_holds (k + 6) 0 0 [kR m, kI car] G d K := by
  obtain ⟨ho, e0, a0, -⟩ := id hM
  have z2 := hR.z 2 (by omega) (by omega)
  obtain ⟨w0, w1, w2, w3, wc, wb, wp, wv, wd⟩ := id hW
  refine AM.of rfl (Nat.le_of_ble_eq_true rfl) ?_
  refine A_aload_n dX7_holds_0 rfl rfl ?_
  refine A_iload_n dX7_holds_1 rfl rfl ?_
  refine A_inv1 dX7_holds_2 mv_X7_84 kCl_7 (Nat.le_of_ble_eq_true rfl) (by assumption) ?_
  refine C_isCar hM (by omega) (by omega) ?_
  rw [z2]
  refine A_if_eq (tgt := 48) dX7_holds_5 (by decide) (fun c_5 => ?_) (fun c_5 => ?_)
  · replace c_5 := i01e c_5
    refine A_iconst dX7_holds_48 ⟨by decide, by decide⟩ ?_
    refine A_iret dX7_holds_49 rfl ?_
    unfold holdsA at hK
    rw [if_neg (by omega)] at hK
    exact hK d MC.rf hR
  · obtain ⟨y1, y2, y3, y4, y5, y6, y7, y8, y9⟩ := wc car (by omega) (by omega)
    unfold holdsA at hK
    rw [if_pos (by omega)] at hK
    replace c_5 := i01n c_5
    refine A_aload_n dX7_holds_8 rfl rfl ?_
    refine A_iconst dX7_holds_9 ⟨by decide, by decide⟩ ?_
    refine A_aload_n dX7_holds_10 rfl rfl ?_
    refine A_iconst dX7_holds_11 ⟨by decide, by decide⟩ ?_
    refine A_iload_n dX7_holds_12 rfl rfl ?_
    refine A_iconst dX7_holds_13 ⟨by decide, by decide⟩ ?_
    refine A_inv3 dX7_holds_14 mv_X7_57 kCl_7 (Nat.le_of_ble_eq_true rfl) (by assumption) ?_
    refine C_of hM hR (by omega) (by omega) (by omega) (by omega) (by omega) (by omega) ?_
    refine A_aload_n dX7_holds_17 rfl rfl ?_
    refine A_iconst dX7_holds_18 ⟨by decide, by decide⟩ ?_
    refine A_iload_n dX7_holds_19 rfl rfl ?_
    refine A_inv2 dX7_holds_20 mv_X7_92 kCl_7 (Nat.le_of_ble_eq_true rfl) (by assumption) ?_
    refine C_gap hM hR (by omega) (by omega) hW.G (by omega) (by omega) ?_
    refine A_aload_n dX7_holds_23 rfl rfl ?_
    refine A_iconst dX7_holds_24 ⟨by decide, by decide⟩ ?_
    refine A_iload_n dX7_holds_25 rfl rfl ?_
    refine A_inv2 dX7_holds_26 mv_X7_166 kCl_7 (Nat.le_of_ble_eq_true rfl) (by assumption) ?_
    refine C_slower hM hR (by omega) (by omega) hW.G (fun c c1 c2 => (wc c c1 c2).2.2.1) (by omega) (by omega) ?_
    refine A_aload_n dX7_holds_29 rfl rfl ?_
    refine A_iconst dX7_holds_30 ⟨by decide, by decide⟩ ?_
    refine A_iload_n dX7_holds_31 rfl rfl ?_
    refine A_inv2 dX7_holds_32 mv_X7_95 kCl_7 (Nat.le_of_ble_eq_true rfl) (by assumption) ?_
    refine C_other hM hR (by omega) (by omega) hW.G (by omega) (by omega) ?_
    refine A_aload_n dX7_holds_35 rfl rfl ?_
    refine A_iconst dX7_holds_36 ⟨by decide, by decide⟩ ?_
    refine A_iload_n dX7_holds_37 rfl rfl ?_
    refine A_iconst dX7_holds_38 ⟨by decide, by decide⟩ ?_
    refine A_inv3 dX7_holds_39 mv_X7_57 kCl_7 (Nat.le_of_ble_eq_true rfl) (by assumption) ?_
    refine C_of hM hR (by omega) (by omega) (by omega) (by omega) (by omega) (by omega) ?_
    refine A_inv6 dX7_holds_42 mv_X7_169 kCl_7 (Nat.le_of_ble_eq_true rfl) (by assumption) ?_
    refine C_clause hM hR (by omega) (by omega) y4.1 y4.2 (wv _ y4.1 y4.2) y3.1 y3.2 (fun d2 g1 g2 g3 g4 => ?_)
    refine A_goto (tgt := 49) dX7_holds_45 (by decide) ?_
    refine A_iret dX7_holds_49 rfl ?_
    refine hK d2 (MC.rf.dec (fun a b1 b2 b3 b4 => g1 a b1 b4) g2) (fun i i1 i2 => by rw [g1 (m + 1) (by omega) (by omega)]; exact hR i i1 i2)
theorem C_wentAll {r who B : Int} (hM : MO G m) (hR : PZ d m r R) (h1 : 0 ≤ r) (h2 : r ≤ 4) (hW : WR R B) (hB : 0 ≤ B) (hB2 : B ≤ 200000) (hK : K (some (kI (wentS R who))) G d) : AM E mX7_wentAll (k + 1) 0 0 [kR m, kI r, kI who] G d K := by
  obtain ⟨ho, e0, a0, -⟩ := id hM
  have w2 := hW.2.2.1
  obtain ⟨N, hN⟩ : ∃ N : Nat, R 2 = N := ⟨(R 2).toNat, by omega⟩
  have eN : (R 2).toNat = N := by omega
  have z2 := hR 2 (by omega) (by omega)
  rw [hN] at z2
  have loop : ∀ (q j : Nat), N - j < q → j ≤ N → AW E mX7_wentAll (k + 1) 0 0 5 [some (kR m), some (kI r), some (kI who), some (kI (wenF R who j)), some (kI j)] [] G d K := by
    intro q
    induction q with
    | zero => intro j h; omega
    | succ q ih =>
      intro j hj hjN
      refine A_iload dX7_wentAll_5 rfl ?_
      refine A_aload_n dX7_wentAll_7 rfl rfl ?_
      refine A_getR (fi := 0) dX7_wentAll_8 fg_X7_7 rfl rfl (by assumption) (by assumption) ?_
      refine A_sipush dX7_wentAll_11 ⟨by decide, by decide⟩ rfl ?_
      refine A_iload_n dX7_wentAll_14 rfl rfl ?_
      refine A_imul_ok dX7_wentAll_15 (by omega) (by omega) ?_
      refine A_iconst dX7_wentAll_16 ⟨by decide, by decide⟩ ?_
      refine A_iadd_ok dX7_wentAll_17 (by omega) (by omega) ?_
      refine A_iald dX7_wentAll_18 (by assumption) (by omega) (by omega) ?_
      refine A_icmp_ge (tgt := 53) dX7_wentAll_19 (by decide) (fun c_19 => ?_) (fun c_19 => ?_)
      · have : j = N := by omega
        subst this
        refine A_iload_n dX7_wentAll_53 rfl rfl ?_
        refine A_iret dX7_wentAll_54 rfl ?_
        unfold wentS at hK
        rw [eN] at hK
        exact hK
      · have next := ih (j + 1) (by omega) (by omega)
        have g := wenF_rg (who := who) hW hB j (by omega)
        have wj := (hW.2.2.2.2.1 j (by omega) (by omega)).2.2.2.2.2.1
        have g2 : 9 * B * (j : Int) ≤ 9 * B * 12 := Int.mul_le_mul_of_nonneg_left (by omega) (by omega)
        have add : ∀ v : Int, 0 ≤ v → v ≤ 9 * B → v = (if who < 0 ∨ who = j then cfR R j 5 else 0) → AW E mX7_wentAll (k + 1) 0 0 45 [some (kR m), some (kI r), some (kI who), some (kI (wenF R who j)), some (kI j)] [kI v, kI (wenF R who j)] G d K := by
          intro v v0 v1 hv
          generalize hg : 9 * B * (j : Int) = gg at *
          refine A_iadd_ok dX7_wentAll_45 (by omega) (by omega) ?_
          refine A_istore_n dX7_wentAll_46 rfl (Nat.le_of_ble_eq_true rfl) rfl ?_
          refine A_iinc_ok dX7_wentAll_47 rfl rfl (by omega) (by omega) ?_
          refine A_goto (tgt := 5) dX7_wentAll_50 (by decide) ?_
          have e : wenF R who (j + 1) = wenF R who j + v := by simp only [wenF]; rw [hv]
          rw [e] at next
          exact next
        refine A_iload_n dX7_wentAll_22 rfl rfl ?_
        refine A_iload_n dX7_wentAll_23 rfl rfl ?_
        refine A_if_lt (tgt := 33) dX7_wentAll_24 (by decide) (fun c_24 => ?_) (fun c_24 => ?_)
        · refine A_aload_n dX7_wentAll_33 rfl rfl ?_
          refine A_iload_n dX7_wentAll_34 rfl rfl ?_
          refine A_iload dX7_wentAll_35 rfl ?_
          refine A_iconst dX7_wentAll_37 ⟨by decide, by decide⟩ ?_
          refine A_inv3 dX7_wentAll_38 mv_X7_57 kCl_7 (Nat.le_of_ble_eq_true rfl) (by assumption) ?_
          refine C_of hM hR (by omega) (by omega) (by omega) (by omega) (by omega) (by omega) ?_
          refine A_goto (tgt := 45) dX7_wentAll_41 (by decide) ?_
          exact add _ wj.1 wj.2 (by rw [if_pos (by omega)])
        · refine A_iload_n dX7_wentAll_27 rfl rfl ?_
          refine A_iload dX7_wentAll_28 rfl ?_
          refine A_icmp_ne (tgt := 44) dX7_wentAll_30 (by decide) (fun c_30 => ?_) (fun c_30 => ?_)
          · refine A_iconst dX7_wentAll_44 ⟨by decide, by decide⟩ ?_
            exact add _ (by omega) (by omega) (by rw [if_neg (by omega)])
          · refine A_aload_n dX7_wentAll_33 rfl rfl ?_
            refine A_iload_n dX7_wentAll_34 rfl rfl ?_
            refine A_iload dX7_wentAll_35 rfl ?_
            refine A_iconst dX7_wentAll_37 ⟨by decide, by decide⟩ ?_
            refine A_inv3 dX7_wentAll_38 mv_X7_57 kCl_7 (Nat.le_of_ble_eq_true rfl) (by assumption) ?_
            refine C_of hM hR (by omega) (by omega) (by omega) (by omega) (by omega) (by omega) ?_
            refine A_goto (tgt := 45) dX7_wentAll_41 (by decide) ?_
            exact add _ wj.1 wj.2 (by rw [if_pos (by omega)])
  refine AM.of rfl (Nat.le_of_ble_eq_true rfl) ?_
  refine A_iconst dX7_wentAll_0 ⟨by decide, by decide⟩ ?_
  refine A_istore_n dX7_wentAll_1 rfl (Nat.le_of_ble_eq_true rfl) rfl ?_
  refine A_iconst dX7_wentAll_2 ⟨by decide, by decide⟩ ?_
  refine A_istore dX7_wentAll_3 (Nat.le_of_ble_eq_true rfl) rfl ?_
  exact loop (N + 1) 0 (by omega) (by omega)
theorem C_cost {car n who B : Int} (hM : MO G m) (hR : PZ d m 0 R) (hW : WR R B) (hB : 0 ≤ B) (hB2 : B ≤ 100000) (hK : ∀ d', MF d d' m → K (some (kI (costA R car n who))) G d') : AM E mX7_cost (k + 8) 0 0 [kR m, kI car, kI n, kI who] G d K := by
  obtain ⟨ho, e0, a0, -⟩ := id hM
  have z2 := hR.z 2 (by omega) (by omega)
  have w2 := hW.2.2.1
  have bad : ¬ ((0 ≤ car ∧ car < R 2) ∧ (1 ≤ n ∧ n ≤ 200) ∧ (who = -1 ∨ (0 ≤ who ∧ who < R 2))) → AW E mX7_cost (k + 8) 0 0 33 [some (kR m), some (kI car), some (kI n), some (kI who), none] [] G d K := by
    intro hb
    refine A_ldc (x := -100001) dX7_cost_33 cs_X7_218 rfl ⟨by decide, by decide⟩ ?_
    refine A_iret dX7_cost_35 rfl ?_
    unfold costA at hK
    rw [if_pos hb] at hK
    exact hK d MF.rf
  have good : ((0 ≤ car ∧ car < R 2) ∧ (1 ≤ n ∧ n ≤ 200) ∧ (who = -1 ∨ (0 ≤ who ∧ who < R 2))) → AW E mX7_cost (k + 8) 0 0 36 [some (kR m), some (kI car), some (kI n), some (kI who), none] [] G d K := by
    intro hg
    unfold costA at hK
    rw [if_neg (fun z => z hg)] at hK
    obtain ⟨g1, g2, g3⟩ := hg
    obtain ⟨N, hN⟩ : ∃ N : Nat, n = N := ⟨n.toNat, by omega⟩
    rw [show n.toNat = N by omega] at hK
    have W0 := hW.tp (v := 0) g1.1 g1.2 (Or.inl rfl)
    have W1 := hW.tp (v := 1) g1.1 g1.2 (Or.inr rfl)
    have loop : ∀ (q j : Nat), N - j < q → j ≤ N → ∀ d', MF d d' m → PZ d' m 1 (tkN (fU R (340 + 24 * car + 7) 1) j) → PZ d' m 2 (tkN (fU R (340 + 24 * car + 7) 0) j) → AW E mX7_cost (k + 8) 0 0 77 [some (kR m), some (kI car), some (kI n), some (kI who), some (kI j)] [] G d' K := by
      intro q
      induction q with
      | zero => intro j h; omega
      | succ q ih =>
        intro j hj hjN d' hc y1 y2
        have T1 := tkN_W W1 hB j
        have T0 := tkN_W W0 hB j
        refine A_iload dX7_cost_77 rfl ?_
        refine A_iload_n dX7_cost_79 rfl rfl ?_
        refine A_icmp_ge (tgt := 99) dX7_cost_80 (by decide) (fun c_80 => ?_) (fun c_80 => ?_)
        · have : j = N := by omega
          subst this
          have r1 := wentS_rg (who := who) T1 (by omega)
          have r0 := wentS_rg (who := who) T0 (by omega)
          refine A_aload_n dX7_cost_99 rfl rfl ?_
          refine A_iconst dX7_cost_100 ⟨by decide, by decide⟩ ?_
          refine A_iload_n dX7_cost_101 rfl rfl ?_
          refine A_inv2 dX7_cost_102 mv_X7_222 kCl_7 (Nat.le_of_ble_eq_true rfl) (by assumption) ?_
          refine C_wentAll hM y2 (by omega) (by omega) T0 (by omega) (by omega) ?_
          refine A_aload_n dX7_cost_105 rfl rfl ?_
          refine A_iconst dX7_cost_106 ⟨by decide, by decide⟩ ?_
          refine A_iload_n dX7_cost_107 rfl rfl ?_
          refine A_inv2 dX7_cost_108 mv_X7_222 kCl_7 (Nat.le_of_ble_eq_true rfl) (by assumption) ?_
          refine C_wentAll hM y1 (by omega) (by omega) T1 (by omega) (by omega) ?_
          refine A_isub_ok dX7_cost_111 (by omega) (by omega) ?_
          refine A_iret dX7_cost_112 rfl ?_
          exact hK d' hc
        · refine A_aload_n dX7_cost_83 rfl rfl ?_
          refine A_iconst dX7_cost_84 ⟨by decide, by decide⟩ ?_
          refine A_inv1 dX7_cost_85 mv_X7_200 kCl_7 (Nat.le_of_ble_eq_true rfl) (by assumption) ?_
          refine C_tick hM y1 (by omega) (by omega) T1 (by omega) (by omega) (fun d2 m2 p2 => ?_)
          refine A_aload_n dX7_cost_88 rfl rfl ?_
          refine A_iconst dX7_cost_89 ⟨by decide, by decide⟩ ?_
          refine A_inv1 dX7_cost_90 mv_X7_200 kCl_7 (Nat.le_of_ble_eq_true rfl) (by assumption) ?_
          refine C_tick hM (m2.PZ (by omega) y2) (by omega) (by omega) T0 (by omega) (by omega) (fun d3 m3 p3 => ?_)
          refine A_iinc_ok dX7_cost_93 rfl rfl (by omega) (by omega) ?_
          refine A_goto (tgt := 77) dX7_cost_96 (by decide) ?_
          exact ih (j + 1) (by omega) (by omega) d3 ((hc.mc m2 (by omega) (by omega)).mc m3 (by omega) (by omega)) (m3.PZ (by omega) p2) p3
    refine A_aload_n dX7_cost_36 rfl rfl ?_
    refine A_iconst dX7_cost_37 ⟨by decide, by decide⟩ ?_
    refine A_iconst dX7_cost_38 ⟨by decide, by decide⟩ ?_
    refine A_inv2 dX7_cost_39 mv_X7_219 kCl_7 (Nat.le_of_ble_eq_true rfl) (by assumption) ?_
    refine C_copyRing hM (by omega) (by omega) (by omega) (by omega) (by omega) ?_
    refine A_aload_n dX7_cost_42 rfl rfl ?_
    refine A_iconst dX7_cost_43 ⟨by decide, by decide⟩ ?_
    refine A_iconst dX7_cost_44 ⟨by decide, by decide⟩ ?_
    refine A_inv2 dX7_cost_45 mv_X7_219 kCl_7 (Nat.le_of_ble_eq_true rfl) (by assumption) ?_
    refine C_copyRing hM (by omega) (by omega) (by omega) (by omega) (by omega) ?_
    refine A_aload_n dX7_cost_48 rfl rfl ?_
    refine A_getR (fi := 0) dX7_cost_49 fg_X7_7 rfl rfl (by assumption) (by assumption) ?_
    refine A_iconst dX7_cost_52 ⟨by decide, by decide⟩ ?_
    refine A_iload_n dX7_cost_53 rfl rfl ?_
    refine A_bipush dX7_cost_54 ⟨by decide, by decide⟩ rfl ?_
    refine A_ins3 dX7_cost_56 ms_X7_74 (Nat.le_of_ble_eq_true rfl) ?_
    refine C_at (by omega) (by omega) (by omega) (by omega) (by omega) (by omega) ?_
    refine A_iconst dX7_cost_59 ⟨by decide, by decide⟩ ?_
    refine A_iast dX7_cost_60 (by assumption) (by omega) (by omega) ?_
    refine A_aload_n dX7_cost_61 rfl rfl ?_
    refine A_getR (fi := 0) dX7_cost_62 fg_X7_7 rfl rfl (by assumption) (by assumption) ?_
    refine A_iconst dX7_cost_65 ⟨by decide, by decide⟩ ?_
    refine A_iload_n dX7_cost_66 rfl rfl ?_
    refine A_bipush dX7_cost_67 ⟨by decide, by decide⟩ rfl ?_
    refine A_ins3 dX7_cost_69 ms_X7_74 (Nat.le_of_ble_eq_true rfl) ?_
    refine C_at (by omega) (by omega) (by omega) (by omega) (by omega) (by omega) ?_
    refine A_iconst dX7_cost_72 ⟨by decide, by decide⟩ ?_
    refine A_iast dX7_cost_73 (by assumption) (by omega) (by omega) ?_
    refine A_iconst dX7_cost_74 ⟨by decide, by decide⟩ ?_
    refine A_istore dX7_cost_75 (Nat.le_of_ble_eq_true rfl) rfl ?_
    have p0 := cpR_ne (to := 1) (fr := 0) (show (0 : Int) ≠ 1 by decide) hR
    have p1 := cpR_ne (to := 2) (fr := 0) (show (1 : Int) ≠ 2 by decide) (cpR_to (to := 1) hR)
    have p2 := cpR_to (to := 2) p0
    refine loop (N + 1) 0 (by omega) (by omega) _ ((((MF.rf.cp (by omega) (by omega)).cp (by omega) (by omega)).z (by omega) (by omega)).z (by omega) (by omega)) ?_ ?_
    · exact (p1.u (by omega)).u_ne (r := 0) (by omega)
    · exact (p2.u_ne (r := 0) (by omega)).u (by omega)
  refine AM.of rfl (Nat.le_of_ble_eq_true rfl) ?_
  refine A_aload_n dX7_cost_0 rfl rfl ?_
  refine A_iload_n dX7_cost_1 rfl rfl ?_
  refine A_inv1 dX7_cost_2 mv_X7_84 kCl_7 (Nat.le_of_ble_eq_true rfl) (by assumption) ?_
  refine C_isCar hM (by omega) (by omega) ?_
  rw [z2]
  refine A_if_eq (tgt := 33) dX7_cost_5 (by decide) (fun c_5 => ?_) (fun c_5 => ?_)
  · replace c_5 := i01e c_5
    exact bad (by omega)
  · replace c_5 := i01n c_5
    refine A_iload_n dX7_cost_8 rfl rfl ?_
    refine A_i2l dX7_cost_9 ?_
    refine A_lconst (x := 1) dX7_cost_10 ⟨by decide, by decide⟩ rfl ?_
    refine A_ldc2 (x := 200) dX7_cost_11 cs_X7_197 rfl ⟨by decide, by decide⟩ ?_
    refine A_ins3 dX7_cost_14 ms_X7_53 (Nat.le_of_ble_eq_true rfl) ?_
    refine C_in ?_
    refine A_if_eq (tgt := 33) dX7_cost_17 (by decide) (fun c_17 => ?_) (fun c_17 => ?_)
    · replace c_17 := i01e c_17
      exact bad (by omega)
    · replace c_17 := i01n c_17
      refine A_iload_n dX7_cost_20 rfl rfl ?_
      refine A_iconst dX7_cost_21 ⟨by decide, by decide⟩ ?_
      refine A_icmp_eq (tgt := 36) dX7_cost_22 (by decide) (fun c_22 => ?_) (fun c_22 => ?_)
      · skip
        exact good (by omega)
      · refine A_aload_n dX7_cost_25 rfl rfl ?_
        refine A_iload_n dX7_cost_26 rfl rfl ?_
        refine A_inv1 dX7_cost_27 mv_X7_84 kCl_7 (Nat.le_of_ble_eq_true rfl) (by assumption) ?_
        refine C_isCar hM (by omega) (by omega) ?_
        rw [z2]
        refine A_if_ne (tgt := 36) dX7_cost_30 (by decide) (fun c_30 => ?_) (fun c_30 => ?_)
        · replace c_30 := i01n c_30
          exact good (by omega)
        · replace c_30 := i01e c_30
          exact bad (by omega)
end F1
