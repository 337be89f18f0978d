/-! the model's own cells: the object at m, its arrays behind it -/
def MO (G : HG) (m : Nat) : Prop := isO G m 7 ∧ G.2.2 m 0 = m + 1 ∧ isA G (m + 1) 8 3200 ∧ G.2.2 m 1 = m + 2 ∧ isA G (m + 2) 9 2 ∧ G.2.2 m 2 = m + 3 ∧ isA G (m + 3) 8 100 ∧ G.2.2 m 4 = m + 4 ∧ isA G (m + 4) 8 144 ∧ G.2.2 m 5 = m + 5 ∧ isA G (m + 5) 8 4 ∧ G.2.2 m 6 = m + 6 ∧ isA G (m + 6) 8 4 ∧ G.2.2 m 7 = m + 7 ∧ isA G (m + 7) 8 36 ∧ G.2.2 m 8 = m + 8 ∧ isA G (m + 8) 8 12 ∧ G.2.2 m 9 = m + 9 ∧ isA G (m + 9) 9 12 ∧ G.2.2 m 13 = m + 10 ∧ isA G (m + 10) 9 5 ∧ G.2.2 m 14 = m + 11 ∧ isA G (m + 11) 9 5 ∧ G.2.2 m 15 = m + 12 ∧ isA G (m + 12) 9 5 ∧ G.2.2 m 18 = m + 13 ∧ isA G (m + 13) 8 12 ∧ G.2.2 m 19 = m + 14 ∧ isA G (m + 14) 8 12
/-- ring r of the model's z holds the picture R -/
def PZ (d : HD) (m : Nat) (r : Int) (R : Int → Int) : Prop := ∀ k, 0 ≤ k → k < 640 → d (m + 1) (640 * r + k) = R k
def cfR (R : Int → Int) (c w : Int) : Int := R (340 + 24 * c + w)
def onS (n a b : Int) : Int := (b - a + n) % n
theorem kRem_pos {x y : Int} (hx : 0 ≤ x) (hx2 : x ≤ 2147483647) (hy : 0 < y) (hy2 : y ≤ 2147483647) : kRem x y = x % y := by
  have ex : x = ((x.toNat : Nat) : Int) := by omega
  have ey : y = ((y.toNat : Nat) : Int) := by omega
  have hi : ∀ n : Nat, Int32.ofInt (n : Int) = nI n := fun n => Int32.ofInt_eq_ofNat
  unfold kRem
  rw [ex, ey, hi, hi, pk_rem (by omega) (by omega) (by omega), nI_toInt (by have := Nat.mod_lt x.toNat (show y.toNat > 0 by omega); omega)]
  omega
theorem kDiv_pos {x y : Int} (hx : 0 ≤ x) (hx2 : x ≤ 2147483647) (hy : 0 < y) (hy2 : y ≤ 2147483647) : kDiv x y = x / y := by
  have ex : x = ((x.toNat : Nat) : Int) := by omega
  have ey : y = ((y.toNat : Nat) : Int) := by omega
  have hi : ∀ n : Nat, Int32.ofInt (n : Int) = nI n := fun n => Int32.ofInt_eq_ofNat
  unfold kDiv
  rw [ex, ey, hi, hi, pk_div (by omega) (by omega) (by omega), nI_toInt (by have := Nat.div_le_self x.toNat y.toNat; omega)]
  omega
theorem up_nat {P : Nat → Prop} {N : Nat} (hN : P N) (hs : ∀ j, j < N → P (j + 1) → P j) {j : Nat} (hj : j ≤ N) : P j := by
  have key : ∀ (n j : Nat), j ≤ N → N - j = n → P j := by
    intro n
    induction n with
    | zero => intro j h1 h2; have : j = N := by omega
              rw [this]; exact hN
    | succ n ih => intro j h1 h2; exact hs j (by omega) (ih (j + 1) (by omega) (by omega))
  exact key _ j hj rfl
theorem AW.nmS2 {E : EE} {mi : MI} {k bc bs pc : Nat} {L : List (Option AV)} {S : List AV} {G : HG} {d : HD} {Q : PQ} {x y : Int} (h : kN y → kN x → AW E mi k bc bs pc L (kI y :: kI x :: S) G d Q) : AW E mi k bc bs pc L (kI y :: kI x :: S) G d Q := by
  intro p e s m args below meth c H locs cells slots mc ms ls C hH hS hB hL hn hv h1 h2
  exact h (kvh hv) (kvh (kvt hv)) p e s m args below meth c H locs cells slots mc ms ls C hH hS hB hL hn hv h1 h2
theorem A_idiv_p {E : EE} {mi : MI} {k bc bs pc : Nat} {L : List (Option AV)} {S : List AV} {G : HG} {d : HD} {Q : PQ} {x y : Int} (hd : decode mi.2.1 pc = .ok (.idiv, 1)) (h1 : 0 ≤ x) (h2 : 0 < y) (K : AW E mi k bc bs (pc + 1) L (kI (x / y) :: S) G d Q) : AW E mi k bc bs pc L (kI y :: kI x :: S) G d Q :=
  AW.nmS2 fun hy hx => A_idiv hd (by omega) (by rw [kDiv_pos h1 hx.2 h2 hy.2]; exact K)
theorem A_irem_p {E : EE} {mi : MI} {k bc bs pc : Nat} {L : List (Option AV)} {S : List AV} {G : HG} {d : HD} {Q : PQ} {x y : Int} (hd : decode mi.2.1 pc = .ok (.irem, 1)) (h1 : 0 ≤ x) (h2 : 0 < y) (K : AW E mi k bc bs (pc + 1) L (kI (x % y) :: S) G d Q) : AW E mi k bc bs pc L (kI y :: kI x :: S) G d Q :=
  AW.nmS2 fun hy hx => A_irem hd (by omega) (by rw [kRem_pos h1 hx.2 h2 hy.2]; exact K)
section M1
variable {E : EE} {k m : Nat} {G : HG} {d : HD} {K : PQ}
theorem C_in {v lo hi : Int} (hK : K (some (kI (if lo ≤ v ∧ v ≤ hi then 1 else 0))) G d) : AM E mX7_in k 0 0 [kJ v, kJ lo, kJ hi] G d K := by
  have key : ∀ x y : Int, ((if x < y then -1 else if x = y then 0 else 1) < (0 : Int) ↔ x < y) ∧ (0 < (if x < y then -1 else if x = y then 0 else (1 : Int)) ↔ y < x) := by
    intro x y
    refine ⟨?_, ?_⟩
    · split
      · omega
      · split <;> omega
    · split
      · omega
      · split <;> omega
  refine AM.of rfl (Nat.le_of_ble_eq_true rfl) ?_
  refine A_lload_n dX7_in_0 rfl rfl ?_
  refine A_lload_n dX7_in_1 rfl rfl ?_
  refine A_lcmp dX7_in_2 ?_
  refine A_if_lt (tgt := 17) dX7_in_3 (by decide) (fun c_3 => ?_) (fun c_3 => ?_)
  · refine A_iconst dX7_in_17 ⟨by decide, by decide⟩ ?_
    refine A_zret dX7_in_18 rfl (by first | exact Or.inl rfl | exact Or.inr rfl | assumption | omega) ?_
    have h := (key v lo).1.mp c_3
    rw [if_neg (by omega)] at hK
    exact hK
  · refine A_lload_n dX7_in_6 rfl rfl ?_
    refine A_lload dX7_in_7 rfl ?_
    refine A_lcmp dX7_in_9 ?_
    refine A_if_gt (tgt := 17) dX7_in_10 (by decide) (fun c_10 => ?_) (fun c_10 => ?_)
    have h : ¬ v < lo := fun q => by have := (key v lo).1.mpr q; omega
    · refine A_iconst dX7_in_17 ⟨by decide, by decide⟩ ?_
      refine A_zret dX7_in_18 rfl (by first | exact Or.inl rfl | exact Or.inr rfl | assumption | omega) ?_
      have h2 := (key v hi).2.mp c_10
      rw [if_neg (by omega)] at hK
      exact hK
    · refine A_iconst dX7_in_13 ⟨by decide, by decide⟩ ?_
      refine A_goto (tgt := 18) dX7_in_14 (by decide) ?_
      refine A_zret dX7_in_18 rfl (by first | exact Or.inl rfl | exact Or.inr rfl | assumption | omega) ?_
      have h2 : ¬ hi < v := fun q => by have := (key v hi).2.mpr q; omega
      rw [if_pos (by omega)] at hK
      exact hK
theorem C_at {r c w : Int} (h1 : 0 ≤ r) (h2 : r ≤ 4) (h3 : 0 ≤ c) (h4 : c ≤ 12) (h5 : 0 ≤ w) (h6 : w ≤ 24) (hK : K (some (kI (640 * r + 340 + 24 * c + w))) G d) : AM E mX7_at k 0 0 [kI r, kI c, kI w] G d K := by
  refine AM.of rfl (Nat.le_of_ble_eq_true rfl) ?_
  refine A_sipush dX7_at_0 ⟨by decide, by decide⟩ rfl ?_
  refine A_iload_n dX7_at_3 rfl rfl ?_
  refine A_imul_ok dX7_at_4 (by omega) (by omega) ?_
  refine A_sipush dX7_at_5 ⟨by decide, by decide⟩ rfl ?_
  refine A_iadd_ok dX7_at_8 (by omega) (by omega) ?_
  refine A_bipush dX7_at_9 ⟨by decide, by decide⟩ rfl ?_
  refine A_iload_n dX7_at_11 rfl rfl ?_
  refine A_imul_ok dX7_at_12 (by omega) (by omega) ?_
  refine A_iadd_ok dX7_at_13 (by omega) (by omega) ?_
  refine A_iload_n dX7_at_14 rfl rfl ?_
  refine A_iadd_ok dX7_at_15 (by omega) (by omega) ?_
  refine A_iret dX7_at_16 rfl ?_
  exact hK
theorem C_of {r c w : Int} {R : Int → Int} (hM : MO G m) (hR : PZ d m r R) (h1 : 0 ≤ r) (h2 : r ≤ 4) (h3 : 0 ≤ c) (h4 : c < 12) (h5 : 0 ≤ w) (h6 : w < 24) (hK : K (some (kI (cfR R c w))) G d) : AM E mX7_of k 0 0 [kR m, kI r, kI c, kI w] G d K := by
  obtain ⟨ho, e0, a0, -⟩ := hM
  refine AM.of rfl (Nat.le_of_ble_eq_true rfl) ?_
  refine A_aload_n dX7_of_0 rfl rfl ?_
  refine A_getR (fi := 0) dX7_of_1 fg_X7_7 rfl rfl (by assumption) (by assumption) ?_
  refine A_sipush dX7_of_4 ⟨by decide, by decide⟩ rfl ?_
  refine A_iload_n dX7_of_7 rfl rfl ?_
  refine A_imul_ok dX7_of_8 (by omega) (by omega) ?_
  refine A_sipush dX7_of_9 ⟨by decide, by decide⟩ rfl ?_
  refine A_iadd_ok dX7_of_12 (by omega) (by omega) ?_
  refine A_bipush dX7_of_13 ⟨by decide, by decide⟩ rfl ?_
  refine A_iload_n dX7_of_15 rfl rfl ?_
  refine A_imul_ok dX7_of_16 (by omega) (by omega) ?_
  refine A_iadd_ok dX7_of_17 (by omega) (by omega) ?_
  refine A_iload_n dX7_of_18 rfl rfl ?_
  refine A_iadd_ok dX7_of_19 (by omega) (by omega) ?_
  refine A_iald dX7_of_20 (by assumption) (by omega) (by omega) ?_
  refine A_iret dX7_of_21 rfl ?_
  have e := hR (340 + 24 * c + w) (by omega) (by omega)
  rw [show 640 * r + 340 + 24 * c + w = 640 * r + (340 + 24 * c + w) by omega, e]
  exact hK
theorem C_isCar {x : Int} (hM : MO G m) (h1 : 0 ≤ d (m + 1) 2) (h2 : d (m + 1) 2 ≤ 12) (hK : K (some (kI (if 0 ≤ x ∧ x < d (m + 1) 2 then 1 else 0))) G d) : AM E mX7_isCar (k + 1) 0 0 [kR m, kI x] G d K := by
  obtain ⟨ho, e0, a0, -⟩ := hM
  refine AM.of rfl (Nat.le_of_ble_eq_true rfl) ?_
  refine A_iload_n dX7_isCar_0 rfl rfl ?_
  refine A_i2l dX7_isCar_1 ?_
  refine A_lconst (x := 0) dX7_isCar_2 ⟨by decide, by decide⟩ rfl ?_
  refine A_aload_n dX7_isCar_3 rfl rfl ?_
  refine A_getR (fi := 0) dX7_isCar_4 fg_X7_7 rfl rfl (by assumption) (by assumption) ?_
  refine A_iconst dX7_isCar_7 ⟨by decide, by decide⟩ ?_
  refine A_iald dX7_isCar_8 (by assumption) (by omega) (by omega) ?_
  refine A_iconst dX7_isCar_9 ⟨by decide, by decide⟩ ?_
  refine A_isub_ok dX7_isCar_10 (by omega) (by omega) ?_
  refine A_i2l dX7_isCar_11 ?_
  refine A_ins3 dX7_isCar_12 ms_X7_53 (Nat.le_of_ble_eq_true rfl) ?_
  refine C_in ?_
  refine A_zret dX7_isCar_15 rfl (by first | exact Or.inl rfl | exact Or.inr rfl | assumption | omega) ?_
  have e : (0 ≤ x ∧ x ≤ d (m + 1) 2 - 1) ↔ (0 ≤ x ∧ x < d (m + 1) 2) := by omega
  simp only [e]
  exact hK
theorem C_on {r a b : Int} {R : Int → Int} (hM : MO G m) (hR : PZ d m r R) (h1 : 0 ≤ r) (h2 : r ≤ 4) (hn : 12 ≤ R 0) (hn2 : R 0 ≤ 99) (ha : 0 ≤ a) (ha2 : a < R 0) (hb : 0 ≤ b) (hb2 : b < R 0) (hK : K (some (kI (onS (R 0) a b))) G d) : AM E mX7_on k 0 0 [kR m, kI r, kI a, kI b] G d K := by
  obtain ⟨ho, e0, a0, -⟩ := hM
  have e := hR 0 (by omega) (by omega)
  refine AM.of rfl (Nat.le_of_ble_eq_true rfl) ?_
  refine A_aload_n dX7_on_0 rfl rfl ?_
  refine A_getR (fi := 0) dX7_on_1 fg_X7_7 rfl rfl (by assumption) (by assumption) ?_
  refine A_sipush dX7_on_4 ⟨by decide, by decide⟩ rfl ?_
  refine A_iload_n dX7_on_7 rfl rfl ?_
  refine A_imul_ok dX7_on_8 (by omega) (by omega) ?_
  refine A_iconst dX7_on_9 ⟨by decide, by decide⟩ ?_
  refine A_iadd_ok dX7_on_10 (by omega) (by omega) ?_
  refine A_iald dX7_on_11 (by assumption) (by omega) (by omega) ?_
  refine A_istore dX7_on_12 (Nat.le_of_ble_eq_true rfl) rfl ?_
  refine A_iload_n dX7_on_14 rfl rfl ?_
  refine A_iload_n dX7_on_15 rfl rfl ?_
  refine A_isub_ok dX7_on_16 (by omega) (by omega) ?_
  refine A_iload dX7_on_17 rfl ?_
  refine A_iadd_ok dX7_on_19 (by omega) (by omega) ?_
  refine A_iload dX7_on_20 rfl ?_
  refine A_irem_p dX7_on_22 (by omega) (by omega) ?_
  refine A_iret dX7_on_23 rfl ?_
  rw [e]
  exact hK
end M1
