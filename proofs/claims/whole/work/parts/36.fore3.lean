def rndF (R : Int → Int) : Nat → Nat → Int
  | 0, _ => -4
  | f + 1, t => if samS R (tkN R t) ≠ 0 then t else rndF R f (t + 1)
def roundA (R : Int → Int) (n : Int) : Int := if ¬ (1 ≤ n ∧ n ≤ 500) then -1 else rndF R n.toNat 1
def evsF (R : Int → Int) : Nat → Nat → Int
  | 0, _ => -4
  | f + 1, t => if evnS (tkN R t) ≠ 0 then t else evsF R f (t + 1)
def evensA (R : Int → Int) (n : Int) : Int := if ¬ (0 ≤ n ∧ n ≤ 500) then -1 else evsF R (n.toNat + 1) 0
section F4
variable {E : EE} {k m : Nat} {G : HG} {d : HD} {K : PQ} {R : Int → Int}
theorem C_round {n B : Int} (hM : MO G m) (hR : PZ d m 0 R) (hW : WR R B) (hB : 0 ≤ B) (hB2 : B ≤ 100000) (hK : ∀ d', MF d d' m → K (some (kI (roundA R n))) G d') : AM E mX7_round (k + 8) 0 0 [kR m, kI n] G d K := by
  obtain ⟨ho, e0, a0, -⟩ := id hM
  unfold roundA at hK
  refine AM.of rfl (Nat.le_of_ble_eq_true rfl) ?_
  refine A_iload_n dX7_round_0 rfl rfl ?_
  refine A_i2l dX7_round_1 ?_
  refine A_lconst (x := 1) dX7_round_2 ⟨by decide, by decide⟩ rfl ?_
  refine A_ldc2 (x := 500) dX7_round_3 cs_X7_232 rfl ⟨by decide, by decide⟩ ?_
  refine A_ins3 dX7_round_6 ms_X7_53 (Nat.le_of_ble_eq_true rfl) ?_
  refine C_in ?_
  refine A_if_ne (tgt := 14) dX7_round_9 (by decide) (fun c_9 => ?_) (fun c_9 => ?_)
  · rw [if_neg (by omega)] at hK
    obtain ⟨N, hN⟩ : ∃ N : Nat, n = N := ⟨n.toNat, by omega⟩
    rw [show n.toNat = N by omega] at hK
    have loop : ∀ (f j : Nat), j + f = N → rndF R f (j + 1) = rndF R N 1 → ∀ d', MF d d' m → PZ d' m 1 (tkN R j) → AW E mX7_round (k + 8) 0 0 22 [some (kR m), some (kI n), some (kI ((j + 1 : Nat) : Int))] [] G d' K := by
      intro f
      induction f with
      | zero =>
        intro j hj he d' hc hz
        refine A_iload_n dX7_round_22 rfl rfl ?_
        refine A_iload_n dX7_round_23 rfl rfl ?_
        refine A_icmp_gt (tgt := 47) dX7_round_24 (by decide) (fun c_24 => ?_) (fun c_24 => absurd c_24 (by omega))
        refine A_bipush dX7_round_47 ⟨by decide, by decide⟩ rfl ?_
        refine A_iret dX7_round_49 rfl ?_
        simp only [rndF] at he
        rw [← he] at hK
        exact hK d' hc
      | succ f ih =>
        intro j hj he d' hc hz
        simp only [rndF] at he
        have T := tkN_W hW hB j
        have T1 := tkN_W hW hB (j + 1)
        refine A_iload_n dX7_round_22 rfl rfl ?_
        refine A_iload_n dX7_round_23 rfl rfl ?_
        refine A_icmp_gt (tgt := 47) dX7_round_24 (by decide) (fun c_24 => absurd c_24 (by omega)) (fun c_24 => ?_)
        refine A_aload_n dX7_round_27 rfl rfl ?_
        refine A_iconst dX7_round_28 ⟨by decide, by decide⟩ ?_
        refine A_inv1 dX7_round_29 mv_X7_200 kCl_7 (Nat.le_of_ble_eq_true rfl) (by assumption) ?_
        refine C_tick hM hz (by omega) (by omega) T (by omega) (by omega) (fun d2 m2 p2 => ?_)
        have hR2 : PZ d2 m 0 R := m2.PZ (by omega) (hc.PZ (by omega) hR)
        refine A_aload_n dX7_round_32 rfl rfl ?_
        refine A_inv0 dX7_round_33 mv_X7_234 kCl_7 (Nat.le_of_ble_eq_true rfl) (by assumption) ?_
        refine C_isSame hM hR2 (S := tkN R (j + 1)) p2 hW.2.2.1.1 hW.2.2.1.2 (fun c c1 c2 => ⟨(hW.2.2.2.2.1 c c1 c2).2.2.2.2.1, (hW.2.2.2.2.1 c c1 c2).2.2.2.2.2.2.2.2.1, (T1.2.2.2.2.1 c c1 (by rw [tkN_2 hW hB]; exact c2)).2.2.2.2.2.2.2.2.1⟩) ?_
        refine A_if_eq (tgt := 41) dX7_round_36 (by decide) (fun c_36 => ?_) (fun c_36 => ?_)
        · refine A_iinc_ok dX7_round_41 rfl rfl (by omega) (by omega) ?_
          refine A_goto (tgt := 22) dX7_round_44 (by decide) ?_
          rw [if_neg (by omega)] at he
          exact ih (j + 1) (by omega) he d2 (hc.mc m2 (by omega) (by omega)) p2
        · refine A_iload_n dX7_round_39 rfl rfl ?_
          refine A_iret dX7_round_40 rfl ?_
          rw [if_pos c_36] at he
          rw [← he] at hK
          exact hK d2 (hc.mc m2 (by omega) (by omega))
    replace c_9 := i01n c_9
    refine A_aload_n dX7_round_14 rfl rfl ?_
    refine A_iconst dX7_round_15 ⟨by decide, by decide⟩ ?_
    refine A_iconst dX7_round_16 ⟨by decide, by decide⟩ ?_
    refine A_inv2 dX7_round_17 mv_X7_219 kCl_7 (Nat.le_of_ble_eq_true rfl) (by assumption) ?_
    refine C_copyRing hM (by omega) (by omega) (by omega) (by omega) (by omega) ?_
    refine A_iconst dX7_round_20 ⟨by decide, by decide⟩ ?_
    refine A_istore_n dX7_round_21 rfl (Nat.le_of_ble_eq_true rfl) rfl ?_
    exact loop N 0 (by omega) rfl _ (MF.rf.cp (by omega) (by omega)) (cpR_to hR)
  · rw [if_pos (by omega)] at hK
    replace c_9 := i01e c_9
    refine A_iconst dX7_round_12 ⟨by decide, by decide⟩ ?_
    refine A_iret dX7_round_13 rfl ?_
    exact hK d MF.rf
theorem C_evens {n B : Int} (hM : MO G m) (hR : PZ d m 0 R) (hW : WR R B) (hB : 0 ≤ B) (hB2 : B ≤ 100000) (hK : ∀ d', MF d d' m → K (some (kI (evensA R n))) G d') : AM E mX7_evens (k + 8) 0 0 [kR m, kI n] G d K := by
  obtain ⟨ho, e0, a0, -⟩ := id hM
  unfold evensA at hK
  refine AM.of rfl (Nat.le_of_ble_eq_true rfl) ?_
  refine A_iload_n dX7_evens_0 rfl rfl ?_
  refine A_i2l dX7_evens_1 ?_
  refine A_lconst (x := 0) dX7_evens_2 ⟨by decide, by decide⟩ rfl ?_
  refine A_ldc2 (x := 500) dX7_evens_3 cs_X7_232 rfl ⟨by decide, by decide⟩ ?_
  refine A_ins3 dX7_evens_6 ms_X7_53 (Nat.le_of_ble_eq_true rfl) ?_
  refine C_in ?_
  refine A_if_ne (tgt := 14) dX7_evens_9 (by decide) (fun c_9 => ?_) (fun c_9 => ?_)
  · rw [if_neg (by omega)] at hK
    obtain ⟨N, hN⟩ : ∃ N : Nat, n = N := ⟨n.toNat, by omega⟩
    rw [show n.toNat = N by omega] at hK
    generalize hv : evsF R (N + 1) 0 = v at *
    have loop : ∀ (f j : Nat), j + f = N + 1 → evsF R f j = v → ∀ d', MF d d' m → PZ d' m 1 (tkN R j) → AW E mX7_evens (k + 8) 0 0 22 [some (kR m), some (kI n), some (kI j)] [] G d' K := by
      intro f
      induction f with
      | zero =>
        intro j hj he d' hc hz
        refine A_iload_n dX7_evens_22 rfl rfl ?_
        refine A_iload_n dX7_evens_23 rfl rfl ?_
        refine A_icmp_gt (tgt := 48) dX7_evens_24 (by decide) (fun c_24 => ?_) (fun c_24 => absurd c_24 (by omega))
        refine A_bipush dX7_evens_48 ⟨by decide, by decide⟩ rfl ?_
        refine A_iret dX7_evens_50 rfl ?_
        simp only [evsF] at he
        rw [← he] at hK
        exact hK d' hc
      | succ f ih =>
        intro j hj he d' hc hz
        simp only [evsF] at he
        have T := tkN_W hW hB j
        refine A_iload_n dX7_evens_22 rfl rfl ?_
        refine A_iload_n dX7_evens_23 rfl rfl ?_
        refine A_icmp_gt (tgt := 48) dX7_evens_24 (by decide) (fun c_24 => absurd c_24 (by omega)) (fun c_24 => ?_)
        refine A_aload_n dX7_evens_27 rfl rfl ?_
        refine A_iconst dX7_evens_28 ⟨by decide, by decide⟩ ?_
        refine A_inv1 dX7_evens_29 mv_X7_194 kCl_7 (Nat.le_of_ble_eq_true rfl) (by assumption) ?_
        refine C_isEven hM hz (by omega) (by omega) T.2.2.1.1 T.2.2.1.2 ?_
        refine A_if_eq (tgt := 37) dX7_evens_32 (by decide) (fun c_32 => ?_) (fun c_32 => ?_)
        · rw [if_neg (by omega)] at he
          refine A_aload_n dX7_evens_37 rfl rfl ?_
          refine A_iconst dX7_evens_38 ⟨by decide, by decide⟩ ?_
          refine A_inv1 dX7_evens_39 mv_X7_200 kCl_7 (Nat.le_of_ble_eq_true rfl) (by assumption) ?_
          refine C_tick hM hz (by omega) (by omega) T (by omega) (by omega) (fun d2 m2 p2 => ?_)
          refine A_iinc_ok dX7_evens_42 rfl rfl (by omega) (by omega) ?_
          refine A_goto (tgt := 22) dX7_evens_45 (by decide) ?_
          exact ih (j + 1) (by omega) he d2 (hc.mc m2 (by omega) (by omega)) p2
        · refine A_iload_n dX7_evens_35 rfl rfl ?_
          refine A_iret dX7_evens_36 rfl ?_
          rw [if_pos c_32] at he
          rw [← he] at hK
          exact hK d' hc
    replace c_9 := i01n c_9
    refine A_aload_n dX7_evens_14 rfl rfl ?_
    refine A_iconst dX7_evens_15 ⟨by decide, by decide⟩ ?_
    refine A_iconst dX7_evens_16 ⟨by decide, by decide⟩ ?_
    refine A_inv2 dX7_evens_17 mv_X7_219 kCl_7 (Nat.le_of_ble_eq_true rfl) (by assumption) ?_
    refine C_copyRing hM (by omega) (by omega) (by omega) (by omega) (by omega) ?_
    refine A_iconst dX7_evens_20 ⟨by decide, by decide⟩ ?_
    refine A_istore_n dX7_evens_21 rfl (Nat.le_of_ble_eq_true rfl) rfl ?_
    exact loop (N + 1) 0 (by omega) hv _ (MF.rf.cp (by omega) (by omega)) (cpR_to hR)
  · rw [if_pos (by omega)] at hK
    replace c_9 := i01e c_9
    refine A_iconst dX7_evens_12 ⟨by decide, by decide⟩ ?_
    refine A_iret dX7_evens_13 rfl ?_
    exact hK d MF.rf
end F4
