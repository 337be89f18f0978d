theorem i01e {P : Prop} [Decidable P] (h : (if P then (1 : Int) else 0) = 0) : ¬ P := by
  intro q
  rw [if_pos q] at h
  omega
theorem i01n {P : Prop} [Decidable P] (h : (if P then (1 : Int) else 0) ≠ 0) : P := by
  by_cases q : P
  · exact q
  · rw [if_neg q] at h
    omega
/-- of the model's cells no more has changed than ring r of z, and what no later call looks at -/
def MC (d d' : HD) (m : Nat) (r : Int) : Prop := (∀ a, (a < m ∨ m + 14 < a ∨ (m + 2 ≤ a ∧ a ≤ m + 6)) → d' a = d a) ∧ d' m 3 = d m 3 ∧ ∀ j, (j < 640 * r ∨ 640 * r + 640 ≤ j) → d' (m + 1) j = d (m + 1) j
theorem MC.rf {d : HD} {m : Nat} {r : Int} : MC d d m r := ⟨fun _ _ => rfl, rfl, fun _ _ => rfl⟩
theorem MC.tr {d d1 d2 : HD} {m : Nat} {r : Int} (h1 : MC d d1 m r) (h2 : MC d1 d2 m r) : MC d d2 m r := ⟨fun a h => (h2.1 a h).trans (h1.1 a h), h2.2.1.trans h1.2.1, fun j h => (h2.2.2 j h).trans (h1.2.2 j h)⟩
theorem MC.z {d d' : HD} {m : Nat} {r i v : Int} (h : MC d d' m r) (h1 : 640 * r ≤ i) (h2 : i < 640 * r + 640) : MC d (kU d' (m + 1) i v) m r := by
  refine ⟨fun a ha => ?_, ?_, fun j hj => ?_⟩
  · rw [kU_ne (by omega)]; exact h.1 a ha
  · rw [kU_ne (by omega)]; exact h.2.1
  · unfold kU
    rw [if_neg (by omega)]
    exact h.2.2 j hj
theorem MC.f {d d' : HD} {m : Nat} {r i v : Int} (h : MC d d' m r) (h1 : i ≠ 3) : MC d (kU d' m i v) m r := by
  refine ⟨fun a ha => ?_, ?_, fun j hj => ?_⟩
  · rw [kU_ne (by omega)]; exact h.1 a ha
  · unfold kU
    rw [if_neg (by omega)]
    exact h.2.1
  · rw [kU_ne (by omega)]
    exact h.2.2 j hj
theorem MC.s {d d' : HD} {m a : Nat} {r i v : Int} (h : MC d d' m r) (h1 : m + 7 ≤ a) (h2 : a ≤ m + 14) : MC d (kU d' a i v) m r := by
  refine ⟨fun b hb => ?_, ?_, fun j hj => ?_⟩
  · rw [kU_ne (by omega)]; exact h.1 b hb
  · rw [kU_ne (by omega)]; exact h.2.1
  · rw [kU_ne (by omega)]
    exact h.2.2 j hj
def fU (R : Int → Int) (i v : Int) : Int → Int := fun j => if j = i then v else R j
theorem fU_s {R : Int → Int} {i v : Int} : fU R i v i = v := by simp [fU]
theorem fU_n {R : Int → Int} {i v j : Int} (h : j ≠ i) : fU R i v j = R j := by simp [fU, h]
theorem PZ.u {d : HD} {m : Nat} {r i q v : Int} {R : Int → Int} (h : PZ d m r R) (e : i = 640 * r + q) : PZ (kU d (m + 1) i v) m r (fU R q v) := by
  intro j h1 h2
  unfold kU fU
  by_cases hj : j = q
  · rw [if_pos ⟨rfl, by omega⟩, if_pos hj]
  · rw [if_neg (by omega), if_neg hj]
    exact h j h1 h2
theorem PZ.ne {d : HD} {m a : Nat} {r i v : Int} {R : Int → Int} (h : PZ d m r R) (e : m + 1 ≠ a) : PZ (kU d a i v) m r R := by
  intro j h1 h2
  rw [kU_ne e]
  exact h j h1 h2
theorem PZ.z {d : HD} {m : Nat} {R : Int → Int} (h : PZ d m 0 R) (q : Int) (h1 : 0 ≤ q) (h2 : q < 640) : d (m + 1) q = R q := by
  have := h q h1 h2
  rwa [show 640 * 0 + q = q by omega] at this
def ringA (R : Int → Int) (what v : Int) : Int := if ¬ (what = 0 ∧ 12 ≤ v ∧ v ≤ 99 ∨ what = 1 ∧ 1 ≤ v ∧ v ≤ 9) then -1 else if what = 0 ∧ (0 < R 2 ∨ 0 < R 5 ∨ 0 < R 6) then -2 else R what
def ringR (R : Int → Int) (what v : Int) : Int → Int := if ¬ (what = 0 ∧ 12 ≤ v ∧ v ≤ 99 ∨ what = 1 ∧ 1 ≤ v ∧ v ≤ 9) then R else if what = 0 ∧ (0 < R 2 ∨ 0 < R 5 ∨ 0 < R 6) then R else fU R what v
def zrR (R : Int → Int) (b n : Int) : Int → Int := fun j => if b ≤ j ∧ j < b + n then 0 else R j
def putR (R : Int → Int) (lane cell pace : Int) : Int → Int := fU (fU (fU (fU (zrR R (340 + 24 * R 2) 24) (340 + 24 * R 2) cell) (340 + 24 * R 2 + 1) lane) (340 + 24 * R 2 + 2) pace) 2 (R 2 + 1)
def carS (R : Int → Int) (lane cell pace : Int) : Int × (Int → Int) := if ¬ (0 ≤ lane ∧ lane ≤ 1 ∧ 0 ≤ cell ∧ cell < R 0 ∧ 0 ≤ pace ∧ pace ≤ 9) then (-1, R) else if 0 ≤ caF R lane cell (R 2).toNat then (-2, R) else if R 2 = 12 then (-3, R) else (R 2, putR R lane cell pace)
def evF (R : Int → Int) (n pace : Int) : Nat → (Int → Int)
  | 0 => fU (fU R 2 0) 4 (-4)
  | k + 1 => putR (evF R n pace k) 0 ((k : Int) * R 0 / n) pace
def evenS (R : Int → Int) (n pace : Int) : Int × (Int → Int) := if ¬ (1 ≤ n ∧ n ≤ 12 ∧ n ≤ R 0 ∧ 0 ≤ pace ∧ pace ≤ 9) then (-1, R) else (n, evF R n pace n.toNat)
def setS (R : Int → Int) (car what v : Int) : Int × (Int → Int) := if ¬ (0 ≤ car ∧ car < R 2 ∧ (what = 0 ∧ 0 ≤ v ∧ v ≤ 2 ∨ what = 1 ∧ 0 ≤ v ∧ v ≤ 3)) then (-1, R) else (cfR R car (3 + what), fU R (340 + 24 * car + (3 + what)) v)
def toldA (R : Int → Int) (car what : Int) : Int := if ¬ (0 ≤ car ∧ car < R 2) then -1 else if what = 0 then cfR R car 0 else if what = 1 then cfR R car 1 else if what = 2 then cfR R car 2 else if what = 3 then gapS R car else if what = 4 then aheadS R car else if what = 5 then otherS R car else if what = 6 then cfR R car 5 else if what = 7 then cfR R car 6 else -1
def boardS (R : Int → Int) (a b limit : Int) : Int × (Int → Int) := if ¬ (0 ≤ a ∧ a < R 0 ∧ 0 ≤ b ∧ b < R 0 ∧ 0 ≤ limit ∧ limit ≤ 9) then (-1, R) else if R 5 = 4 then (-3, R) else (R 5, fU (fU (fU (fU R (10 + 3 * R 5) a) (10 + 3 * R 5 + 1) b) (10 + 3 * R 5 + 2) limit) 5 (R 5 + 1))
def loopS (R : Int → Int) (cell : Int) : Int × (Int → Int) := if ¬ (0 ≤ cell ∧ cell < R 0) then (-1, R) else if R 6 = 4 then (-3, R) else (R 6, fU (fU (fU (fU R (22 + 3 * R 6) cell) (22 + 3 * R 6 + 1) 0) (22 + 3 * R 6 + 2) 0) 6 (R 6 + 1))
def loopedA (R : Int → Int) (l what : Int) : Int := if 0 ≤ l ∧ l < R 6 ∧ 0 ≤ what ∧ what ≤ 1 then R (22 + 3 * l + 1 + what) else -1
def tapS (R : Int → Int) (car : Int) : Int × (Int → Int) := if ¬ (0 ≤ car ∧ car < R 2) then (-1, R) else (cfR R car 7, fU R (340 + 24 * car + 7) 1)
def zd (d : HD) (m : Nat) (b n : Int) : HD := fun a i => if a = m + 1 ∧ b ≤ i ∧ i < b + n then 0 else d a i
theorem evF_0 {R : Int → Int} {n pace : Int} (hn : n ≤ 12) : ∀ k : Nat, (k : Int) ≤ n → evF R n pace k 0 = R 0 ∧ evF R n pace k 2 = k
  | 0, _ => by simp [evF, fU]
  | k + 1, h => by
    obtain ⟨h1, h2⟩ := evF_0 (R := R) (pace := pace) hn k (by omega)
    simp only [evF, putR, fU, zrR, h1, h2]
    constructor
    · rw [if_neg (by omega), if_neg (by omega), if_neg (by omega), if_neg (by omega), if_neg (by omega)]
    · rw [if_pos trivial]
      omega
section M3
variable {E : EE} {k m : Nat} {G : HG} {d : HD} {K : PQ}
theorem C_ring {what v : Int} {R : Int → Int} (hM : MO G m) (hR : PZ d m 0 R) (hK : ∀ d', MC d d' m 0 → PZ d' m 0 (ringR R what v) → K (some (kI (ringA R what v))) G d') : AM E mX7_ring (k + 1) 0 0 [kR m, kI what, kI v] G d K := by
  obtain ⟨ho, e0, a0, -⟩ := id hM
  have z2 := hR.z 2 (by omega) (by omega)
  have z5 := hR.z 5 (by omega) (by omega)
  have z6 := hR.z 6 (by omega) (by omega)
  have bad : ¬ (what = 0 ∧ 12 ≤ v ∧ v ≤ 99 ∨ what = 1 ∧ 1 ≤ v ∧ v ≤ 9) → K (some (kI (-1))) G d := fun h => by
    have e1 : ringA R what v = -1 := by unfold ringA; rw [if_pos h]
    have e2 : ringR R what v = R := by unfold ringR; rw [if_pos h]
    rw [← e1]
    exact hK d MC.rf (by rw [e2]; exact hR)
  have notA : (what = 0 ∧ 12 ≤ v ∧ v ≤ 99) → (0 < R 2 ∨ 0 < R 5 ∨ 0 < R 6) → K (some (kI (-2))) G d := fun h h' => by
    have e1 : ringA R what v = -2 := by unfold ringA; rw [if_neg (by omega), if_pos ⟨h.1, h'⟩]
    have e2 : ringR R what v = R := by unfold ringR; rw [if_neg (by omega), if_pos ⟨h.1, h'⟩]
    rw [← e1]
    exact hK d MC.rf (by rw [e2]; exact hR)
  have good : (what = 0 ∧ 12 ≤ v ∧ v ≤ 99 ∨ what = 1 ∧ 1 ≤ v ∧ v ≤ 9) → ¬ (what = 0 ∧ (0 < R 2 ∨ 0 < R 5 ∨ 0 < R 6)) → AW E mX7_ring (k + 1) 0 0 79 [some (kR m), some (kI what), some (kI v), none] [] G d K := fun h h' => by
    refine A_aload_n dX7_ring_79 rfl rfl ?_
    refine A_getR (fi := 0) dX7_ring_80 fg_X7_7 rfl rfl (by assumption) (by assumption) ?_
    refine A_iload_n dX7_ring_83 rfl rfl ?_
    refine A_iald dX7_ring_84 (by assumption) (by omega) (by omega) ?_
    refine A_istore_n dX7_ring_85 rfl (Nat.le_of_ble_eq_true rfl) rfl ?_
    refine A_aload_n dX7_ring_86 rfl rfl ?_
    refine A_getR (fi := 0) dX7_ring_87 fg_X7_7 rfl rfl (by assumption) (by assumption) ?_
    refine A_iload_n dX7_ring_90 rfl rfl ?_
    refine A_iload_n dX7_ring_91 rfl rfl ?_
    refine A_iast dX7_ring_92 (by assumption) (by omega) (by omega) ?_
    refine A_iload_n dX7_ring_93 rfl rfl ?_
    refine A_iret dX7_ring_94 rfl ?_
    have e1 : ringA R what v = R what := by unfold ringA; rw [if_neg (by omega), if_neg h']
    have e2 : ringR R what v = fU R what v := by unfold ringR; rw [if_neg (by omega), if_neg h']
    rw [hR.z what (by omega) (by omega), ← e1]
    exact hK _ (MC.rf.z (by omega) (by omega)) (by rw [e2]; exact hR.u (by omega))
  have fork : (what = 0 ∧ 12 ≤ v ∧ v ≤ 99 ∨ what = 1 ∧ 1 ≤ v ∧ v ≤ 9) → AW E mX7_ring (k + 1) 0 0 44 [some (kR m), some (kI what), some (kI v), none] [] G d K := fun h => by
    refine A_iload_n dX7_ring_44 rfl rfl ?_
    refine A_if_ne (tgt := 79) dX7_ring_45 (by decide) (fun c_45 => ?_) (fun c_45 => ?_)
    · skip
      exact good h (by omega)
    · refine A_aload_n dX7_ring_48 rfl rfl ?_
      refine A_getR (fi := 0) dX7_ring_49 fg_X7_7 rfl rfl (by assumption) (by assumption) ?_
      refine A_iconst dX7_ring_52 ⟨by decide, by decide⟩ ?_
      refine A_iald dX7_ring_53 (by assumption) (by omega) (by omega) ?_
      refine A_if_gt (tgt := 76) dX7_ring_54 (by decide) (fun c_54 => ?_) (fun c_54 => ?_)
      · refine A_bipush dX7_ring_76 ⟨by decide, by decide⟩ rfl ?_
        refine A_iret dX7_ring_78 rfl ?_
        exact notA (by omega) (by omega)
      · refine A_aload_n dX7_ring_57 rfl rfl ?_
        refine A_getR (fi := 0) dX7_ring_58 fg_X7_7 rfl rfl (by assumption) (by assumption) ?_
        refine A_iconst dX7_ring_61 ⟨by decide, by decide⟩ ?_
        refine A_iald dX7_ring_62 (by assumption) (by omega) (by omega) ?_
        refine A_if_gt (tgt := 76) dX7_ring_63 (by decide) (fun c_63 => ?_) (fun c_63 => ?_)
        · refine A_bipush dX7_ring_76 ⟨by decide, by decide⟩ rfl ?_
          refine A_iret dX7_ring_78 rfl ?_
          exact notA (by omega) (by omega)
        · refine A_aload_n dX7_ring_66 rfl rfl ?_
          refine A_getR (fi := 0) dX7_ring_67 fg_X7_7 rfl rfl (by assumption) (by assumption) ?_
          refine A_bipush dX7_ring_70 ⟨by decide, by decide⟩ rfl ?_
          refine A_iald dX7_ring_72 (by assumption) (by omega) (by omega) ?_
          refine A_if_le (tgt := 79) dX7_ring_73 (by decide) (fun c_73 => ?_) (fun c_73 => ?_)
          · skip
            exact good h (by omega)
          · refine A_bipush dX7_ring_76 ⟨by decide, by decide⟩ rfl ?_
            refine A_iret dX7_ring_78 rfl ?_
            exact notA (by omega) (by omega)
  refine AM.of rfl (Nat.le_of_ble_eq_true rfl) ?_
  refine A_iload_n dX7_ring_0 rfl rfl ?_
  refine A_i2l dX7_ring_1 ?_
  refine A_lconst (x := 0) dX7_ring_2 ⟨by decide, by decide⟩ rfl ?_
  refine A_lconst (x := 1) dX7_ring_3 ⟨by decide, by decide⟩ rfl ?_
  refine A_ins3 dX7_ring_4 ms_X7_53 (Nat.le_of_ble_eq_true rfl) ?_
  refine C_in ?_
  refine A_if_eq (tgt := 42) dX7_ring_7 (by decide) (fun c_7 => ?_) (fun c_7 => ?_)
  · replace c_7 := i01e c_7
    refine A_iconst dX7_ring_42 ⟨by decide, by decide⟩ ?_
    refine A_iret dX7_ring_43 rfl ?_
    exact bad (by omega)
  · replace c_7 := i01n c_7
    refine A_iload_n dX7_ring_10 rfl rfl ?_
    refine A_i2l dX7_ring_11 ?_
    refine A_iload_n dX7_ring_12 rfl rfl ?_
    refine A_if_ne (tgt := 22) dX7_ring_13 (by decide) (fun c_13 => ?_) (fun c_13 => ?_)
    · refine A_lconst (x := 1) dX7_ring_22 ⟨by decide, by decide⟩ rfl ?_
      refine A_iload_n dX7_ring_23 rfl rfl ?_
      refine A_if_ne (tgt := 33) dX7_ring_24 (by decide) (fun c_24 => ?_) (fun c_24 => absurd c_24 (by omega))
      refine A_ldc2 (x := 9) dX7_ring_33 cs_X7_72 rfl ⟨by decide, by decide⟩ ?_
      refine A_ins3 dX7_ring_36 ms_X7_53 (Nat.le_of_ble_eq_true rfl) ?_
      refine C_in ?_
      refine A_if_ne (tgt := 44) dX7_ring_39 (by decide) (fun c_39 => ?_) (fun c_39 => ?_)
      · replace c_39 := i01n c_39
        exact fork (by omega)
      · replace c_39 := i01e c_39
        refine A_iconst dX7_ring_42 ⟨by decide, by decide⟩ ?_
        refine A_iret dX7_ring_43 rfl ?_
        exact bad (by omega)
    · refine A_ldc2 (x := 12) dX7_ring_16 cs_X7_68 rfl ⟨by decide, by decide⟩ ?_
      refine A_goto (tgt := 23) dX7_ring_19 (by decide) ?_
      refine A_iload_n dX7_ring_23 rfl rfl ?_
      refine A_if_ne (tgt := 33) dX7_ring_24 (by decide) (fun c_24 => absurd c_24 (by omega)) (fun c_24 => ?_)
      refine A_ldc2 (x := 99) dX7_ring_27 cs_X7_70 rfl ⟨by decide, by decide⟩ ?_
      refine A_goto (tgt := 36) dX7_ring_30 (by decide) ?_
      refine A_ins3 dX7_ring_36 ms_X7_53 (Nat.le_of_ble_eq_true rfl) ?_
      refine C_in ?_
      refine A_if_ne (tgt := 44) dX7_ring_39 (by decide) (fun c_39 => ?_) (fun c_39 => ?_)
      · replace c_39 := i01n c_39
        exact fork (by omega)
      · replace c_39 := i01e c_39
        refine A_iconst dX7_ring_42 ⟨by decide, by decide⟩ ?_
        refine A_iret dX7_ring_43 rfl ?_
        exact bad (by omega)
theorem C_put {lane cell pace : Int} {R : Int → Int} (hM : MO G m) (hR : PZ d m 0 R) (h1 : 0 ≤ R 2) (h2 : R 2 < 12) (hK : ∀ d', MC d d' m 0 → PZ d' m 0 (putR R lane cell pace) → K none G d') : AM E mX7_put (k + 1) 0 0 [kR m, kI lane, kI cell, kI pace] G d K := by
  obtain ⟨ho, e0, a0, -⟩ := id hM
  have z2 := hR.z 2 (by omega) (by omega)
  have loop : ∀ (n j : Nat), 24 - j < n → j ≤ 24 → AW E mX7_put (k + 1) 0 0 11 [some (kR m), some (kI lane), some (kI cell), some (kI pace), some (kI (R 2)), some (kI j)] [] G (zd d m (640 * 0 + 340 + 24 * R 2) j) K := by
    intro n
    induction n with
    | zero => intro j h; omega
    | succ n ih =>
      intro j hj hjN
      have next := ih (j + 1)
      refine A_iload dX7_put_11 rfl ?_
      refine A_bipush dX7_put_13 ⟨by decide, by decide⟩ rfl ?_
      refine A_icmp_ge (tgt := 38) dX7_put_15 (by decide) (fun c_15 => ?_) (fun c_15 => ?_)
      · have : j = 24 := by omega
        subst this
        have hz : PZ (zd d m (640 * 0 + 340 + 24 * R 2) ((24 : Nat) : Int)) m 0 (zrR R (340 + 24 * R 2) 24) := by
          intro q g1 g2
          unfold zd zrR
          by_cases hq : 340 + 24 * R 2 ≤ q ∧ q < 340 + 24 * R 2 + 24
          · rw [if_pos ⟨rfl, by omega, by omega⟩, if_pos hq]
          · rw [if_neg (by omega), if_neg hq]
            exact hR q g1 g2
        have hc : MC d (zd d m (640 * 0 + 340 + 24 * R 2) ((24 : Nat) : Int)) m 0 := by
          refine ⟨fun a ha => ?_, ?_, fun j hj => ?_⟩
          · funext i; unfold zd; rw [if_neg (by omega)]
          · unfold zd; rw [if_neg (by omega)]
          · unfold zd; rw [if_neg (by omega)]
        generalize zd d m (640 * 0 + 340 + 24 * R 2) ((24 : Nat) : Int) = d1 at hz hc ⊢
        have hz1 := hz.u (i := 640 * 0 + 340 + 24 * R 2 + 0) (q := 340 + 24 * R 2) (v := cell) (by omega)
        have hz2 := hz1.u (i := 640 * 0 + 340 + 24 * R 2 + 1) (q := 340 + 24 * R 2 + 1) (v := lane) (by omega)
        have hz3 := hz2.u (i := 640 * 0 + 340 + 24 * R 2 + 2) (q := 340 + 24 * R 2 + 2) (v := pace) (by omega)
        have v2 : kU (kU (kU d1 (m + 1) (640 * 0 + 340 + 24 * R 2 + 0) cell) (m + 1) (640 * 0 + 340 + 24 * R 2 + 1) lane) (m + 1) (640 * 0 + 340 + 24 * R 2 + 2) pace (m + 1) 2 = R 2 := by
          rw [hz3.z 2 (by omega) (by omega), fU_n (by omega), fU_n (by omega), fU_n (by omega)]
          unfold zrR
          rw [if_neg (by omega)]
        refine A_aload_n dX7_put_38 rfl rfl ?_
        refine A_getR (fi := 0) dX7_put_39 fg_X7_7 rfl rfl (by assumption) (by assumption) ?_
        refine A_iconst dX7_put_42 ⟨by decide, by decide⟩ ?_
        refine A_iload dX7_put_43 rfl ?_
        refine A_iconst dX7_put_45 ⟨by decide, by decide⟩ ?_
        refine A_ins3 dX7_put_46 ms_X7_74 (Nat.le_of_ble_eq_true rfl) ?_
        refine C_at (by omega) (by omega) (by omega) (by omega) (by omega) (by omega) ?_
        refine A_iload_n dX7_put_49 rfl rfl ?_
        refine A_iast dX7_put_50 (by assumption) (by omega) (by omega) ?_
        refine A_aload_n dX7_put_51 rfl rfl ?_
        refine A_getR (fi := 0) dX7_put_52 fg_X7_7 rfl rfl (by assumption) (by assumption) ?_
        refine A_iconst dX7_put_55 ⟨by decide, by decide⟩ ?_
        refine A_iload dX7_put_56 rfl ?_
        refine A_iconst dX7_put_58 ⟨by decide, by decide⟩ ?_
        refine A_ins3 dX7_put_59 ms_X7_74 (Nat.le_of_ble_eq_true rfl) ?_
        refine C_at (by omega) (by omega) (by omega) (by omega) (by omega) (by omega) ?_
        refine A_iload_n dX7_put_62 rfl rfl ?_
        refine A_iast dX7_put_63 (by assumption) (by omega) (by omega) ?_
        refine A_aload_n dX7_put_64 rfl rfl ?_
        refine A_getR (fi := 0) dX7_put_65 fg_X7_7 rfl rfl (by assumption) (by assumption) ?_
        refine A_iconst dX7_put_68 ⟨by decide, by decide⟩ ?_
        refine A_iload dX7_put_69 rfl ?_
        refine A_iconst dX7_put_71 ⟨by decide, by decide⟩ ?_
        refine A_ins3 dX7_put_72 ms_X7_74 (Nat.le_of_ble_eq_true rfl) ?_
        refine C_at (by omega) (by omega) (by omega) (by omega) (by omega) (by omega) ?_
        refine A_iload_n dX7_put_75 rfl rfl ?_
        refine A_iast dX7_put_76 (by assumption) (by omega) (by omega) ?_
        refine A_aload_n dX7_put_77 rfl rfl ?_
        refine A_getR (fi := 0) dX7_put_78 fg_X7_7 rfl rfl (by assumption) (by assumption) ?_
        refine A_iconst dX7_put_81 ⟨by decide, by decide⟩ ?_
        refine A_dup2 dX7_put_82 (fun B => toV_cat B _) (fun B => toV_cat B _) ?_
        refine A_iald dX7_put_83 (by assumption) (by omega) (by omega) ?_
        refine A_iconst dX7_put_84 ⟨by decide, by decide⟩ ?_
        refine A_iadd_ok dX7_put_85 (by omega) (by omega) ?_
        refine A_iast dX7_put_86 (by assumption) (by omega) (by omega) ?_
        refine A_vret dX7_put_87 rfl ?_
        rw [v2]
        refine hK _ ((((hc.z (by omega) (by omega)).z (by omega) (by omega)).z (by omega) (by omega)).z (by omega) (by omega)) ?_
        exact hz3.u (by omega)
      · refine A_aload_n dX7_put_18 rfl rfl ?_
        refine A_getR (fi := 0) dX7_put_19 fg_X7_7 rfl rfl (by assumption) (by assumption) ?_
        refine A_iconst dX7_put_22 ⟨by decide, by decide⟩ ?_
        refine A_iload dX7_put_23 rfl ?_
        refine A_iload dX7_put_25 rfl ?_
        refine A_ins3 dX7_put_27 ms_X7_74 (Nat.le_of_ble_eq_true rfl) ?_
        refine C_at (by omega) (by omega) (by omega) (by omega) (by omega) (by omega) ?_
        refine A_iconst dX7_put_30 ⟨by decide, by decide⟩ ?_
        refine A_iast dX7_put_31 (by assumption) (by omega) (by omega) ?_
        refine A_iinc_ok dX7_put_32 rfl rfl (by omega) (by omega) ?_
        refine A_goto (tgt := 11) dX7_put_35 (by decide) ?_
        have e : kU (zd d m (640 * 0 + 340 + 24 * R 2) j) (m + 1) (640 * 0 + 340 + 24 * R 2 + j) 0 = zd d m (640 * 0 + 340 + 24 * R 2) ((j + 1 : Nat) : Int) := by
          funext a i
          unfold kU zd
          by_cases ha : a = m + 1 ∧ i = 640 * 0 + 340 + 24 * R 2 + j
          · rw [if_pos ha, if_pos (by omega)]
          · rw [if_neg ha]
            by_cases hb : a = m + 1 ∧ 640 * 0 + 340 + 24 * R 2 ≤ i ∧ i < 640 * 0 + 340 + 24 * R 2 + j
            · rw [if_pos hb, if_pos (by omega)]
            · rw [if_neg hb, if_neg (by omega)]
        rw [e]
        exact next (by omega) (by omega)
  refine AM.of rfl (Nat.le_of_ble_eq_true rfl) ?_
  refine A_aload_n dX7_put_0 rfl rfl ?_
  refine A_getR (fi := 0) dX7_put_1 fg_X7_7 rfl rfl (by assumption) (by assumption) ?_
  refine A_iconst dX7_put_4 ⟨by decide, by decide⟩ ?_
  refine A_iald dX7_put_5 (by assumption) (by omega) (by omega) ?_
  refine A_istore dX7_put_6 (Nat.le_of_ble_eq_true rfl) rfl ?_
  refine A_iconst dX7_put_8 ⟨by decide, by decide⟩ ?_
  refine A_istore dX7_put_9 (Nat.le_of_ble_eq_true rfl) rfl ?_
  have e : d = zd d m (640 * 0 + 340 + 24 * R 2) ((0 : Nat) : Int) := by
    funext a i
    unfold zd
    rw [if_neg (by omega)]
  rw [z2]
  have := loop 25 0 (by omega) (by omega)
  rw [← e] at this
  exact this
theorem C_car {lane cell pace : Int} {R : Int → Int} (hM : MO G m) (hR : PZ d m 0 R) (h0 : 12 ≤ R 0) (h01 : R 0 ≤ 99) (h1 : 0 ≤ R 2) (h2 : R 2 ≤ 12) (hK : ∀ d', MC d d' m 0 → PZ d' m 0 (carS R lane cell pace).2 → K (some (kI (carS R lane cell pace).1)) G d') : AM E mX7_car (k + 2) 0 0 [kR m, kI lane, kI cell, kI pace] G d K := by
  obtain ⟨ho, e0, a0, -⟩ := id hM
  have z2 := hR.z 2 (by omega) (by omega)
  have z0 := hR.z 0 (by omega) (by omega)
  have bad : ¬ (0 ≤ lane ∧ lane ≤ 1 ∧ 0 ≤ cell ∧ cell < R 0 ∧ 0 ≤ pace ∧ pace ≤ 9) → K (some (kI (-1))) G d := fun h => by
    have e : carS R lane cell pace = (-1, R) := by unfold carS; rw [if_pos h]
    rw [e] at hK
    exact hK d MC.rf hR
  refine AM.of rfl (Nat.le_of_ble_eq_true rfl) ?_
  refine A_iload_n dX7_car_0 rfl rfl ?_
  refine A_i2l dX7_car_1 ?_
  refine A_lconst (x := 0) dX7_car_2 ⟨by decide, by decide⟩ rfl ?_
  refine A_lconst (x := 1) dX7_car_3 ⟨by decide, by decide⟩ rfl ?_
  refine A_ins3 dX7_car_4 ms_X7_53 (Nat.le_of_ble_eq_true rfl) ?_
  refine C_in ?_
  refine A_if_eq (tgt := 40) dX7_car_7 (by decide) (fun c_7 => ?_) (fun c_7 => ?_)
  · replace c_7 := i01e c_7
    refine A_iconst dX7_car_40 ⟨by decide, by decide⟩ ?_
    refine A_iret dX7_car_41 rfl ?_
    exact bad (by omega)
  · replace c_7 := i01n c_7
    refine A_iload_n dX7_car_10 rfl rfl ?_
    refine A_i2l dX7_car_11 ?_
    refine A_lconst (x := 0) dX7_car_12 ⟨by decide, by decide⟩ rfl ?_
    refine A_aload_n dX7_car_13 rfl rfl ?_
    refine A_getR (fi := 0) dX7_car_14 fg_X7_7 rfl rfl (by assumption) (by assumption) ?_
    refine A_iconst dX7_car_17 ⟨by decide, by decide⟩ ?_
    refine A_iald dX7_car_18 (by assumption) (by omega) (by omega) ?_
    refine A_iconst dX7_car_19 ⟨by decide, by decide⟩ ?_
    refine A_isub_ok dX7_car_20 (by omega) (by omega) ?_
    refine A_i2l dX7_car_21 ?_
    refine A_ins3 dX7_car_22 ms_X7_53 (Nat.le_of_ble_eq_true rfl) ?_
    refine C_in ?_
    refine A_if_eq (tgt := 40) dX7_car_25 (by decide) (fun c_25 => ?_) (fun c_25 => ?_)
    · replace c_25 := i01e c_25
      refine A_iconst dX7_car_40 ⟨by decide, by decide⟩ ?_
      refine A_iret dX7_car_41 rfl ?_
      exact bad (by omega)
    · replace c_25 := i01n c_25
      refine A_iload_n dX7_car_28 rfl rfl ?_
      refine A_i2l dX7_car_29 ?_
      refine A_lconst (x := 0) dX7_car_30 ⟨by decide, by decide⟩ rfl ?_
      refine A_ldc2 (x := 9) dX7_car_31 cs_X7_72 rfl ⟨by decide, by decide⟩ ?_
      refine A_ins3 dX7_car_34 ms_X7_53 (Nat.le_of_ble_eq_true rfl) ?_
      refine C_in ?_
      refine A_if_ne (tgt := 42) dX7_car_37 (by decide) (fun c_37 => ?_) (fun c_37 => ?_)
      · replace c_37 := i01n c_37
        refine A_aload_n dX7_car_42 rfl rfl ?_
        refine A_iconst dX7_car_43 ⟨by decide, by decide⟩ ?_
        refine A_iload_n dX7_car_44 rfl rfl ?_
        refine A_iload_n dX7_car_45 rfl rfl ?_
        refine A_inv3 dX7_car_46 mv_X7_77 kCl_7 (Nat.le_of_ble_eq_true rfl) (by assumption) ?_
        refine C_carAt hM hR (by omega) (by omega) (by omega) (by omega) ?_
        refine A_if_lt (tgt := 55) dX7_car_49 (by decide) (fun c_49 => ?_) (fun c_49 => ?_)
        · refine A_aload_n dX7_car_55 rfl rfl ?_
          refine A_getR (fi := 0) dX7_car_56 fg_X7_7 rfl rfl (by assumption) (by assumption) ?_
          refine A_iconst dX7_car_59 ⟨by decide, by decide⟩ ?_
          refine A_iald dX7_car_60 (by assumption) (by omega) (by omega) ?_
          refine A_bipush dX7_car_61 ⟨by decide, by decide⟩ rfl ?_
          refine A_icmp_ne (tgt := 69) dX7_car_63 (by decide) (fun c_63 => ?_) (fun c_63 => ?_)
          · refine A_aload_n dX7_car_69 rfl rfl ?_
            refine A_iload_n dX7_car_70 rfl rfl ?_
            refine A_iload_n dX7_car_71 rfl rfl ?_
            refine A_iload_n dX7_car_72 rfl rfl ?_
            refine A_inv3 dX7_car_73 mv_X7_80 kCl_7 (Nat.le_of_ble_eq_true rfl) (by assumption) ?_
            refine C_put hM hR (by omega) (by omega) (fun d' hc hz => ?_)
            have v2 : d' (m + 1) 2 = R 2 + 1 := by rw [hz.z 2 (by omega) (by omega)]; unfold putR; rw [fU_s]
            refine A_aload_n dX7_car_76 rfl rfl ?_
            refine A_getR (fi := 0) dX7_car_77 fg_X7_7 rfl rfl (by assumption) (by assumption) ?_
            refine A_iconst dX7_car_80 ⟨by decide, by decide⟩ ?_
            refine A_iald dX7_car_81 (by assumption) (by omega) (by omega) ?_
            refine A_iconst dX7_car_82 ⟨by decide, by decide⟩ ?_
            refine A_isub_ok dX7_car_83 (by omega) (by omega) ?_
            refine A_iret dX7_car_84 rfl ?_
            rw [v2]
            have e : carS R lane cell pace = (R 2, putR R lane cell pace) := by unfold carS; rw [if_neg (by omega), if_neg (by omega), if_neg (by omega)]
            rw [e] at hK
            have := hK d' hc hz
            rw [show R 2 + 1 - 1 = R 2 by omega]
            exact this
          · refine A_bipush dX7_car_66 ⟨by decide, by decide⟩ rfl ?_
            refine A_iret dX7_car_68 rfl ?_
            have e : carS R lane cell pace = (-3, R) := by unfold carS; rw [if_neg (by omega), if_neg (by omega), if_pos (by omega)]
            rw [e] at hK
            exact hK d MC.rf hR
        · refine A_bipush dX7_car_52 ⟨by decide, by decide⟩ rfl ?_
          refine A_iret dX7_car_54 rfl ?_
          have e : carS R lane cell pace = (-2, R) := by unfold carS; rw [if_neg (by omega), if_pos (by omega)]
          rw [e] at hK
          exact hK d MC.rf hR
      · replace c_37 := i01e c_37
        refine A_iconst dX7_car_40 ⟨by decide, by decide⟩ ?_
        refine A_iret dX7_car_41 rfl ?_
        exact bad (by omega)
theorem C_evenly {n pace : Int} {R : Int → Int} (hM : MO G m) (hR : PZ d m 0 R) (h0 : 12 ≤ R 0) (h01 : R 0 ≤ 99) (hK : ∀ d', MC d d' m 0 → PZ d' m 0 (evenS R n pace).2 → K (some (kI (evenS R n pace).1)) G d') : AM E mX7_evenly (k + 2) 0 0 [kR m, kI n, kI pace] G d K := by
  obtain ⟨ho, e0, a0, -⟩ := id hM
  have z0 := hR.z 0 (by omega) (by omega)
  have bad : ¬ (1 ≤ n ∧ n ≤ 12 ∧ n ≤ R 0 ∧ 0 ≤ pace ∧ pace ≤ 9) → K (some (kI (-1))) G d := fun h => by
    have e : evenS R n pace = (-1, R) := by unfold evenS; rw [if_pos h]
    rw [e] at hK
    exact hK d MC.rf hR
  have loop : (1 ≤ n ∧ n ≤ 12 ∧ n ≤ R 0 ∧ 0 ≤ pace ∧ pace ≤ 9) → ∀ (i j : Nat), n - j < i → j ≤ n → ∀ d', MC d d' m 0 → PZ d' m 0 (evF R n pace j) → AW E mX7_evenly (k + 2) 0 0 53 [some (kR m), some (kI n), some (kI pace), some (kI j)] [] G d' K := by
    intro hg i
    induction i with
    | zero => intro j h; omega
    | succ i ih =>
      intro j hj hjN d' hc hz
      have ev := evF_0 (R := R) (pace := pace) hg.2.1 j hjN
      have z0 := hz.z 0 (by omega) (by omega)
      refine A_iload_n dX7_evenly_53 rfl rfl ?_
      refine A_iload_n dX7_evenly_54 rfl rfl ?_
      refine A_icmp_ge (tgt := 80) dX7_evenly_55 (by decide) (fun c_55 => ?_) (fun c_55 => ?_)
      · refine A_iload_n dX7_evenly_80 rfl rfl ?_
        refine A_iret dX7_evenly_81 rfl ?_
        have e : evenS R n pace = (n, evF R n pace j) := by unfold evenS; rw [if_neg (by omega), show n.toNat = j by omega]
        rw [e] at hK
        exact hK d' hc hz
      · have hq : d' (m + 1) 0 = R 0 := by rw [z0, ev.1]
        have hb : 0 ≤ (j : Int) * d' (m + 1) 0 ∧ (j : Int) * d' (m + 1) 0 ≤ 12 * 99 := by
          rw [hq]
          exact ⟨Int.mul_nonneg (by omega) (by omega), Int.mul_le_mul (by omega) (by omega) (by omega) (by omega)⟩
        refine A_aload_n dX7_evenly_58 rfl rfl ?_
        refine A_iconst dX7_evenly_59 ⟨by decide, by decide⟩ ?_
        refine A_iload_n dX7_evenly_60 rfl rfl ?_
        refine A_aload_n dX7_evenly_61 rfl rfl ?_
        refine A_getR (fi := 0) dX7_evenly_62 fg_X7_7 rfl rfl (by assumption) (by assumption) ?_
        refine A_iconst dX7_evenly_65 ⟨by decide, by decide⟩ ?_
        refine A_iald dX7_evenly_66 (by assumption) (by omega) (by omega) ?_
        refine A_imul_ok dX7_evenly_67 (by omega) (by omega) ?_
        refine A_iload_n dX7_evenly_68 rfl rfl ?_
        refine A_idiv_p dX7_evenly_69 (by omega) (by omega) ?_
        refine A_iload_n dX7_evenly_70 rfl rfl ?_
        refine A_inv3 dX7_evenly_71 mv_X7_80 kCl_7 (Nat.le_of_ble_eq_true rfl) (by assumption) ?_
        refine C_put hM hz (by omega) (by omega) (fun d2 hc2 hz2 => ?_)
        refine A_iinc_ok dX7_evenly_74 rfl rfl (by omega) (by omega) ?_
        refine A_goto (tgt := 53) dX7_evenly_77 (by decide) ?_
        rw [hq] at hz2
        exact ih (j + 1) (by omega) (by omega) d2 (hc.tr hc2) hz2
  refine AM.of rfl (Nat.le_of_ble_eq_true rfl) ?_
  refine A_iload_n dX7_evenly_0 rfl rfl ?_
  refine A_i2l dX7_evenly_1 ?_
  refine A_lconst (x := 1) dX7_evenly_2 ⟨by decide, by decide⟩ rfl ?_
  refine A_ldc2 (x := 12) dX7_evenly_3 cs_X7_68 rfl ⟨by decide, by decide⟩ ?_
  refine A_ins3 dX7_evenly_6 ms_X7_53 (Nat.le_of_ble_eq_true rfl) ?_
  refine C_in ?_
  refine A_if_eq (tgt := 34) dX7_evenly_9 (by decide) (fun c_9 => ?_) (fun c_9 => ?_)
  · replace c_9 := i01e c_9
    refine A_iconst dX7_evenly_34 ⟨by decide, by decide⟩ ?_
    refine A_iret dX7_evenly_35 rfl ?_
    exact bad (by omega)
  · replace c_9 := i01n c_9
    refine A_iload_n dX7_evenly_12 rfl rfl ?_
    refine A_aload_n dX7_evenly_13 rfl rfl ?_
    refine A_getR (fi := 0) dX7_evenly_14 fg_X7_7 rfl rfl (by assumption) (by assumption) ?_
    refine A_iconst dX7_evenly_17 ⟨by decide, by decide⟩ ?_
    refine A_iald dX7_evenly_18 (by assumption) (by omega) (by omega) ?_
    refine A_icmp_gt (tgt := 34) dX7_evenly_19 (by decide) (fun c_19 => ?_) (fun c_19 => ?_)
    · refine A_iconst dX7_evenly_34 ⟨by decide, by decide⟩ ?_
      refine A_iret dX7_evenly_35 rfl ?_
      exact bad (by omega)
    · refine A_iload_n dX7_evenly_22 rfl rfl ?_
      refine A_i2l dX7_evenly_23 ?_
      refine A_lconst (x := 0) dX7_evenly_24 ⟨by decide, by decide⟩ rfl ?_
      refine A_ldc2 (x := 9) dX7_evenly_25 cs_X7_72 rfl ⟨by decide, by decide⟩ ?_
      refine A_ins3 dX7_evenly_28 ms_X7_53 (Nat.le_of_ble_eq_true rfl) ?_
      refine C_in ?_
      refine A_if_ne (tgt := 36) dX7_evenly_31 (by decide) (fun c_31 => ?_) (fun c_31 => ?_)
      · replace c_31 := i01n c_31
        refine A_aload_n dX7_evenly_36 rfl rfl ?_
        refine A_getR (fi := 0) dX7_evenly_37 fg_X7_7 rfl rfl (by assumption) (by assumption) ?_
        refine A_iconst dX7_evenly_40 ⟨by decide, by decide⟩ ?_
        refine A_iconst dX7_evenly_41 ⟨by decide, by decide⟩ ?_
        refine A_iast dX7_evenly_42 (by assumption) (by omega) (by omega) ?_
        refine A_aload_n dX7_evenly_43 rfl rfl ?_
        refine A_getR (fi := 0) dX7_evenly_44 fg_X7_7 rfl rfl (by assumption) (by assumption) ?_
        refine A_iconst dX7_evenly_47 ⟨by decide, by decide⟩ ?_
        refine A_bipush dX7_evenly_48 ⟨by decide, by decide⟩ rfl ?_
        refine A_iast dX7_evenly_50 (by assumption) (by omega) (by omega) ?_
        refine A_iconst dX7_evenly_51 ⟨by decide, by decide⟩ ?_
        refine A_istore_n dX7_evenly_52 rfl (Nat.le_of_ble_eq_true rfl) rfl ?_
        have hz := (hR.u (i := 2) (q := 2) (v := 0) (by omega)).u (i := 4) (q := 4) (v := -4) (by omega)
        exact loop (by omega) (n.toNat + 1) 0 (by omega) (by omega) _ ((MC.rf.z (by omega) (by omega)).z (by omega) (by omega)) hz
      · replace c_31 := i01e c_31
        refine A_iconst dX7_evenly_34 ⟨by decide, by decide⟩ ?_
        refine A_iret dX7_evenly_35 rfl ?_
        exact bad (by omega)
theorem C_set {car what v : Int} {R : Int → Int} (hM : MO G m) (hR : PZ d m 0 R) (h1 : 0 ≤ R 2) (h2 : R 2 ≤ 12) (hK : ∀ d', MC d d' m 0 → PZ d' m 0 (setS R car what v).2 → K (some (kI (setS R car what v).1)) G d') : AM E mX7_set (k + 2) 0 0 [kR m, kI car, kI what, kI v] G d K := by
  obtain ⟨ho, e0, a0, -⟩ := id hM
  have z2 := hR.z 2 (by omega) (by omega)
  have bad : ¬ (0 ≤ car ∧ car < R 2 ∧ (what = 0 ∧ 0 ≤ v ∧ v ≤ 2 ∨ what = 1 ∧ 0 ≤ v ∧ v ≤ 3)) → K (some (kI (-1))) G d := fun h => by
    have e : setS R car what v = (-1, R) := by unfold setS; rw [if_pos h]
    rw [e] at hK
    exact hK d MC.rf hR
  have good : (0 ≤ car ∧ car < R 2 ∧ (what = 0 ∧ 0 ≤ v ∧ v ≤ 2 ∨ what = 1 ∧ 0 ≤ v ∧ v ≤ 3)) → AW E mX7_set (k + 2) 0 0 42 [some (kR m), some (kI car), some (kI what), some (kI v), none] [] G d K := fun h => by
    refine A_aload_n dX7_set_42 rfl rfl ?_
    refine A_iconst dX7_set_43 ⟨by decide, by decide⟩ ?_
    refine A_iload_n dX7_set_44 rfl rfl ?_
    refine A_iconst dX7_set_45 ⟨by decide, by decide⟩ ?_
    refine A_iload_n dX7_set_46 rfl rfl ?_
    refine A_iadd_ok dX7_set_47 (by omega) (by omega) ?_
    refine A_inv3 dX7_set_48 mv_X7_57 kCl_7 (Nat.le_of_ble_eq_true rfl) (by assumption) ?_
    refine C_of hM hR (by omega) (by omega) (by omega) (by omega) (by omega) (by omega) ?_
    refine A_istore dX7_set_51 (Nat.le_of_ble_eq_true rfl) rfl ?_
    refine A_aload_n dX7_set_53 rfl rfl ?_
    refine A_getR (fi := 0) dX7_set_54 fg_X7_7 rfl rfl (by assumption) (by assumption) ?_
    refine A_iconst dX7_set_57 ⟨by decide, by decide⟩ ?_
    refine A_iload_n dX7_set_58 rfl rfl ?_
    refine A_iconst dX7_set_59 ⟨by decide, by decide⟩ ?_
    refine A_iload_n dX7_set_60 rfl rfl ?_
    refine A_iadd_ok dX7_set_61 (by omega) (by omega) ?_
    refine A_ins3 dX7_set_62 ms_X7_74 (Nat.le_of_ble_eq_true rfl) ?_
    refine C_at (by omega) (by omega) (by omega) (by omega) (by omega) (by omega) ?_
    refine A_iload_n dX7_set_65 rfl rfl ?_
    refine A_iast dX7_set_66 (by assumption) (by omega) (by omega) ?_
    refine A_iload dX7_set_67 rfl ?_
    refine A_iret dX7_set_69 rfl ?_
    have e : setS R car what v = (cfR R car (3 + what), fU R (340 + 24 * car + (3 + what)) v) := by unfold setS; rw [if_neg (by omega)]
    rw [e] at hK
    exact hK _ (MC.rf.z (by omega) (by omega)) (hR.u (by omega))
  refine AM.of rfl (Nat.le_of_ble_eq_true rfl) ?_
  refine A_aload_n dX7_set_0 rfl rfl ?_
  refine A_iload_n dX7_set_1 rfl rfl ?_
  refine A_inv1 dX7_set_2 mv_X7_84 kCl_7 (Nat.le_of_ble_eq_true rfl) (by assumption) ?_
  refine C_isCar hM (by omega) (by omega) ?_
  refine A_if_eq (tgt := 40) dX7_set_5 (by decide) (fun c_5 => ?_) (fun c_5 => ?_)
  · replace c_5 := i01e c_5
    refine A_iconst dX7_set_40 ⟨by decide, by decide⟩ ?_
    refine A_iret dX7_set_41 rfl ?_
    exact bad (by omega)
  · replace c_5 := i01n c_5
    refine A_iload_n dX7_set_8 rfl rfl ?_
    refine A_i2l dX7_set_9 ?_
    refine A_lconst (x := 0) dX7_set_10 ⟨by decide, by decide⟩ rfl ?_
    refine A_lconst (x := 1) dX7_set_11 ⟨by decide, by decide⟩ rfl ?_
    refine A_ins3 dX7_set_12 ms_X7_53 (Nat.le_of_ble_eq_true rfl) ?_
    refine C_in ?_
    refine A_if_eq (tgt := 40) dX7_set_15 (by decide) (fun c_15 => ?_) (fun c_15 => ?_)
    · replace c_15 := i01e c_15
      refine A_iconst dX7_set_40 ⟨by decide, by decide⟩ ?_
      refine A_iret dX7_set_41 rfl ?_
      exact bad (by omega)
    · replace c_15 := i01n c_15
      refine A_iload_n dX7_set_18 rfl rfl ?_
      refine A_i2l dX7_set_19 ?_
      refine A_lconst (x := 0) dX7_set_20 ⟨by decide, by decide⟩ rfl ?_
      refine A_iload_n dX7_set_21 rfl rfl ?_
      refine A_if_ne (tgt := 31) dX7_set_22 (by decide) (fun c_22 => ?_) (fun c_22 => ?_)
      · refine A_ldc2 (x := 3) dX7_set_31 cs_X7_90 rfl ⟨by decide, by decide⟩ ?_
        refine A_ins3 dX7_set_34 ms_X7_53 (Nat.le_of_ble_eq_true rfl) ?_
        refine C_in ?_
        refine A_if_ne (tgt := 42) dX7_set_37 (by decide) (fun c_37 => ?_) (fun c_37 => ?_)
        · replace c_37 := i01n c_37
          exact good (by omega)
        · replace c_37 := i01e c_37
          refine A_iconst dX7_set_40 ⟨by decide, by decide⟩ ?_
          refine A_iret dX7_set_41 rfl ?_
          exact bad (by omega)
      · refine A_ldc2 (x := 2) dX7_set_25 cs_X7_88 rfl ⟨by decide, by decide⟩ ?_
        refine A_goto (tgt := 34) dX7_set_28 (by decide) ?_
        refine A_ins3 dX7_set_34 ms_X7_53 (Nat.le_of_ble_eq_true rfl) ?_
        refine C_in ?_
        refine A_if_ne (tgt := 42) dX7_set_37 (by decide) (fun c_37 => ?_) (fun c_37 => ?_)
        · replace c_37 := i01n c_37
          exact good (by omega)
        · replace c_37 := i01e c_37
          refine A_iconst dX7_set_40 ⟨by decide, by decide⟩ ?_
          refine A_iret dX7_set_41 rfl ?_
          exact bad (by omega)
theorem C_board {a b limit : Int} {R : Int → Int} (hM : MO G m) (hR : PZ d m 0 R) (h0 : 12 ≤ R 0) (h01 : R 0 ≤ 99) (h1 : 0 ≤ R 5) (h2 : R 5 ≤ 4) (hK : ∀ d', MC d d' m 0 → PZ d' m 0 (boardS R a b limit).2 → K (some (kI (boardS R a b limit).1)) G d') : AM E mX7_board (k + 1) 0 0 [kR m, kI a, kI b, kI limit] G d K := by
  obtain ⟨ho, e0, a0, -⟩ := id hM
  have z0 := hR.z 0 (by omega) (by omega)
  have z5 := hR.z 5 (by omega) (by omega)
  have bad : ¬ (0 ≤ a ∧ a < R 0 ∧ 0 ≤ b ∧ b < R 0 ∧ 0 ≤ limit ∧ limit ≤ 9) → K (some (kI (-1))) G d := fun h => by
    have e : boardS R a b limit = (-1, R) := by unfold boardS; rw [if_pos h]
    rw [e] at hK
    exact hK d MC.rf hR
  refine AM.of rfl (Nat.le_of_ble_eq_true rfl) ?_
  refine A_iload_n dX7_board_0 rfl rfl ?_
  refine A_i2l dX7_board_1 ?_
  refine A_lconst (x := 0) dX7_board_2 ⟨by decide, by decide⟩ rfl ?_
  refine A_aload_n dX7_board_3 rfl rfl ?_
  refine A_getR (fi := 0) dX7_board_4 fg_X7_7 rfl rfl (by assumption) (by assumption) ?_
  refine A_iconst dX7_board_7 ⟨by decide, by decide⟩ ?_
  refine A_iald dX7_board_8 (by assumption) (by omega) (by omega) ?_
  refine A_iconst dX7_board_9 ⟨by decide, by decide⟩ ?_
  refine A_isub_ok dX7_board_10 (by omega) (by omega) ?_
  refine A_i2l dX7_board_11 ?_
  refine A_ins3 dX7_board_12 ms_X7_53 (Nat.le_of_ble_eq_true rfl) ?_
  refine C_in ?_
  refine A_if_eq (tgt := 48) dX7_board_15 (by decide) (fun c_15 => ?_) (fun c_15 => ?_)
  · replace c_15 := i01e c_15
    refine A_iconst dX7_board_48 ⟨by decide, by decide⟩ ?_
    refine A_iret dX7_board_49 rfl ?_
    exact bad (by omega)
  · replace c_15 := i01n c_15
    refine A_iload_n dX7_board_18 rfl rfl ?_
    refine A_i2l dX7_board_19 ?_
    refine A_lconst (x := 0) dX7_board_20 ⟨by decide, by decide⟩ rfl ?_
    refine A_aload_n dX7_board_21 rfl rfl ?_
    refine A_getR (fi := 0) dX7_board_22 fg_X7_7 rfl rfl (by assumption) (by assumption) ?_
    refine A_iconst dX7_board_25 ⟨by decide, by decide⟩ ?_
    refine A_iald dX7_board_26 (by assumption) (by omega) (by omega) ?_
    refine A_iconst dX7_board_27 ⟨by decide, by decide⟩ ?_
    refine A_isub_ok dX7_board_28 (by omega) (by omega) ?_
    refine A_i2l dX7_board_29 ?_
    refine A_ins3 dX7_board_30 ms_X7_53 (Nat.le_of_ble_eq_true rfl) ?_
    refine C_in ?_
    refine A_if_eq (tgt := 48) dX7_board_33 (by decide) (fun c_33 => ?_) (fun c_33 => ?_)
    · replace c_33 := i01e c_33
      refine A_iconst dX7_board_48 ⟨by decide, by decide⟩ ?_
      refine A_iret dX7_board_49 rfl ?_
      exact bad (by omega)
    · replace c_33 := i01n c_33
      refine A_iload_n dX7_board_36 rfl rfl ?_
      refine A_i2l dX7_board_37 ?_
      refine A_lconst (x := 0) dX7_board_38 ⟨by decide, by decide⟩ rfl ?_
      refine A_ldc2 (x := 9) dX7_board_39 cs_X7_72 rfl ⟨by decide, by decide⟩ ?_
      refine A_ins3 dX7_board_42 ms_X7_53 (Nat.le_of_ble_eq_true rfl) ?_
      refine C_in ?_
      refine A_if_ne (tgt := 50) dX7_board_45 (by decide) (fun c_45 => ?_) (fun c_45 => ?_)
      · replace c_45 := i01n c_45
        refine A_aload_n dX7_board_50 rfl rfl ?_
        refine A_getR (fi := 0) dX7_board_51 fg_X7_7 rfl rfl (by assumption) (by assumption) ?_
        refine A_iconst dX7_board_54 ⟨by decide, by decide⟩ ?_
        refine A_iald dX7_board_55 (by assumption) (by omega) (by omega) ?_
        refine A_iconst dX7_board_56 ⟨by decide, by decide⟩ ?_
        refine A_icmp_ne (tgt := 63) dX7_board_57 (by decide) (fun c_57 => ?_) (fun c_57 => ?_)
        · refine A_bipush dX7_board_63 ⟨by decide, by decide⟩ rfl ?_
          refine A_iconst dX7_board_65 ⟨by decide, by decide⟩ ?_
          refine A_aload_n dX7_board_66 rfl rfl ?_
          refine A_getR (fi := 0) dX7_board_67 fg_X7_7 rfl rfl (by assumption) (by assumption) ?_
          refine A_iconst dX7_board_70 ⟨by decide, by decide⟩ ?_
          refine A_iald dX7_board_71 (by assumption) (by omega) (by omega) ?_
          refine A_imul_ok dX7_board_72 (by omega) (by omega) ?_
          refine A_iadd_ok dX7_board_73 (by omega) (by omega) ?_
          refine A_istore dX7_board_74 (Nat.le_of_ble_eq_true rfl) rfl ?_
          rw [z5]
          have p1 := hR.u (i := 10 + 3 * R 5) (q := 10 + 3 * R 5) (v := a) (by omega)
          have p2 := p1.u (i := 10 + 3 * R 5 + 1) (q := 10 + 3 * R 5 + 1) (v := b) (by omega)
          have p3 := p2.u (i := 10 + 3 * R 5 + 2) (q := 10 + 3 * R 5 + 2) (v := limit) (by omega)
          have v5 : kU (kU (kU d (m + 1) (10 + 3 * R 5) a) (m + 1) (10 + 3 * R 5 + 1) b) (m + 1) (10 + 3 * R 5 + 2) limit (m + 1) 5 = R 5 := by
            rw [p3.z 5 (by omega) (by omega), fU_n (by omega), fU_n (by omega), fU_n (by omega)]
          have p4 := p3.u (i := 5) (q := 5) (v := R 5 + 1) (by omega)
          have v6 := p4.z 5 (by omega) (by omega)
          rw [fU_s] at v6
          refine A_aload_n dX7_board_76 rfl rfl ?_
          refine A_getR (fi := 0) dX7_board_77 fg_X7_7 rfl rfl (by assumption) (by assumption) ?_
          refine A_iload dX7_board_80 rfl ?_
          refine A_iload_n dX7_board_82 rfl rfl ?_
          refine A_iast dX7_board_83 (by assumption) (by omega) (by omega) ?_
          refine A_aload_n dX7_board_84 rfl rfl ?_
          refine A_getR (fi := 0) dX7_board_85 fg_X7_7 rfl rfl (by assumption) (by assumption) ?_
          refine A_iload dX7_board_88 rfl ?_
          refine A_iconst dX7_board_90 ⟨by decide, by decide⟩ ?_
          refine A_iadd_ok dX7_board_91 (by omega) (by omega) ?_
          refine A_iload_n dX7_board_92 rfl rfl ?_
          refine A_iast dX7_board_93 (by assumption) (by omega) (by omega) ?_
          refine A_aload_n dX7_board_94 rfl rfl ?_
          refine A_getR (fi := 0) dX7_board_95 fg_X7_7 rfl rfl (by assumption) (by assumption) ?_
          refine A_iload dX7_board_98 rfl ?_
          refine A_iconst dX7_board_100 ⟨by decide, by decide⟩ ?_
          refine A_iadd_ok dX7_board_101 (by omega) (by omega) ?_
          refine A_iload_n dX7_board_102 rfl rfl ?_
          refine A_iast dX7_board_103 (by assumption) (by omega) (by omega) ?_
          refine A_aload_n dX7_board_104 rfl rfl ?_
          refine A_getR (fi := 0) dX7_board_105 fg_X7_7 rfl rfl (by assumption) (by assumption) ?_
          refine A_iconst dX7_board_108 ⟨by decide, by decide⟩ ?_
          refine A_dup2 dX7_board_109 (fun B => toV_cat B _) (fun B => toV_cat B _) ?_
          refine A_iald dX7_board_110 (by assumption) (by omega) (by omega) ?_
          refine A_iconst dX7_board_111 ⟨by decide, by decide⟩ ?_
          refine A_iadd_ok dX7_board_112 (by omega) (by omega) ?_
          refine A_iast dX7_board_113 (by assumption) (by omega) (by omega) ?_
          rw [v5]
          refine A_aload_n dX7_board_114 rfl rfl ?_
          refine A_getR (fi := 0) dX7_board_115 fg_X7_7 rfl rfl (by assumption) (by assumption) ?_
          refine A_iconst dX7_board_118 ⟨by decide, by decide⟩ ?_
          refine A_iald dX7_board_119 (by assumption) (by omega) (by omega) ?_
          refine A_iconst dX7_board_120 ⟨by decide, by decide⟩ ?_
          refine A_isub_ok dX7_board_121 (by omega) (by omega) ?_
          refine A_iret dX7_board_122 rfl ?_
          rw [v6, show R 5 + 1 - 1 = R 5 by omega]
          have e : boardS R a b limit = (R 5, fU (fU (fU (fU R (10 + 3 * R 5) a) (10 + 3 * R 5 + 1) b) (10 + 3 * R 5 + 2) limit) 5 (R 5 + 1)) := by unfold boardS; rw [if_neg (by omega), if_neg (by omega)]
          rw [e] at hK
          exact hK _ ((((MC.rf.z (by omega) (by omega)).z (by omega) (by omega)).z (by omega) (by omega)).z (by omega) (by omega)) p4
        · refine A_bipush dX7_board_60 ⟨by decide, by decide⟩ rfl ?_
          refine A_iret dX7_board_62 rfl ?_
          have e : boardS R a b limit = (-3, R) := by unfold boardS; rw [if_neg (by omega), if_pos (by omega)]
          rw [e] at hK
          exact hK d MC.rf hR
      · replace c_45 := i01e c_45
        refine A_iconst dX7_board_48 ⟨by decide, by decide⟩ ?_
        refine A_iret dX7_board_49 rfl ?_
        exact bad (by omega)
theorem C_loop {cell : Int} {R : Int → Int} (hM : MO G m) (hR : PZ d m 0 R) (h0 : 12 ≤ R 0) (h01 : R 0 ≤ 99) (h1 : 0 ≤ R 6) (h2 : R 6 ≤ 4) (hK : ∀ d', MC d d' m 0 → PZ d' m 0 (loopS R cell).2 → K (some (kI (loopS R cell).1)) G d') : AM E mX7_loop (k + 1) 0 0 [kR m, kI cell] G d K := by
  obtain ⟨ho, e0, a0, -⟩ := id hM
  have z0 := hR.z 0 (by omega) (by omega)
  have z6 := hR.z 6 (by omega) (by omega)
  refine AM.of rfl (Nat.le_of_ble_eq_true rfl) ?_
  refine A_iload_n dX7_loop_0 rfl rfl ?_
  refine A_i2l dX7_loop_1 ?_
  refine A_lconst (x := 0) dX7_loop_2 ⟨by decide, by decide⟩ rfl ?_
  refine A_aload_n dX7_loop_3 rfl rfl ?_
  refine A_getR (fi := 0) dX7_loop_4 fg_X7_7 rfl rfl (by assumption) (by assumption) ?_
  refine A_iconst dX7_loop_7 ⟨by decide, by decide⟩ ?_
  refine A_iald dX7_loop_8 (by assumption) (by omega) (by omega) ?_
  refine A_iconst dX7_loop_9 ⟨by decide, by decide⟩ ?_
  refine A_isub_ok dX7_loop_10 (by omega) (by omega) ?_
  refine A_i2l dX7_loop_11 ?_
  refine A_ins3 dX7_loop_12 ms_X7_53 (Nat.le_of_ble_eq_true rfl) ?_
  refine C_in ?_
  refine A_if_ne (tgt := 20) dX7_loop_15 (by decide) (fun c_15 => ?_) (fun c_15 => ?_)
  · replace c_15 := i01n c_15
    refine A_aload_n dX7_loop_20 rfl rfl ?_
    refine A_getR (fi := 0) dX7_loop_21 fg_X7_7 rfl rfl (by assumption) (by assumption) ?_
    refine A_bipush dX7_loop_24 ⟨by decide, by decide⟩ rfl ?_
    refine A_iald dX7_loop_26 (by assumption) (by omega) (by omega) ?_
    refine A_iconst dX7_loop_27 ⟨by decide, by decide⟩ ?_
    refine A_icmp_ne (tgt := 34) dX7_loop_28 (by decide) (fun c_28 => ?_) (fun c_28 => ?_)
    · refine A_bipush dX7_loop_34 ⟨by decide, by decide⟩ rfl ?_
      refine A_iconst dX7_loop_36 ⟨by decide, by decide⟩ ?_
      refine A_aload_n dX7_loop_37 rfl rfl ?_
      refine A_getR (fi := 0) dX7_loop_38 fg_X7_7 rfl rfl (by assumption) (by assumption) ?_
      refine A_bipush dX7_loop_41 ⟨by decide, by decide⟩ rfl ?_
      refine A_iald dX7_loop_43 (by assumption) (by omega) (by omega) ?_
      refine A_imul_ok dX7_loop_44 (by omega) (by omega) ?_
      refine A_iadd_ok dX7_loop_45 (by omega) (by omega) ?_
      refine A_istore_n dX7_loop_46 rfl (Nat.le_of_ble_eq_true rfl) rfl ?_
      rw [z6]
      have p1 := hR.u (i := 22 + 3 * R 6) (q := 22 + 3 * R 6) (v := cell) (by omega)
      have p2 := p1.u (i := 22 + 3 * R 6 + 1) (q := 22 + 3 * R 6 + 1) (v := 0) (by omega)
      have p3 := p2.u (i := 22 + 3 * R 6 + 2) (q := 22 + 3 * R 6 + 2) (v := 0) (by omega)
      have v5 : kU (kU (kU d (m + 1) (22 + 3 * R 6) cell) (m + 1) (22 + 3 * R 6 + 1) 0) (m + 1) (22 + 3 * R 6 + 2) 0 (m + 1) 6 = R 6 := by
        rw [p3.z 6 (by omega) (by omega), fU_n (by omega), fU_n (by omega), fU_n (by omega)]
      have p4 := p3.u (i := 6) (q := 6) (v := R 6 + 1) (by omega)
      have v6 := p4.z 6 (by omega) (by omega)
      rw [fU_s] at v6
      refine A_aload_n dX7_loop_47 rfl rfl ?_
      refine A_getR (fi := 0) dX7_loop_48 fg_X7_7 rfl rfl (by assumption) (by assumption) ?_
      refine A_iload_n dX7_loop_51 rfl rfl ?_
      refine A_iload_n dX7_loop_52 rfl rfl ?_
      refine A_iast dX7_loop_53 (by assumption) (by omega) (by omega) ?_
      refine A_aload_n dX7_loop_54 rfl rfl ?_
      refine A_getR (fi := 0) dX7_loop_55 fg_X7_7 rfl rfl (by assumption) (by assumption) ?_
      refine A_iload_n dX7_loop_58 rfl rfl ?_
      refine A_iconst dX7_loop_59 ⟨by decide, by decide⟩ ?_
      refine A_iadd_ok dX7_loop_60 (by omega) (by omega) ?_
      refine A_iconst dX7_loop_61 ⟨by decide, by decide⟩ ?_
      refine A_iast dX7_loop_62 (by assumption) (by omega) (by omega) ?_
      refine A_aload_n dX7_loop_63 rfl rfl ?_
      refine A_getR (fi := 0) dX7_loop_64 fg_X7_7 rfl rfl (by assumption) (by assumption) ?_
      refine A_iload_n dX7_loop_67 rfl rfl ?_
      refine A_iconst dX7_loop_68 ⟨by decide, by decide⟩ ?_
      refine A_iadd_ok dX7_loop_69 (by omega) (by omega) ?_
      refine A_iconst dX7_loop_70 ⟨by decide, by decide⟩ ?_
      refine A_iast dX7_loop_71 (by assumption) (by omega) (by omega) ?_
      refine A_aload_n dX7_loop_72 rfl rfl ?_
      refine A_getR (fi := 0) dX7_loop_73 fg_X7_7 rfl rfl (by assumption) (by assumption) ?_
      refine A_bipush dX7_loop_76 ⟨by decide, by decide⟩ rfl ?_
      refine A_dup2 dX7_loop_78 (fun B => toV_cat B _) (fun B => toV_cat B _) ?_
      refine A_iald dX7_loop_79 (by assumption) (by omega) (by omega) ?_
      refine A_iconst dX7_loop_80 ⟨by decide, by decide⟩ ?_
      refine A_iadd_ok dX7_loop_81 (by omega) (by omega) ?_
      refine A_iast dX7_loop_82 (by assumption) (by omega) (by omega) ?_
      rw [v5]
      refine A_aload_n dX7_loop_83 rfl rfl ?_
      refine A_getR (fi := 0) dX7_loop_84 fg_X7_7 rfl rfl (by assumption) (by assumption) ?_
      refine A_bipush dX7_loop_87 ⟨by decide, by decide⟩ rfl ?_
      refine A_iald dX7_loop_89 (by assumption) (by omega) (by omega) ?_
      refine A_iconst dX7_loop_90 ⟨by decide, by decide⟩ ?_
      refine A_isub_ok dX7_loop_91 (by omega) (by omega) ?_
      refine A_iret dX7_loop_92 rfl ?_
      rw [v6, show R 6 + 1 - 1 = R 6 by omega]
      have e : loopS R cell = (R 6, fU (fU (fU (fU R (22 + 3 * R 6) cell) (22 + 3 * R 6 + 1) 0) (22 + 3 * R 6 + 2) 0) 6 (R 6 + 1)) := by unfold loopS; rw [if_neg (by omega), if_neg (by omega)]
      rw [e] at hK
      exact hK _ ((((MC.rf.z (by omega) (by omega)).z (by omega) (by omega)).z (by omega) (by omega)).z (by omega) (by omega)) p4
    · refine A_bipush dX7_loop_31 ⟨by decide, by decide⟩ rfl ?_
      refine A_iret dX7_loop_33 rfl ?_
      have e : loopS R cell = (-3, R) := by unfold loopS; rw [if_neg (by omega), if_pos (by omega)]
      rw [e] at hK
      exact hK d MC.rf hR
  · replace c_15 := i01e c_15
    refine A_iconst dX7_loop_18 ⟨by decide, by decide⟩ ?_
    refine A_iret dX7_loop_19 rfl ?_
    have e : loopS R cell = (-1, R) := by unfold loopS; rw [if_pos (by omega)]
    rw [e] at hK
    exact hK d MC.rf hR
theorem C_looped {l what : Int} {R : Int → Int} (hM : MO G m) (hR : PZ d m 0 R) (h1 : 0 ≤ R 6) (h2 : R 6 ≤ 4) (hK : K (some (kI (loopedA R l what))) G d) : AM E mX7_looped (k + 1) 0 0 [kR m, kI l, kI what] G d K := by
  obtain ⟨ho, e0, a0, -⟩ := id hM
  have z6 := hR.z 6 (by omega) (by omega)
  refine AM.of rfl (Nat.le_of_ble_eq_true rfl) ?_
  unfold loopedA at hK
  refine A_iload_n dX7_looped_0 rfl rfl ?_
  refine A_i2l dX7_looped_1 ?_
  refine A_lconst (x := 0) dX7_looped_2 ⟨by decide, by decide⟩ rfl ?_
  refine A_aload_n dX7_looped_3 rfl rfl ?_
  refine A_getR (fi := 0) dX7_looped_4 fg_X7_7 rfl rfl (by assumption) (by assumption) ?_
  refine A_bipush dX7_looped_7 ⟨by decide, by decide⟩ rfl ?_
  refine A_iald dX7_looped_9 (by assumption) (by omega) (by omega) ?_
  refine A_iconst dX7_looped_10 ⟨by decide, by decide⟩ ?_
  refine A_isub_ok dX7_looped_11 (by omega) (by omega) ?_
  refine A_i2l dX7_looped_12 ?_
  refine A_ins3 dX7_looped_13 ms_X7_53 (Nat.le_of_ble_eq_true rfl) ?_
  refine C_in ?_
  refine A_if_eq (tgt := 47) dX7_looped_16 (by decide) (fun c_16 => ?_) (fun c_16 => ?_)
  · replace c_16 := i01e c_16
    refine A_iconst dX7_looped_47 ⟨by decide, by decide⟩ ?_
    refine A_iret dX7_looped_48 rfl ?_
    rw [if_neg (by omega)] at hK
    exact hK
  · replace c_16 := i01n c_16
    refine A_iload_n dX7_looped_19 rfl rfl ?_
    refine A_i2l dX7_looped_20 ?_
    refine A_lconst (x := 0) dX7_looped_21 ⟨by decide, by decide⟩ rfl ?_
    refine A_lconst (x := 1) dX7_looped_22 ⟨by decide, by decide⟩ rfl ?_
    refine A_ins3 dX7_looped_23 ms_X7_53 (Nat.le_of_ble_eq_true rfl) ?_
    refine C_in ?_
    refine A_if_eq (tgt := 47) dX7_looped_26 (by decide) (fun c_26 => ?_) (fun c_26 => ?_)
    · replace c_26 := i01e c_26
      refine A_iconst dX7_looped_47 ⟨by decide, by decide⟩ ?_
      refine A_iret dX7_looped_48 rfl ?_
      rw [if_neg (by omega)] at hK
      exact hK
    · replace c_26 := i01n c_26
      refine A_aload_n dX7_looped_29 rfl rfl ?_
      refine A_getR (fi := 0) dX7_looped_30 fg_X7_7 rfl rfl (by assumption) (by assumption) ?_
      refine A_bipush dX7_looped_33 ⟨by decide, by decide⟩ rfl ?_
      refine A_iconst dX7_looped_35 ⟨by decide, by decide⟩ ?_
      refine A_iload_n dX7_looped_36 rfl rfl ?_
      refine A_imul_ok dX7_looped_37 (by omega) (by omega) ?_
      refine A_iadd_ok dX7_looped_38 (by omega) (by omega) ?_
      refine A_iconst dX7_looped_39 ⟨by decide, by decide⟩ ?_
      refine A_iadd_ok dX7_looped_40 (by omega) (by omega) ?_
      refine A_iload_n dX7_looped_41 rfl rfl ?_
      refine A_iadd_ok dX7_looped_42 (by omega) (by omega) ?_
      refine A_iald dX7_looped_43 (by assumption) (by omega) (by omega) ?_
      refine A_goto (tgt := 48) dX7_looped_44 (by decide) ?_
      refine A_iret dX7_looped_48 rfl ?_
      rw [if_pos (by omega)] at hK
      rw [hR.z (22 + 3 * l + 1 + what) (by omega) (by omega)]
      exact hK
theorem C_tap {car : Int} {R : Int → Int} (hM : MO G m) (hR : PZ d m 0 R) (h1 : 0 ≤ R 2) (h2 : R 2 ≤ 12) (hK : ∀ d', MC d d' m 0 → PZ d' m 0 (tapS R car).2 → K (some (kI (tapS R car).1)) G d') : AM E mX7_tap (k + 2) 0 0 [kR m, kI car] G d K := by
  obtain ⟨ho, e0, a0, -⟩ := id hM
  have z2 := hR.z 2 (by omega) (by omega)
  refine AM.of rfl (Nat.le_of_ble_eq_true rfl) ?_
  refine A_aload_n dX7_tap_0 rfl rfl ?_
  refine A_iload_n dX7_tap_1 rfl rfl ?_
  refine A_inv1 dX7_tap_2 mv_X7_84 kCl_7 (Nat.le_of_ble_eq_true rfl) (by assumption) ?_
  refine C_isCar hM (by omega) (by omega) ?_
  refine A_if_ne (tgt := 10) dX7_tap_5 (by decide) (fun c_5 => ?_) (fun c_5 => ?_)
  · replace c_5 := i01n c_5
    refine A_aload_n dX7_tap_10 rfl rfl ?_
    refine A_iconst dX7_tap_11 ⟨by decide, by decide⟩ ?_
    refine A_iload_n dX7_tap_12 rfl rfl ?_
    refine A_bipush dX7_tap_13 ⟨by decide, by decide⟩ rfl ?_
    refine A_inv3 dX7_tap_15 mv_X7_57 kCl_7 (Nat.le_of_ble_eq_true rfl) (by assumption) ?_
    refine C_of hM hR (by omega) (by omega) (by omega) (by omega) (by omega) (by omega) ?_
    refine A_istore_n dX7_tap_18 rfl (Nat.le_of_ble_eq_true rfl) rfl ?_
    refine A_aload_n dX7_tap_19 rfl rfl ?_
    refine A_getR (fi := 0) dX7_tap_20 fg_X7_7 rfl rfl (by assumption) (by assumption) ?_
    refine A_iconst dX7_tap_23 ⟨by decide, by decide⟩ ?_
    refine A_iload_n dX7_tap_24 rfl rfl ?_
    refine A_bipush dX7_tap_25 ⟨by decide, by decide⟩ rfl ?_
    refine A_ins3 dX7_tap_27 ms_X7_74 (Nat.le_of_ble_eq_true rfl) ?_
    refine C_at (by omega) (by omega) (by omega) (by omega) (by omega) (by omega) ?_
    refine A_iconst dX7_tap_30 ⟨by decide, by decide⟩ ?_
    refine A_iast dX7_tap_31 (by assumption) (by omega) (by omega) ?_
    refine A_iload_n dX7_tap_32 rfl rfl ?_
    refine A_iret dX7_tap_33 rfl ?_
    have e : tapS R car = (cfR R car 7, fU R (340 + 24 * car + 7) 1) := by unfold tapS; rw [if_neg (by omega)]
    rw [e] at hK
    exact hK _ (MC.rf.z (by omega) (by omega)) (hR.u (by omega))
  · replace c_5 := i01e c_5
    refine A_iconst dX7_tap_8 ⟨by decide, by decide⟩ ?_
    refine A_iret dX7_tap_9 rfl ?_
    have e : tapS R car = (-1, R) := by unfold tapS; rw [if_pos (by omega)]
    rw [e] at hK
    exact hK d MC.rf hR
theorem C_first {R : Int → Int} (hM : MO G m) (hR : PZ d m 0 R) (hK : K (some (kI (R 4))) G d) : AM E mX7_first k 0 0 [kR m] G d K := by
  obtain ⟨ho, e0, a0, -⟩ := id hM
  refine AM.of rfl (Nat.le_of_ble_eq_true rfl) ?_
  refine A_aload_n dX7_first_0 rfl rfl ?_
  refine A_getR (fi := 0) dX7_first_1 fg_X7_7 rfl rfl (by assumption) (by assumption) ?_
  refine A_iconst dX7_first_4 ⟨by decide, by decide⟩ ?_
  refine A_iald dX7_first_5 (by assumption) (by omega) (by omega) ?_
  refine A_iret dX7_first_6 rfl ?_
  rw [hR.z 4 (by omega) (by omega)]
  exact hK
theorem C_told {car what : Int} {R : Int → Int} (hM : MO G m) (hR : PZ d m 0 R) (hW : WG R) (hK : K (some (kI (toldA R car what))) G d) : AM E mX7_told (k + 3) 0 0 [kR m, kI car, kI what] G d K := by
  obtain ⟨ho, e0, a0, -⟩ := id hM
  obtain ⟨w1, w2, w3, w4, w5⟩ := id hW
  have z2 := hR.z 2 (by omega) (by omega)
  refine AM.of rfl (Nat.le_of_ble_eq_true rfl) ?_
  unfold toldA at hK
  refine A_aload_n dX7_told_0 rfl rfl ?_
  refine A_iload_n dX7_told_1 rfl rfl ?_
  refine A_inv1 dX7_told_2 mv_X7_84 kCl_7 (Nat.le_of_ble_eq_true rfl) (by assumption) ?_
  refine C_isCar hM (by omega) (by omega) ?_
  refine A_if_ne (tgt := 10) dX7_told_5 (by decide) (fun c_5 => ?_) (fun c_5 => ?_)
  · replace c_5 := i01n c_5
    refine A_iload_n dX7_told_10 rfl rfl ?_
    -- switch at 11: .tableswitch 107 0 7 #[45, 53, 61, 69, 76, 83, 90, 98]
    rw [if_neg (by omega)] at hK
    by_cases hr : what < 0 ∨ 7 < what
    · refine A_tsO (tgt := 118) dX7_told_11 (by decide) hr ?_
      refine A_iconst dX7_told_118 ⟨by decide, by decide⟩ ?_
      refine A_iret dX7_told_119 rfl ?_
      rw [if_neg (by omega), if_neg (by omega), if_neg (by omega), if_neg (by omega), if_neg (by omega), if_neg (by omega), if_neg (by omega), if_neg (by omega)] at hK
      exact hK
    · rcases (show what = 0 ∨ what = 1 ∨ what = 2 ∨ what = 3 ∨ what = 4 ∨ what = 5 ∨ what = 6 ∨ what = 7 by omega) with rfl | rfl | rfl | rfl | rfl | rfl | rfl | rfl
      · refine A_tsI (tgt := 56) dX7_told_11 (by omega) (by omega) rfl (by decide) ?_
        refine A_aload_n dX7_told_56 rfl rfl ?_
        refine A_iconst dX7_told_57 ⟨by decide, by decide⟩ ?_
        refine A_iload_n dX7_told_58 rfl rfl ?_
        refine A_iconst dX7_told_59 ⟨by decide, by decide⟩ ?_
        refine A_inv3 dX7_told_60 mv_X7_57 kCl_7 (Nat.le_of_ble_eq_true rfl) (by assumption) ?_
        refine C_of hM hR (by omega) (by omega) (by omega) (by omega) (by omega) (by omega) ?_
        refine A_iret dX7_told_63 rfl ?_
        exact hK
      · refine A_tsI (tgt := 64) dX7_told_11 (by omega) (by omega) rfl (by decide) ?_
        refine A_aload_n dX7_told_64 rfl rfl ?_
        refine A_iconst dX7_told_65 ⟨by decide, by decide⟩ ?_
        refine A_iload_n dX7_told_66 rfl rfl ?_
        refine A_iconst dX7_told_67 ⟨by decide, by decide⟩ ?_
        refine A_inv3 dX7_told_68 mv_X7_57 kCl_7 (Nat.le_of_ble_eq_true rfl) (by assumption) ?_
        refine C_of hM hR (by omega) (by omega) (by omega) (by omega) (by omega) (by omega) ?_
        refine A_iret dX7_told_71 rfl ?_
        exact hK
      · refine A_tsI (tgt := 72) dX7_told_11 (by omega) (by omega) rfl (by decide) ?_
        refine A_aload_n dX7_told_72 rfl rfl ?_
        refine A_iconst dX7_told_73 ⟨by decide, by decide⟩ ?_
        refine A_iload_n dX7_told_74 rfl rfl ?_
        refine A_iconst dX7_told_75 ⟨by decide, by decide⟩ ?_
        refine A_inv3 dX7_told_76 mv_X7_57 kCl_7 (Nat.le_of_ble_eq_true rfl) (by assumption) ?_
        refine C_of hM hR (by omega) (by omega) (by omega) (by omega) (by omega) (by omega) ?_
        refine A_iret dX7_told_79 rfl ?_
        exact hK
      · refine A_tsI (tgt := 80) dX7_told_11 (by omega) (by omega) rfl (by decide) ?_
        refine A_aload_n dX7_told_80 rfl rfl ?_
        refine A_iconst dX7_told_81 ⟨by decide, by decide⟩ ?_
        refine A_iload_n dX7_told_82 rfl rfl ?_
        refine A_inv2 dX7_told_83 mv_X7_92 kCl_7 (Nat.le_of_ble_eq_true rfl) (by assumption) ?_
        refine C_gap hM hR (by omega) (by omega) hW (by omega) (by omega) ?_
        refine A_iret dX7_told_86 rfl ?_
        exact hK
      · refine A_tsI (tgt := 87) dX7_told_11 (by omega) (by omega) rfl (by decide) ?_
        refine A_aload_n dX7_told_87 rfl rfl ?_
        refine A_iconst dX7_told_88 ⟨by decide, by decide⟩ ?_
        refine A_iload_n dX7_told_89 rfl rfl ?_
        refine A_inv2 dX7_told_90 mv_X7_64 kCl_7 (Nat.le_of_ble_eq_true rfl) (by assumption) ?_
        refine C_ahead hM hR (by omega) (by omega) hW (by omega) (by omega) ?_
        refine A_iret dX7_told_93 rfl ?_
        exact hK
      · refine A_tsI (tgt := 94) dX7_told_11 (by omega) (by omega) rfl (by decide) ?_
        refine A_aload_n dX7_told_94 rfl rfl ?_
        refine A_iconst dX7_told_95 ⟨by decide, by decide⟩ ?_
        refine A_iload_n dX7_told_96 rfl rfl ?_
        refine A_inv2 dX7_told_97 mv_X7_95 kCl_7 (Nat.le_of_ble_eq_true rfl) (by assumption) ?_
        refine C_other hM hR (by omega) (by omega) hW (by omega) (by omega) ?_
        refine A_iret dX7_told_100 rfl ?_
        exact hK
      · refine A_tsI (tgt := 101) dX7_told_11 (by omega) (by omega) rfl (by decide) ?_
        refine A_aload_n dX7_told_101 rfl rfl ?_
        refine A_iconst dX7_told_102 ⟨by decide, by decide⟩ ?_
        refine A_iload_n dX7_told_103 rfl rfl ?_
        refine A_iconst dX7_told_104 ⟨by decide, by decide⟩ ?_
        refine A_inv3 dX7_told_105 mv_X7_57 kCl_7 (Nat.le_of_ble_eq_true rfl) (by assumption) ?_
        refine C_of hM hR (by omega) (by omega) (by omega) (by omega) (by omega) (by omega) ?_
        refine A_iret dX7_told_108 rfl ?_
        exact hK
      · refine A_tsI (tgt := 109) dX7_told_11 (by omega) (by omega) rfl (by decide) ?_
        refine A_aload_n dX7_told_109 rfl rfl ?_
        refine A_iconst dX7_told_110 ⟨by decide, by decide⟩ ?_
        refine A_iload_n dX7_told_111 rfl rfl ?_
        refine A_bipush dX7_told_112 ⟨by decide, by decide⟩ rfl ?_
        refine A_inv3 dX7_told_114 mv_X7_57 kCl_7 (Nat.le_of_ble_eq_true rfl) (by assumption) ?_
        refine C_of hM hR (by omega) (by omega) (by omega) (by omega) (by omega) (by omega) ?_
        refine A_iret dX7_told_117 rfl ?_
        exact hK
  · replace c_5 := i01e c_5
    refine A_iconst dX7_told_8 ⟨by decide, by decide⟩ ?_
    refine A_iret dX7_told_9 rfl ?_
    rw [if_pos (by omega)] at hK
    exact hK
end M3
