theorem i01e {P : Prop} [Decidable P] (h : (if P then (1 : Int) else 0) = 0) : ¬ P := by
  intro q
  rw [if_pos q] at h
  omega
theorem i01n {P : Prop} [Decidable P] (h : (if P then (1 : Int) else 0) ≠ 0) : P := by
  by_cases q : P
  · exact q
  · rw [if_neg q] at h
    omega
/-- of the model's cells no more has changed than ring r of z, and what no later call looks at -/
def MC (d d' : HD) (m : Nat) (r : Int) : Prop := (∀ a, (a < m ∨ m + 14 < a ∨ (m + 2 ≤ a ∧ a ≤ m + 6)) → d' a = d a) ∧ d' m 3 = d m 3 ∧ ∀ j, (j < 640 * r ∨ 640 * r + 640 ≤ j) → d' (m + 1) j = d (m + 1) j
theorem MC.rf {d : HD} {m : Nat} {r : Int} : MC d d m r := ⟨fun _ _ => rfl, rfl, fun _ _ => rfl⟩
theorem MC.tr {d d1 d2 : HD} {m : Nat} {r : Int} (h1 : MC d d1 m r) (h2 : MC d1 d2 m r) : MC d d2 m r := ⟨fun a h => (h2.1 a h).trans (h1.1 a h), h2.2.1.trans h1.2.1, fun j h => (h2.2.2 j h).trans (h1.2.2 j h)⟩
theorem MC.z {d d' : HD} {m : Nat} {r i v : Int} (h : MC d d' m r) (h1 : 640 * r ≤ i) (h2 : i < 640 * r + 640) : MC d (kU d' (m + 1) i v) m r := by
  refine ⟨fun a ha => ?_, ?_, fun j hj => ?_⟩
  · rw [kU_ne (by omega)]; exact h.1 a ha
  · rw [kU_ne (by omega)]; exact h.2.1
  · unfold kU
    rw [if_neg (by omega)]
    exact h.2.2 j hj
theorem MC.f {d d' : HD} {m : Nat} {r i v : Int} (h : MC d d' m r) (h1 : i ≠ 3) : MC d (kU d' m i v) m r := by
  refine ⟨fun a ha => ?_, ?_, fun j hj => ?_⟩
  · rw [kU_ne (by omega)]; exact h.1 a ha
  · unfold kU
    rw [if_neg (by omega)]
    exact h.2.1
  · rw [kU_ne (by omega)]
    exact h.2.2 j hj
theorem MC.s {d d' : HD} {m a : Nat} {r i v : Int} (h : MC d d' m r) (h1 : m + 7 ≤ a) (h2 : a ≤ m + 14) : MC d (kU d' a i v) m r := by
  refine ⟨fun b hb => ?_, ?_, fun j hj => ?_⟩
  · rw [kU_ne (by omega)]; exact h.1 b hb
  · rw [kU_ne (by omega)]; exact h.2.1
  · rw [kU_ne (by omega)]
    exact h.2.2 j hj
def fU (R : Int → Int) (i v : Int) : Int → Int := fun j => if j = i then v else R j
theorem fU_s {R : Int → Int} {i v : Int} : fU R i v i = v := by simp [fU]
theorem fU_n {R : Int → Int} {i v j : Int} (h : j ≠ i) : fU R i v j = R j := by simp [fU, h]
theorem PZ.u {d : HD} {m : Nat} {r i q v : Int} {R : Int → Int} (h : PZ d m r R) (e : i = 640 * r + q) : PZ (kU d (m + 1) i v) m r (fU R q v) := by
  intro j h1 h2
  unfold kU fU
  by_cases hj : j = q
  · rw [if_pos ⟨rfl, by omega⟩, if_pos hj]
  · rw [if_neg (by omega), if_neg hj]
    exact h j h1 h2
theorem PZ.ne {d : HD} {m a : Nat} {r i v : Int} {R : Int → Int} (h : PZ d m r R) (e : m + 1 ≠ a) : PZ (kU d a i v) m r R := by
  intro j h1 h2
  rw [kU_ne e]
  exact h j h1 h2
theorem PZ.z {d : HD} {m : Nat} {R : Int → Int} (h : PZ d m 0 R) (q : Int) (h1 : 0 ≤ q) (h2 : q < 640) : d (m + 1) q = R q := by
  have := h q h1 h2
  rwa [show 640 * 0 + q = q by omega] at this
def ringA (R : Int → Int) (what v : Int) : Int := if ¬ (what = 0 ∧ 12 ≤ v ∧ v ≤ 99 ∨ what = 1 ∧ 1 ≤ v ∧ v ≤ 9) then -1 else if what = 0 ∧ (0 < R 2 ∨ 0 < R 5 ∨ 0 < R 6) then -2 else R what
def ringR (R : Int → Int) (what v : Int) : Int → Int := if ¬ (what = 0 ∧ 12 ≤ v ∧ v ≤ 99 ∨ what = 1 ∧ 1 ≤ v ∧ v ≤ 9) then R else if what = 0 ∧ (0 < R 2 ∨ 0 < R 5 ∨ 0 < R 6) then R else fU R what v
def zrR (R : Int → Int) (b n : Int) : Int → Int := fun j => if b ≤ j ∧ j < b + n then 0 else R j
def putR (R : Int → Int) (lane cell pace : Int) : Int → Int := fU (fU (fU (fU (zrR R (340 + 24 * R 2) 24) (340 + 24 * R 2) cell) (340 + 24 * R 2 + 1) lane) (340 + 24 * R 2 + 2) pace) 2 (R 2 + 1)
section M3
variable {E : EE} {k m : Nat} {G : HG} {d : HD} {K : PQ}
theorem C_ring {what v : Int} {R : Int → Int} (hM : MO G m) (hR : PZ d m 0 R) (hK : ∀ d', MC d d' m 0 → PZ d' m 0 (ringR R what v) → K (some (kI (ringA R what v))) G d') : AM E mX7_ring (k + 1) 0 0 [kR m, kI what, kI v] G d K := by
  obtain ⟨ho, e0, a0, -⟩ := id hM
  have z2 := hR.z 2 (by omega) (by omega)
  have z5 := hR.z 5 (by omega) (by omega)
  have z6 := hR.z 6 (by omega) (by omega)
  have bad : ¬ (what = 0 ∧ 12 ≤ v ∧ v ≤ 99 ∨ what = 1 ∧ 1 ≤ v ∧ v ≤ 9) → K (some (kI (-1))) G d := fun h => by
    have e1 : ringA R what v = -1 := by unfold ringA; rw [if_pos h]
    have e2 : ringR R what v = R := by unfold ringR; rw [if_pos h]
    rw [← e1]
    exact hK d MC.rf (by rw [e2]; exact hR)
  have notA : (what = 0 ∧ 12 ≤ v ∧ v ≤ 99) → (0 < R 2 ∨ 0 < R 5 ∨ 0 < R 6) → K (some (kI (-2))) G d := fun h h' => by
    have e1 : ringA R what v = -2 := by unfold ringA; rw [if_neg (by omega), if_pos ⟨h.1, h'⟩]
    have e2 : ringR R what v = R := by unfold ringR; rw [if_neg (by omega), if_pos ⟨h.1, h'⟩]
    rw [← e1]
    exact hK d MC.rf (by rw [e2]; exact hR)
  have good : (what = 0 ∧ 12 ≤ v ∧ v ≤ 99 ∨ what = 1 ∧ 1 ≤ v ∧ v ≤ 9) → ¬ (what = 0 ∧ (0 < R 2 ∨ 0 < R 5 ∨ 0 < R 6)) → AW E mX7_ring (k + 1) 0 0 79 [some (kR m), some (kI what), some (kI v), none] [] G d K := fun h h' => by
    refine A_aload_n dX7_ring_79 rfl rfl ?_
    refine A_getR (fi := 0) dX7_ring_80 fg_X7_7 rfl rfl (by assumption) (by assumption) ?_
    refine A_iload_n dX7_ring_83 rfl rfl ?_
    refine A_iald dX7_ring_84 (by assumption) (by omega) (by omega) ?_
    refine A_istore_n dX7_ring_85 rfl (Nat.le_of_ble_eq_true rfl) rfl ?_
    refine A_aload_n dX7_ring_86 rfl rfl ?_
    refine A_getR (fi := 0) dX7_ring_87 fg_X7_7 rfl rfl (by assumption) (by assumption) ?_
    refine A_iload_n dX7_ring_90 rfl rfl ?_
    refine A_iload_n dX7_ring_91 rfl rfl ?_
    refine A_iast dX7_ring_92 (by assumption) (by omega) (by omega) ?_
    refine A_iload_n dX7_ring_93 rfl rfl ?_
    refine A_iret dX7_ring_94 rfl ?_
    have e1 : ringA R what v = R what := by unfold ringA; rw [if_neg (by omega), if_neg h']
    have e2 : ringR R what v = fU R what v := by unfold ringR; rw [if_neg (by omega), if_neg h']
    rw [hR.z what (by omega) (by omega), ← e1]
    exact hK _ (MC.rf.z (by omega) (by omega)) (by rw [e2]; exact hR.u (by omega))
  have fork : (what = 0 ∧ 12 ≤ v ∧ v ≤ 99 ∨ what = 1 ∧ 1 ≤ v ∧ v ≤ 9) → AW E mX7_ring (k + 1) 0 0 44 [some (kR m), some (kI what), some (kI v), none] [] G d K := fun h => by
    refine A_iload_n dX7_ring_44 rfl rfl ?_
    refine A_if_ne (tgt := 79) dX7_ring_45 (by decide) (fun c_45 => ?_) (fun c_45 => ?_)
    · skip
      exact good h (by omega)
    · refine A_aload_n dX7_ring_48 rfl rfl ?_
      refine A_getR (fi := 0) dX7_ring_49 fg_X7_7 rfl rfl (by assumption) (by assumption) ?_
      refine A_iconst dX7_ring_52 ⟨by decide, by decide⟩ ?_
      refine A_iald dX7_ring_53 (by assumption) (by omega) (by omega) ?_
      refine A_if_gt (tgt := 76) dX7_ring_54 (by decide) (fun c_54 => ?_) (fun c_54 => ?_)
      · refine A_bipush dX7_ring_76 ⟨by decide, by decide⟩ rfl ?_
        refine A_iret dX7_ring_78 rfl ?_
        exact notA (by omega) (by omega)
      · refine A_aload_n dX7_ring_57 rfl rfl ?_
        refine A_getR (fi := 0) dX7_ring_58 fg_X7_7 rfl rfl (by assumption) (by assumption) ?_
        refine A_iconst dX7_ring_61 ⟨by decide, by decide⟩ ?_
        refine A_iald dX7_ring_62 (by assumption) (by omega) (by omega) ?_
        refine A_if_gt (tgt := 76) dX7_ring_63 (by decide) (fun c_63 => ?_) (fun c_63 => ?_)
        · refine A_bipush dX7_ring_76 ⟨by decide, by decide⟩ rfl ?_
          refine A_iret dX7_ring_78 rfl ?_
          exact notA (by omega) (by omega)
        · refine A_aload_n dX7_ring_66 rfl rfl ?_
          refine A_getR (fi := 0) dX7_ring_67 fg_X7_7 rfl rfl (by assumption) (by assumption) ?_
          refine A_bipush dX7_ring_70 ⟨by decide, by decide⟩ rfl ?_
          refine A_iald dX7_ring_72 (by assumption) (by omega) (by omega) ?_
          refine A_if_le (tgt := 79) dX7_ring_73 (by decide) (fun c_73 => ?_) (fun c_73 => ?_)
          · skip
            exact good h (by omega)
          · refine A_bipush dX7_ring_76 ⟨by decide, by decide⟩ rfl ?_
            refine A_iret dX7_ring_78 rfl ?_
            exact notA (by omega) (by omega)
  refine AM.of rfl (Nat.le_of_ble_eq_true rfl) ?_
  refine A_iload_n dX7_ring_0 rfl rfl ?_
  refine A_i2l dX7_ring_1 ?_
  refine A_lconst (x := 0) dX7_ring_2 ⟨by decide, by decide⟩ rfl ?_
  refine A_lconst (x := 1) dX7_ring_3 ⟨by decide, by decide⟩ rfl ?_
  refine A_ins3 dX7_ring_4 ms_X7_53 (Nat.le_of_ble_eq_true rfl) ?_
  refine C_in ?_
  refine A_if_eq (tgt := 42) dX7_ring_7 (by decide) (fun c_7 => ?_) (fun c_7 => ?_)
  · replace c_7 := i01e c_7
    refine A_iconst dX7_ring_42 ⟨by decide, by decide⟩ ?_
    refine A_iret dX7_ring_43 rfl ?_
    exact bad (by omega)
  · replace c_7 := i01n c_7
    refine A_iload_n dX7_ring_10 rfl rfl ?_
    refine A_i2l dX7_ring_11 ?_
    refine A_iload_n dX7_ring_12 rfl rfl ?_
    refine A_if_ne (tgt := 22) dX7_ring_13 (by decide) (fun c_13 => ?_) (fun c_13 => ?_)
    · refine A_lconst (x := 1) dX7_ring_22 ⟨by decide, by decide⟩ rfl ?_
      refine A_iload_n dX7_ring_23 rfl rfl ?_
      refine A_if_ne (tgt := 33) dX7_ring_24 (by decide) (fun c_24 => ?_) (fun c_24 => absurd c_24 (by omega))
      refine A_ldc2 (x := 9) dX7_ring_33 cs_X7_72 rfl ⟨by decide, by decide⟩ ?_
      refine A_ins3 dX7_ring_36 ms_X7_53 (Nat.le_of_ble_eq_true rfl) ?_
      refine C_in ?_
      refine A_if_ne (tgt := 44) dX7_ring_39 (by decide) (fun c_39 => ?_) (fun c_39 => ?_)
      · replace c_39 := i01n c_39
        exact fork (by omega)
      · replace c_39 := i01e c_39
        refine A_iconst dX7_ring_42 ⟨by decide, by decide⟩ ?_
        refine A_iret dX7_ring_43 rfl ?_
        exact bad (by omega)
    · refine A_ldc2 (x := 12) dX7_ring_16 cs_X7_68 rfl ⟨by decide, by decide⟩ ?_
      refine A_goto (tgt := 23) dX7_ring_19 (by decide) ?_
      refine A_iload_n dX7_ring_23 rfl rfl ?_
      refine A_if_ne (tgt := 33) dX7_ring_24 (by decide) (fun c_24 => absurd c_24 (by omega)) (fun c_24 => ?_)
      refine A_ldc2 (x := 99) dX7_ring_27 cs_X7_70 rfl ⟨by decide, by decide⟩ ?_
      refine A_goto (tgt := 36) dX7_ring_30 (by decide) ?_
      refine A_ins3 dX7_ring_36 ms_X7_53 (Nat.le_of_ble_eq_true rfl) ?_
      refine C_in ?_
      refine A_if_ne (tgt := 44) dX7_ring_39 (by decide) (fun c_39 => ?_) (fun c_39 => ?_)
      · replace c_39 := i01n c_39
        exact fork (by omega)
      · replace c_39 := i01e c_39
        refine A_iconst dX7_ring_42 ⟨by decide, by decide⟩ ?_
        refine A_iret dX7_ring_43 rfl ?_
        exact bad (by omega)
end M3
