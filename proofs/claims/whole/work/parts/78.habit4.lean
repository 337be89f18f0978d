/-! the Habit constructor -/
def hln (N C j : Nat) : Nat := if j ≤ 5 then N else C
def HP (G0 : HG) (d0 : HD) (H N C : Nat) (G : HG) (d : HD) (i : Nat) : Prop := G.1 = H + i ∧ (∀ b, b ≤ H → G.2.1 b = G0.2.1 b) ∧ (∀ b, b < H → G.2.2 b = G0.2.2 b ∧ d b = d0 b) ∧ d H 0 = C ∧ ∀ j : Nat, 1 ≤ j → j ≤ i → G.2.2 H (j : Int) = H + j ∧ isA G (H + j) 8 (hln N C j) ∧ ∀ q : Int, 0 ≤ q → q < hln N C j → d (H + j) q = d0 (j + 10) q
theorem HP.st {G0 G : HG} {d0 d d' : HD} {H N C i L : Nat} {fi : Int} (h : HP G0 d0 H N C G d i) (hH : 21 ≤ H) (hi : i ≤ 7) (hL : L = hln N C (i + 1)) (hL2 : L ≤ 1000000) (hf : fi = ((i + 1 : Nat) : Int)) (hd : ∀ b, b ≤ G.1 → d' b = d b) (hn : ∀ j, 0 ≤ j → j < (L : Int) → d' (G.1 + 1) j = d (i + 11) j) : HP G0 d0 H N C (kUR (kNew G 8 L) H fi (G.1 + 1)) d' (i + 1) := by
  obtain ⟨h1, h2, h3, h4, h5⟩ := h
  refine ⟨?_, fun b hb => ?_, fun b hb => ⟨?_, ?_⟩, ?_, fun j j1 j2 => ?_⟩
  · show G.1 + 1 = H + (i + 1)
    omega
  · rw [ur_s, nw_s (by omega)]; exact h2 b hb
  · rw [ur_r (by omega), nw_r (by omega)]; exact (h3 b hb).1
  · rw [hd b (by omega)]; exact (h3 b hb).2
  · rw [hd H (by omega)]; exact h4
  · by_cases q : j = i + 1
    · subst q
      subst hf
      subst hL
      rw [ur_e]
      refine ⟨by omega, ?_, fun q q1 q2 => ?_⟩
      · have := nw_nA (G := G) (ka := 8) hL2
        rw [h1] at this
        exact this
      · rw [show H + (i + 1) = G.1 + 1 by omega, hn q q1 q2, (h3 (i + 11) (by omega)).2]
    · obtain ⟨e1, e2, e3⟩ := h5 j j1 (by omega)
      rw [ur_f (by omega), nw_r (by omega)]
      refine ⟨e1, nw_A e2, fun q q1 q2 => ?_⟩
      rw [hd (H + j) (by omega)]
      exact e3 q q1 q2
section HI
variable {E : EE} {k H N C : Nat} {G : HG} {d : HD} {K : PQ}
theorem HP.RO {G' : HG} {d' : HD} {i : Nat} (h : HP G d H N C G' d' i) (hM : RO G) (hH : 21 ≤ H) : RO G' := by
  obtain ⟨h1, h2, h3, h4, h5⟩ := h
  have A : ∀ a n, a < 21 → isA G a 8 n → isA G' a 8 n := fun a n ha z => ⟨z.1, by omega, by rw [h2 a (by omega)]; exact z.2.2.1, z.2.2.2⟩
  have r : ∀ i, G'.2.2 9 i = G.2.2 9 i := fun i => by rw [(h3 9 (by omega)).1]
  obtain ⟨ho, x0, x6, x7, x8, x9, x10, x11, x12, x13, x14, x15⟩ := hM
  exact ⟨⟨ho.1, by omega, by rw [h2 9 (by omega)]; exact ho.2.2⟩, ⟨(r 0).trans x0.1, A _ _ (by decide) x0.2⟩, ⟨(r 6).trans x6.1, A _ _ (by decide) x6.2⟩, ⟨(r 7).trans x7.1, A _ _ (by decide) x7.2⟩, ⟨(r 8).trans x8.1, A _ _ (by decide) x8.2⟩, ⟨(r 9).trans x9.1, A _ _ (by decide) x9.2⟩, ⟨(r 10).trans x10.1, A _ _ (by decide) x10.2⟩, ⟨(r 11).trans x11.1, A _ _ (by decide) x11.2⟩, ⟨(r 12).trans x12.1, A _ _ (by decide) x12.2⟩, ⟨(r 13).trans x13.1, A _ _ (by decide) x13.2⟩, ⟨(r 14).trans x14.1, A _ _ (by decide) x14.2⟩, ⟨(r 15).trans x15.1, A _ _ (by decide) x15.2⟩⟩
theorem C_habitInit (hM : RO G) (hO : isO G H 1) (hH : G.1 = H) (hH2 : 21 ≤ H) (hC : d 9 4 = C) (hC2 : C ≤ 6) (hN : d 9 3 = N) (hN2 : N ≤ 100) (hK : ∀ G' d', HP G d H N C G' d' 8 → K none G' d') : AM E mX1_init (k + 2) 8 (5 * N + 3 * C) [kR H, kR 9] G d K := by
  have s8 : ∀ (G1 : HG) (d1 : HD), HP G d H N C G1 d1 8 → AW E mX1_init (k + 2) 0 0 132 [some (kR H), some (kR 9)] [] G1 d1 K := by
    intro G1 d1 hP
    refine A_vret dX1_init_132 rfl ?_
    exact hK G1 d1 hP
  have s7 : ∀ (G1 : HG) (d1 : HD), HP G d H N C G1 d1 7 → AW E mX1_init (k + 2) 1 (C) 117 [some (kR H), some (kR 9)] [] G1 d1 K := by
    intro G1 d1 hP
    obtain ⟨ho, x0, x6, x7, x8, x9, x10, x11, x12, x13, x14, x15⟩ := hP.RO hM hH2
    obtain ⟨ee, aa⟩ := x13
    have gl : d1 9 4 = C := by rw [(hP.2.2.1 9 (by omega)).2]; exact hC
    have o1 : isO G1 H 1 := ⟨hO.1, by rw [hP.1]; omega, by rw [hP.2.1 H (Nat.le_refl _)]; exact hO.2.2⟩
    refine A_aload_n dX1_init_117 rfl rfl ?_
    refine A_aload_n dX1_init_118 rfl rfl ?_
    refine A_getR (fi := 13) dX1_init_119 fg_X1_56 rfl rfl (by assumption) (by assumption) ?_
    refine A_aload_n dX1_init_122 rfl rfl ?_
    refine A_get (fi := 4) dX1_init_123 fg_X1_9 rfl rfl (by assumption) ?_
    rw [gl]
    refine A_ins (bc' := 1) (bs' := (C : Int).toNat) [kR 18, kI (C : Int)] dX1_init_126 ms_X1_25 rfl rfl (Nat.le_of_ble_eq_true rfl) (by omega) (by omega) ?_
    refine C_copyOf aa (by omega) (by omega) (fun d2 g1 g2 => ?_)
    have o2 : isO (kNew G1 8 (C : Int).toNat) H 1 := nw_O o1
    refine A_putR (fi := 8) dX1_init_129 fp_X1_59 (Or.inr rfl) rfl rfl (by assumption) ?_
    refine AW.more (by omega) (by omega) (s8 _ _ (hP.st hH2 (by omega) (by unfold hln; simp) (by omega) rfl g1 (fun j j1 j2 => g2 j j1 (by omega))))
  have s6 : ∀ (G1 : HG) (d1 : HD), HP G d H N C G1 d1 6 → AW E mX1_init (k + 2) 2 (2 * C) 102 [some (kR H), some (kR 9)] [] G1 d1 K := by
    intro G1 d1 hP
    obtain ⟨ho, x0, x6, x7, x8, x9, x10, x11, x12, x13, x14, x15⟩ := hP.RO hM hH2
    obtain ⟨ee, aa⟩ := x12
    have gl : d1 9 4 = C := by rw [(hP.2.2.1 9 (by omega)).2]; exact hC
    have o1 : isO G1 H 1 := ⟨hO.1, by rw [hP.1]; omega, by rw [hP.2.1 H (Nat.le_refl _)]; exact hO.2.2⟩
    refine A_aload_n dX1_init_102 rfl rfl ?_
    refine A_aload_n dX1_init_103 rfl rfl ?_
    refine A_getR (fi := 12) dX1_init_104 fg_X1_52 rfl rfl (by assumption) (by assumption) ?_
    refine A_aload_n dX1_init_107 rfl rfl ?_
    refine A_get (fi := 4) dX1_init_108 fg_X1_9 rfl rfl (by assumption) ?_
    rw [gl]
    refine A_ins (bc' := 1) (bs' := (C : Int).toNat) [kR 17, kI (C : Int)] dX1_init_111 ms_X1_25 rfl rfl (Nat.le_of_ble_eq_true rfl) (by omega) (by omega) ?_
    refine C_copyOf aa (by omega) (by omega) (fun d2 g1 g2 => ?_)
    have o2 : isO (kNew G1 8 (C : Int).toNat) H 1 := nw_O o1
    refine A_putR (fi := 7) dX1_init_114 fp_X1_55 (Or.inr rfl) rfl rfl (by assumption) ?_
    refine AW.more (by omega) (by omega) (s7 _ _ (hP.st hH2 (by omega) (by unfold hln; simp) (by omega) rfl g1 (fun j j1 j2 => g2 j j1 (by omega))))
  have s5 : ∀ (G1 : HG) (d1 : HD), HP G d H N C G1 d1 5 → AW E mX1_init (k + 2) 3 (3 * C) 87 [some (kR H), some (kR 9)] [] G1 d1 K := by
    intro G1 d1 hP
    obtain ⟨ho, x0, x6, x7, x8, x9, x10, x11, x12, x13, x14, x15⟩ := hP.RO hM hH2
    obtain ⟨ee, aa⟩ := x11
    have gl : d1 9 4 = C := by rw [(hP.2.2.1 9 (by omega)).2]; exact hC
    have o1 : isO G1 H 1 := ⟨hO.1, by rw [hP.1]; omega, by rw [hP.2.1 H (Nat.le_refl _)]; exact hO.2.2⟩
    refine A_aload_n dX1_init_87 rfl rfl ?_
    refine A_aload_n dX1_init_88 rfl rfl ?_
    refine A_getR (fi := 11) dX1_init_89 fg_X1_48 rfl rfl (by assumption) (by assumption) ?_
    refine A_aload_n dX1_init_92 rfl rfl ?_
    refine A_get (fi := 4) dX1_init_93 fg_X1_9 rfl rfl (by assumption) ?_
    rw [gl]
    refine A_ins (bc' := 1) (bs' := (C : Int).toNat) [kR 16, kI (C : Int)] dX1_init_96 ms_X1_25 rfl rfl (Nat.le_of_ble_eq_true rfl) (by omega) (by omega) ?_
    refine C_copyOf aa (by omega) (by omega) (fun d2 g1 g2 => ?_)
    have o2 : isO (kNew G1 8 (C : Int).toNat) H 1 := nw_O o1
    refine A_putR (fi := 6) dX1_init_99 fp_X1_51 (Or.inr rfl) rfl rfl (by assumption) ?_
    refine AW.more (by omega) (by omega) (s6 _ _ (hP.st hH2 (by omega) (by unfold hln; simp) (by omega) rfl g1 (fun j j1 j2 => g2 j j1 (by omega))))
  have s4 : ∀ (G1 : HG) (d1 : HD), HP G d H N C G1 d1 4 → AW E mX1_init (k + 2) 4 (N + 3 * C) 72 [some (kR H), some (kR 9)] [] G1 d1 K := by
    intro G1 d1 hP
    obtain ⟨ho, x0, x6, x7, x8, x9, x10, x11, x12, x13, x14, x15⟩ := hP.RO hM hH2
    obtain ⟨ee, aa⟩ := x10
    have gl : d1 9 3 = N := by rw [(hP.2.2.1 9 (by omega)).2]; exact hN
    have o1 : isO G1 H 1 := ⟨hO.1, by rw [hP.1]; omega, by rw [hP.2.1 H (Nat.le_refl _)]; exact hO.2.2⟩
    refine A_aload_n dX1_init_72 rfl rfl ?_
    refine A_aload_n dX1_init_73 rfl rfl ?_
    refine A_getR (fi := 10) dX1_init_74 fg_X1_44 rfl rfl (by assumption) (by assumption) ?_
    refine A_aload_n dX1_init_77 rfl rfl ?_
    refine A_get (fi := 3) dX1_init_78 fg_X1_22 rfl rfl (by assumption) ?_
    rw [gl]
    refine A_ins (bc' := 1) (bs' := (N : Int).toNat) [kR 15, kI (N : Int)] dX1_init_81 ms_X1_25 rfl rfl (Nat.le_of_ble_eq_true rfl) (by omega) (by omega) ?_
    refine C_copyOf aa (by omega) (by omega) (fun d2 g1 g2 => ?_)
    have o2 : isO (kNew G1 8 (N : Int).toNat) H 1 := nw_O o1
    refine A_putR (fi := 5) dX1_init_84 fp_X1_47 (Or.inr rfl) rfl rfl (by assumption) ?_
    refine AW.more (by omega) (by omega) (s5 _ _ (hP.st hH2 (by omega) (by unfold hln; simp) (by omega) rfl g1 (fun j j1 j2 => g2 j j1 (by omega))))
  have s3 : ∀ (G1 : HG) (d1 : HD), HP G d H N C G1 d1 3 → AW E mX1_init (k + 2) 5 (2 * N + 3 * C) 57 [some (kR H), some (kR 9)] [] G1 d1 K := by
    intro G1 d1 hP
    obtain ⟨ho, x0, x6, x7, x8, x9, x10, x11, x12, x13, x14, x15⟩ := hP.RO hM hH2
    obtain ⟨ee, aa⟩ := x9
    have gl : d1 9 3 = N := by rw [(hP.2.2.1 9 (by omega)).2]; exact hN
    have o1 : isO G1 H 1 := ⟨hO.1, by rw [hP.1]; omega, by rw [hP.2.1 H (Nat.le_refl _)]; exact hO.2.2⟩
    refine A_aload_n dX1_init_57 rfl rfl ?_
    refine A_aload_n dX1_init_58 rfl rfl ?_
    refine A_getR (fi := 9) dX1_init_59 fg_X1_40 rfl rfl (by assumption) (by assumption) ?_
    refine A_aload_n dX1_init_62 rfl rfl ?_
    refine A_get (fi := 3) dX1_init_63 fg_X1_22 rfl rfl (by assumption) ?_
    rw [gl]
    refine A_ins (bc' := 1) (bs' := (N : Int).toNat) [kR 14, kI (N : Int)] dX1_init_66 ms_X1_25 rfl rfl (Nat.le_of_ble_eq_true rfl) (by omega) (by omega) ?_
    refine C_copyOf aa (by omega) (by omega) (fun d2 g1 g2 => ?_)
    have o2 : isO (kNew G1 8 (N : Int).toNat) H 1 := nw_O o1
    refine A_putR (fi := 4) dX1_init_69 fp_X1_43 (Or.inr rfl) rfl rfl (by assumption) ?_
    refine AW.more (by omega) (by omega) (s4 _ _ (hP.st hH2 (by omega) (by unfold hln; simp) (by omega) rfl g1 (fun j j1 j2 => g2 j j1 (by omega))))
  have s2 : ∀ (G1 : HG) (d1 : HD), HP G d H N C G1 d1 2 → AW E mX1_init (k + 2) 6 (3 * N + 3 * C) 42 [some (kR H), some (kR 9)] [] G1 d1 K := by
    intro G1 d1 hP
    obtain ⟨ho, x0, x6, x7, x8, x9, x10, x11, x12, x13, x14, x15⟩ := hP.RO hM hH2
    obtain ⟨ee, aa⟩ := x8
    have gl : d1 9 3 = N := by rw [(hP.2.2.1 9 (by omega)).2]; exact hN
    have o1 : isO G1 H 1 := ⟨hO.1, by rw [hP.1]; omega, by rw [hP.2.1 H (Nat.le_refl _)]; exact hO.2.2⟩
    refine A_aload_n dX1_init_42 rfl rfl ?_
    refine A_aload_n dX1_init_43 rfl rfl ?_
    refine A_getR (fi := 8) dX1_init_44 fg_X1_36 rfl rfl (by assumption) (by assumption) ?_
    refine A_aload_n dX1_init_47 rfl rfl ?_
    refine A_get (fi := 3) dX1_init_48 fg_X1_22 rfl rfl (by assumption) ?_
    rw [gl]
    refine A_ins (bc' := 1) (bs' := (N : Int).toNat) [kR 13, kI (N : Int)] dX1_init_51 ms_X1_25 rfl rfl (Nat.le_of_ble_eq_true rfl) (by omega) (by omega) ?_
    refine C_copyOf aa (by omega) (by omega) (fun d2 g1 g2 => ?_)
    have o2 : isO (kNew G1 8 (N : Int).toNat) H 1 := nw_O o1
    refine A_putR (fi := 3) dX1_init_54 fp_X1_39 (Or.inr rfl) rfl rfl (by assumption) ?_
    refine AW.more (by omega) (by omega) (s3 _ _ (hP.st hH2 (by omega) (by unfold hln; simp) (by omega) rfl g1 (fun j j1 j2 => g2 j j1 (by omega))))
  have s1 : ∀ (G1 : HG) (d1 : HD), HP G d H N C G1 d1 1 → AW E mX1_init (k + 2) 7 (4 * N + 3 * C) 27 [some (kR H), some (kR 9)] [] G1 d1 K := by
    intro G1 d1 hP
    obtain ⟨ho, x0, x6, x7, x8, x9, x10, x11, x12, x13, x14, x15⟩ := hP.RO hM hH2
    obtain ⟨ee, aa⟩ := x7
    have gl : d1 9 3 = N := by rw [(hP.2.2.1 9 (by omega)).2]; exact hN
    have o1 : isO G1 H 1 := ⟨hO.1, by rw [hP.1]; omega, by rw [hP.2.1 H (Nat.le_refl _)]; exact hO.2.2⟩
    refine A_aload_n dX1_init_27 rfl rfl ?_
    refine A_aload_n dX1_init_28 rfl rfl ?_
    refine A_getR (fi := 7) dX1_init_29 fg_X1_32 rfl rfl (by assumption) (by assumption) ?_
    refine A_aload_n dX1_init_32 rfl rfl ?_
    refine A_get (fi := 3) dX1_init_33 fg_X1_22 rfl rfl (by assumption) ?_
    rw [gl]
    refine A_ins (bc' := 1) (bs' := (N : Int).toNat) [kR 12, kI (N : Int)] dX1_init_36 ms_X1_25 rfl rfl (Nat.le_of_ble_eq_true rfl) (by omega) (by omega) ?_
    refine C_copyOf aa (by omega) (by omega) (fun d2 g1 g2 => ?_)
    have o2 : isO (kNew G1 8 (N : Int).toNat) H 1 := nw_O o1
    refine A_putR (fi := 2) dX1_init_39 fp_X1_35 (Or.inr rfl) rfl rfl (by assumption) ?_
    refine AW.more (by omega) (by omega) (s2 _ _ (hP.st hH2 (by omega) (by unfold hln; simp) (by omega) rfl g1 (fun j j1 j2 => g2 j j1 (by omega))))
  have s0 : ∀ (G1 : HG) (d1 : HD), HP G d H N C G1 d1 0 → AW E mX1_init (k + 2) 8 (5 * N + 3 * C) 12 [some (kR H), some (kR 9)] [] G1 d1 K := by
    intro G1 d1 hP
    obtain ⟨ho, x0, x6, x7, x8, x9, x10, x11, x12, x13, x14, x15⟩ := hP.RO hM hH2
    obtain ⟨ee, aa⟩ := x6
    have gl : d1 9 3 = N := by rw [(hP.2.2.1 9 (by omega)).2]; exact hN
    have o1 : isO G1 H 1 := ⟨hO.1, by rw [hP.1]; omega, by rw [hP.2.1 H (Nat.le_refl _)]; exact hO.2.2⟩
    refine A_aload_n dX1_init_12 rfl rfl ?_
    refine A_aload_n dX1_init_13 rfl rfl ?_
    refine A_getR (fi := 6) dX1_init_14 fg_X1_18 rfl rfl (by assumption) (by assumption) ?_
    refine A_aload_n dX1_init_17 rfl rfl ?_
    refine A_get (fi := 3) dX1_init_18 fg_X1_22 rfl rfl (by assumption) ?_
    rw [gl]
    refine A_ins (bc' := 1) (bs' := (N : Int).toNat) [kR 11, kI (N : Int)] dX1_init_21 ms_X1_25 rfl rfl (Nat.le_of_ble_eq_true rfl) (by omega) (by omega) ?_
    refine C_copyOf aa (by omega) (by omega) (fun d2 g1 g2 => ?_)
    have o2 : isO (kNew G1 8 (N : Int).toNat) H 1 := nw_O o1
    refine A_putR (fi := 1) dX1_init_24 fp_X1_31 (Or.inr rfl) rfl rfl (by assumption) ?_
    refine AW.more (by omega) (by omega) (s1 _ _ (hP.st hH2 (by omega) (by unfold hln; simp) (by omega) rfl g1 (fun j j1 j2 => g2 j j1 (by omega))))
  have hM2 := hM.1
  refine AM.of rfl (Nat.le_of_ble_eq_true rfl) ?_
  refine A_aload_n dX1_init_0 rfl rfl ?_
  refine A_obj dX1_init_1 lk_X1_3 ow_inst ow_code (Nat.le_of_ble_eq_true rfl) (by omega) ?_
  refine A_aload_n dX1_init_4 rfl rfl ?_
  refine A_aload_n dX1_init_5 rfl rfl ?_
  refine A_get (fi := 4) dX1_init_6 fg_X1_9 rfl rfl (by assumption) ?_
  rw [hC]
  refine A_putC (fi := 0) dX1_init_9 fp_X1_15 rfl rfl rfl (by assumption) ?_
  refine s0 _ _ ⟨by omega, fun b _ => rfl, fun b hb => ⟨rfl, kU_ne (by omega)⟩, kU_s, fun j j1 j2 => by omega⟩
end HI
