/-! constructors: an object A, its arrays behind it -/
def OP (G0 : HG) (d0 : HD) (A : Nat) (fld kd ln : Nat → Nat) (G : HG) (d : HD) (i : Nat) : Prop := G.1 = A + i ∧ (∀ b, b ≤ A → G.2.1 b = G0.2.1 b) ∧ (∀ b, b < A → G.2.2 b = G0.2.2 b ∧ d b = d0 b) ∧ (∀ b, A < b → b ≤ A + i → ∀ q, d b q = 0) ∧ ∀ j : Nat, 1 ≤ j → j ≤ i → G.2.2 A (fld j : Int) = A + j ∧ isA G (A + j) (kd j) (ln j)
theorem OP.st {G0 G : HG} {d0 d : HD} {A i L k : Nat} {fld kd ln : Nat → Nat} {fi : Int} (h : OP G0 d0 A fld kd ln G d i) (hk : k = kd (i + 1)) (hL : L = ln (i + 1)) (hL2 : L ≤ 1000000) (hf : fi = (fld (i + 1) : Int)) (hinj : ∀ j : Nat, j ≤ i → fld j ≠ fld (i + 1)) : OP G0 d0 A fld kd ln (kUR (kNew G k L) A fi (G.1 + 1)) (kNewD G d) (i + 1) ∧ kNewD G d A = d A := by
  obtain ⟨h1, h2, h3, h4, h5⟩ := h
  refine ⟨⟨?_, fun b hb => ?_, fun b hb => ⟨?_, ?_⟩, fun b b1 b2 q => ?_, fun j j1 j2 => ?_⟩, nw_d (by omega)⟩
  · show G.1 + 1 = A + (i + 1)
    omega
  · rw [ur_s, nw_s (by omega)]; exact h2 b hb
  · rw [ur_r (by omega), nw_r (by omega)]; exact (h3 b hb).1
  · rw [nw_d (by omega)]; exact (h3 b hb).2
  · by_cases z : b = G.1 + 1
    · rw [z]; exact nw_0
    · rw [nw_d z]; exact h4 b b1 (by omega) q
  · by_cases q : j = i + 1
    · subst q
      subst hf
      subst hL
      subst hk
      rw [ur_e]
      refine ⟨by omega, ?_⟩
      have := nw_nA (G := G) (ka := kd (i + 1)) hL2
      rw [h1] at this
      exact this
    · obtain ⟨e1, e2⟩ := h5 j j1 (by omega)
      have hne := hinj j (by omega)
      rw [ur_f (by omega), nw_r (by omega)]
      exact ⟨e1, nw_A e2⟩
theorem OP.put {G0 G : HG} {d0 d : HD} {A i : Nat} {fld kd ln : Nat → Nat} {f v : Int} (h : OP G0 d0 A fld kd ln G d i) : OP G0 d0 A fld kd ln G (kU d A f v) i := by
  obtain ⟨h1, h2, h3, h4, h5⟩ := h
  exact ⟨h1, h2, fun b hb => ⟨(h3 b hb).1, by rw [kU_ne (by omega)]; exact (h3 b hb).2⟩, fun b b1 b2 q => by rw [kU_ne (by omega)]; exact h4 b b1 b2 q, h5⟩
theorem OP.O {G0 G : HG} {d0 d : HD} {A i k : Nat} {fld kd ln : Nat → Nat} (h : OP G0 d0 A fld kd ln G d i) (ho : isO G0 A k) : isO G A k := ⟨ho.1, by rw [h.1]; omega, by rw [h.2.1 A (Nat.le_refl _)]; exact ho.2.2⟩
theorem OP.of {G0 : HG} {d0 : HD} {A : Nat} {fld kd ln : Nat → Nat} (h : G0.1 = A) : OP G0 d0 A fld kd ln G0 d0 0 := ⟨h, fun _ _ => rfl, fun _ _ => ⟨rfl, rfl⟩, fun b b1 b2 => by omega, fun j j1 j2 => by omega⟩
section MK3
variable {E : EE} {k A : Nat} {G : HG} {d : HD} {K : PQ}
def moF (j : Nat) : Nat := match j with
  | 1 => 0
  | 2 => 1
  | 3 => 2
  | 4 => 4
  | 5 => 5
  | 6 => 6
  | 7 => 7
  | 8 => 8
  | 9 => 9
  | 10 => 13
  | 11 => 14
  | 12 => 15
  | 13 => 18
  | 14 => 19
  | _ => 99
def moK (j : Nat) : Nat := match j with
  | 1 => 8
  | 2 => 9
  | 3 => 8
  | 4 => 8
  | 5 => 8
  | 6 => 8
  | 7 => 8
  | 8 => 8
  | 9 => 9
  | 10 => 9
  | 11 => 9
  | 12 => 9
  | 13 => 8
  | 14 => 8
  | _ => 99
def moL (j : Nat) : Nat := match j with
  | 1 => 3200
  | 2 => 2
  | 3 => 100
  | 4 => 144
  | 5 => 4
  | 6 => 4
  | 7 => 36
  | 8 => 12
  | 9 => 12
  | 10 => 5
  | 11 => 5
  | 12 => 5
  | 13 => 12
  | 14 => 12
  | _ => 99
def rdF (j : Nat) : Nat := match j with
  | 1 => 0
  | 2 => 6
  | 3 => 7
  | 4 => 8
  | 5 => 9
  | 6 => 10
  | 7 => 11
  | 8 => 12
  | 9 => 13
  | 10 => 14
  | 11 => 15
  | _ => 99
def rdK (j : Nat) : Nat := match j with
  | 1 => 8
  | 2 => 8
  | 3 => 8
  | 4 => 8
  | 5 => 8
  | 6 => 8
  | 7 => 8
  | 8 => 8
  | 9 => 8
  | 10 => 8
  | 11 => 8
  | _ => 99
def rdL (j : Nat) : Nat := match j with
  | 1 => 100
  | 2 => 100
  | 3 => 100
  | 4 => 100
  | 5 => 100
  | 6 => 100
  | 7 => 6
  | 8 => 6
  | 9 => 6
  | 10 => 214
  | 11 => 214
  | _ => 99
def shF (j : Nat) : Nat := match j with
  | 1 => 2
  | _ => 99
def shK (j : Nat) : Nat := match j with
  | 1 => 8
  | _ => 99
def shL (j : Nat) : Nat := match j with
  | 1 => 36
  | _ => 99
def caF1 (j : Nat) : Nat := match j with
  | 1 => 9
  | _ => 99
def caK1 (j : Nat) : Nat := match j with
  | 1 => 8
  | _ => 99
def caL1 (j : Nat) : Nat := match j with
  | 1 => 12
  | _ => 99
def knF (j : Nat) : Nat := match j with
  | 1 => 0
  | 2 => 1
  | 3 => 3
  | _ => 99
def knK (j : Nat) : Nat := match j with
  | 1 => 8
  | 2 => 8
  | 3 => 8
  | _ => 99
def knL (j : Nat) : Nat := match j with
  | 1 => 12
  | 2 => 12
  | 3 => 12
  | _ => 99
theorem C_knotsInit (hO : isO G A 2) (hG : G.1 = A) (hd : ∀ q, d A q = 0) (hK : ∀ G' d', OP G d A knF knK knL G' d' 3 → (∀ q, d' A q = 0) → K none G' d') : AM E mX2_init (k + 1) 3 36 [kR A] G d K := by
  have s3 : ∀ (G1 : HG) (d1 : HD), OP G d A knF knK knL G1 d1 3 → (∀ q, d1 A q = (fun _ => (0 : Int)) q) → AW E mX2_init (k + 1) (0 + 0) (0 + 0) 28 [some (kR A)] [] G1 d1 K := by
    intro G1 d1 hP hA
    refine A_vret dX2_init_28 rfl ?_
    exact hK G1 d1 hP hA
  have s2 : ∀ (G1 : HG) (d1 : HD), OP G d A knF knK knL G1 d1 2 → (∀ q, d1 A q = (fun _ => (0 : Int)) q) → AW E mX2_init (k + 1) (1 + 0) (12 + 0) 20 [some (kR A)] [] G1 d1 K := by
    intro G1 d1 hP hA
    have o1 : isO G1 A 2 := hP.O hO
    have o2 : isO (kNew G1 8 ((12 : Int)).toNat) A 2 := nw_O o1
    refine A_aload_n dX2_init_20 rfl rfl ?_
    refine A_bipush dX2_init_21 ⟨by decide, by decide⟩ rfl ?_
    refine A_newa (ka := 8) (t := 0) dX2_init_23 rfl ac_int (fun _ => rfl) (Or.inl ⟨rfl, rfl⟩) (by omega) (by omega) (by omega) (by omega) ?_
    refine A_putR (fi := 3) dX2_init_25 fp_X2_18 (Or.inr rfl) rfl rfl (by assumption) ?_
    obtain ⟨p1, p2⟩ := hP.st (k := 8) (L := ((12 : Int)).toNat) (fi := 3) rfl rfl (by decide) rfl (by decide)
    refine AW.more (by omega) (by omega) (s3 _ _ p1 (fun q => by rw [p2]; exact hA q))
  have s1 : ∀ (G1 : HG) (d1 : HD), OP G d A knF knK knL G1 d1 1 → (∀ q, d1 A q = (fun _ => (0 : Int)) q) → AW E mX2_init (k + 1) (2 + 0) (24 + 0) 12 [some (kR A)] [] G1 d1 K := by
    intro G1 d1 hP hA
    have o1 : isO G1 A 2 := hP.O hO
    have o2 : isO (kNew G1 8 ((12 : Int)).toNat) A 2 := nw_O o1
    refine A_aload_n dX2_init_12 rfl rfl ?_
    refine A_bipush dX2_init_13 ⟨by decide, by decide⟩ rfl ?_
    refine A_newa (ka := 8) (t := 0) dX2_init_15 rfl ac_int (fun _ => rfl) (Or.inl ⟨rfl, rfl⟩) (by omega) (by omega) (by omega) (by omega) ?_
    refine A_putR (fi := 1) dX2_init_17 fp_X2_15 (Or.inr rfl) rfl rfl (by assumption) ?_
    obtain ⟨p1, p2⟩ := hP.st (k := 8) (L := ((12 : Int)).toNat) (fi := 1) rfl rfl (by decide) rfl (by decide)
    refine AW.more (by omega) (by omega) (s2 _ _ p1 (fun q => by rw [p2]; exact hA q))
  have s0 : ∀ (G1 : HG) (d1 : HD), OP G d A knF knK knL G1 d1 0 → (∀ q, d1 A q = (fun _ => (0 : Int)) q) → AW E mX2_init (k + 1) (3 + 0) (36 + 0) 4 [some (kR A)] [] G1 d1 K := by
    intro G1 d1 hP hA
    have o1 : isO G1 A 2 := hP.O hO
    have o2 : isO (kNew G1 8 ((12 : Int)).toNat) A 2 := nw_O o1
    refine A_aload_n dX2_init_4 rfl rfl ?_
    refine A_bipush dX2_init_5 ⟨by decide, by decide⟩ rfl ?_
    refine A_newa (ka := 8) (t := 0) dX2_init_7 rfl ac_int (fun _ => rfl) (Or.inl ⟨rfl, rfl⟩) (by omega) (by omega) (by omega) (by omega) ?_
    refine A_putR (fi := 0) dX2_init_9 fp_X2_9 (Or.inr rfl) rfl rfl (by assumption) ?_
    obtain ⟨p1, p2⟩ := hP.st (k := 8) (L := ((12 : Int)).toNat) (fi := 0) rfl rfl (by decide) rfl (by decide)
    refine AW.more (by omega) (by omega) (s1 _ _ p1 (fun q => by rw [p2]; exact hA q))
  have h1 := hO.1
  refine AM.of rfl (Nat.le_of_ble_eq_true rfl) ?_
  refine A_aload_n dX2_init_0 rfl rfl ?_
  refine A_obj dX2_init_1 lk_X2_3 ow_inst ow_code (Nat.le_of_ble_eq_true rfl) (by omega) ?_
  exact s0 _ _ (OP.of hG) hd
theorem C_carInit (hO : isO G A 0) (hG : G.1 = A) (hd : ∀ q, d A q = 0) (hK : ∀ G' d', OP G d A caF1 caK1 caL1 G' d' 1 → (∀ q, d' A q = 0) → K none G' d') : AM E mX0_init (k + 1) 1 12 [kR A] G d K := by
  have s1 : ∀ (G1 : HG) (d1 : HD), OP G d A caF1 caK1 caL1 G1 d1 1 → (∀ q, d1 A q = (fun _ => (0 : Int)) q) → AW E mX0_init (k + 1) (0 + 0) (0 + 0) 12 [some (kR A)] [] G1 d1 K := by
    intro G1 d1 hP hA
    refine A_vret dX0_init_12 rfl ?_
    exact hK G1 d1 hP hA
  have s0 : ∀ (G1 : HG) (d1 : HD), OP G d A caF1 caK1 caL1 G1 d1 0 → (∀ q, d1 A q = (fun _ => (0 : Int)) q) → AW E mX0_init (k + 1) (1 + 0) (12 + 0) 4 [some (kR A)] [] G1 d1 K := by
    intro G1 d1 hP hA
    have o1 : isO G1 A 0 := hP.O hO
    have o2 : isO (kNew G1 8 ((12 : Int)).toNat) A 0 := nw_O o1
    refine A_aload_n dX0_init_4 rfl rfl ?_
    refine A_bipush dX0_init_5 ⟨by decide, by decide⟩ rfl ?_
    refine A_newa (ka := 8) (t := 0) dX0_init_7 rfl ac_int (fun _ => rfl) (Or.inl ⟨rfl, rfl⟩) (by omega) (by omega) (by omega) (by omega) ?_
    refine A_putR (fi := 9) dX0_init_9 fp_X0_9 (Or.inr rfl) rfl rfl (by assumption) ?_
    obtain ⟨p1, p2⟩ := hP.st (k := 8) (L := ((12 : Int)).toNat) (fi := 9) rfl rfl (by decide) rfl (by decide)
    refine AW.more (by omega) (by omega) (s1 _ _ p1 (fun q => by rw [p2]; exact hA q))
  have h1 := hO.1
  refine AM.of rfl (Nat.le_of_ble_eq_true rfl) ?_
  refine A_aload_n dX0_init_0 rfl rfl ?_
  refine A_obj dX0_init_1 lk_X0_1 ow_inst ow_code (Nat.le_of_ble_eq_true rfl) (by omega) ?_
  exact s0 _ _ (OP.of hG) hd
theorem C_sheetInit (hO : isO G A 5) (hG : G.1 = A) (hd : ∀ q, d A q = 0) (hK : ∀ G' d', OP G d A shF shK shL G' d' 1 → (∀ q, d' A q = if q = 0 then -1 else 0) → K none G' d') : AM E mX5_init (k + 1) 1 36 [kR A] G d K := by
  have s1 : ∀ (G1 : HG) (d1 : HD), OP G d A shF shK shL G1 d1 1 → (∀ q, d1 A q = (fun q => if q = 0 then (-1 : Int) else 0) q) → AW E mX5_init (k + 1) (0 + 0) (0 + 0) 22 [some (kR A)] [] G1 d1 K := by
    intro G1 d1 hP hA
    refine A_vret dX5_init_22 rfl ?_
    exact hK G1 d1 hP hA
  have s0 : ∀ (G1 : HG) (d1 : HD), OP G d A shF shK shL G1 d1 0 → (∀ q, d1 A q = (fun q => if q = 0 then (-1 : Int) else 0) q) → AW E mX5_init (k + 1) (1 + 0) (36 + 0) 14 [some (kR A)] [] G1 d1 K := by
    intro G1 d1 hP hA
    have o1 : isO G1 A 5 := hP.O hO
    have o2 : isO (kNew G1 8 ((36 : Int)).toNat) A 5 := nw_O o1
    refine A_aload_n dX5_init_14 rfl rfl ?_
    refine A_bipush dX5_init_15 ⟨by decide, by decide⟩ rfl ?_
    refine A_newa (ka := 8) (t := 0) dX5_init_17 rfl ac_int (fun _ => rfl) (Or.inl ⟨rfl, rfl⟩) (by omega) (by omega) (by omega) (by omega) ?_
    refine A_putR (fi := 2) dX5_init_19 fp_X5_18 (Or.inr rfl) rfl rfl (by assumption) ?_
    obtain ⟨p1, p2⟩ := hP.st (k := 8) (L := ((36 : Int)).toNat) (fi := 2) rfl rfl (by decide) rfl (by decide)
    refine AW.more (by omega) (by omega) (s1 _ _ p1 (fun q => by rw [p2]; exact hA q))
  have h1 := hO.1
  refine AM.of rfl (Nat.le_of_ble_eq_true rfl) ?_
  refine A_aload_n dX5_init_0 rfl rfl ?_
  refine A_obj dX5_init_1 lk_X5_3 ow_inst ow_code (Nat.le_of_ble_eq_true rfl) (by omega) ?_
  refine A_aload_n dX5_init_4 rfl rfl ?_
  refine A_iconst dX5_init_5 ⟨by decide, by decide⟩ ?_
  refine A_putC (fi := 0) dX5_init_6 fp_X5_9 rfl rfl rfl (by assumption) ?_
  refine A_aload_n dX5_init_9 rfl rfl ?_
  refine A_iconst dX5_init_10 ⟨by decide, by decide⟩ ?_
  refine A_putC (fi := 1) dX5_init_11 fp_X5_15 rfl rfl rfl (by assumption) ?_
  refine s0 _ _ (OP.of hG).put.put (fun q => ?_)
  show kU (kU d A 0 (-1)) A 1 0 A q = if q = 0 then (-1 : Int) else 0
  by_cases z1 : q = 1
  · subst z1; rw [kU_s]; rfl
  · rw [kU_f z1]
    by_cases z0 : q = 0
    · subst z0; rw [kU_s]; rfl
    · rw [kU_f z0, if_neg z0]; exact hd q
theorem C_readerInit (hO : isO G A 3) (hG : G.1 = A) (hd : ∀ q, d A q = 0) (hK : ∀ G' d', OP G d A rdF rdK rdL G' d' 11 → (∀ q, d' A q = 0) → K none G' d') : AM E mX3_init (k + 1) 11 1046 [kR A] G d K := by
  have s11 : ∀ (G1 : HG) (d1 : HD), OP G d A rdF rdK rdL G1 d1 11 → (∀ q, d1 A q = (fun _ => (0 : Int)) q) → AW E mX3_init (k + 1) (0 + 0) (0 + 0) 119 [some (kR A)] [] G1 d1 K := by
    intro G1 d1 hP hA
    refine A_vret dX3_init_119 rfl ?_
    exact hK G1 d1 hP hA
  have s10 : ∀ (G1 : HG) (d1 : HD), OP G d A rdF rdK rdL G1 d1 10 → (∀ q, d1 A q = (fun _ => (0 : Int)) q) → AW E mX3_init (k + 1) (1 + 0) (214 + 0) 110 [some (kR A)] [] G1 d1 K := by
    intro G1 d1 hP hA
    have o1 : isO G1 A 3 := hP.O hO
    have o2 : isO (kNew G1 8 ((214 : Int)).toNat) A 3 := nw_O o1
    refine A_aload_n dX3_init_110 rfl rfl ?_
    refine A_sipush dX3_init_111 ⟨by decide, by decide⟩ rfl ?_
    refine A_newa (ka := 8) (t := 0) dX3_init_114 rfl ac_int (fun _ => rfl) (Or.inl ⟨rfl, rfl⟩) (by omega) (by omega) (by omega) (by omega) ?_
    refine A_putR (fi := 15) dX3_init_116 fp_X3_58 (Or.inr rfl) rfl rfl (by assumption) ?_
    obtain ⟨p1, p2⟩ := hP.st (k := 8) (L := ((214 : Int)).toNat) (fi := 15) rfl rfl (by decide) rfl (by decide)
    refine AW.more (by omega) (by omega) (s11 _ _ p1 (fun q => by rw [p2]; exact hA q))
  have s9 : ∀ (G1 : HG) (d1 : HD), OP G d A rdF rdK rdL G1 d1 9 → (∀ q, d1 A q = (fun _ => (0 : Int)) q) → AW E mX3_init (k + 1) (2 + 0) (428 + 0) 101 [some (kR A)] [] G1 d1 K := by
    intro G1 d1 hP hA
    have o1 : isO G1 A 3 := hP.O hO
    have o2 : isO (kNew G1 8 ((214 : Int)).toNat) A 3 := nw_O o1
    refine A_aload_n dX3_init_101 rfl rfl ?_
    refine A_sipush dX3_init_102 ⟨by decide, by decide⟩ rfl ?_
    refine A_newa (ka := 8) (t := 0) dX3_init_105 rfl ac_int (fun _ => rfl) (Or.inl ⟨rfl, rfl⟩) (by omega) (by omega) (by omega) (by omega) ?_
    refine A_putR (fi := 14) dX3_init_107 fp_X3_55 (Or.inr rfl) rfl rfl (by assumption) ?_
    obtain ⟨p1, p2⟩ := hP.st (k := 8) (L := ((214 : Int)).toNat) (fi := 14) rfl rfl (by decide) rfl (by decide)
    refine AW.more (by omega) (by omega) (s10 _ _ p1 (fun q => by rw [p2]; exact hA q))
  have s8 : ∀ (G1 : HG) (d1 : HD), OP G d A rdF rdK rdL G1 d1 8 → (∀ q, d1 A q = (fun _ => (0 : Int)) q) → AW E mX3_init (k + 1) (3 + 0) (434 + 0) 93 [some (kR A)] [] G1 d1 K := by
    intro G1 d1 hP hA
    have o1 : isO G1 A 3 := hP.O hO
    have o2 : isO (kNew G1 8 ((6 : Int)).toNat) A 3 := nw_O o1
    refine A_aload_n dX3_init_93 rfl rfl ?_
    refine A_bipush dX3_init_94 ⟨by decide, by decide⟩ rfl ?_
    refine A_newa (ka := 8) (t := 0) dX3_init_96 rfl ac_int (fun _ => rfl) (Or.inl ⟨rfl, rfl⟩) (by omega) (by omega) (by omega) (by omega) ?_
    refine A_putR (fi := 13) dX3_init_98 fp_X3_52 (Or.inr rfl) rfl rfl (by assumption) ?_
    obtain ⟨p1, p2⟩ := hP.st (k := 8) (L := ((6 : Int)).toNat) (fi := 13) rfl rfl (by decide) rfl (by decide)
    refine AW.more (by omega) (by omega) (s9 _ _ p1 (fun q => by rw [p2]; exact hA q))
  have s7 : ∀ (G1 : HG) (d1 : HD), OP G d A rdF rdK rdL G1 d1 7 → (∀ q, d1 A q = (fun _ => (0 : Int)) q) → AW E mX3_init (k + 1) (4 + 0) (440 + 0) 85 [some (kR A)] [] G1 d1 K := by
    intro G1 d1 hP hA
    have o1 : isO G1 A 3 := hP.O hO
    have o2 : isO (kNew G1 8 ((6 : Int)).toNat) A 3 := nw_O o1
    refine A_aload_n dX3_init_85 rfl rfl ?_
    refine A_bipush dX3_init_86 ⟨by decide, by decide⟩ rfl ?_
    refine A_newa (ka := 8) (t := 0) dX3_init_88 rfl ac_int (fun _ => rfl) (Or.inl ⟨rfl, rfl⟩) (by omega) (by omega) (by omega) (by omega) ?_
    refine A_putR (fi := 12) dX3_init_90 fp_X3_49 (Or.inr rfl) rfl rfl (by assumption) ?_
    obtain ⟨p1, p2⟩ := hP.st (k := 8) (L := ((6 : Int)).toNat) (fi := 12) rfl rfl (by decide) rfl (by decide)
    refine AW.more (by omega) (by omega) (s8 _ _ p1 (fun q => by rw [p2]; exact hA q))
  have s6 : ∀ (G1 : HG) (d1 : HD), OP G d A rdF rdK rdL G1 d1 6 → (∀ q, d1 A q = (fun _ => (0 : Int)) q) → AW E mX3_init (k + 1) (5 + 0) (446 + 0) 77 [some (kR A)] [] G1 d1 K := by
    intro G1 d1 hP hA
    have o1 : isO G1 A 3 := hP.O hO
    have o2 : isO (kNew G1 8 ((6 : Int)).toNat) A 3 := nw_O o1
    refine A_aload_n dX3_init_77 rfl rfl ?_
    refine A_bipush dX3_init_78 ⟨by decide, by decide⟩ rfl ?_
    refine A_newa (ka := 8) (t := 0) dX3_init_80 rfl ac_int (fun _ => rfl) (Or.inl ⟨rfl, rfl⟩) (by omega) (by omega) (by omega) (by omega) ?_
    refine A_putR (fi := 11) dX3_init_82 fp_X3_46 (Or.inr rfl) rfl rfl (by assumption) ?_
    obtain ⟨p1, p2⟩ := hP.st (k := 8) (L := ((6 : Int)).toNat) (fi := 11) rfl rfl (by decide) rfl (by decide)
    refine AW.more (by omega) (by omega) (s7 _ _ p1 (fun q => by rw [p2]; exact hA q))
  have s5 : ∀ (G1 : HG) (d1 : HD), OP G d A rdF rdK rdL G1 d1 5 → (∀ q, d1 A q = (fun _ => (0 : Int)) q) → AW E mX3_init (k + 1) (6 + 0) (546 + 0) 69 [some (kR A)] [] G1 d1 K := by
    intro G1 d1 hP hA
    have o1 : isO G1 A 3 := hP.O hO
    have o2 : isO (kNew G1 8 ((100 : Int)).toNat) A 3 := nw_O o1
    refine A_aload_n dX3_init_69 rfl rfl ?_
    refine A_bipush dX3_init_70 ⟨by decide, by decide⟩ rfl ?_
    refine A_newa (ka := 8) (t := 0) dX3_init_72 rfl ac_int (fun _ => rfl) (Or.inl ⟨rfl, rfl⟩) (by omega) (by omega) (by omega) (by omega) ?_
    refine A_putR (fi := 10) dX3_init_74 fp_X3_43 (Or.inr rfl) rfl rfl (by assumption) ?_
    obtain ⟨p1, p2⟩ := hP.st (k := 8) (L := ((100 : Int)).toNat) (fi := 10) rfl rfl (by decide) rfl (by decide)
    refine AW.more (by omega) (by omega) (s6 _ _ p1 (fun q => by rw [p2]; exact hA q))
  have s4 : ∀ (G1 : HG) (d1 : HD), OP G d A rdF rdK rdL G1 d1 4 → (∀ q, d1 A q = (fun _ => (0 : Int)) q) → AW E mX3_init (k + 1) (7 + 0) (646 + 0) 61 [some (kR A)] [] G1 d1 K := by
    intro G1 d1 hP hA
    have o1 : isO G1 A 3 := hP.O hO
    have o2 : isO (kNew G1 8 ((100 : Int)).toNat) A 3 := nw_O o1
    refine A_aload_n dX3_init_61 rfl rfl ?_
    refine A_bipush dX3_init_62 ⟨by decide, by decide⟩ rfl ?_
    refine A_newa (ka := 8) (t := 0) dX3_init_64 rfl ac_int (fun _ => rfl) (Or.inl ⟨rfl, rfl⟩) (by omega) (by omega) (by omega) (by omega) ?_
    refine A_putR (fi := 9) dX3_init_66 fp_X3_40 (Or.inr rfl) rfl rfl (by assumption) ?_
    obtain ⟨p1, p2⟩ := hP.st (k := 8) (L := ((100 : Int)).toNat) (fi := 9) rfl rfl (by decide) rfl (by decide)
    refine AW.more (by omega) (by omega) (s5 _ _ p1 (fun q => by rw [p2]; exact hA q))
  have s3 : ∀ (G1 : HG) (d1 : HD), OP G d A rdF rdK rdL G1 d1 3 → (∀ q, d1 A q = (fun _ => (0 : Int)) q) → AW E mX3_init (k + 1) (8 + 0) (746 + 0) 53 [some (kR A)] [] G1 d1 K := by
    intro G1 d1 hP hA
    have o1 : isO G1 A 3 := hP.O hO
    have o2 : isO (kNew G1 8 ((100 : Int)).toNat) A 3 := nw_O o1
    refine A_aload_n dX3_init_53 rfl rfl ?_
    refine A_bipush dX3_init_54 ⟨by decide, by decide⟩ rfl ?_
    refine A_newa (ka := 8) (t := 0) dX3_init_56 rfl ac_int (fun _ => rfl) (Or.inl ⟨rfl, rfl⟩) (by omega) (by omega) (by omega) (by omega) ?_
    refine A_putR (fi := 8) dX3_init_58 fp_X3_37 (Or.inr rfl) rfl rfl (by assumption) ?_
    obtain ⟨p1, p2⟩ := hP.st (k := 8) (L := ((100 : Int)).toNat) (fi := 8) rfl rfl (by decide) rfl (by decide)
    refine AW.more (by omega) (by omega) (s4 _ _ p1 (fun q => by rw [p2]; exact hA q))
  have s2 : ∀ (G1 : HG) (d1 : HD), OP G d A rdF rdK rdL G1 d1 2 → (∀ q, d1 A q = (fun _ => (0 : Int)) q) → AW E mX3_init (k + 1) (9 + 0) (846 + 0) 45 [some (kR A)] [] G1 d1 K := by
    intro G1 d1 hP hA
    have o1 : isO G1 A 3 := hP.O hO
    have o2 : isO (kNew G1 8 ((100 : Int)).toNat) A 3 := nw_O o1
    refine A_aload_n dX3_init_45 rfl rfl ?_
    refine A_bipush dX3_init_46 ⟨by decide, by decide⟩ rfl ?_
    refine A_newa (ka := 8) (t := 0) dX3_init_48 rfl ac_int (fun _ => rfl) (Or.inl ⟨rfl, rfl⟩) (by omega) (by omega) (by omega) (by omega) ?_
    refine A_putR (fi := 7) dX3_init_50 fp_X3_34 (Or.inr rfl) rfl rfl (by assumption) ?_
    obtain ⟨p1, p2⟩ := hP.st (k := 8) (L := ((100 : Int)).toNat) (fi := 7) rfl rfl (by decide) rfl (by decide)
    refine AW.more (by omega) (by omega) (s3 _ _ p1 (fun q => by rw [p2]; exact hA q))
  have s1 : ∀ (G1 : HG) (d1 : HD), OP G d A rdF rdK rdL G1 d1 1 → (∀ q, d1 A q = (fun _ => (0 : Int)) q) → AW E mX3_init (k + 1) (10 + 0) (946 + 0) 37 [some (kR A)] [] G1 d1 K := by
    intro G1 d1 hP hA
    have o1 : isO G1 A 3 := hP.O hO
    have o2 : isO (kNew G1 8 ((100 : Int)).toNat) A 3 := nw_O o1
    refine A_aload_n dX3_init_37 rfl rfl ?_
    refine A_bipush dX3_init_38 ⟨by decide, by decide⟩ rfl ?_
    refine A_newa (ka := 8) (t := 0) dX3_init_40 rfl ac_int (fun _ => rfl) (Or.inl ⟨rfl, rfl⟩) (by omega) (by omega) (by omega) (by omega) ?_
    refine A_putR (fi := 6) dX3_init_42 fp_X3_31 (Or.inr rfl) rfl rfl (by assumption) ?_
    obtain ⟨p1, p2⟩ := hP.st (k := 8) (L := ((100 : Int)).toNat) (fi := 6) rfl rfl (by decide) rfl (by decide)
    refine AW.more (by omega) (by omega) (s2 _ _ p1 (fun q => by rw [p2]; exact hA q))
  have s0 : ∀ (G1 : HG) (d1 : HD), OP G d A rdF rdK rdL G1 d1 0 → (∀ q, d1 A q = (fun _ => (0 : Int)) q) → AW E mX3_init (k + 1) (11 + 0) (1046 + 0) 4 [some (kR A)] [] G1 d1 K := by
    intro G1 d1 hP hA
    have o1 : isO G1 A 3 := hP.O hO
    have o2 : isO (kNew G1 8 ((100 : Int)).toNat) A 3 := nw_O o1
    refine A_aload_n dX3_init_4 rfl rfl ?_
    refine A_bipush dX3_init_5 ⟨by decide, by decide⟩ rfl ?_
    refine A_newa (ka := 8) (t := 0) dX3_init_7 rfl ac_int (fun _ => rfl) (Or.inl ⟨rfl, rfl⟩) (by omega) (by omega) (by omega) (by omega) ?_
    refine A_putR (fi := 0) dX3_init_9 fp_X3_9 (Or.inr rfl) rfl rfl (by assumption) ?_
    obtain ⟨p1, p2⟩ := hP.st (k := 8) (L := ((100 : Int)).toNat) (fi := 0) rfl rfl (by decide) rfl (by decide)
    have o3 : isO (kUR (kNew G1 8 ((100 : Int)).toNat) A 0 (G1.1 + 1)) A 3 := p1.O hO
    refine A_aload_n dX3_init_12 rfl rfl ?_
    refine A_iconst dX3_init_13 ⟨by decide, by decide⟩ ?_
    refine A_putC (fi := 1) dX3_init_14 fp_X3_15 rfl rfl rfl (by assumption) ?_
    refine A_aload_n dX3_init_17 rfl rfl ?_
    refine A_iconst dX3_init_18 ⟨by decide, by decide⟩ ?_
    refine A_putC (fi := 2) dX3_init_19 fp_X3_19 rfl rfl rfl (by assumption) ?_
    refine A_aload_n dX3_init_22 rfl rfl ?_
    refine A_iconst dX3_init_23 ⟨by decide, by decide⟩ ?_
    refine A_putC (fi := 3) dX3_init_24 fp_X3_22 rfl rfl rfl (by assumption) ?_
    refine A_aload_n dX3_init_27 rfl rfl ?_
    refine A_iconst dX3_init_28 ⟨by decide, by decide⟩ ?_
    refine A_putC (fi := 4) dX3_init_29 fp_X3_25 rfl rfl rfl (by assumption) ?_
    refine A_aload_n dX3_init_32 rfl rfl ?_
    refine A_iconst dX3_init_33 ⟨by decide, by decide⟩ ?_
    refine A_putC (fi := 5) dX3_init_34 fp_X3_28 rfl rfl rfl (by assumption) ?_
    refine AW.more (by omega) (by omega) (s1 _ _ p1.put.put.put.put.put (fun q => ?_))
    have e : ∀ q, kNewD G1 d1 A q = 0 := fun q => by rw [p2]; exact hA q
    unfold kU
    repeat' split
    all_goals first | rfl | exact e q
  have h1 := hO.1
  refine AM.of rfl (Nat.le_of_ble_eq_true rfl) ?_
  refine A_aload_n dX3_init_0 rfl rfl ?_
  refine A_obj dX3_init_1 lk_X3_3 ow_inst ow_code (Nat.le_of_ble_eq_true rfl) (by omega) ?_
  exact s0 _ _ (OP.of hG) hd
theorem C_modelInit (hO : isO G A 7) (hG : G.1 = A) (hd : ∀ q, d A q = 0) (hK : ∀ (G' : HG) (d' d2 : HD), OP G d A moF moK moL G' d2 14 → (∀ b, b ≠ A + 1 → b ≠ A + 5 → d' b = d2 b) → (∀ q, d2 A q = 0) → (∀ q, d' (A + 1) q = if q = 0 then 30 else if q = 1 then 5 else if q = 4 then -4 else 0) → (∀ q : Int, 0 ≤ q → q < 4 → d' (A + 5) q = -1) → K none G' d') : AM E mX7_init (k + 1) 14 3553 [kR A] G d K := by
  have s14 : ∀ (G1 : HG) (d1 : HD), OP G d A moF moK moL G1 d1 14 → (∀ q, d1 A q = (fun _ => (0 : Int)) q) → AW E mX7_init (k + 1) (0 + 0) (0 + 0) 112 [some (kR A), none] [] G1 d1 K := by
    intro G1 d1 hP hA
    have o1 : isO G1 A 7 := hP.O hO
    obtain ⟨e0, a0⟩ := hP.2.2.2.2 1 (by omega) (by omega)
    obtain ⟨e5, a5⟩ := hP.2.2.2.2 5 (by omega) (by omega)
    have e0' : G1.2.2 A 0 = A + 1 := e0
    have a0' : isA G1 (A + 1) 8 3200 := a0
    have e5' : G1.2.2 A 5 = A + 5 := e5
    have a5' : isA G1 (A + 5) 8 4 := a5
    have loop : ∀ (f j : Nat), j + f = 4 → ∀ (d' : HD), (∀ b, b ≠ A + 1 → b ≠ A + 5 → d' b = d1 b) → (∀ q, d' (A + 1) q = if q = 0 then 30 else if q = 1 then 5 else if q = 4 then -4 else 0) → (∀ q : Int, 0 ≤ q → q < j → d' (A + 5) q = -1) → AW E mX7_init (k + 1) (0 + 0) (0 + 0) 137 [some (kR A), some (kI j)] [] G1 d' K := by
      intro f
      induction f with
      | zero =>
        intro j hj d' q1 q2 q3
        have : j = 4 := by omega
        subst this
        refine A_iload_n dX7_init_137 rfl rfl ?_
        refine A_iconst dX7_init_138 ⟨by decide, by decide⟩ ?_
        refine A_icmp_ge (tgt := 155) dX7_init_139 (by decide) (fun c_139 => ?_) (fun c_139 => absurd c_139 (by omega))
        refine A_vret dX7_init_155 rfl ?_
        exact hK G1 d' d1 hP q1 hA q2 q3
      | succ f ih =>
        intro j hj d' q1 q2 q3
        refine A_iload_n dX7_init_137 rfl rfl ?_
        refine A_iconst dX7_init_138 ⟨by decide, by decide⟩ ?_
        refine A_icmp_ge (tgt := 155) dX7_init_139 (by decide) (fun c_139 => absurd c_139 (by omega)) (fun c_139 => ?_)
        refine A_aload_n dX7_init_142 rfl rfl ?_
        refine A_getR (fi := 5) dX7_init_143 fg_X7_23 rfl rfl (by assumption) (by assumption) ?_
        refine A_iload_n dX7_init_146 rfl rfl ?_
        refine A_iconst dX7_init_147 ⟨by decide, by decide⟩ ?_
        refine A_iast dX7_init_148 (by assumption) (by omega) (by omega) ?_
        refine A_iinc_ok dX7_init_149 rfl rfl (by omega) (by omega) ?_
        refine A_goto (tgt := 137) dX7_init_152 (by decide) ?_
        refine ih (j + 1) (by omega) _ (fun b b1 b2 => by rw [kU_ne b2]; exact q1 b b1 b2) (fun q => by rw [kU_ne (by omega)]; exact q2 q) (fun q z1 z2 => ?_)
        by_cases z : q = j
        · subst z; rw [kU_s]
        · rw [kU_f z]; exact q3 q z1 (by omega)
    refine A_aload_n dX7_init_112 rfl rfl ?_
    refine A_getR (fi := 0) dX7_init_113 fg_X7_7 rfl rfl (by assumption) (by assumption) ?_
    refine A_iconst dX7_init_116 ⟨by decide, by decide⟩ ?_
    refine A_bipush dX7_init_117 ⟨by decide, by decide⟩ rfl ?_
    refine A_iast dX7_init_119 (by assumption) (by omega) (by omega) ?_
    refine A_aload_n dX7_init_120 rfl rfl ?_
    refine A_getR (fi := 0) dX7_init_121 fg_X7_7 rfl rfl (by assumption) (by assumption) ?_
    refine A_iconst dX7_init_124 ⟨by decide, by decide⟩ ?_
    refine A_iconst dX7_init_125 ⟨by decide, by decide⟩ ?_
    refine A_iast dX7_init_126 (by assumption) (by omega) (by omega) ?_
    refine A_aload_n dX7_init_127 rfl rfl ?_
    refine A_getR (fi := 0) dX7_init_128 fg_X7_7 rfl rfl (by assumption) (by assumption) ?_
    refine A_iconst dX7_init_131 ⟨by decide, by decide⟩ ?_
    refine A_bipush dX7_init_132 ⟨by decide, by decide⟩ rfl ?_
    refine A_iast dX7_init_134 (by assumption) (by omega) (by omega) ?_
    refine A_iconst dX7_init_135 ⟨by decide, by decide⟩ ?_
    refine A_istore_n dX7_init_136 rfl (Nat.le_of_ble_eq_true rfl) rfl ?_
    refine loop 4 0 rfl _ (fun b b1 b2 => by rw [kU_ne b1, kU_ne b1, kU_ne b1]) (fun q => ?_) (fun q z1 z2 => by omega)
    have z := hP.2.2.2.1 (A + 1) (by omega) (by omega) q
    by_cases q4 : q = 4
    · subst q4; rw [kU_s]; rfl
    · rw [kU_f q4]
      by_cases q1 : q = 1
      · subst q1; rw [kU_s]; rfl
      · rw [kU_f q1]
        by_cases q0 : q = 0
        · subst q0; rw [kU_s]; rfl
        · rw [kU_f q0, z, if_neg q0, if_neg q1, if_neg q4]
  have s13 : ∀ (G1 : HG) (d1 : HD), OP G d A moF moK moL G1 d1 13 → (∀ q, d1 A q = (fun _ => (0 : Int)) q) → AW E mX7_init (k + 1) (1 + 0) (12 + 0) 104 [some (kR A), none] [] G1 d1 K := by
    intro G1 d1 hP hA
    have o1 : isO G1 A 7 := hP.O hO
    have o2 : isO (kNew G1 8 ((12 : Int)).toNat) A 7 := nw_O o1
    refine A_aload_n dX7_init_104 rfl rfl ?_
    refine A_bipush dX7_init_105 ⟨by decide, by decide⟩ rfl ?_
    refine A_newa (ka := 8) (t := 0) dX7_init_107 rfl ac_int (fun _ => rfl) (Or.inl ⟨rfl, rfl⟩) (by omega) (by omega) (by omega) (by omega) ?_
    refine A_putR (fi := 19) dX7_init_109 fp_X7_50 (Or.inr rfl) rfl rfl (by assumption) ?_
    obtain ⟨p1, p2⟩ := hP.st (k := 8) (L := ((12 : Int)).toNat) (fi := 19) rfl rfl (by decide) rfl (by decide)
    refine AW.more (by omega) (by omega) (s14 _ _ p1 (fun q => by rw [p2]; exact hA q))
  have s12 : ∀ (G1 : HG) (d1 : HD), OP G d A moF moK moL G1 d1 12 → (∀ q, d1 A q = (fun _ => (0 : Int)) q) → AW E mX7_init (k + 1) (2 + 0) (24 + 0) 96 [some (kR A), none] [] G1 d1 K := by
    intro G1 d1 hP hA
    have o1 : isO G1 A 7 := hP.O hO
    have o2 : isO (kNew G1 8 ((12 : Int)).toNat) A 7 := nw_O o1
    refine A_aload_n dX7_init_96 rfl rfl ?_
    refine A_bipush dX7_init_97 ⟨by decide, by decide⟩ rfl ?_
    refine A_newa (ka := 8) (t := 0) dX7_init_99 rfl ac_int (fun _ => rfl) (Or.inl ⟨rfl, rfl⟩) (by omega) (by omega) (by omega) (by omega) ?_
    refine A_putR (fi := 18) dX7_init_101 fp_X7_47 (Or.inr rfl) rfl rfl (by assumption) ?_
    obtain ⟨p1, p2⟩ := hP.st (k := 8) (L := ((12 : Int)).toNat) (fi := 18) rfl rfl (by decide) rfl (by decide)
    refine AW.more (by omega) (by omega) (s13 _ _ p1 (fun q => by rw [p2]; exact hA q))
  have s11 : ∀ (G1 : HG) (d1 : HD), OP G d A moF moK moL G1 d1 11 → (∀ q, d1 A q = (fun _ => (0 : Int)) q) → AW E mX7_init (k + 1) (3 + 0) (29 + 0) 89 [some (kR A), none] [] G1 d1 K := by
    intro G1 d1 hP hA
    have o1 : isO G1 A 7 := hP.O hO
    have o2 : isO (kNew G1 9 ((5 : Int)).toNat) A 7 := nw_O o1
    refine A_aload_n dX7_init_89 rfl rfl ?_
    refine A_iconst dX7_init_90 ⟨by decide, by decide⟩ ?_
    refine A_newa (ka := 9) (t := 1) dX7_init_91 rfl ac_boolean (fun _ => rfl) (Or.inr ⟨rfl, rfl⟩) (by omega) (by omega) (by omega) (by omega) ?_
    refine A_putR (fi := 15) dX7_init_93 fp_X7_44 (Or.inr rfl) rfl rfl (by assumption) ?_
    obtain ⟨p1, p2⟩ := hP.st (k := 9) (L := ((5 : Int)).toNat) (fi := 15) rfl rfl (by decide) rfl (by decide)
    refine AW.more (by omega) (by omega) (s12 _ _ p1 (fun q => by rw [p2]; exact hA q))
  have s10 : ∀ (G1 : HG) (d1 : HD), OP G d A moF moK moL G1 d1 10 → (∀ q, d1 A q = (fun _ => (0 : Int)) q) → AW E mX7_init (k + 1) (4 + 0) (34 + 0) 82 [some (kR A), none] [] G1 d1 K := by
    intro G1 d1 hP hA
    have o1 : isO G1 A 7 := hP.O hO
    have o2 : isO (kNew G1 9 ((5 : Int)).toNat) A 7 := nw_O o1
    refine A_aload_n dX7_init_82 rfl rfl ?_
    refine A_iconst dX7_init_83 ⟨by decide, by decide⟩ ?_
    refine A_newa (ka := 9) (t := 1) dX7_init_84 rfl ac_boolean (fun _ => rfl) (Or.inr ⟨rfl, rfl⟩) (by omega) (by omega) (by omega) (by omega) ?_
    refine A_putR (fi := 14) dX7_init_86 fp_X7_41 (Or.inr rfl) rfl rfl (by assumption) ?_
    obtain ⟨p1, p2⟩ := hP.st (k := 9) (L := ((5 : Int)).toNat) (fi := 14) rfl rfl (by decide) rfl (by decide)
    refine AW.more (by omega) (by omega) (s11 _ _ p1 (fun q => by rw [p2]; exact hA q))
  have s9 : ∀ (G1 : HG) (d1 : HD), OP G d A moF moK moL G1 d1 9 → (∀ q, d1 A q = (fun _ => (0 : Int)) q) → AW E mX7_init (k + 1) (5 + 0) (39 + 0) 75 [some (kR A), none] [] G1 d1 K := by
    intro G1 d1 hP hA
    have o1 : isO G1 A 7 := hP.O hO
    have o2 : isO (kNew G1 9 ((5 : Int)).toNat) A 7 := nw_O o1
    refine A_aload_n dX7_init_75 rfl rfl ?_
    refine A_iconst dX7_init_76 ⟨by decide, by decide⟩ ?_
    refine A_newa (ka := 9) (t := 1) dX7_init_77 rfl ac_boolean (fun _ => rfl) (Or.inr ⟨rfl, rfl⟩) (by omega) (by omega) (by omega) (by omega) ?_
    refine A_putR (fi := 13) dX7_init_79 fp_X7_38 (Or.inr rfl) rfl rfl (by assumption) ?_
    obtain ⟨p1, p2⟩ := hP.st (k := 9) (L := ((5 : Int)).toNat) (fi := 13) rfl rfl (by decide) rfl (by decide)
    refine AW.more (by omega) (by omega) (s10 _ _ p1 (fun q => by rw [p2]; exact hA q))
  have s8 : ∀ (G1 : HG) (d1 : HD), OP G d A moF moK moL G1 d1 8 → (∀ q, d1 A q = (fun _ => (0 : Int)) q) → AW E mX7_init (k + 1) (6 + 0) (51 + 0) 67 [some (kR A), none] [] G1 d1 K := by
    intro G1 d1 hP hA
    have o1 : isO G1 A 7 := hP.O hO
    have o2 : isO (kNew G1 9 ((12 : Int)).toNat) A 7 := nw_O o1
    refine A_aload_n dX7_init_67 rfl rfl ?_
    refine A_bipush dX7_init_68 ⟨by decide, by decide⟩ rfl ?_
    refine A_newa (ka := 9) (t := 1) dX7_init_70 rfl ac_boolean (fun _ => rfl) (Or.inr ⟨rfl, rfl⟩) (by omega) (by omega) (by omega) (by omega) ?_
    refine A_putR (fi := 9) dX7_init_72 fp_X7_35 (Or.inr rfl) rfl rfl (by assumption) ?_
    obtain ⟨p1, p2⟩ := hP.st (k := 9) (L := ((12 : Int)).toNat) (fi := 9) rfl rfl (by decide) rfl (by decide)
    refine AW.more (by omega) (by omega) (s9 _ _ p1 (fun q => by rw [p2]; exact hA q))
  have s7 : ∀ (G1 : HG) (d1 : HD), OP G d A moF moK moL G1 d1 7 → (∀ q, d1 A q = (fun _ => (0 : Int)) q) → AW E mX7_init (k + 1) (7 + 0) (63 + 0) 59 [some (kR A), none] [] G1 d1 K := by
    intro G1 d1 hP hA
    have o1 : isO G1 A 7 := hP.O hO
    have o2 : isO (kNew G1 8 ((12 : Int)).toNat) A 7 := nw_O o1
    refine A_aload_n dX7_init_59 rfl rfl ?_
    refine A_bipush dX7_init_60 ⟨by decide, by decide⟩ rfl ?_
    refine A_newa (ka := 8) (t := 0) dX7_init_62 rfl ac_int (fun _ => rfl) (Or.inl ⟨rfl, rfl⟩) (by omega) (by omega) (by omega) (by omega) ?_
    refine A_putR (fi := 8) dX7_init_64 fp_X7_32 (Or.inr rfl) rfl rfl (by assumption) ?_
    obtain ⟨p1, p2⟩ := hP.st (k := 8) (L := ((12 : Int)).toNat) (fi := 8) rfl rfl (by decide) rfl (by decide)
    refine AW.more (by omega) (by omega) (s8 _ _ p1 (fun q => by rw [p2]; exact hA q))
  have s6 : ∀ (G1 : HG) (d1 : HD), OP G d A moF moK moL G1 d1 6 → (∀ q, d1 A q = (fun _ => (0 : Int)) q) → AW E mX7_init (k + 1) (8 + 0) (99 + 0) 51 [some (kR A), none] [] G1 d1 K := by
    intro G1 d1 hP hA
    have o1 : isO G1 A 7 := hP.O hO
    have o2 : isO (kNew G1 8 ((36 : Int)).toNat) A 7 := nw_O o1
    refine A_aload_n dX7_init_51 rfl rfl ?_
    refine A_bipush dX7_init_52 ⟨by decide, by decide⟩ rfl ?_
    refine A_newa (ka := 8) (t := 0) dX7_init_54 rfl ac_int (fun _ => rfl) (Or.inl ⟨rfl, rfl⟩) (by omega) (by omega) (by omega) (by omega) ?_
    refine A_putR (fi := 7) dX7_init_56 fp_X7_29 (Or.inr rfl) rfl rfl (by assumption) ?_
    obtain ⟨p1, p2⟩ := hP.st (k := 8) (L := ((36 : Int)).toNat) (fi := 7) rfl rfl (by decide) rfl (by decide)
    refine AW.more (by omega) (by omega) (s7 _ _ p1 (fun q => by rw [p2]; exact hA q))
  have s5 : ∀ (G1 : HG) (d1 : HD), OP G d A moF moK moL G1 d1 5 → (∀ q, d1 A q = (fun _ => (0 : Int)) q) → AW E mX7_init (k + 1) (9 + 0) (103 + 0) 44 [some (kR A), none] [] G1 d1 K := by
    intro G1 d1 hP hA
    have o1 : isO G1 A 7 := hP.O hO
    have o2 : isO (kNew G1 8 ((4 : Int)).toNat) A 7 := nw_O o1
    refine A_aload_n dX7_init_44 rfl rfl ?_
    refine A_iconst dX7_init_45 ⟨by decide, by decide⟩ ?_
    refine A_newa (ka := 8) (t := 0) dX7_init_46 rfl ac_int (fun _ => rfl) (Or.inl ⟨rfl, rfl⟩) (by omega) (by omega) (by omega) (by omega) ?_
    refine A_putR (fi := 6) dX7_init_48 fp_X7_26 (Or.inr rfl) rfl rfl (by assumption) ?_
    obtain ⟨p1, p2⟩ := hP.st (k := 8) (L := ((4 : Int)).toNat) (fi := 6) rfl rfl (by decide) rfl (by decide)
    refine AW.more (by omega) (by omega) (s6 _ _ p1 (fun q => by rw [p2]; exact hA q))
  have s4 : ∀ (G1 : HG) (d1 : HD), OP G d A moF moK moL G1 d1 4 → (∀ q, d1 A q = (fun _ => (0 : Int)) q) → AW E mX7_init (k + 1) (10 + 0) (107 + 0) 37 [some (kR A), none] [] G1 d1 K := by
    intro G1 d1 hP hA
    have o1 : isO G1 A 7 := hP.O hO
    have o2 : isO (kNew G1 8 ((4 : Int)).toNat) A 7 := nw_O o1
    refine A_aload_n dX7_init_37 rfl rfl ?_
    refine A_iconst dX7_init_38 ⟨by decide, by decide⟩ ?_
    refine A_newa (ka := 8) (t := 0) dX7_init_39 rfl ac_int (fun _ => rfl) (Or.inl ⟨rfl, rfl⟩) (by omega) (by omega) (by omega) (by omega) ?_
    refine A_putR (fi := 5) dX7_init_41 fp_X7_23 (Or.inr rfl) rfl rfl (by assumption) ?_
    obtain ⟨p1, p2⟩ := hP.st (k := 8) (L := ((4 : Int)).toNat) (fi := 5) rfl rfl (by decide) rfl (by decide)
    refine AW.more (by omega) (by omega) (s5 _ _ p1 (fun q => by rw [p2]; exact hA q))
  have s3 : ∀ (G1 : HG) (d1 : HD), OP G d A moF moK moL G1 d1 3 → (∀ q, d1 A q = (fun _ => (0 : Int)) q) → AW E mX7_init (k + 1) (11 + 0) (251 + 0) 28 [some (kR A), none] [] G1 d1 K := by
    intro G1 d1 hP hA
    have o1 : isO G1 A 7 := hP.O hO
    have o2 : isO (kNew G1 8 ((144 : Int)).toNat) A 7 := nw_O o1
    refine A_aload_n dX7_init_28 rfl rfl ?_
    refine A_sipush dX7_init_29 ⟨by decide, by decide⟩ rfl ?_
    refine A_newa (ka := 8) (t := 0) dX7_init_32 rfl ac_int (fun _ => rfl) (Or.inl ⟨rfl, rfl⟩) (by omega) (by omega) (by omega) (by omega) ?_
    refine A_putR (fi := 4) dX7_init_34 fp_X7_20 (Or.inr rfl) rfl rfl (by assumption) ?_
    obtain ⟨p1, p2⟩ := hP.st (k := 8) (L := ((144 : Int)).toNat) (fi := 4) rfl rfl (by decide) rfl (by decide)
    refine AW.more (by omega) (by omega) (s4 _ _ p1 (fun q => by rw [p2]; exact hA q))
  have s2 : ∀ (G1 : HG) (d1 : HD), OP G d A moF moK moL G1 d1 2 → (∀ q, d1 A q = (fun _ => (0 : Int)) q) → AW E mX7_init (k + 1) (12 + 0) (351 + 0) 20 [some (kR A), none] [] G1 d1 K := by
    intro G1 d1 hP hA
    have o1 : isO G1 A 7 := hP.O hO
    have o2 : isO (kNew G1 8 ((100 : Int)).toNat) A 7 := nw_O o1
    refine A_aload_n dX7_init_20 rfl rfl ?_
    refine A_bipush dX7_init_21 ⟨by decide, by decide⟩ rfl ?_
    refine A_newa (ka := 8) (t := 0) dX7_init_23 rfl ac_int (fun _ => rfl) (Or.inl ⟨rfl, rfl⟩) (by omega) (by omega) (by omega) (by omega) ?_
    refine A_putR (fi := 2) dX7_init_25 fp_X7_17 (Or.inr rfl) rfl rfl (by assumption) ?_
    obtain ⟨p1, p2⟩ := hP.st (k := 8) (L := ((100 : Int)).toNat) (fi := 2) rfl rfl (by decide) rfl (by decide)
    refine AW.more (by omega) (by omega) (s3 _ _ p1 (fun q => by rw [p2]; exact hA q))
  have s1 : ∀ (G1 : HG) (d1 : HD), OP G d A moF moK moL G1 d1 1 → (∀ q, d1 A q = (fun _ => (0 : Int)) q) → AW E mX7_init (k + 1) (13 + 0) (353 + 0) 13 [some (kR A), none] [] G1 d1 K := by
    intro G1 d1 hP hA
    have o1 : isO G1 A 7 := hP.O hO
    have o2 : isO (kNew G1 9 ((2 : Int)).toNat) A 7 := nw_O o1
    refine A_aload_n dX7_init_13 rfl rfl ?_
    refine A_iconst dX7_init_14 ⟨by decide, by decide⟩ ?_
    refine A_newa (ka := 9) (t := 1) dX7_init_15 rfl ac_boolean (fun _ => rfl) (Or.inr ⟨rfl, rfl⟩) (by omega) (by omega) (by omega) (by omega) ?_
    refine A_putR (fi := 1) dX7_init_17 fp_X7_13 (Or.inr rfl) rfl rfl (by assumption) ?_
    obtain ⟨p1, p2⟩ := hP.st (k := 9) (L := ((2 : Int)).toNat) (fi := 1) rfl rfl (by decide) rfl (by decide)
    refine AW.more (by omega) (by omega) (s2 _ _ p1 (fun q => by rw [p2]; exact hA q))
  have s0 : ∀ (G1 : HG) (d1 : HD), OP G d A moF moK moL G1 d1 0 → (∀ q, d1 A q = (fun _ => (0 : Int)) q) → AW E mX7_init (k + 1) (14 + 0) (3553 + 0) 4 [some (kR A), none] [] G1 d1 K := by
    intro G1 d1 hP hA
    have o1 : isO G1 A 7 := hP.O hO
    have o2 : isO (kNew G1 8 ((3200 : Int)).toNat) A 7 := nw_O o1
    refine A_aload_n dX7_init_4 rfl rfl ?_
    refine A_sipush dX7_init_5 ⟨by decide, by decide⟩ rfl ?_
    refine A_newa (ka := 8) (t := 0) dX7_init_8 rfl ac_int (fun _ => rfl) (Or.inl ⟨rfl, rfl⟩) (by omega) (by omega) (by omega) (by omega) ?_
    refine A_putR (fi := 0) dX7_init_10 fp_X7_7 (Or.inr rfl) rfl rfl (by assumption) ?_
    obtain ⟨p1, p2⟩ := hP.st (k := 8) (L := ((3200 : Int)).toNat) (fi := 0) rfl rfl (by decide) rfl (by decide)
    refine AW.more (by omega) (by omega) (s1 _ _ p1 (fun q => by rw [p2]; exact hA q))
  have h1 := hO.1
  refine AM.of rfl (Nat.le_of_ble_eq_true rfl) ?_
  refine A_aload_n dX7_init_0 rfl rfl ?_
  refine A_obj dX7_init_1 lk_X7_1 ow_inst ow_code (Nat.le_of_ble_eq_true rfl) (by omega) ?_
  exact s0 _ _ (OP.of hG) hd
end MK3
