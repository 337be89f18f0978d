def rgF (j : Nat) : Nat := match j with
  | 1 => 7
  | 2 => 8
  | 3 => 9
  | 4 => 10
  | 5 => 11
  | 6 => 12
  | 7 => 13
  | 8 => 14
  | _ => 99
def rgK (j : Nat) : Nat := match j with
  | 1 => 10
  | 2 => 11
  | 3 => 8
  | 4 => 8
  | 5 => 8
  | 6 => 8
  | 7 => 8
  | 8 => 8
  | _ => 99
def rgL (j : Nat) : Nat := match j with
  | 1 => 12
  | 2 => 3
  | 3 => 4
  | 4 => 4
  | 5 => 4
  | 6 => 4
  | 7 => 4
  | 8 => 4
  | _ => 99
def rgv (q : Int) : Int := if q = 0 then 30 else if q = 1 then 5 else if q = 3 then -4 else 0
section MK4
variable {E : EE} {k A nn : Nat} {G : HG} {d : HD} {K : PQ}
theorem C_ringInit (hO : isO G A 4) (hG : G.1 = A) (hd : ∀ q, d A q = 0) (hn : isO G nn 1) (hnA : nn < A) (hK : ∀ (G' : HG) (d' : HD), G'.1 = A + 32 → (∀ b, b < A → G'.2.1 b = G.2.1 b ∧ G'.2.2 b = G.2.2 b ∧ d' b = d b) → RG G' A → (∀ h : Nat, h < 3 → G'.2.2 (A + 2) (h : Int) = nn) → (∀ q, d' A q = rgv q) → K none G' d') : AM E mX4_init (k + 2) 32 375 [kR A, kR nn] G d K := by
  have hA1 := hO.1
  have s8 : ∀ (G1 : HG) (d1 : HD), OP G d A rgF rgK rgL G1 d1 8 → (∀ q, d1 A q = rgv q) → AW E mX4_init (k + 2) (0 + 24) (0 + 336) 100 [some (kR A), some (kR nn), none] [] G1 d1 K := by
    intro G1 d1 hP hA
    have o1 : isO G1 A 4 := hP.O hO
    have ar : ∀ j : Nat, 1 ≤ j → j ≤ 8 → G1.2.2 A (rgF j : Int) = A + j ∧ isA G1 (A + j) (rgK j) (rgL j) := hP.2.2.2.2
    have loopH : ∀ (G2 : HG) (d2 : HD), G2.1 = A + 32 → (∀ b, b < A → G2.2.1 b = G.2.1 b ∧ G2.2.2 b = G.2.2 b ∧ d2 b = d b) → (∀ q, d2 A q = rgv q) → RG G2 A → ∀ (f j : Nat), j + f = 3 → ∀ (G3 : HG), G3.1 = G2.1 → G3.2.1 = G2.2.1 → (∀ b, b ≠ A + 2 → G3.2.2 b = G2.2.2 b) → (∀ h : Nat, h < j → G3.2.2 (A + 2) (h : Int) = nn) → AW E mX4_init (k + 2) 0 0 129 [some (kR A), some (kR nn), some (kI j)] [] G3 d2 K := by
      intro G2 d2 g1 g2 g3 g4 f
      induction f with
      | zero =>
        intro j hj G3 q1 q2 q3 q4
        have : j = 3 := by omega
        subst this
        refine A_iload_n dX4_init_129 rfl rfl ?_
        refine A_iconst dX4_init_130 ⟨by decide, by decide⟩ ?_
        refine A_icmp_ge (tgt := 147) dX4_init_131 (by decide) (fun c_131 => ?_) (fun c_131 => absurd c_131 (by omega))
        refine A_vret dX4_init_147 rfl ?_
        refine hK G3 d2 (by omega) (fun b hb => ?_) ?_ q4 g3
        · rw [q2, q3 b (by omega)]; exact g2 b hb
        · have gh : GH G2 G3 A A 0 := ⟨q1, q2, q3, fun h hh => by omega⟩
          exact gh.RG g4 (Or.inl rfl)
      | succ f ih =>
        intro j hj G3 q1 q2 q3 q4
        have gh : GH G2 G3 A A 0 := ⟨q1, q2, q3, fun h hh => by omega⟩
        have gR := gh.RG g4 (Or.inl rfl)
        obtain ⟨oA, -, ⟨x8, y8⟩, -⟩ := id gR
        have on : isO G3 nn 1 := ⟨hn.1, by rw [q1, g1]; omega, by rw [q2, (g2 nn hnA).1]; exact hn.2.2⟩
        refine A_iload_n dX4_init_129 rfl rfl ?_
        refine A_iconst dX4_init_130 ⟨by decide, by decide⟩ ?_
        refine A_icmp_ge (tgt := 147) dX4_init_131 (by decide) (fun c_131 => absurd c_131 (by omega)) (fun c_131 => ?_)
        refine A_aload_n dX4_init_134 rfl rfl ?_
        refine A_getR (fi := 8) dX4_init_135 fg_X4_41 rfl rfl (by assumption) (by assumption) ?_
        refine A_iload_n dX4_init_138 rfl rfl ?_
        refine A_aload_n dX4_init_139 rfl rfl ?_
        refine A_aast (t := 3) dX4_init_140 (fun _ => rfl) kCl_1 (by decide) (by assumption) (by assumption) (by omega) (by omega) ?_
        refine A_iinc_ok dX4_init_141 rfl rfl (by omega) (by omega) ?_
        refine A_goto (tgt := 129) dX4_init_144 (by decide) ?_
        refine ih (j + 1) (by omega) _ q1 q2 (fun b hb => by rw [ur_r hb]; exact q3 b hb) (fun h hh => ?_)
        by_cases z : h = j
        · subst z; rw [ur_e]
        · rw [ur_f (by omega)]; exact q4 h (by omega)
    have loopC : ∀ (f j : Nat), j + f = 12 → ∀ (G2 : HG) (d2 : HD), G2.1 = A + 8 + 2 * j → (∀ b, b ≤ A + 8 → G2.2.1 b = G1.2.1 b) → (∀ b, b ≤ A + 8 → b ≠ A + 1 → G2.2.2 b = G1.2.2 b) → (∀ b, b ≤ A + 8 → d2 b = d1 b) → (∀ c : Nat, c < j → G2.2.2 (A + 1) (c : Int) = A + 9 + 2 * c ∧ isO G2 (A + 9 + 2 * c) 0 ∧ G2.2.2 (A + 9 + 2 * c) 9 = A + 10 + 2 * c ∧ isA G2 (A + 10 + 2 * c) 8 12) → AW E mX4_init (k + 2) (2 * f) (28 * f) 102 [some (kR A), some (kR nn), some (kI j)] [] G2 d2 K := by
      intro f
      induction f with
      | zero =>
        intro j hj G2 d2 q1 q2 q3 q4 q5
        have : j = 12 := by omega
        subst this
        have tA : ∀ i : Nat, 1 ≤ i → i ≤ 8 → ∀ fi : Int, fi = (rgF i : Int) → G2.2.2 A fi = A + i ∧ isA G2 (A + i) (rgK i) (rgL i) := fun i i1 i2 fi hfi => by
          obtain ⟨e, a⟩ := ar i i1 i2
          refine ⟨by rw [hfi, q3 A (by omega) (by omega)]; exact e, a.1, by omega, by rw [q2 _ (by omega)]; exact a.2.2.1, a.2.2.2⟩
        have rG : RG G2 A := ⟨⟨hO.1, by omega, by rw [q2 A (by omega)]; exact o1.2.2⟩, tA 1 (by omega) (by omega) 7 rfl, tA 2 (by omega) (by omega) 8 rfl, tA 3 (by omega) (by omega) 9 rfl, tA 4 (by omega) (by omega) 10 rfl, tA 5 (by omega) (by omega) 11 rfl, tA 6 (by omega) (by omega) 12 rfl, tA 7 (by omega) (by omega) 13 rfl, tA 8 (by omega) (by omega) 14 rfl, q5⟩
        refine A_iload_n dX4_init_102 rfl rfl ?_
        refine A_bipush dX4_init_103 ⟨by decide, by decide⟩ rfl ?_
        refine A_icmp_ge (tgt := 127) dX4_init_105 (by decide) (fun c_105 => ?_) (fun c_105 => absurd c_105 (by omega))
        refine A_iconst dX4_init_127 ⟨by decide, by decide⟩ ?_
        refine A_istore_n dX4_init_128 rfl (Nat.le_of_ble_eq_true rfl) rfl ?_
        refine loopH G2 d2 (by omega) (fun b hb => ⟨by rw [q2 b (by omega)]; exact hP.2.1 b (by omega), by rw [q3 b (by omega) (by omega)]; exact (hP.2.2.1 b hb).1, by rw [q4 b (by omega)]; exact (hP.2.2.1 b hb).2⟩) (fun q => by rw [q4 A (by omega)]; exact hA q) rG 3 0 rfl G2 rfl rfl (fun _ _ => rfl) (fun h hh => by omega)
      | succ f ih =>
        intro j hj G2 d2 q1 q2 q3 q4 q5
        have oA : isO G2 A 4 := ⟨hO.1, by omega, by rw [q2 A (by omega)]; exact o1.2.2⟩
        have eA : G2.2.2 A 7 = A + 1 := by rw [q3 A (by omega) (by omega)]; exact (ar 1 (by omega) (by omega)).1
        refine A_iload_n dX4_init_102 rfl rfl ?_
        refine A_bipush dX4_init_103 ⟨by decide, by decide⟩ rfl ?_
        refine A_icmp_ge (tgt := 127) dX4_init_105 (by decide) (fun c_105 => absurd c_105 (by omega)) (fun c_105 => ?_)
        refine A_aload_n dX4_init_108 rfl rfl ?_
        refine A_getR (fi := 7) dX4_init_109 fg_X4_35 rfl rfl (by assumption) (by assumption) ?_
        refine A_iload_n dX4_init_112 rfl rfl ?_
        refine A_new dX4_init_113 kCl_0 cl_X4_33 in_X0 it_X0 (by omega) (by show 16 ≤ 28 * (f + 1); omega) ?_
        refine AW.more (bc' := 2 * f + 1) (bs' := 28 * f + 12) (by omega) (by show 28 * f + 12 ≤ 28 * (f + 1) - 16; omega) ?_
        refine A_dup dX4_init_116 (fun B => toV_cat B _) ?_
        refine A_inN (bc' := 1) (bs' := 12) [] dX4_init_117 mn_X4_64 rfl rfl (Nat.le_of_ble_eq_true rfl) (by omega) (by omega) (by omega) ?_
        have ec : G2.1 + 1 = A + 9 + 2 * j := by omega
        refine C_carInit nw_nO rfl (fun q => nw_0) (fun G3 d3 hQ hz => ?_)
        obtain ⟨u1, u2, u3, u4, u5⟩ := hQ
        obtain ⟨v1, v2⟩ := u5 1 (by omega) (by omega)
        have sh : ∀ b, b ≤ A + 8 + 2 * j → G3.2.1 b = G2.2.1 b := fun b hb => by rw [u2 b (by omega)]; exact nw_s (by omega)
        have rf : ∀ b, b ≤ A + 8 + 2 * j → G3.2.2 b = G2.2.2 b := fun b hb => by rw [(u3 b (by omega)).1]; exact nw_r (by omega)
        have dn : ∀ b, b ≤ A + 8 + 2 * j → d3 b = d2 b := fun b hb => by rw [(u3 b (by omega)).2]; exact nw_d (by omega)
        have a1 := (ar 1 (by omega) (by omega)).2
        have ia : isA G3 (A + 1) 10 12 := ⟨by omega, by omega, by rw [sh _ (by omega), q2 _ (by omega)]; exact a1.2.2.1, by omega⟩
        have oc : isO G3 (G2.1 + 1) 0 := ⟨by omega, by omega, by rw [u2 _ (Nat.le_refl _)]; exact (nw_nO (G := G2) (ka := 0)).2.2⟩
        refine A_aast (t := 2) dX4_init_120 (fun _ => rfl) kCl_0 (by decide) ia oc (by omega) (by omega) ?_
        refine A_iinc_ok dX4_init_121 rfl rfl (by omega) (by omega) ?_
        refine A_goto (tgt := 102) dX4_init_124 (by decide) ?_
        refine AW.more (by omega) (by omega) (ih (j + 1) (by omega) _ d3 (by show G3.1 = _; omega) (fun b hb => by rw [ur_s, sh b (by omega)]; exact q2 b hb) (fun b hb hne => by rw [ur_r hne, rf b (by omega)]; exact q3 b hb hne) (fun b hb => by rw [dn b (by omega)]; exact q4 b hb) (fun c hc => ?_))
        by_cases z : c = j
        · subst z
          rw [ur_e, ← ec, ur_r (by omega)]
          refine ⟨rfl, oc, ?_, ?_⟩
          · have : G3.2.2 (G2.1 + 1) 9 = G2.1 + 1 + 1 := v1
            omega
          · have e10 : A + 10 + 2 * c = G2.1 + 1 + 1 := by omega
            rw [e10]
            exact v2
        · obtain ⟨w1, w2, w3, w4⟩ := q5 c (by omega)
          rw [ur_f (by omega), rf (A + 1) (by omega), ur_r (by omega), rf (A + 9 + 2 * c) (by omega)]
          exact ⟨w1, ⟨w2.1, by show _ ≤ G3.1; omega, by rw [ur_s, sh _ (by omega)]; exact w2.2.2⟩, w3, ⟨w4.1, by show _ ≤ G3.1; omega, by rw [ur_s, sh _ (by omega)]; exact w4.2.2.1, w4.2.2.2⟩⟩
    refine A_iconst dX4_init_100 ⟨by decide, by decide⟩ ?_
    refine A_istore_n dX4_init_101 rfl (Nat.le_of_ble_eq_true rfl) rfl ?_
    exact AW.more (by omega) (by omega) (loopC 12 0 rfl G1 d1 (by have := hP.1; omega) (fun _ _ => rfl) (fun _ _ _ => rfl) (fun _ _ => rfl) (fun c hc => by omega))
  have s7 : ∀ (G1 : HG) (d1 : HD), OP G d A rgF rgK rgL G1 d1 7 → (∀ q, d1 A q = rgv q) → AW E mX4_init (k + 2) (1 + 24) (4 + 336) 93 [some (kR A), some (kR nn), none] [] G1 d1 K := by
    intro G1 d1 hP hA
    have o1 : isO G1 A 4 := hP.O hO
    have o2 : isO (kNew G1 8 ((4 : Int)).toNat) A 4 := nw_O o1
    refine A_aload_n dX4_init_93 rfl rfl ?_
    refine A_iconst dX4_init_94 ⟨by decide, by decide⟩ ?_
    refine A_newa (ka := 8) (t := 0) dX4_init_95 rfl ac_int (fun _ => rfl) (Or.inl ⟨rfl, rfl⟩) (by omega) (by omega) (by omega) (by omega) ?_
    refine A_putR (fi := 14) dX4_init_97 fp_X4_61 (Or.inr rfl) rfl rfl (by assumption) ?_
    obtain ⟨p1, p2⟩ := hP.st (k := 8) (L := ((4 : Int)).toNat) (fi := 14) rfl rfl (by decide) rfl (by decide)
    refine AW.more (by omega) (by omega) (s8 _ _ p1 (fun q => by rw [p2]; exact hA q))
  have s6 : ∀ (G1 : HG) (d1 : HD), OP G d A rgF rgK rgL G1 d1 6 → (∀ q, d1 A q = rgv q) → AW E mX4_init (k + 2) (2 + 24) (8 + 336) 86 [some (kR A), some (kR nn), none] [] G1 d1 K := by
    intro G1 d1 hP hA
    have o1 : isO G1 A 4 := hP.O hO
    have o2 : isO (kNew G1 8 ((4 : Int)).toNat) A 4 := nw_O o1
    refine A_aload_n dX4_init_86 rfl rfl ?_
    refine A_iconst dX4_init_87 ⟨by decide, by decide⟩ ?_
    refine A_newa (ka := 8) (t := 0) dX4_init_88 rfl ac_int (fun _ => rfl) (Or.inl ⟨rfl, rfl⟩) (by omega) (by omega) (by omega) (by omega) ?_
    refine A_putR (fi := 13) dX4_init_90 fp_X4_58 (Or.inr rfl) rfl rfl (by assumption) ?_
    obtain ⟨p1, p2⟩ := hP.st (k := 8) (L := ((4 : Int)).toNat) (fi := 13) rfl rfl (by decide) rfl (by decide)
    refine AW.more (by omega) (by omega) (s7 _ _ p1 (fun q => by rw [p2]; exact hA q))
  have s5 : ∀ (G1 : HG) (d1 : HD), OP G d A rgF rgK rgL G1 d1 5 → (∀ q, d1 A q = rgv q) → AW E mX4_init (k + 2) (3 + 24) (12 + 336) 79 [some (kR A), some (kR nn), none] [] G1 d1 K := by
    intro G1 d1 hP hA
    have o1 : isO G1 A 4 := hP.O hO
    have o2 : isO (kNew G1 8 ((4 : Int)).toNat) A 4 := nw_O o1
    refine A_aload_n dX4_init_79 rfl rfl ?_
    refine A_iconst dX4_init_80 ⟨by decide, by decide⟩ ?_
    refine A_newa (ka := 8) (t := 0) dX4_init_81 rfl ac_int (fun _ => rfl) (Or.inl ⟨rfl, rfl⟩) (by omega) (by omega) (by omega) (by omega) ?_
    refine A_putR (fi := 12) dX4_init_83 fp_X4_55 (Or.inr rfl) rfl rfl (by assumption) ?_
    obtain ⟨p1, p2⟩ := hP.st (k := 8) (L := ((4 : Int)).toNat) (fi := 12) rfl rfl (by decide) rfl (by decide)
    refine AW.more (by omega) (by omega) (s6 _ _ p1 (fun q => by rw [p2]; exact hA q))
  have s4 : ∀ (G1 : HG) (d1 : HD), OP G d A rgF rgK rgL G1 d1 4 → (∀ q, d1 A q = rgv q) → AW E mX4_init (k + 2) (4 + 24) (16 + 336) 72 [some (kR A), some (kR nn), none] [] G1 d1 K := by
    intro G1 d1 hP hA
    have o1 : isO G1 A 4 := hP.O hO
    have o2 : isO (kNew G1 8 ((4 : Int)).toNat) A 4 := nw_O o1
    refine A_aload_n dX4_init_72 rfl rfl ?_
    refine A_iconst dX4_init_73 ⟨by decide, by decide⟩ ?_
    refine A_newa (ka := 8) (t := 0) dX4_init_74 rfl ac_int (fun _ => rfl) (Or.inl ⟨rfl, rfl⟩) (by omega) (by omega) (by omega) (by omega) ?_
    refine A_putR (fi := 11) dX4_init_76 fp_X4_52 (Or.inr rfl) rfl rfl (by assumption) ?_
    obtain ⟨p1, p2⟩ := hP.st (k := 8) (L := ((4 : Int)).toNat) (fi := 11) rfl rfl (by decide) rfl (by decide)
    refine AW.more (by omega) (by omega) (s5 _ _ p1 (fun q => by rw [p2]; exact hA q))
  have s3 : ∀ (G1 : HG) (d1 : HD), OP G d A rgF rgK rgL G1 d1 3 → (∀ q, d1 A q = rgv q) → AW E mX4_init (k + 2) (5 + 24) (20 + 336) 65 [some (kR A), some (kR nn), none] [] G1 d1 K := by
    intro G1 d1 hP hA
    have o1 : isO G1 A 4 := hP.O hO
    have o2 : isO (kNew G1 8 ((4 : Int)).toNat) A 4 := nw_O o1
    refine A_aload_n dX4_init_65 rfl rfl ?_
    refine A_iconst dX4_init_66 ⟨by decide, by decide⟩ ?_
    refine A_newa (ka := 8) (t := 0) dX4_init_67 rfl ac_int (fun _ => rfl) (Or.inl ⟨rfl, rfl⟩) (by omega) (by omega) (by omega) (by omega) ?_
    refine A_putR (fi := 10) dX4_init_69 fp_X4_49 (Or.inr rfl) rfl rfl (by assumption) ?_
    obtain ⟨p1, p2⟩ := hP.st (k := 8) (L := ((4 : Int)).toNat) (fi := 10) rfl rfl (by decide) rfl (by decide)
    refine AW.more (by omega) (by omega) (s4 _ _ p1 (fun q => by rw [p2]; exact hA q))
  have s2 : ∀ (G1 : HG) (d1 : HD), OP G d A rgF rgK rgL G1 d1 2 → (∀ q, d1 A q = rgv q) → AW E mX4_init (k + 2) (6 + 24) (24 + 336) 58 [some (kR A), some (kR nn), none] [] G1 d1 K := by
    intro G1 d1 hP hA
    have o1 : isO G1 A 4 := hP.O hO
    have o2 : isO (kNew G1 8 ((4 : Int)).toNat) A 4 := nw_O o1
    refine A_aload_n dX4_init_58 rfl rfl ?_
    refine A_iconst dX4_init_59 ⟨by decide, by decide⟩ ?_
    refine A_newa (ka := 8) (t := 0) dX4_init_60 rfl ac_int (fun _ => rfl) (Or.inl ⟨rfl, rfl⟩) (by omega) (by omega) (by omega) (by omega) ?_
    refine A_putR (fi := 9) dX4_init_62 fp_X4_45 (Or.inr rfl) rfl rfl (by assumption) ?_
    obtain ⟨p1, p2⟩ := hP.st (k := 8) (L := ((4 : Int)).toNat) (fi := 9) rfl rfl (by decide) rfl (by decide)
    refine AW.more (by omega) (by omega) (s3 _ _ p1 (fun q => by rw [p2]; exact hA q))
  have s1 : ∀ (G1 : HG) (d1 : HD), OP G d A rgF rgK rgL G1 d1 1 → (∀ q, d1 A q = rgv q) → AW E mX4_init (k + 2) (7 + 24) (27 + 336) 50 [some (kR A), some (kR nn), none] [] G1 d1 K := by
    intro G1 d1 hP hA
    have o1 : isO G1 A 4 := hP.O hO
    have o2 : isO (kNew G1 11 ((3 : Int)).toNat) A 4 := nw_O o1
    refine A_aload_n dX4_init_50 rfl rfl ?_
    refine A_iconst dX4_init_51 ⟨by decide, by decide⟩ ?_
    refine A_newq (ka := 11) (t := 3) dX4_init_52 cl_X4_39 (fun _ h => h.2.2.1.2.1) (fun _ => rfl) (by decide) (by omega) (by omega) (by omega) (by omega) ?_
    refine A_putR (fi := 8) dX4_init_55 fp_X4_41 (Or.inr rfl) rfl rfl (by assumption) ?_
    obtain ⟨p1, p2⟩ := hP.st (k := 11) (L := ((3 : Int)).toNat) (fi := 8) rfl rfl (by decide) rfl (by decide)
    refine AW.more (by omega) (by omega) (s2 _ _ p1 (fun q => by rw [p2]; exact hA q))
  have s0 : ∀ (G1 : HG) (d1 : HD), OP G d A rgF rgK rgL G1 d1 0 → (∀ q, d1 A q = rgv q) → AW E mX4_init (k + 2) (8 + 24) (39 + 336) 41 [some (kR A), some (kR nn), none] [] G1 d1 K := by
    intro G1 d1 hP hA
    have o1 : isO G1 A 4 := hP.O hO
    have o2 : isO (kNew G1 10 ((12 : Int)).toNat) A 4 := nw_O o1
    refine A_aload_n dX4_init_41 rfl rfl ?_
    refine A_bipush dX4_init_42 ⟨by decide, by decide⟩ rfl ?_
    refine A_newq (ka := 10) (t := 2) dX4_init_44 cl_X4_33 (fun _ h => h.2.2.1.1) (fun _ => rfl) (by decide) (by omega) (by omega) (by omega) (by omega) ?_
    refine A_putR (fi := 7) dX4_init_47 fp_X4_35 (Or.inr rfl) rfl rfl (by assumption) ?_
    obtain ⟨p1, p2⟩ := hP.st (k := 10) (L := ((12 : Int)).toNat) (fi := 7) rfl rfl (by decide) rfl (by decide)
    refine AW.more (by omega) (by omega) (s1 _ _ p1 (fun q => by rw [p2]; exact hA q))
  refine AM.of rfl (Nat.le_of_ble_eq_true rfl) ?_
  refine A_aload_n dX4_init_0 rfl rfl ?_
  refine A_obj dX4_init_1 lk_X4_3 ow_inst ow_code (Nat.le_of_ble_eq_true rfl) (by omega) ?_
  refine A_aload_n dX4_init_4 rfl rfl ?_
  refine A_bipush dX4_init_5 ⟨by decide, by decide⟩ rfl ?_
  refine A_putC (fi := 0) dX4_init_7 fp_X4_9 rfl rfl rfl (by assumption) ?_
  refine A_aload_n dX4_init_10 rfl rfl ?_
  refine A_iconst dX4_init_11 ⟨by decide, by decide⟩ ?_
  refine A_putC (fi := 1) dX4_init_12 fp_X4_15 rfl rfl rfl (by assumption) ?_
  refine A_aload_n dX4_init_15 rfl rfl ?_
  refine A_iconst dX4_init_16 ⟨by decide, by decide⟩ ?_
  refine A_putC (fi := 2) dX4_init_17 fp_X4_18 rfl rfl rfl (by assumption) ?_
  refine A_aload_n dX4_init_20 rfl rfl ?_
  refine A_bipush dX4_init_21 ⟨by decide, by decide⟩ rfl ?_
  refine A_putC (fi := 3) dX4_init_23 fp_X4_21 rfl rfl rfl (by assumption) ?_
  refine A_aload_n dX4_init_26 rfl rfl ?_
  refine A_iconst dX4_init_27 ⟨by decide, by decide⟩ ?_
  refine A_putC (fi := 4) dX4_init_28 fp_X4_24 rfl rfl rfl (by assumption) ?_
  refine A_aload_n dX4_init_31 rfl rfl ?_
  refine A_iconst dX4_init_32 ⟨by decide, by decide⟩ ?_
  refine A_putC (fi := 5) dX4_init_33 fp_X4_27 rfl rfl rfl (by assumption) ?_
  refine A_aload_n dX4_init_36 rfl rfl ?_
  refine A_iconst dX4_init_37 ⟨by decide, by decide⟩ ?_
  refine A_putC (fi := 6) dX4_init_38 fp_X4_30 rfl rfl rfl (by assumption) ?_
  refine AW.more (by omega) (by omega) (s0 _ _ (OP.of hG).put.put.put.put.put.put.put (fun q => ?_))
  unfold rgv
  by_cases z0 : q = 0
  · subst z0; simp [kU]
  · by_cases z1 : q = 1
    · subst z1; simp [kU]
    · by_cases z3 : q = 3
      · subst z3; simp [kU]
      · rw [if_neg z0, if_neg z1, if_neg z3]
        by_cases z2 : q = 2
        · subst z2; simp [kU]
        · by_cases z4 : q = 4
          · subst z4; simp [kU]
          · by_cases z5 : q = 5
            · subst z5; simp [kU]
            · by_cases z6 : q = 6
              · subst z6; simp [kU]
              · rw [kU_f z6, kU_f z5, kU_f z4, kU_f z3, kU_f z2, kU_f z1, kU_f z0]
                exact hd q
end MK4
