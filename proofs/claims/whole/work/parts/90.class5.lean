section CL5
variable {E : EE} {k : Nat} {G : HG} {d : HD} {K : PQ} {R T im : Int → Int} {S : SS} {tp : Int} {I : Int → Int → Int}
/-- the class, when only the reader has changed -/
theorem CI.rd {d' : HD} {tp' : Int} {T' : Int → Int} (C : CI G d R S tp T im I) (W : WI R S tp im I) (hd : ∀ a, (a < 9 ∨ 20 < a) → d' a = d a) (hT : RT d' tp' T') : CI G d' R S tp' T' im I := by
  obtain ⟨cV, cH, cS, cT, cI⟩ := C
  obtain ⟨wR, -, -, -, wI⟩ := W
  refine ⟨cV.cd wR.2.2.1.2 (fun a a1 a2 => hd a (by omega)), cH.mv GS.rf (fun _ _ => rfl) wR.2.2.2.2.2.2.2.1 (fun _ _ _ => rfl) (fun a ha => hd a (by omega)), fun s hs => by rw [hd (162 + 2 * s) (by omega), hd (163 + 2 * s) (by omega)]; exact cS s hs, hT, fun n hn => ?_⟩
  rw [hd 3 (by omega)]
  refine ⟨(cI n hn).1, fun hi => ?_⟩
  obtain ⟨iV, iH⟩ := (cI n hn).2 hi
  have wn := ((wI n hn).2 hi).1
  exact ⟨iV.cd wn.2.2.1.2 (fun a a1 a2 => hd a (by omega)), iH.mv GS.rf (fun _ _ => rfl) wn.2.2.2.2.2.2.2.1 (fun _ _ _ => rfl) (fun a ha => hd a (by omega))⟩
theorem C_byteOf {w q : Int} (h0 : 0 ≤ q) (h1 : q ≤ 7) (hK : K (some (kI (byB w q))) G d) : AM E mX6_byteOf k 0 0 [kJ w, kI q] G d K := by
  have e := byC (w := w) h0 h1
  refine AM.of rfl (Nat.le_of_ble_eq_true rfl) ?_
  refine A_lload_n dX6_byteOf_0 rfl rfl ?_
  refine A_bipush dX6_byteOf_1 ⟨by decide, by decide⟩ rfl ?_
  refine A_iload_n dX6_byteOf_3 rfl rfl ?_
  refine A_imul_ok dX6_byteOf_4 (by omega) (by omega) ?_
  refine A_lushr dX6_byteOf_5 ?_
  refine A_l2i dX6_byteOf_6 ?_
  refine A_sipush dX6_byteOf_7 ⟨by decide, by decide⟩ rfl ?_
  refine A_iand dX6_byteOf_10 ?_
  rw [e]
  refine A_iret dX6_byteOf_11 rfl ?_
  exact hK
theorem C_append {n b : Int} (hM : RO G) (hn : d 9 1 = n) (h0 : 0 ≤ n) (h1 : n < 100) (hK : K none G (kU (kU d 10 n b) 9 1 (n + 1))) : AM E mX3_append k 0 0 [kR 9, kI b] G d K := by
  obtain ⟨ho, ⟨e0, a0⟩, -⟩ := id hM
  have x : kU d 10 n b 9 1 = n := by rw [kU_ne (by decide)]; exact hn
  refine AM.of rfl (Nat.le_of_ble_eq_true rfl) ?_
  refine A_aload_n dX3_append_0 rfl rfl ?_
  refine A_get (fi := 1) dX3_append_1 fg_X3_15 rfl rfl (by assumption) ?_
  refine A_bipush dX3_append_4 ⟨by decide, by decide⟩ rfl ?_
  refine A_icmp_ge (tgt := 29) dX3_append_6 (by decide) (fun c_6 => absurd c_6 (by omega)) (fun c_6 => ?_)
  refine A_aload_n dX3_append_9 rfl rfl ?_
  refine A_getR (fi := 0) dX3_append_10 fg_X3_9 rfl rfl (by assumption) (by assumption) ?_
  refine A_aload_n dX3_append_13 rfl rfl ?_
  refine A_get (fi := 1) dX3_append_14 fg_X3_15 rfl rfl (by assumption) ?_
  rw [hn]
  refine A_iload_n dX3_append_17 rfl rfl ?_
  refine A_iast dX3_append_18 (by assumption) (by omega) (by omega) ?_
  refine A_aload_n dX3_append_19 rfl rfl ?_
  refine A_dup dX3_append_20 (fun B => toV_cat B _) ?_
  refine A_get (fi := 1) dX3_append_21 fg_X3_15 rfl rfl (by assumption) ?_
  rw [x]
  refine A_iconst dX3_append_24 ⟨by decide, by decide⟩ ?_
  refine A_iadd_ok dX3_append_25 (by omega) (by omega) ?_
  refine A_put (fi := 1) dX3_append_26 fp_X3_15 rfl rfl (by assumption) ?_
  refine A_vret dX3_append_29 rfl ?_
  exact hK
theorem M_type {w n : Int} (X : XG G) (C : CI G d R S tp T im I) (W : WI R S tp im I) (hK : ∀ d', FM d d' → CI G d' R S (typS tp T w n).2.1 (typS tp T w n).2.2 im I → K (some (kI (typS tp T w n).1)) G d') : AM E mX6_type (k + 2) 0 0 [kR 1, kJ w, kI n] G d K := by
  obtain ⟨⟨o1, r0, r1, -⟩, rO, -⟩ := id X
  have oR := rO.1
  obtain ⟨t1, t2⟩ := id C.2.2.2.1
  have wt := W.2.2.2.1
  unfold typS at hK
  refine AM.of rfl (Nat.le_of_ble_eq_true rfl) ?_
  refine A_iload_n dX6_type_0 rfl rfl ?_
  refine A_iconst dX6_type_1 ⟨by decide, by decide⟩ ?_
  refine A_bipush dX6_type_2 ⟨by decide, by decide⟩ rfl ?_
  refine A_ins3 dX6_type_4 ms_X6_59 (Nat.le_of_ble_eq_true rfl) ?_
  refine C_within ?_
  refine A_if_ne (tgt := 12) dX6_type_7 (by decide) (fun c_7 => ?_) (fun c_7 => ?_)
  · have z := i01n c_7
    rw [if_neg (by omega)] at hK
    obtain ⟨N, hN⟩ : ∃ N : Nat, n = N := ⟨n.toNat, by omega⟩
    subst hN
    rw [show ((N : Int)).toNat = N by omega] at hK
    have l2 : tokF w N = true → tp + N ≤ 100 → ∀ (j : Nat), j ≤ N → ∀ (d' : HD), (∀ a, a ≠ 9 → a ≠ 10 → d' a = d a) → RT d' (tp + (N - j : Nat)) (fun i => if tp ≤ i ∧ i < tp + N then byB w (N - 1 - (i - tp)) else T i) → AW E mX6_type (k + 2) 0 0 67 [some (kR 1), some (kJ w), none, some (kI N), some (kI ((j : Int) - 1))] [] G d' K := by
      intro hok hle j
      rw [if_neg (by rw [hok]; decide), if_neg (by omega)] at hK
      induction j with
      | zero =>
        intro hj d' hd hT
        have x1 : d' 9 1 = tp + N := by rw [hT.1]; omega
        rw [show tp + ((N - 0 : Nat) : Int) = tp + N by omega] at hT
        have fin := hK d' (fun a a1 a2 => hd a (by omega) (by omega)) (C.rd W (fun a ha => hd a (by omega) (by omega)) hT)
        refine A_iload dX6_type_67 rfl ?_
        refine A_if_lt (tgt := 91) dX6_type_69 (by decide) (fun c_69 => ?_) (fun c_69 => absurd c_69 (by omega))
        refine A_aload_n dX6_type_91 rfl rfl ?_
        refine A_getR (fi := 0) dX6_type_92 fg_X6_40 rfl rfl (by assumption) (by assumption) ?_
        refine A_get (fi := 1) dX6_type_95 fg_X6_144 rfl rfl (by assumption) ?_
        rw [x1]
        refine A_iret dX6_type_98 rfl ?_
        exact fin
      | succ j ih =>
        intro hj d' hd hT
        have x1 := hT.1
        rw [show ((j + 1 : Nat) : Int) - 1 = j by omega]
        refine A_iload dX6_type_67 rfl ?_
        refine A_if_lt (tgt := 91) dX6_type_69 (by decide) (fun c_69 => absurd c_69 (by omega)) (fun c_69 => ?_)
        refine A_aload_n dX6_type_72 rfl rfl ?_
        refine A_getR (fi := 0) dX6_type_73 fg_X6_40 rfl rfl (by assumption) (by assumption) ?_
        refine A_lload_n dX6_type_76 rfl rfl ?_
        refine A_iload dX6_type_77 rfl ?_
        refine A_ins2 dX6_type_79 ms_X6_140 (Nat.le_of_ble_eq_true rfl) ?_
        refine C_byteOf (by omega) (by omega) ?_
        refine A_inv1 dX6_type_82 mv_X6_147 kCl_3 (Nat.le_of_ble_eq_true rfl) (by assumption) ?_
        refine C_append rO x1 (by omega) (by omega) ?_
        refine A_iinc_ok dX6_type_85 rfl rfl (by omega) (by omega) ?_
        refine A_goto (tgt := 67) dX6_type_88 (by decide) ?_
        rw [show (j : Int) + -1 = (j : Int) - 1 by omega]
        refine ih (by omega) _ (fun a a1 a2 => by rw [kU_ne a1, kU_ne a2]; exact hd a a1 a2) ⟨by rw [kU_s]; omega, fun i i1 i2 => ?_⟩
        rw [kU_ne (by decide)]
        by_cases q : i = tp + ((N - (j + 1) : Nat) : Int)
        · subst q
          rw [kU_s]
          show byB w j = if tp ≤ tp + ((N - (j + 1) : Nat) : Int) ∧ tp + ((N - (j + 1) : Nat) : Int) < tp + N then byB w (N - 1 - (tp + ((N - (j + 1) : Nat) : Int) - tp)) else T (tp + ((N - (j + 1) : Nat) : Int))
          rw [if_pos (by omega)]
          congr 1
          omega
        · rw [kU_f q]
          exact hT.2 i i1 (by omega)
    have l1 : ∀ (f j : Nat), j + f = N → tokF w j = true → AW E mX6_type (k + 2) 0 0 15 [some (kR 1), some (kJ w), none, some (kI N), some (kI j)] [] G d K := by
      intro f
      induction f with
      | zero =>
        intro j hj hok
        have : j = N := by omega
        subst this
        refine A_iload dX6_type_15 rfl ?_
        refine A_iload_n dX6_type_17 rfl rfl ?_
        refine A_icmp_ge (tgt := 45) dX6_type_18 (by decide) (fun c_18 => ?_) (fun c_18 => absurd c_18 (by omega))
        refine A_aload_n dX6_type_45 rfl rfl ?_
        refine A_getR (fi := 0) dX6_type_46 fg_X6_40 rfl rfl (by assumption) (by assumption) ?_
        refine A_get (fi := 1) dX6_type_49 fg_X6_144 rfl rfl (by assumption) ?_
        rw [t1]
        refine A_iload_n dX6_type_52 rfl rfl ?_
        refine A_iadd_ok dX6_type_53 (by omega) (by omega) ?_
        refine A_bipush dX6_type_54 ⟨by decide, by decide⟩ rfl ?_
        refine A_icmp_le (tgt := 62) dX6_type_56 (by decide) (fun c_56 => ?_) (fun c_56 => ?_)
        · refine A_iload_n dX6_type_62 rfl rfl ?_
          refine A_iconst dX6_type_63 ⟨by decide, by decide⟩ ?_
          refine A_isub_ok dX6_type_64 (by omega) (by omega) ?_
          refine A_istore dX6_type_65 (Nat.le_of_ble_eq_true rfl) rfl ?_
          refine l2 hok (by omega) j (Nat.le_refl _) d (fun _ _ _ => rfl) ⟨by rw [t1]; omega, fun i i1 i2 => ?_⟩
          show d 10 i = if tp ≤ i ∧ i < tp + j then byB w (j - 1 - (i - tp)) else T i
          rw [if_neg (by omega)]
          exact t2 i i1 (by omega)
        · rw [if_neg (by rw [hok]; decide), if_pos (by omega)] at hK
          have fin := hK d FM.rf C
          refine A_bipush dX6_type_59 ⟨by decide, by decide⟩ rfl ?_
          refine A_iret dX6_type_61 rfl ?_
          exact fin
      | succ f ih =>
        intro j hj hok
        have e : tokF w (j + 1) = (tokF w j && decide (32 ≤ byB w j ∧ byB w j ≤ 126)) := rfl
        rw [hok, Bool.true_and] at e
        refine A_iload dX6_type_15 rfl ?_
        refine A_iload_n dX6_type_17 rfl rfl ?_
        refine A_icmp_ge (tgt := 45) dX6_type_18 (by decide) (fun c_18 => absurd c_18 (by omega)) (fun c_18 => ?_)
        refine A_lload_n dX6_type_21 rfl rfl ?_
        refine A_iload dX6_type_22 rfl ?_
        refine A_ins2 dX6_type_24 ms_X6_140 (Nat.le_of_ble_eq_true rfl) ?_
        refine C_byteOf (by omega) (by omega) ?_
        refine A_bipush dX6_type_27 ⟨by decide, by decide⟩ rfl ?_
        refine A_bipush dX6_type_29 ⟨by decide, by decide⟩ rfl ?_
        refine A_ins3 dX6_type_31 ms_X6_59 (Nat.le_of_ble_eq_true rfl) ?_
        refine C_within ?_
        refine A_if_ne (tgt := 39) dX6_type_34 (by decide) (fun c_34 => ?_) (fun c_34 => ?_)
        · have z := i01n c_34
          replace c_34 := i01n c_34
          refine A_iinc_ok dX6_type_39 rfl rfl (by omega) (by omega) ?_
          refine A_goto (tgt := 15) dX6_type_42 (by decide) ?_
          exact ih (j + 1) (by omega) (by rw [e]; exact decide_eq_true z)
        · have z := i01e c_34
          have st := tokF_st (w := w) (j := j + 1) (by rw [e]; exact decide_eq_false z) (N - (j + 1))
          rw [show j + 1 + (N - (j + 1)) = N by omega] at st
          rw [if_pos st] at hK
          have fin := hK d FM.rf C
          replace c_34 := i01e c_34
          refine A_iconst dX6_type_37 ⟨by decide, by decide⟩ ?_
          refine A_iret dX6_type_38 rfl ?_
          exact fin
    replace c_7 := i01n c_7
    refine A_iconst dX6_type_12 ⟨by decide, by decide⟩ ?_
    refine A_istore dX6_type_13 (Nat.le_of_ble_eq_true rfl) rfl ?_
    exact l1 N 0 (by omega) rfl
  · have z := i01e c_7
    rw [if_pos (by omega)] at hK
    have fin := hK d FM.rf C
    replace c_7 := i01e c_7
    refine A_iconst dX6_type_10 ⟨by decide, by decide⟩ ?_
    refine A_iret dX6_type_11 rfl ?_
    exact fin
end CL5
section HB2
variable {G G' : HG} {d d' : HD} {H N : Nat} {R R' : Int → Int} {A : Nat}
theorem clS_c1 {h g dd oo v : Int} (e1 : R' (34 + h) = R (34 + h)) (e2 : R' (37 + h) = R (37 + h)) (e3 : ∀ i, 0 ≤ i → i < 100 → hT R' h i = hT R h i) (hV : VH R h) : clS R' h g dd oo v = clS R h g dd oo v := by
  obtain ⟨V1, V2, V3⟩ := hV
  unfold clS
  rw [e1, e2]
  rcases V3 with q | ⟨q1, q2, q3⟩
  · rw [q]; rfl
  · exact clF_cg (fun i i1 i2 => e3 i i1 (by omega)) _ 6 0 0 (by omega) V1 rfl (by unfold csP at q3; omega) (by omega) (by omega)
theorem VH_c1 {h : Int} (e1 : R' (34 + h) = R (34 + h)) (e2 : R' (37 + h) = R (37 + h)) (e3 : ∀ i, 0 ≤ i → i < 100 → hT R' h i = hT R h i) (hV : VH R h) : VH R' h := by
  obtain ⟨V1, V2, V3⟩ := hV
  refine ⟨by omega, by omega, ?_⟩
  rcases V3 with q | ⟨q1, q2, q3⟩
  · exact Or.inl (by omega)
  · refine Or.inr ⟨by omega, by omega, ?_⟩
    rw [e1, e2, ← q3]
    unfold csP
    rw [csF_cg (fun i i1 i2 => e3 i i1 (by omega)) 6 0 0 (by omega) V1]
theorem HB.c1 {h : Int} (hb : HB G d H R h) (hV : VH R h) (e1 : R' (34 + h) = R (34 + h)) (e2 : R' (37 + h) = R (37 + h)) (e3 : ∀ i, 0 ≤ i → i < 100 → hT R' h i = hT R h i) (ed : ∀ i : Nat, i ≤ 8 → d' (H + i) = d (H + i)) : HB G d' H R' h := by
  obtain ⟨N, C, hO, hC, hdg, hch⟩ := hb
  have e0 : d' H = d H := ed 0 (by omega)
  refine ⟨N, C, ⟨⟨hO.1.1, by rw [e0]; exact hO.1.2.1, hO.1.2.2⟩, hO.2⟩, by rw [e2]; exact hC, fun i i1 i2 => by rw [ed 7 (by omega)]; exact hdg i i1 i2, fun g dd oo v v1 v2 => ?_⟩
  have ea : chA d' H N g dd oo v = chA d H N g dd oo v := by unfold chA; rw [chF_cg ed]
  have ep : ∀ x, pcS d' H x v = pcS d H x v := fun x => by unfold pcS; rw [ed 6 (by omega), ed 7 (by omega)]
  rw [ea, ep, ed 8 (by omega), clS_c1 e1 e2 e3 hV]
  exact hch g dd oo v v1 v2
theorem habR_c1 {h q tp c : Int} {T : Int → Int} (hq : 0 ≤ q) (hq2 : q ≤ 2) (hh : 0 ≤ h) (hh2 : h ≤ 2) (ht : tp ≤ 100) (hne : q ≠ h) : habR R h tp T c (34 + q) = R (34 + q) ∧ habR R h tp T c (37 + q) = R (37 + q) ∧ ∀ i, 0 ≤ i → i < 100 → hT (habR R h tp T c) q i = hT R q i := by
  refine ⟨?_, ?_, fun i i1 i2 => ?_⟩
  · unfold habR; rw [if_neg (by omega), if_neg (by omega), if_neg (by omega)]
  · unfold habR; rw [if_neg (by omega), if_neg (by omega), if_neg (by omega)]
  · unfold hT habR; rw [if_neg (by omega), if_neg (by omega), if_neg (by omega)]
theorem habR_o {h tp c j : Int} {T : Int → Int} (hh : 0 ≤ h) (hh2 : h ≤ 2) (ht : tp ≤ 100) (hj : j < 34 ∨ 340 ≤ j) : habR R h tp T c j = R j := by
  unfold habR; rw [if_neg (by omega), if_neg (by omega), if_neg (by omega)]
theorem habR_s {h tp c : Int} {T : Int → Int} (hh : 0 ≤ h) (hh2 : h ≤ 2) : habR R h tp T c (34 + h) = tp ∧ habR R h tp T c (37 + h) = c ∧ ∀ i, 0 ≤ i → i < tp → hT (habR R h tp T c) h i = T i := by
  refine ⟨?_, ?_, fun i i1 i2 => ?_⟩
  · unfold habR; rw [if_neg (by omega), if_pos rfl]
  · unfold habR; rw [if_neg (by omega), if_neg (by omega), if_pos rfl]
  · unfold hT habR; rw [if_pos (by omega)]; congr 1; omega
theorem CV.tx (h : CV d A R) (e : ∀ j, (j < 34 ∨ 340 ≤ j) → R' j = R j) (h5 : R 5 ≤ 4) (h6 : R 6 ≤ 4) : CV d A R' := by
  obtain ⟨h0, hc', hb, hl⟩ := h
  have ec : ∀ c w : Int, 0 ≤ c → 0 ≤ w → cfR R' c w = cfR R c w := fun c w c1 w1 => e _ (by omega)
  refine ⟨?_, fun e' e1 => ⟨fun w' w1 w2 => ?_, fun i' q' i1 i2 i3 q1 q2 => ?_⟩, fun x b1 b2 => ?_, fun x b1 b2 => ?_⟩
  · rw [e 0 (by omega), e 1 (by omega), e 2 (by omega), e 3 (by omega), e 4 (by omega), e 5 (by omega), e 6 (by omega)]; exact h0
  · rw [e 2 (by omega)] at e1
    rw [ec _ _ (by omega) (by omega)]
    exact (hc' e' e1).1 w' w1 w2
  · rw [e 2 (by omega)] at e1
    rw [ec _ _ (by omega) (by omega)] at i3
    rw [ec _ 8 (by omega) (by omega), ec _ _ (by omega) (by omega)]
    exact (hc' e' e1).2 i' q' i1 i2 i3 q1 q2
  · rw [e 5 (by omega)] at b2
    rw [e _ (by omega), e _ (by omega), e _ (by omega)]
    exact hb x b1 b2
  · rw [e 6 (by omega)] at b2
    rw [e _ (by omega), e _ (by omega), e _ (by omega)]
    exact hl x b1 b2
/-- the object made of a sound text goes by that text -/
theorem HB_of {G1 : HG} {d1 : HD} {C : Nat} {n h : Int} {t : Int → Int} (hO : isO G1 H 1) (hP : HP G1 d1 H N C G' d' 8) (hH : 21 ≤ H) (hX : XR t n d1 N C) (hn0 : 0 ≤ n) (hn : n ≤ 100) (e1 : R (34 + h) = n) (e2 : R (37 + h) = C) (e3 : ∀ i, 0 ≤ i → i < n → hT R h i = t i) : HB G' d' H R h := by
  obtain ⟨p1, p2, p3, p4, p5⟩ := hP
  obtain ⟨⟨x3, x4, xN, xC1, xC2, xcs⟩, xdg, F, lm, xF, xsem⟩ := hX
  have arr : ∀ j : Nat, 1 ≤ j → j ≤ 8 → ∀ fi : Int, fi = (j : Int) → G'.2.2 H fi = H + j ∧ isA G' (H + j) 8 (hln N C j) := fun j j1 j2 fi hfi => by rw [hfi]; exact ⟨(p5 j j1 j2).1, (p5 j j1 j2).2.1⟩
  have val : ∀ j : Nat, 1 ≤ j → j ≤ 8 → ∀ q : Int, 0 ≤ q → q < hln N C j → d' (H + j) q = d1 (j + 10) q := fun j j1 j2 => (p5 j j1 j2).2.2
  refine ⟨N, C, ⟨⟨⟨hO.1, by rw [p1]; omega, by rw [p2 H (Nat.le_refl _)]; exact hO.2.2⟩, p4, xN, by omega⟩, arr 1 (by omega) (by omega) 1 rfl, arr 2 (by omega) (by omega) 2 rfl, arr 3 (by omega) (by omega) 3 rfl, arr 4 (by omega) (by omega) 4 rfl, arr 5 (by omega) (by omega) 5 rfl, arr 6 (by omega) (by omega) 6 rfl, arr 7 (by omega) (by omega) 7 rfl, arr 8 (by omega) (by omega) 8 rfl⟩, e2.symm, fun i i1 i2 => by rw [val 7 (by omega) (by omega) i i1 i2]; exact xdg i i1 i2, fun g dd oo v v1 v2 => ?_⟩
  have ech : ∀ (f : Nat) (x : Int), chF d' H N g dd oo v f x = gF F lm N g dd oo v f x := by
    intro f
    induction f with
    | zero => intro x; rfl
    | succ f ih =>
      intro x
      simp only [chF, gF]
      by_cases q : 0 ≤ x ∧ x < (N : Int)
      · obtain ⟨y4, y5, y6, y7, y8⟩ := xF x q.1 q.2
        have z1 : d' (H + 1) x = F 11 x := (val 1 (by omega) (by omega) x q.1 q.2).trans y4
        have z2 : d' (H + 2) x = F 12 x := (val 2 (by omega) (by omega) x q.1 q.2).trans y5
        have z3 : d' (H + 3) x = F 13 x := (val 3 (by omega) (by omega) x q.1 q.2).trans y6
        have z4 : d' (H + 4) x = lm (F 14 x) := (val 4 (by omega) (by omega) x q.1 q.2).trans y7
        have z5 : d' (H + 5) x = lm (F 15 x) := (val 5 (by omega) (by omega) x q.1 q.2).trans y8
        rw [if_pos q, if_pos q, ih, z1, z2, z3, z4, z5]
      · rw [if_neg q, if_neg q]
  have ecl : clS R h g dd oo v = clF t n (cvS t n g dd oo v) v (C : Int).toNat 0 0 := by
    unfold clS
    rw [e1, e2]
    exact clF_cg (s := csP t n) e3 _ 6 0 0 (by omega) hn0 rfl (by omega) (by omega) (by omega)
  have sem := xsem g dd oo v
  rw [← ecl] at sem
  unfold chA
  rw [ech]
  generalize gF F lm N g dd oo v N 0 = r at *
  generalize clS R h g dd oo v = s at *
  rcases sem with ⟨s1, s2, s3, s4, s5⟩ | ⟨s1, s2⟩
  · rw [if_pos s1, ← s2]
    have s0 : 0 ≤ s.1 := by omega
    have v6 : d' (H + 6) s.1 = d1 16 s.1 := val 6 (by omega) (by omega) _ s0 s3
    have v7 : d' (H + 7) s.1 = d1 17 s.1 := val 7 (by omega) (by omega) _ s0 s3
    have v8 : d' (H + 8) s.1 = d1 18 s.1 := val 8 (by omega) (by omega) _ s0 s3
    refine ⟨rfl, fun _ => ⟨s3, ?_, ?_⟩, fun z => by omega⟩
    · unfold pcS; rw [v6, v7]; exact s4.symm
    · rw [v8]; exact s5.symm
  · rw [if_neg (by omega), s2]
    exact ⟨rfl, fun z => absurd z (by decide), fun _ => ⟨rfl, rfl⟩⟩
end HB2
