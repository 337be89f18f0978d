theorem nw_GS {G : HG} {ka n : Nat} : GS G (kNew G ka n) := ⟨Nat.le_succ _, fun a _ h => ⟨nw_s (by omega), fun _ _ _ _ => nw_r (by omega)⟩⟩
theorem XR.cg {t : Int → Int} {n C : Int} {d d' : HD} {N : Nat} (h : XR t n d N C) (e : ∀ a, 11 ≤ a → a ≤ 18 → d' a = d a) (e3 : d' 9 3 = d 9 3) (e4 : d' 9 4 = d 9 4) : XR t n d' N C := by
  obtain ⟨⟨x3, x4, xr⟩, xdg, F, lm, xF, xsem⟩ := h
  refine ⟨⟨by rw [e3]; exact x3, by rw [e4]; exact x4, xr⟩, fun i i1 i2 => by rw [e 17 (by omega) (by omega)]; exact xdg i i1 i2, F, lm, fun i i1 i2 => by rw [e 11 (by omega) (by omega), e 12 (by omega) (by omega), e 13 (by omega) (by omega), e 14 (by omega) (by omega), e 15 (by omega) (by omega)]; exact xF i i1 i2, fun g dd oo v => ?_⟩
  have := xsem g dd oo v
  unfold RLv at this ⊢
  rw [e 16 (by omega) (by omega), e 17 (by omega) (by omega), e 18 (by omega) (by omega)]
  exact this
section CL6
variable {E : EE} {k : Nat} {G : HG} {d : HD} {K : PQ} {R T im : Int → Int} {S : SS} {tp : Int} {I : Int → Int → Int}
theorem M_habit {h : Int} (X : XG G) (hn : 184 ≤ G.1) (C : CI G d R S tp T im I) (W : WI R S tp im I) (hK : ∀ (G' : HG) (d' : HD), GS G G' → G'.1 ≤ G.1 + 9 → FM d d' → CI G' d' (habS R tp T h).2.2 S (habS R tp T h).2.1 T im I → K (some (kI (habS R tp T h).1)) G' d') : AM E mX6_habit (k + 19) 9 527 [kR 1, kI h] G d K := by
  obtain ⟨⟨o1, r0, r1, -⟩, rO, -, -, g30, -⟩ := id X
  have oR := rO.1
  obtain ⟨ho, -, ⟨e8, a8⟩, -⟩ := id g30
  have cT := C.2.2.2.1
  have wt := W.2.2.2.1
  have wR := W.1
  unfold habS at hK
  refine AM.of rfl (Nat.le_of_ble_eq_true rfl) ?_
  refine A_iload_n dX6_habit_0 rfl rfl ?_
  refine A_iconst dX6_habit_1 ⟨by decide, by decide⟩ ?_
  refine A_iconst dX6_habit_2 ⟨by decide, by decide⟩ ?_
  refine A_ins3 dX6_habit_3 ms_X6_59 (Nat.le_of_ble_eq_true rfl) ?_
  refine C_within ?_
  refine A_if_ne (tgt := 11) dX6_habit_6 (by decide) (fun c_6 => ?_) (fun c_6 => ?_)
  · have z := i01n c_6
    rw [if_neg (by omega)] at hK
    replace c_6 := i01n c_6
    refine A_aload_n dX6_habit_11 rfl rfl ?_
    refine A_getR (fi := 0) dX6_habit_12 fg_X6_40 rfl rfl (by assumption) (by assumption) ?_
    refine A_inv0 dX6_habit_15 mv_X6_150 kCl_3 (Nat.le_of_ble_eq_true rfl) (by assumption) ?_
    refine C_readHabit rO cT wt.1 wt.2 (fun d2 e1 e2 e3 e4 => ?_) (fun d2 N Cc e1 e2 hX => ?_)
    · rw [if_pos (by omega)] at hK
      have fin := hK G (kU d2 9 1 0) GS.rf (by omega) (fun a a1 a2 => by rw [kU_ne (by omega), e1 a (by omega) (by omega)]) (C.rd W (fun a ha => by rw [kU_ne (by omega), e1 a (by omega) (by omega)]) ⟨kU_s, fun i i1 i2 => absurd (show i < 0 from i2) (by omega)⟩)
      have x2 : kU d2 9 1 0 9 2 = (csP T tp).2 := by rw [kU_f (by decide)]; exact e3
      have rg := (csP_rg (t := T) wt.1).1
      refine A_istore_n dX6_habit_18 rfl (Nat.le_of_ble_eq_true rfl) rfl ?_
      refine A_aload_n dX6_habit_19 rfl rfl ?_
      refine A_getR (fi := 0) dX6_habit_20 fg_X6_40 rfl rfl (by assumption) (by assumption) ?_
      refine A_iconst dX6_habit_23 ⟨by decide, by decide⟩ ?_
      refine A_put (fi := 1) dX6_habit_24 fp_X6_144 rfl rfl (by assumption) ?_
      refine A_iload_n dX6_habit_27 rfl rfl ?_
      refine A_if_ne (tgt := 42) dX6_habit_28 (by decide) (fun c_28 => absurd c_28 (by omega)) (fun c_28 => ?_)
      refine A_bipush dX6_habit_31 ⟨by decide, by decide⟩ rfl ?_
      refine A_aload_n dX6_habit_33 rfl rfl ?_
      refine A_getR (fi := 0) dX6_habit_34 fg_X6_40 rfl rfl (by assumption) (by assumption) ?_
      refine A_get (fi := 2) dX6_habit_37 fg_X6_154 rfl rfl (by assumption) ?_
      rw [x2]
      refine A_isub_ok dX6_habit_40 (by omega) (by omega) ?_
      refine A_iret dX6_habit_41 rfl ?_
      exact fin
    · obtain ⟨⟨x3, x4, xN, xC1, xC2, xcs⟩, -⟩ := id hX
      rw [if_neg (by omega)] at hK
      obtain ⟨Cn, hCn⟩ : ∃ c : Nat, Cc = c := ⟨Cc.toNat, by omega⟩
      subst hCn
      refine A_istore_n dX6_habit_18 rfl (Nat.le_of_ble_eq_true rfl) rfl ?_
      refine A_aload_n dX6_habit_19 rfl rfl ?_
      refine A_getR (fi := 0) dX6_habit_20 fg_X6_40 rfl rfl (by assumption) (by assumption) ?_
      refine A_iconst dX6_habit_23 ⟨by decide, by decide⟩ ?_
      refine A_put (fi := 1) dX6_habit_24 fp_X6_144 rfl rfl (by assumption) ?_
      refine A_iload_n dX6_habit_27 rfl rfl ?_
      refine A_if_ne (tgt := 42) dX6_habit_28 (by decide) (fun c_28 => ?_) (fun c_28 => absurd c_28 (by omega))
      refine A_aload_n dX6_habit_42 rfl rfl ?_
      refine A_getR (fi := 1) dX6_habit_43 fg_X6_47 rfl rfl (by assumption) (by assumption) ?_
      refine A_getR (fi := 8) dX6_habit_46 fg_X6_157 rfl rfl (by assumption) (by assumption) ?_
      refine A_iload_n dX6_habit_49 rfl rfl ?_
      refine A_new dX6_habit_50 kCl_1 cl_X6_35 in_X1 it_X1 (by decide) (by decide) ?_
      refine AW.more (bc' := 8) (bs' := 518) (by decide) (by decide) ?_
      have o1' : isO (kNew G 1 0) 1 6 := nw_O o1
      have r0' : (kNew G 1 0).2.2 1 0 = 9 := by rw [nw_r (by omega)]; exact r0
      refine A_dup dX6_habit_53 (fun B => toV_cat B _) ?_
      refine A_aload_n dX6_habit_54 rfl rfl ?_
      refine A_getR (fi := 0) dX6_habit_55 fg_X6_40 rfl rfl (by assumption) (by assumption) ?_
      refine A_ini (bc' := 8) (bs' := 5 * N + 3 * Cn) [kR 9] dX6_habit_58 mc_X6_37 rfl rfl (Nat.le_of_ble_eq_true rfl) (by omega) (by omega) (by omega) ?_
      have dd : ∀ a, a ≤ G.1 → kNewD G (kU d2 9 1 0) a = kU d2 9 1 0 a := fun a ha => nw_d (by omega)
      refine C_habitInit (N := N) (C := Cn) (nw_GS.RO rO) nw_nO rfl (by omega) (by rw [dd 9 (by omega), kU_f (by decide)]; exact x4) (by omega) (by rw [dd 9 (by omega), kU_f (by decide)]; exact x3) xN (fun G2 d3 hP => ?_)
      have hX1 : XR T tp (kNewD G (kU d2 9 1 0)) N Cn := hX.cg (fun a a1 a2 => by rw [dd a (by omega), kU_ne (by omega)]) (by rw [dd 9 (by omega), kU_f (by decide)]) (by rw [dd 9 (by omega), kU_f (by decide)])
      obtain ⟨p1, p2, p3, p4, p5⟩ := id hP
      have gs2 : GS G G2 := by
        refine ⟨by omega, fun a a1 a2 => ⟨?_, fun _ _ _ _ => ?_⟩⟩
        · rw [p2 a (by omega)]; exact nw_s (by omega)
        · rw [(p3 a (by omega)).1]; exact nw_r (by omega)
      have gs23 : ∀ (i : Int) (r : Nat), GS G2 (kUR G2 (30 + 2) i r) := fun i r => ⟨Nat.le_refl _, fun a _ _ => ⟨rfl, fun z _ _ _ => ur_r (by omega)⟩⟩
      have gs3 : GS G (kUR G2 (30 + 2) h (G.1 + 1)) := ⟨gs2.1, fun a a1 a2 => ⟨(gs2.2 a a1 a2).1, fun z1 z2 z3 z4 => by rw [ur_r (by omega)]; exact (gs2.2 a a1 a2).2 z1 z2 z3 z4⟩⟩
      have ia : isA G2 (30 + 2) 11 3 := gs2.Ar a8
      have oh : isO G2 (G.1 + 1) 1 := ⟨by omega, by omega, by rw [p2 _ (Nat.le_refl _)]; exact (nw_nO (G := G) (ka := 1)).2.2⟩
      have X3 := X.gs gs3
      obtain ⟨⟨u1, t0, t1, -⟩, vO, -⟩ := id X3
      have uR := vO.1
      have d3o : ∀ a, a ≤ G.1 → d3 a = kU d2 9 1 0 a := fun a ha => by rw [(p3 a (by omega)).2]; exact dd a ha
      have d3d : ∀ a, (a < 9 ∨ 20 < a) → a ≤ G.1 → d3 a = d a := fun a a1 a2 => by rw [d3o a a2, kU_ne (by omega), e1 a (by omega) (by omega)]
      have x34 : d3 9 4 = Cn := by rw [d3o 9 (by omega), kU_f (by decide)]; exact x4
      have hs := habR_s (R := R) (h := h) (tp := tp) (c := (csP T tp).1) (T := T) (by omega) (by omega)
      have hB : HB (kUR G2 (30 + 2) h (G.1 + 1)) d3 (G.1 + 1) (habR R h tp T (csP T tp).1) h := HB.gs (gs23 _ _) (by unfold HN; omega) (HB_of nw_nO hP (by omega) hX1 wt.1 wt.2 hs.1 (hs.2.1.trans xcs) hs.2.2)
      have fin := hK (kUR G2 (30 + 2) h (G.1 + 1)) d3 gs3 (by show G2.1 ≤ G.1 + 9; omega) (fun a a1 a2 => d3d a (by omega) (by omega)) ⟨(C.1.cd wR.2.2.1.2 (fun a a1 a2 => d3d a (by omega) (by omega))).tx (fun j hj => habR_o (by omega) (by omega) wt.2 hj) wR.2.2.2.2.2.1.2.1 wR.2.2.2.2.2.2.1.2.1, fun q hq => ?_, fun s hs => by rw [d3d (162 + 2 * s) (by omega) (by omega), d3d (163 + 2 * s) (by omega) (by omega)]; exact C.2.2.1 s hs, ⟨by rw [d3o 9 (by omega)]; exact kU_s, fun i i1 i2 => absurd (show i < 0 from i2) (by omega)⟩, fun n hn2 => ?_⟩
      · rw [xcs] at fin
        refine A_aast (t := 3) dX6_habit_61 (fun _ => rfl) kCl_1 (by decide) ia oh (by omega) (by omega) ?_
        refine A_aload_n dX6_habit_62 rfl rfl ?_
        refine A_getR (fi := 0) dX6_habit_63 fg_X6_40 rfl rfl (by assumption) (by assumption) ?_
        refine A_get (fi := 4) dX6_habit_66 fg_X6_161 rfl rfl (by assumption) ?_
        rw [x34]
        refine A_iret dX6_habit_69 rfl ?_
        exact fin
      · by_cases z : (q : Int) = h
        · rw [z, ur_e]
          exact ⟨by unfold HN; omega, hB⟩
        · obtain ⟨hq1, hq2⟩ := C.2.1 q hq
          have er : (kUR G2 (30 + 2) h (G.1 + 1)).2.2 (30 + 2) (q : Int) = G.2.2 (30 + 2) (q : Int) := by rw [ur_f z, (p3 32 (by omega)).1, nw_r (by omega)]
          rw [er]
          have c1 := habR_c1 (R := R) (h := h) (q := q) (tp := tp) (c := (csP T tp).1) (T := T) (by omega) (by omega) (by omega) (by omega) wt.2 z
          refine ⟨hq1, (HB.gs gs3 hq1 hq2).c1 (wR.2.2.2.2.2.2.2.1 q (by omega) (by omega)) c1.1 c1.2.1 c1.2.2 (fun i hi => ?_)⟩
          obtain ⟨Nq, Cq, hOq, -⟩ := hq2
          have := hOq.2.2.2.2.2.2.2.2.2.2.1
          unfold HN at hq1
          exact d3d _ (by omega) (by omega)
      · rw [d3d 3 (by omega) (by omega)]
        obtain ⟨cn1, cn2⟩ := C.2.2.2.2 n hn2
        refine ⟨cn1, fun hi => ?_⟩
        obtain ⟨iV, iH⟩ := cn2 hi
        have wn := ((W.2.2.2.2 n hn2).2 hi).1
        refine ⟨iV.cd wn.2.2.1.2 (fun a a1 a2 => d3d a (by omega) (by omega)), iH.mv gs3 (fun q _ => ?_) wn.2.2.2.2.2.2.2.1 (fun _ _ _ => rfl) (fun a ha => d3d a (by omega) (by omega))⟩
        rw [ur_r (by omega), (p3 (96 + 33 * n + 2) (by omega)).1, nw_r (by omega)]
  · have z := i01e c_6
    rw [if_pos (by omega)] at hK
    have fin := hK G d GS.rf (by omega) FM.rf C
    replace c_6 := i01e c_6
    refine A_iconst dX6_habit_9 ⟨by decide, by decide⟩ ?_
    refine A_iret dX6_habit_10 rfl ?_
    exact fin
end CL6
