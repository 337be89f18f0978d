section CL2
variable {E : EE} {k : Nat} {G : HG} {d : HD} {K : PQ} {R T im : Int → Int} {S : SS} {tp : Int} {I : Int → Int → Int}
theorem C_fill {a n : Nat} {v : Int} (ha : isA G a 8 n) (hK : ∀ d', (∀ b, b ≠ a → d' b = d b) → (∀ i : Int, 0 ≤ i → i < n → d' a i = v) → K none G d') : AM E mJ7_fill_53178 k 0 0 [kR a, kI v] G d K := by
  have n6 := ha.2.2.2
  have loop : ∀ (f j : Nat), j + f = n → ∀ (d' : HD), (∀ b, b ≠ a → d' b = d b) → (∀ i : Int, 0 ≤ i → i < j → d' a i = v) → AW E mJ7_fill_53178 k 0 0 5 [some (kR a), some (kI v), some (kI j), some (kI n)] [] G d' K := by
    intro f
    induction f with
    | zero =>
      intro j hj d' h1 h2
      have : j = n := by omega
      subst this
      refine A_iload_n dJ7_fill_53178_5 rfl rfl ?_
      refine A_iload_n dJ7_fill_53178_6 rfl rfl ?_
      refine A_icmp_ge (tgt := 20) dJ7_fill_53178_7 (by decide) (fun c_7 => ?_) (fun c_7 => absurd c_7 (by omega))
      refine A_vret dJ7_fill_53178_20 rfl ?_
      exact hK d' h1 h2
    | succ f ih =>
      intro j hj d' h1 h2
      refine A_iload_n dJ7_fill_53178_5 rfl rfl ?_
      refine A_iload_n dJ7_fill_53178_6 rfl rfl ?_
      refine A_icmp_ge (tgt := 20) dJ7_fill_53178_7 (by decide) (fun c_7 => absurd c_7 (by omega)) (fun c_7 => ?_)
      refine A_aload_n dJ7_fill_53178_10 rfl rfl ?_
      refine A_iload_n dJ7_fill_53178_11 rfl rfl ?_
      refine A_iload_n dJ7_fill_53178_12 rfl rfl ?_
      refine A_iast dJ7_fill_53178_13 (by assumption) (by omega) (by omega) ?_
      refine A_iinc_ok dJ7_fill_53178_14 rfl rfl (by omega) (by omega) ?_
      refine A_goto (tgt := 5) dJ7_fill_53178_17 (by decide) ?_
      refine ih (j + 1) (by omega) _ (fun b hb => by rw [kU_ne hb]; exact h1 b hb) (fun i i1 i2 => ?_)
      by_cases q : i = j
      · subst q; rw [kU_s]
      · rw [kU_f q]; exact h2 i i1 (by omega)
  refine AM.of rfl (Nat.le_of_ble_eq_true rfl) ?_
  refine A_iconst dJ7_fill_53178_0 ⟨by decide, by decide⟩ ?_
  refine A_istore_n dJ7_fill_53178_1 rfl (Nat.le_of_ble_eq_true rfl) rfl ?_
  refine A_aload_n dJ7_fill_53178_2 rfl rfl ?_
  refine A_alen (t := 0) dJ7_fill_53178_3 (fun _ => rfl) (Or.inl rfl) (by assumption) ?_
  refine A_istore_n dJ7_fill_53178_4 rfl (Nat.le_of_ble_eq_true rfl) rfl ?_
  exact loop n 0 (by omega) d (fun _ _ => rfl) (fun i i1 i2 => by omega)
theorem C_hasItems {s : Nat} {i n : Int} (hO : SO G) (hs : s < 4) (hS : CS d S) (w1 : 0 ≤ S.2.1 s) (w2 : S.2.1 s ≤ 36) (hK : K (some (kI (if i < 0 ∨ n < 0 ∨ S.2.1 s < i + n then 0 else 1))) G d) : AM E mX5_hasItems k 0 0 [kR (162 + 2 * s), kI i, kI n] G d K := by
  obtain ⟨e, o, e2, a⟩ := hO.2 s hs
  obtain ⟨y0, y1, y2⟩ := hS s hs
  refine AM.of rfl (Nat.le_of_ble_eq_true rfl) ?_
  refine AW.nm (x := n) 2 rfl (fun nn => ?_)
  have nn2 := nn.2
  refine A_iload_n dX5_hasItems_0 rfl rfl ?_
  refine A_if_lt (tgt := 22) dX5_hasItems_1 (by decide) (fun c_1 => ?_) (fun c_1 => ?_)
  · rw [if_pos (by omega)] at hK
    refine A_iconst dX5_hasItems_22 ⟨by decide, by decide⟩ ?_
    refine A_zret dX5_hasItems_23 rfl (by first | exact Or.inl rfl | exact Or.inr rfl | assumption | omega) ?_
    exact hK
  · refine A_iload_n dX5_hasItems_4 rfl rfl ?_
    refine A_if_lt (tgt := 22) dX5_hasItems_5 (by decide) (fun c_5 => ?_) (fun c_5 => ?_)
    · rw [if_pos (by omega)] at hK
      refine A_iconst dX5_hasItems_22 ⟨by decide, by decide⟩ ?_
      refine A_zret dX5_hasItems_23 rfl (by first | exact Or.inl rfl | exact Or.inr rfl | assumption | omega) ?_
      exact hK
    · refine A_iload_n dX5_hasItems_8 rfl rfl ?_
      refine A_aload_n dX5_hasItems_9 rfl rfl ?_
      refine A_get (fi := 1) dX5_hasItems_10 fg_X5_15 rfl rfl (by assumption) ?_
      rw [y1]
      refine A_iload_n dX5_hasItems_13 rfl rfl ?_
      refine A_isub_ok dX5_hasItems_14 (by omega) (by omega) ?_
      refine A_icmp_gt (tgt := 22) dX5_hasItems_15 (by decide) (fun c_15 => ?_) (fun c_15 => ?_)
      · rw [if_pos (by omega)] at hK
        refine A_iconst dX5_hasItems_22 ⟨by decide, by decide⟩ ?_
        refine A_zret dX5_hasItems_23 rfl (by first | exact Or.inl rfl | exact Or.inr rfl | assumption | omega) ?_
        exact hK
      · rw [if_neg (by omega)] at hK
        refine A_iconst dX5_hasItems_18 ⟨by decide, by decide⟩ ?_
        refine A_goto (tgt := 23) dX5_hasItems_19 (by decide) ?_
        refine A_zret dX5_hasItems_23 rfl (by first | exact Or.inl rfl | exact Or.inr rfl | assumption | omega) ?_
        exact hK
theorem C_lookedAt {s : Nat} {lane i n : Int} (hO : SO G) (hs : s < 4) (hS : CS d S) (hw : WS S) (hK : K (some (kI (rowA S s lane i n))) G d) : AM E mX5_lookedAt (k + 1) 0 0 [kR (162 + 2 * s), kI lane, kI i, kI n] G d K := by
  obtain ⟨e, o, e2, a⟩ := hO.2 s hs
  obtain ⟨y0, y1, y2⟩ := hS s hs
  obtain ⟨w0, w1, w2, w3, w4⟩ := hw s (by omega) (by omega)
  unfold rowA at hK
  refine AM.of rfl (Nat.le_of_ble_eq_true rfl) ?_
  refine A_aload_n dX5_lookedAt_0 rfl rfl ?_
  refine A_get (fi := 0) dX5_lookedAt_1 fg_X5_9 rfl rfl (by assumption) ?_
  refine A_iconst dX5_lookedAt_4 ⟨by decide, by decide⟩ ?_
  refine A_icmp_ne (tgt := 11) dX5_lookedAt_5 (by decide) (fun c_5 => ?_) (fun c_5 => ?_)
  · rw [y0] at c_5
    rw [if_neg (by omega)] at hK
    refine A_aload_n dX5_lookedAt_11 rfl rfl ?_
    refine A_get (fi := 0) dX5_lookedAt_12 fg_X5_9 rfl rfl (by assumption) ?_
    refine A_iload_n dX5_lookedAt_15 rfl rfl ?_
    refine A_icmp_eq (tgt := 22) dX5_lookedAt_16 (by decide) (fun c_16 => ?_) (fun c_16 => ?_)
    · rw [y0] at c_16
      rw [if_neg (fun z => z c_16)] at hK
      refine A_aload_n dX5_lookedAt_22 rfl rfl ?_
      refine A_iload_n dX5_lookedAt_23 rfl rfl ?_
      refine A_iload_n dX5_lookedAt_24 rfl rfl ?_
      refine A_inv2 dX5_lookedAt_25 mv_X5_28 kCl_5 (Nat.le_of_ble_eq_true rfl) (by assumption) ?_
      refine C_hasItems hO hs hS w2 w3 ?_
      by_cases q : i < 0 ∨ n < 0 ∨ S.2.1 s < i + n
      · rw [if_pos q] at hK
        rw [if_pos q]
        refine A_if_eq (tgt := 35) dX5_lookedAt_28 (by decide) (fun c_28 => ?_) (fun c_28 => absurd c_28 (by omega))
        refine A_bipush dX5_lookedAt_35 ⟨by decide, by decide⟩ rfl ?_
        refine A_iret dX5_lookedAt_37 rfl ?_
        exact hK
      · rw [if_neg q] at hK
        rw [if_neg q]
        refine A_if_eq (tgt := 35) dX5_lookedAt_28 (by decide) (fun c_28 => absurd c_28 (by omega)) (fun c_28 => ?_)
        refine A_iconst dX5_lookedAt_31 ⟨by decide, by decide⟩ ?_
        refine A_goto (tgt := 37) dX5_lookedAt_32 (by decide) ?_
        refine A_iret dX5_lookedAt_37 rfl ?_
        exact hK
    · rw [y0] at c_16
      rw [if_pos c_16] at hK
      refine A_bipush dX5_lookedAt_19 ⟨by decide, by decide⟩ rfl ?_
      refine A_iret dX5_lookedAt_21 rfl ?_
      exact hK
  · rw [y0] at c_5
    rw [if_pos (by omega)] at hK
    refine A_bipush dX5_lookedAt_8 ⟨by decide, by decide⟩ rfl ?_
    refine A_iret dX5_lookedAt_10 rfl ?_
    exact hK
theorem C_putI {s : Nat} {i v : Int} (hO : SO G) (hs : s < 4) (hS : CS d S) (h0 : 0 ≤ i) (h1 : i < 36) (hK : K none G (kU d (163 + 2 * s) i (if S.1 s = 0 then (if v = 0 then 0 else 1) else if S.1 s = 1 then kByte v else v))) : AM E mX5_put k 0 0 [kR (162 + 2 * s), kI i, kI v] G d K := by
  obtain ⟨e, o, e2, a⟩ := hO.2 s hs
  obtain ⟨y0, y1, y2⟩ := hS s hs
  refine AM.of rfl (Nat.le_of_ble_eq_true rfl) ?_
  refine A_aload_n dX5_put_0 rfl rfl ?_
  refine A_get (fi := 0) dX5_put_1 fg_X5_9 rfl rfl (by assumption) ?_
  refine A_if_ne (tgt := 25) dX5_put_4 (by decide) (fun c_4 => ?_) (fun c_4 => ?_)
  · rw [y0] at c_4
    rw [if_neg c_4] at hK
    refine A_aload_n dX5_put_25 rfl rfl ?_
    refine A_getR (fi := 2) dX5_put_26 fg_X5_18 rfl rfl (by assumption) (by assumption) ?_
    refine A_iload_n dX5_put_29 rfl rfl ?_
    refine A_aload_n dX5_put_30 rfl rfl ?_
    refine A_get (fi := 0) dX5_put_31 fg_X5_9 rfl rfl (by assumption) ?_
    refine A_iconst dX5_put_34 ⟨by decide, by decide⟩ ?_
    refine A_icmp_ne (tgt := 43) dX5_put_35 (by decide) (fun c_35 => ?_) (fun c_35 => ?_)
    · rw [y0] at c_35
      rw [if_neg c_35] at hK
      refine A_iload_n dX5_put_43 rfl rfl ?_
      refine A_iast dX5_put_44 (by assumption) (by omega) (by omega) ?_
      refine A_vret dX5_put_45 rfl ?_
      exact hK
    · rw [y0] at c_35
      rw [if_pos c_35] at hK
      refine A_iload_n dX5_put_38 rfl rfl ?_
      refine A_i2b dX5_put_39 ?_
      refine A_goto (tgt := 44) dX5_put_40 (by decide) ?_
      refine A_iast dX5_put_44 (by assumption) (by omega) (by omega) ?_
      refine A_vret dX5_put_45 rfl ?_
      exact hK
  · rw [y0] at c_4
    rw [if_pos c_4] at hK
    refine A_aload_n dX5_put_7 rfl rfl ?_
    refine A_getR (fi := 2) dX5_put_8 fg_X5_18 rfl rfl (by assumption) (by assumption) ?_
    refine A_iload_n dX5_put_11 rfl rfl ?_
    refine A_iload_n dX5_put_12 rfl rfl ?_
    refine A_if_eq (tgt := 20) dX5_put_13 (by decide) (fun c_13 => ?_) (fun c_13 => ?_)
    · rw [if_pos c_13] at hK
      refine A_iconst dX5_put_20 ⟨by decide, by decide⟩ ?_
      refine A_iast dX5_put_21 (by assumption) (by omega) (by omega) ?_
      refine A_goto (tgt := 45) dX5_put_22 (by decide) ?_
      refine A_vret dX5_put_45 rfl ?_
      exact hK
    · rw [if_neg c_13] at hK
      refine A_iconst dX5_put_16 ⟨by decide, by decide⟩ ?_
      refine A_goto (tgt := 21) dX5_put_17 (by decide) ?_
      refine A_iast dX5_put_21 (by assumption) (by omega) (by omega) ?_
      refine A_goto (tgt := 45) dX5_put_22 (by decide) ?_
      refine A_vret dX5_put_45 rfl ?_
      exact hK
theorem C_beginS {s : Nat} {lane n : Int} (hO : SO G) (hs : s < 4) (hK : ∀ d', (∀ b, b ≠ 162 + 2 * s → b ≠ 163 + 2 * s → d' b = d b) → d' (162 + 2 * s) 0 = lane → d' (162 + 2 * s) 1 = n → (∀ i : Int, 0 ≤ i → i < 36 → d' (163 + 2 * s) i = 0) → K none G d') : AM E mX5_begin (k + 1) 0 0 [kR (162 + 2 * s), kI lane, kI n] G d K := by
  obtain ⟨e, o, e2, a⟩ := hO.2 s hs
  refine AM.of rfl (Nat.le_of_ble_eq_true rfl) ?_
  refine A_aload_n dX5_begin_0 rfl rfl ?_
  refine A_iload_n dX5_begin_1 rfl rfl ?_
  refine A_put (fi := 0) dX5_begin_2 fp_X5_9 rfl rfl (by assumption) ?_
  refine A_aload_n dX5_begin_5 rfl rfl ?_
  refine A_iload_n dX5_begin_6 rfl rfl ?_
  refine A_put (fi := 1) dX5_begin_7 fp_X5_15 rfl rfl (by assumption) ?_
  refine A_aload_n dX5_begin_10 rfl rfl ?_
  refine A_getR (fi := 2) dX5_begin_11 fg_X5_18 rfl rfl (by assumption) (by assumption) ?_
  refine A_iconst dX5_begin_14 ⟨by decide, by decide⟩ ?_
  refine A_ins2 dX5_begin_15 ms_X5_22 (Nat.le_of_ble_eq_true rfl) ?_
  refine C_fill a (fun d2 h1 h2 => ?_)
  refine A_vret dX5_begin_18 rfl ?_
  refine hK d2 (fun b q1 q2 => by rw [h1 b q2, kU_ne q1, kU_ne q1]) (by rw [h1 _ (by omega), kU_f (by decide), kU_s]) (by rw [h1 _ (by omega), kU_s]) h2
/-- the class, when only a sheet has changed -/
theorem CI.sh {d' : HD} {S' : SS} (C : CI G d R S tp T im I) (W : WI R S tp im I) (hd : ∀ a, (a < 162 ∨ 169 < a) → d' a = d a) (hS : CS d' S') : CI G d' R S' tp T im I := by
  obtain ⟨cV, cH, cS, cT, cI⟩ := C
  obtain ⟨wR, -, -, -, wI⟩ := W
  refine ⟨cV.cd wR.2.2.1.2 (fun a a1 a2 => hd a (by omega)), cH.mv GS.rf (fun _ _ => rfl) wR.2.2.2.2.2.2.2.1 (fun _ _ _ => rfl) (fun a ha => hd a (by omega)), hS, ⟨by rw [hd 9 (by omega)]; exact cT.1, fun i i1 i2 => by rw [hd 10 (by omega)]; exact cT.2 i i1 i2⟩, fun n hn => ?_⟩
  rw [hd 3 (by omega)]
  refine ⟨(cI n hn).1, fun hi => ?_⟩
  obtain ⟨iV, iH⟩ := (cI n hn).2 hi
  have wn := ((wI n hn).2 hi).1
  exact ⟨iV.cd wn.2.2.1.2 (fun a a1 a2 => hd a (by omega)), iH.mv GS.rf (fun _ _ => rfl) wn.2.2.2.2.2.2.2.1 (fun _ _ _ => rfl) (fun a ha => hd a (by omega))⟩
theorem M_sheet {s lane n : Int} (X : XG G) (C : CI G d R S tp T im I) (W : WI R S tp im I) (hK : ∀ d', FM d d' → CI G d' R (sheetS S s lane n).2 tp T im I → K (some (kI (sheetS S s lane n).1)) G d') : AM E mX6_sheet (k + 3) 0 0 [kR 1, kI s, kI lane, kI n] G d K := by
  obtain ⟨⟨o1, r0, r1, r2, r3, r4, r5, r6⟩, -, -, sO, -⟩ := id X
  have i20 := sO.1
  unfold sheetS at hK
  have bad : ¬ (0 ≤ s ∧ s ≤ 3 ∧ 0 ≤ lane ∧ lane ≤ 2 ∧ n ≤ 36) → K (some (kI (-1))) G d := fun z => by
    rw [if_pos z] at hK
    exact hK d (fun _ _ _ => rfl) C
  refine AM.of rfl (Nat.le_of_ble_eq_true rfl) ?_
  refine A_iload_n dX6_sheet_0 rfl rfl ?_
  refine A_ins1 dX6_sheet_1 ms_X6_238 (Nat.le_of_ble_eq_true rfl) ?_
  refine C_isSheetC ?_
  refine A_if_eq (tgt := 22) dX6_sheet_4 (by decide) (fun c_4 => ?_) (fun c_4 => ?_)
  · have fin := bad (fun z => i01e c_4 ⟨z.1, z.2.1⟩)
    replace c_4 := i01e c_4
    refine A_iconst dX6_sheet_22 ⟨by decide, by decide⟩ ?_
    refine A_iret dX6_sheet_23 rfl ?_
    exact fin
  · have z4 := i01n c_4
    replace c_4 := i01n c_4
    refine A_iload_n dX6_sheet_7 rfl rfl ?_
    refine A_iconst dX6_sheet_8 ⟨by decide, by decide⟩ ?_
    refine A_iconst dX6_sheet_9 ⟨by decide, by decide⟩ ?_
    refine A_ins3 dX6_sheet_10 ms_X6_59 (Nat.le_of_ble_eq_true rfl) ?_
    refine C_within ?_
    refine A_if_eq (tgt := 22) dX6_sheet_13 (by decide) (fun c_13 => ?_) (fun c_13 => ?_)
    · have fin := bad (fun z => i01e c_13 ⟨z.2.2.1, z.2.2.2.1⟩)
      replace c_13 := i01e c_13
      refine A_iconst dX6_sheet_22 ⟨by decide, by decide⟩ ?_
      refine A_iret dX6_sheet_23 rfl ?_
      exact fin
    · have z13 := i01n c_13
      replace c_13 := i01n c_13
      refine A_iload_n dX6_sheet_16 rfl rfl ?_
      refine A_bipush dX6_sheet_17 ⟨by decide, by decide⟩ rfl ?_
      refine A_icmp_le (tgt := 24) dX6_sheet_19 (by decide) (fun c_19 => ?_) (fun c_19 => ?_)
      · rw [if_neg (by omega)] at hK
        refine A_iload_n dX6_sheet_24 rfl rfl ?_
        refine A_if_ge (tgt := 31) dX6_sheet_25 (by decide) (fun c_25 => ?_) (fun c_25 => ?_)
        · rw [if_neg (by omega)] at hK
          obtain ⟨q, hq⟩ : ∃ q : Nat, s = q := ⟨s.toNat, by omega⟩
          subst hq
          obtain ⟨e, o, e2, a⟩ := sO.2 q (by omega)
          refine A_aload_n dX6_sheet_31 rfl rfl ?_
          refine A_getR (fi := 6) dX6_sheet_32 fg_X6_28 rfl rfl (by assumption) (by assumption) ?_
          refine A_iload_n dX6_sheet_35 rfl rfl ?_
          refine A_aald (t := 5) dX6_sheet_36 (fun _ => rfl) (by decide) (by assumption) (by omega) (by omega) (by assumption) ?_
          refine A_iload_n dX6_sheet_37 rfl rfl ?_
          refine A_iload_n dX6_sheet_38 rfl rfl ?_
          refine A_inv2 dX6_sheet_39 mv_X6_247 kCl_5 (Nat.le_of_ble_eq_true rfl) (by assumption) ?_
          refine C_beginS sO (by omega) (fun d2 h1 h2 h3 h4 => ?_)
          refine A_iload_n dX6_sheet_42 rfl rfl ?_
          refine A_iret dX6_sheet_43 rfl ?_
          refine hK d2 (fun a a1 a2 => h1 a (by omega) (by omega)) (C.sh W (fun a ha => h1 a (by omega) (by omega)) (fun p hp => ?_))
          obtain ⟨y0, y1, y2⟩ := C.2.2.1 p hp
          by_cases z : p = q
          · subst z
            show _ = fU S.1 p lane p ∧ _ = fU S.2.1 p n p ∧ ∀ i : Int, 0 ≤ i → i < 36 → _ = if (p : Int) = p then 0 else _
            rw [fU_s, fU_s]
            exact ⟨h2, h3, fun i i1 i2 => by rw [if_pos rfl]; exact h4 i i1 i2⟩
          · show _ = fU S.1 q lane p ∧ _ = fU S.2.1 q n p ∧ ∀ i : Int, 0 ≤ i → i < 36 → _ = if (p : Int) = q then 0 else S.2.2 p i
            rw [h1 _ (by omega) (by omega), h1 _ (by omega) (by omega), fU_n (by omega), fU_n (by omega)]
            exact ⟨y0, y1, fun i i1 i2 => by rw [if_neg (by omega)]; exact y2 i i1 i2⟩
        · rw [if_pos (by omega)] at hK
          have fin := hK d (fun _ _ _ => rfl) C
          refine A_bipush dX6_sheet_28 ⟨by decide, by decide⟩ rfl ?_
          refine A_iret dX6_sheet_30 rfl ?_
          exact fin
      · have fin := bad (fun z => by omega)
        refine A_iconst dX6_sheet_22 ⟨by decide, by decide⟩ ?_
        refine A_iret dX6_sheet_23 rfl ?_
        exact fin
theorem M_drop {s : Int} (X : XG G) (C : CI G d R S tp T im I) (W : WI R S tp im I) (hK : ∀ d', FM d d' → CI G d' R (dropS S s).2 tp T im I → K (some (kI (dropS S s).1)) G d') : AM E mX6_drop (k + 3) 0 0 [kR 1, kI s] G d K := by
  obtain ⟨⟨o1, r0, r1, r2, r3, r4, r5, r6⟩, -, -, sO, -⟩ := id X
  have i20 := sO.1
  unfold dropS at hK
  refine AM.of rfl (Nat.le_of_ble_eq_true rfl) ?_
  refine A_iload_n dX6_drop_0 rfl rfl ?_
  refine A_ins1 dX6_drop_1 ms_X6_238 (Nat.le_of_ble_eq_true rfl) ?_
  refine C_isSheetC ?_
  refine A_if_ne (tgt := 9) dX6_drop_4 (by decide) (fun c_4 => ?_) (fun c_4 => ?_)
  · have z4 := i01n c_4
    rw [if_neg (by omega)] at hK
    obtain ⟨q, hq⟩ : ∃ q : Nat, s = q := ⟨s.toNat, by omega⟩
    subst hq
    obtain ⟨e, o, e2, a⟩ := sO.2 q (by omega)
    obtain ⟨y0, y1, y2⟩ := C.2.2.1 q (by omega)
    obtain ⟨w0, -⟩ := W.2.2.1 q (by omega) (by omega)
    replace c_4 := i01n c_4
    refine A_aload_n dX6_drop_9 rfl rfl ?_
    refine A_getR (fi := 6) dX6_drop_10 fg_X6_28 rfl rfl (by assumption) (by assumption) ?_
    refine A_iload_n dX6_drop_13 rfl rfl ?_
    refine A_aald (t := 5) dX6_drop_14 (fun _ => rfl) (by decide) (by assumption) (by omega) (by omega) (by assumption) ?_
    refine A_astore_n dX6_drop_15 rfl (Nat.le_of_ble_eq_true rfl) rfl (by omega) ?_
    refine A_aload_n dX6_drop_16 rfl rfl ?_
    refine A_get (fi := 0) dX6_drop_17 fg_X6_251 rfl rfl (by assumption) ?_
    refine A_iconst dX6_drop_20 ⟨by decide, by decide⟩ ?_
    refine A_icmp_ne (tgt := 27) dX6_drop_21 (by decide) (fun c_21 => ?_) (fun c_21 => ?_)
    · rw [y0] at c_21
      rw [if_neg (by omega)] at hK
      have x1 : kU d (162 + 2 * q) 0 (-1) (162 + 2 * q) 1 = S.2.1 q := by rw [kU_f (by decide)]; exact y1
      refine A_aload_n dX6_drop_27 rfl rfl ?_
      refine A_iconst dX6_drop_28 ⟨by decide, by decide⟩ ?_
      refine A_put (fi := 0) dX6_drop_29 fp_X6_251 rfl rfl (by assumption) ?_
      refine A_aload_n dX6_drop_32 rfl rfl ?_
      refine A_get (fi := 1) dX6_drop_33 fg_X6_252 rfl rfl (by assumption) ?_
      rw [x1]
      refine A_iret dX6_drop_36 rfl ?_
      refine hK _ (fun a a1 a2 => kU_ne (by omega)) (C.sh W (fun a ha => kU_ne (by omega)) (fun p hp => ?_))
      obtain ⟨y0, y1, y2⟩ := C.2.2.1 p hp
      show _ = fU S.1 q (-1) p ∧ _ = S.2.1 p ∧ ∀ i : Int, 0 ≤ i → i < 36 → _ = S.2.2 p i
      rw [kU_ne (show 163 + 2 * p ≠ 162 + 2 * q by omega)]
      by_cases z : p = q
      · subst z
        rw [kU_s, fU_s]
        exact ⟨rfl, x1, y2⟩
      · rw [kU_ne (by omega), fU_n (by omega)]
        exact ⟨y0, y1, y2⟩
    · rw [y0] at c_21
      rw [if_pos (by omega)] at hK
      have fin := hK d (fun _ _ _ => rfl) C
      refine A_bipush dX6_drop_24 ⟨by decide, by decide⟩ rfl ?_
      refine A_iret dX6_drop_26 rfl ?_
      exact fin
  · have z4 := i01e c_4
    rw [if_pos z4] at hK
    have fin := hK d (fun _ _ _ => rfl) C
    replace c_4 := i01e c_4
    refine A_iconst dX6_drop_7 ⟨by decide, by decide⟩ ?_
    refine A_iret dX6_drop_8 rfl ?_
    exact fin
theorem M_item {s lane i v : Int} (X : XG G) (C : CI G d R S tp T im I) (W : WI R S tp im I) (hK : ∀ d', FM d d' → CI G d' R (itemS S s lane i v).2 tp T im I → K (some (kI (itemS S s lane i v).1)) G d') : AM E mX6_item (k + 3) 0 0 [kR 1, kI s, kI lane, kI i, kI v] G d K := by
  obtain ⟨⟨o1, r0, r1, r2, r3, r4, r5, r6⟩, -, -, sO, -⟩ := id X
  have i20 := sO.1
  unfold itemS at hK
  have bad : ¬ (0 ≤ s ∧ s ≤ 3 ∧ 0 ≤ lane ∧ lane ≤ 2) → K (some (kI (-1))) G d := fun z => by
    rw [if_pos z] at hK
    exact hK d (fun _ _ _ => rfl) C
  refine AM.of rfl (Nat.le_of_ble_eq_true rfl) ?_
  refine A_iload_n dX6_item_0 rfl rfl ?_
  refine A_ins1 dX6_item_1 ms_X6_238 (Nat.le_of_ble_eq_true rfl) ?_
  refine C_isSheetC ?_
  refine A_if_eq (tgt := 16) dX6_item_4 (by decide) (fun c_4 => ?_) (fun c_4 => ?_)
  · have fin := bad (fun z => i01e c_4 ⟨z.1, z.2.1⟩)
    replace c_4 := i01e c_4
    refine A_iconst dX6_item_16 ⟨by decide, by decide⟩ ?_
    refine A_iret dX6_item_17 rfl ?_
    exact fin
  · have z4 := i01n c_4
    replace c_4 := i01n c_4
    refine A_iload_n dX6_item_7 rfl rfl ?_
    refine A_iconst dX6_item_8 ⟨by decide, by decide⟩ ?_
    refine A_iconst dX6_item_9 ⟨by decide, by decide⟩ ?_
    refine A_ins3 dX6_item_10 ms_X6_59 (Nat.le_of_ble_eq_true rfl) ?_
    refine C_within ?_
    refine A_if_ne (tgt := 18) dX6_item_13 (by decide) (fun c_13 => ?_) (fun c_13 => ?_)
    · have z13 := i01n c_13
      rw [if_neg (by omega)] at hK
      obtain ⟨q, hq⟩ : ∃ q : Nat, s = q := ⟨s.toNat, by omega⟩
      subst hq
      obtain ⟨e, o, e2, a⟩ := sO.2 q (by omega)
      replace c_13 := i01n c_13
      refine A_aload_n dX6_item_18 rfl rfl ?_
      refine A_getR (fi := 6) dX6_item_19 fg_X6_28 rfl rfl (by assumption) (by assumption) ?_
      refine A_iload_n dX6_item_22 rfl rfl ?_
      refine A_aald (t := 5) dX6_item_23 (fun _ => rfl) (by decide) (by assumption) (by omega) (by omega) (by assumption) ?_
      refine A_iload_n dX6_item_24 rfl rfl ?_
      refine A_iload_n dX6_item_25 rfl rfl ?_
      refine A_iconst dX6_item_26 ⟨by decide, by decide⟩ ?_
      refine A_inv3 dX6_item_27 mv_X6_241 kCl_5 (Nat.le_of_ble_eq_true rfl) (by assumption) ?_
      refine C_lookedAt sO (by omega) C.2.2.1 W.2.2.1 ?_
      refine A_istore dX6_item_30 (Nat.le_of_ble_eq_true rfl) rfl ?_
      refine A_iload dX6_item_32 rfl ?_
      refine A_if_ge (tgt := 40) dX6_item_34 (by decide) (fun c_34 => ?_) (fun c_34 => ?_)
      · rw [if_neg (by omega)] at hK
        have ok := rowA_ok (show ¬ rowA S q lane i 1 < 0 by omega)
        have w := (W.2.2.1 q (by omega) (by omega)).2.2.2.1
        refine A_aload_n dX6_item_40 rfl rfl ?_
        refine A_getR (fi := 6) dX6_item_41 fg_X6_28 rfl rfl (by assumption) (by assumption) ?_
        refine A_iload_n dX6_item_44 rfl rfl ?_
        refine A_aald (t := 5) dX6_item_45 (fun _ => rfl) (by decide) (by assumption) (by omega) (by omega) (by assumption) ?_
        refine A_iload_n dX6_item_46 rfl rfl ?_
        refine A_iload dX6_item_47 rfl ?_
        refine A_inv2 dX6_item_49 mv_X6_253 kCl_5 (Nat.le_of_ble_eq_true rfl) (by assumption) ?_
        refine C_putI sO (by omega) C.2.2.1 (by omega) (by omega) ?_
        rw [ok.1]
        refine A_iconst dX6_item_52 ⟨by decide, by decide⟩ ?_
        refine A_iret dX6_item_53 rfl ?_
        refine hK _ (fun a a1 a2 => kU_ne (by omega)) (C.sh W (fun a ha => kU_ne (by omega)) (fun p hp => ?_))
        obtain ⟨y0, y1, y2⟩ := C.2.2.1 p hp
        show _ = S.1 p ∧ _ = S.2.1 p ∧ ∀ j : Int, 0 ≤ j → j < 36 → _ = if (p : Int) = q ∧ j = i then _ else S.2.2 p j
        rw [kU_ne (show 162 + 2 * p ≠ 163 + 2 * q by omega)]
        refine ⟨y0, y1, fun j j1 j2 => ?_⟩
        unfold kU
        by_cases z : p = q ∧ j = i
        · rw [if_pos (show 163 + 2 * p = 163 + 2 * q ∧ j = i from ⟨by omega, z.2⟩), if_pos (show (p : Int) = q ∧ j = i from ⟨by omega, z.2⟩)]
        · rw [if_neg (by omega), if_neg (by omega)]; exact y2 j j1 j2
      · rw [if_pos (by omega)] at hK
        have fin := hK d (fun _ _ _ => rfl) C
        refine A_iload dX6_item_37 rfl ?_
        refine A_iret dX6_item_39 rfl ?_
        exact fin
    · have fin := bad (fun z => i01e c_13 ⟨z.2.2.1, z.2.2.2⟩)
      replace c_13 := i01e c_13
      refine A_iconst dX6_item_16 ⟨by decide, by decide⟩ ?_
      refine A_iret dX6_item_17 rfl ?_
      exact fin
theorem M_copy {a i b j n : Int} (X : XG G) (C : CI G d R S tp T im I) (W : WI R S tp im I) (hK : ∀ d', FM d d' → CI G d' R (copyS S a i b j n).2 tp T im I → K (some (kI (copyS S a i b j n).1)) G d') : AM E mX6_copy (k + 3) 0 0 [kR 1, kI a, kI i, kI b, kI j, kI n] G d K := by
  obtain ⟨⟨o1, r0, r1, r2, r3, r4, r5, r6⟩, -, -, sO, -⟩ := id X
  have i20 := sO.1
  unfold copyS at hK
  have bad : ¬ (0 ≤ a ∧ a ≤ 3 ∧ 0 ≤ b ∧ b ≤ 3) → K (some (kI (-1))) G d := fun z => by
    rw [if_pos z] at hK
    exact hK d (fun _ _ _ => rfl) C
  refine AM.of rfl (Nat.le_of_ble_eq_true rfl) ?_
  refine A_iload_n dX6_copy_0 rfl rfl ?_
  refine A_ins1 dX6_copy_1 ms_X6_238 (Nat.le_of_ble_eq_true rfl) ?_
  refine C_isSheetC ?_
  refine A_if_eq (tgt := 14) dX6_copy_4 (by decide) (fun c_4 => ?_) (fun c_4 => ?_)
  · have fin := bad (fun z => i01e c_4 ⟨z.1, z.2.1⟩)
    replace c_4 := i01e c_4
    refine A_iconst dX6_copy_14 ⟨by decide, by decide⟩ ?_
    refine A_iret dX6_copy_15 rfl ?_
    exact fin
  · have z4 := i01n c_4
    replace c_4 := i01n c_4
    refine A_iload_n dX6_copy_7 rfl rfl ?_
    refine A_ins1 dX6_copy_8 ms_X6_238 (Nat.le_of_ble_eq_true rfl) ?_
    refine C_isSheetC ?_
    refine A_if_ne (tgt := 16) dX6_copy_11 (by decide) (fun c_11 => ?_) (fun c_11 => ?_)
    · have z11 := i01n c_11
      rw [if_neg (by omega)] at hK
      obtain ⟨p, hp⟩ : ∃ q : Nat, a = q := ⟨a.toNat, by omega⟩
      obtain ⟨q, hq⟩ : ∃ q : Nat, b = q := ⟨b.toNat, by omega⟩
      subst hp
      subst hq
      obtain ⟨pe, po, pe2, pa⟩ := sO.2 p (by omega)
      obtain ⟨qe, qo, qe2, qa⟩ := sO.2 q (by omega)
      obtain ⟨py0, py1, py2⟩ := C.2.2.1 p (by omega)
      obtain ⟨qy0, qy1, qy2⟩ := C.2.2.1 q (by omega)
      obtain ⟨pw0, pw1, pw2, pw3, pw4⟩ := W.2.2.1 p (by omega) (by omega)
      obtain ⟨qw0, qw1, qw2, qw3, qw4⟩ := W.2.2.1 q (by omega) (by omega)
      have nul : S.1 p < 0 ∨ S.1 q < 0 → K (some (kI (-11))) G d := fun z => by
        rw [if_pos z] at hK
        exact hK d (fun _ _ _ => rfl) C
      replace c_11 := i01n c_11
      refine A_aload_n dX6_copy_16 rfl rfl ?_
      refine A_getR (fi := 6) dX6_copy_17 fg_X6_28 rfl rfl (by assumption) (by assumption) ?_
      refine A_iload_n dX6_copy_20 rfl rfl ?_
      refine A_aald (t := 5) dX6_copy_21 (fun _ => rfl) (by decide) (by assumption) (by omega) (by omega) (by assumption) ?_
      refine A_astore dX6_copy_22 (Nat.le_of_ble_eq_true rfl) rfl (by omega) ?_
      refine A_aload_n dX6_copy_24 rfl rfl ?_
      refine A_getR (fi := 6) dX6_copy_25 fg_X6_28 rfl rfl (by assumption) (by assumption) ?_
      refine A_iload_n dX6_copy_28 rfl rfl ?_
      refine A_aald (t := 5) dX6_copy_29 (fun _ => rfl) (by decide) (by assumption) (by omega) (by omega) (by assumption) ?_
      refine A_astore dX6_copy_30 (Nat.le_of_ble_eq_true rfl) rfl (by omega) ?_
      refine A_aload dX6_copy_32 rfl ?_
      refine A_get (fi := 0) dX6_copy_34 fg_X6_251 rfl rfl (by assumption) ?_
      refine A_iconst dX6_copy_37 ⟨by decide, by decide⟩ ?_
      refine A_icmp_eq (tgt := 50) dX6_copy_38 (by decide) (fun c_38 => ?_) (fun c_38 => ?_)
      · rw [py0] at c_38
        have fin := nul (by omega)
        refine A_bipush dX6_copy_50 ⟨by decide, by decide⟩ rfl ?_
        refine A_iret dX6_copy_52 rfl ?_
        exact fin
      · rw [py0] at c_38
        refine A_aload dX6_copy_41 rfl ?_
        refine A_get (fi := 0) dX6_copy_43 fg_X6_251 rfl rfl (by assumption) ?_
        refine A_iconst dX6_copy_46 ⟨by decide, by decide⟩ ?_
        refine A_icmp_ne (tgt := 53) dX6_copy_47 (by decide) (fun c_47 => ?_) (fun c_47 => ?_)
        · rw [qy0] at c_47
          rw [if_neg (by omega)] at hK
          refine A_aload dX6_copy_53 rfl ?_
          refine A_get (fi := 0) dX6_copy_55 fg_X6_251 rfl rfl (by assumption) ?_
          refine A_aload dX6_copy_58 rfl ?_
          refine A_get (fi := 0) dX6_copy_60 fg_X6_251 rfl rfl (by assumption) ?_
          refine A_icmp_eq (tgt := 69) dX6_copy_63 (by decide) (fun c_63 => ?_) (fun c_63 => ?_)
          · rw [py0, qy0] at c_63
            rw [if_neg (fun z => z c_63)] at hK
            have ix : (i < 0 ∨ n < 0 ∨ S.2.1 p < i + n) ∨ (j < 0 ∨ n < 0 ∨ S.2.1 q < j + n) → K (some (kI (-13))) G d := fun z => by
              have : rowA S p (S.1 p) i n < 0 ∨ rowA S q (S.1 q) j n < 0 := by
                rcases z with z | z
                · refine Or.inl ?_
                  unfold rowA
                  rw [if_neg (by omega), if_neg (fun y => y rfl), if_pos z]
                  omega
                · refine Or.inr ?_
                  unfold rowA
                  rw [if_neg (by omega), if_neg (fun y => y rfl), if_pos z]
                  omega
              rw [if_pos this] at hK
              exact hK d (fun _ _ _ => rfl) C
            refine A_aload dX6_copy_69 rfl ?_
            refine A_iload_n dX6_copy_71 rfl rfl ?_
            refine A_iload dX6_copy_72 rfl ?_
            refine A_inv2 dX6_copy_74 mv_X6_256 kCl_5 (Nat.le_of_ble_eq_true rfl) (by assumption) ?_
            refine C_hasItems sO (by omega) C.2.2.1 pw2 pw3 ?_
            by_cases zp : i < 0 ∨ n < 0 ∨ S.2.1 p < i + n
            · have fin := ix (Or.inl zp)
              rw [if_pos zp]
              refine A_if_eq (tgt := 92) dX6_copy_77 (by decide) (fun c_77 => ?_) (fun c_77 => absurd c_77 (by omega))
              refine A_bipush dX6_copy_92 ⟨by decide, by decide⟩ rfl ?_
              refine A_iret dX6_copy_94 rfl ?_
              exact fin
            · rw [if_neg zp]
              refine A_if_eq (tgt := 92) dX6_copy_77 (by decide) (fun c_77 => absurd c_77 (by omega)) (fun c_77 => ?_)
              refine A_aload dX6_copy_80 rfl ?_
              refine A_iload dX6_copy_82 rfl ?_
              refine A_iload dX6_copy_84 rfl ?_
              refine A_inv2 dX6_copy_86 mv_X6_256 kCl_5 (Nat.le_of_ble_eq_true rfl) (by assumption) ?_
              refine C_hasItems sO (by omega) C.2.2.1 qw2 qw3 ?_
              by_cases zq : j < 0 ∨ n < 0 ∨ S.2.1 q < j + n
              · have fin := ix (Or.inr zq)
                rw [if_pos zq]
                refine A_if_ne (tgt := 95) dX6_copy_89 (by decide) (fun c_89 => absurd c_89 (by omega)) (fun c_89 => ?_)
                refine A_bipush dX6_copy_92 ⟨by decide, by decide⟩ rfl ?_
                refine A_iret dX6_copy_94 rfl ?_
                exact fin
              · have nn : ¬ (rowA S p (S.1 p) i n < 0 ∨ rowA S q (S.1 q) j n < 0) := by
                  unfold rowA
                  rw [if_neg (by omega), if_neg (fun y => y rfl), if_neg zp, if_neg (by omega), if_neg (fun y => y rfl), if_neg zq]
                  omega
                rw [if_neg nn] at hK
                rw [if_neg zq]
                refine A_if_ne (tgt := 95) dX6_copy_89 (by decide) (fun c_89 => ?_) (fun c_89 => absurd c_89 (by omega))
                refine A_aload dX6_copy_95 rfl ?_
                refine A_getR (fi := 2) dX6_copy_97 fg_X6_244 rfl rfl (by assumption) (by assumption) ?_
                refine A_iload_n dX6_copy_100 rfl rfl ?_
                refine A_aload dX6_copy_101 rfl ?_
                refine A_getR (fi := 2) dX6_copy_103 fg_X6_244 rfl rfl (by assumption) (by assumption) ?_
                refine A_iload dX6_copy_106 rfl ?_
                refine A_iload dX6_copy_108 rfl ?_
                refine A_acp dX6_copy_110 lk_X6_259 ow_acn ow_acs it_J10 (Nat.le_of_ble_eq_true rfl) (by assumption) (by assumption) (by omega) (by omega) (by omega) (by omega) (by omega) ?_
                refine A_iload dX6_copy_113 rfl ?_
                refine A_iret dX6_copy_115 rfl ?_
                refine hK _ (fun c a1 a2 => ?_) (C.sh W (fun c hc => ?_) (fun r hr => ?_))
                · funext y
                  show (if c = 163 + 2 * q ∧ _ then _ else _) = _
                  rw [if_neg (by omega)]
                · funext y
                  show (if c = 163 + 2 * q ∧ _ then _ else _) = _
                  rw [if_neg (by omega)]
                · obtain ⟨y0, y1, y2⟩ := C.2.2.1 r hr
                  refine ⟨?_, ?_, fun y h1 h2 => ?_⟩
                  · show (if 162 + 2 * r = 163 + 2 * q ∧ _ then _ else _) = S.1 r
                    rw [if_neg (by omega)]; exact y0
                  · show (if 162 + 2 * r = 163 + 2 * q ∧ _ then _ else _) = S.2.1 r
                    rw [if_neg (by omega)]; exact y1
                  · show (if 163 + 2 * r = 163 + 2 * q ∧ j ≤ y ∧ y < j + n then d (163 + 2 * p) (i + (y - j)) else d (163 + 2 * r) y) = if (r : Int) = q ∧ j ≤ y ∧ y < j + n then S.2.2 p (i + (y - j)) else S.2.2 r y
                    by_cases z : r = q ∧ j ≤ y ∧ y < j + n
                    · rw [if_pos (by omega), if_pos (by omega)]
                      exact py2 _ (by omega) (by omega)
                    · rw [if_neg (by omega), if_neg (by omega)]
                      exact y2 y h1 h2
          · rw [py0, qy0] at c_63
            rw [if_pos c_63] at hK
            have fin := hK d (fun _ _ _ => rfl) C
            refine A_bipush dX6_copy_66 ⟨by decide, by decide⟩ rfl ?_
            refine A_iret dX6_copy_68 rfl ?_
            exact fin
        · rw [qy0] at c_47
          have fin := nul (by omega)
          refine A_bipush dX6_copy_50 ⟨by decide, by decide⟩ rfl ?_
          refine A_iret dX6_copy_52 rfl ?_
          exact fin
    · have fin := bad (fun z => i01e c_11 ⟨z.2.2.1, z.2.2.2⟩)
      replace c_11 := i01e c_11
      refine A_iconst dX6_copy_14 ⟨by decide, by decide⟩ ?_
      refine A_iret dX6_copy_15 rfl ?_
      exact fin
end CL2
