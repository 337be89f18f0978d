def bc1 (x : Int) : Int := kw (x - kAnd (kUshr x 1) 1431655765)
def bc2 (x : Int) : Int := kw (kAnd x 858993459 + kAnd (kUshr x 2) 858993459)
def bc3 (x : Int) : Int := kAnd (kw (x + kUshr x 4)) 252645135
def bc4 (x : Int) : Int := kw (x + kUshr x 8)
def bc5 (x : Int) : Int := kAnd (kw (x + kUshr x 16)) 63
theorem bcE : ∀ n : Fin 256, bc5 (bc4 (bc3 (bc2 (bc1 ((n : Nat) : Int))))) = btF ((n : Nat) : Int) 8 := by decide +kernel
section CL8
variable {E : EE} {k : Nat} {G : HG} {d : HD} {K : PQ} {R T im : Int → Int} {S : SS} {tp : Int} {I : Int → Int → Int}
theorem C_bitCount {x : Nat} (h : x < 256) (hK : K (some (kI (btF x 8))) G d) : AM E mJ6_bitCount_0f7a4 k 0 0 [kI x] G d K := by
  rw [← bcE ⟨x, h⟩] at hK
  refine AM.of rfl (Nat.le_of_ble_eq_true rfl) ?_
  refine A_iload_n dJ6_bitCount_0f7a4_0 rfl rfl ?_
  refine A_iload_n dJ6_bitCount_0f7a4_1 rfl rfl ?_
  refine A_iconst dJ6_bitCount_0f7a4_2 ⟨by decide, by decide⟩ ?_
  refine A_iushr dJ6_bitCount_0f7a4_3 ?_
  refine A_ldcw (x := 1431655765) dJ6_bitCount_0f7a4_4 cs_J6_265 rfl ⟨by decide, by decide⟩ ?_
  refine A_iand dJ6_bitCount_0f7a4_7 ?_
  refine A_isub dJ6_bitCount_0f7a4_8 ?_
  refine A_istore_n dJ6_bitCount_0f7a4_9 rfl (Nat.le_of_ble_eq_true rfl) rfl ?_
  refine A_iload_n dJ6_bitCount_0f7a4_10 rfl rfl ?_
  refine A_ldcw (x := 858993459) dJ6_bitCount_0f7a4_11 cs_J6_266 rfl ⟨by decide, by decide⟩ ?_
  refine A_iand dJ6_bitCount_0f7a4_14 ?_
  refine A_iload_n dJ6_bitCount_0f7a4_15 rfl rfl ?_
  refine A_iconst dJ6_bitCount_0f7a4_16 ⟨by decide, by decide⟩ ?_
  refine A_iushr dJ6_bitCount_0f7a4_17 ?_
  refine A_ldcw (x := 858993459) dJ6_bitCount_0f7a4_18 cs_J6_266 rfl ⟨by decide, by decide⟩ ?_
  refine A_iand dJ6_bitCount_0f7a4_21 ?_
  refine A_iadd dJ6_bitCount_0f7a4_22 ?_
  refine A_istore_n dJ6_bitCount_0f7a4_23 rfl (Nat.le_of_ble_eq_true rfl) rfl ?_
  refine A_iload_n dJ6_bitCount_0f7a4_24 rfl rfl ?_
  refine A_iload_n dJ6_bitCount_0f7a4_25 rfl rfl ?_
  refine A_iconst dJ6_bitCount_0f7a4_26 ⟨by decide, by decide⟩ ?_
  refine A_iushr dJ6_bitCount_0f7a4_27 ?_
  refine A_iadd dJ6_bitCount_0f7a4_28 ?_
  refine A_ldcw (x := 252645135) dJ6_bitCount_0f7a4_29 cs_J6_267 rfl ⟨by decide, by decide⟩ ?_
  refine A_iand dJ6_bitCount_0f7a4_32 ?_
  refine A_istore_n dJ6_bitCount_0f7a4_33 rfl (Nat.le_of_ble_eq_true rfl) rfl ?_
  refine A_iload_n dJ6_bitCount_0f7a4_34 rfl rfl ?_
  refine A_iload_n dJ6_bitCount_0f7a4_35 rfl rfl ?_
  refine A_bipush dJ6_bitCount_0f7a4_36 ⟨by decide, by decide⟩ rfl ?_
  refine A_iushr dJ6_bitCount_0f7a4_38 ?_
  refine A_iadd dJ6_bitCount_0f7a4_39 ?_
  refine A_istore_n dJ6_bitCount_0f7a4_40 rfl (Nat.le_of_ble_eq_true rfl) rfl ?_
  refine A_iload_n dJ6_bitCount_0f7a4_41 rfl rfl ?_
  refine A_iload_n dJ6_bitCount_0f7a4_42 rfl rfl ?_
  refine A_bipush dJ6_bitCount_0f7a4_43 ⟨by decide, by decide⟩ rfl ?_
  refine A_iushr dJ6_bitCount_0f7a4_45 ?_
  refine A_iadd dJ6_bitCount_0f7a4_46 ?_
  refine A_istore_n dJ6_bitCount_0f7a4_47 rfl (Nat.le_of_ble_eq_true rfl) rfl ?_
  refine A_iload_n dJ6_bitCount_0f7a4_48 rfl rfl ?_
  refine A_bipush dJ6_bitCount_0f7a4_49 ⟨by decide, by decide⟩ rfl ?_
  refine A_iand dJ6_bitCount_0f7a4_51 ?_
  refine A_iret dJ6_bitCount_0f7a4_52 rfl ?_
  exact hK
theorem M_calmWith {bits : Int} {car n : Nat} (X : XG G) (C : CI G d R S tp T im I) (W : WI R S tp im I) (hc : (car : Int) < R 2) (hn : n ≤ 200) (hK : ∀ (G' : HG) (d' : HD), GS G G' → G'.1 = G.1 → FM d d' → CI G' d' R S tp T im I → K (some (kI (if knN (kaR R car n bits) = 0 then 1 else 0))) G' d') : AM E mX6_isCalmWith (k + 5) 0 0 [kR 1, kI bits, kI car, kI n] G d K := by
  obtain ⟨⟨o1, r0, r1, r2, -⟩, -, -, -, g30, g63, -⟩ := id X
  have o63 := g63.1
  obtain ⟨w0, w1, w2, w3, wc, wb, wp, wv, wd⟩ := id W.1
  have n9 := W.2.1
  obtain ⟨N, hN⟩ : ∃ N : Nat, R 2 = N := ⟨(R 2).toNat, by omega⟩
  unfold kaR at hK
  rw [show ((n : Int)).toNat = n by omega, show (R 2).toNat = N by omega] at hK
  refine AM.of rfl (Nat.le_of_ble_eq_true rfl) ?_
  refine A_aload_n dX6_isCalmWith_0 rfl rfl ?_
  refine A_getR (fi := 2) dX6_isCalmWith_1 fg_X6_51 rfl rfl (by assumption) (by assumption) ?_
  refine A_aload_n dX6_isCalmWith_4 rfl rfl ?_
  refine A_getR (fi := 1) dX6_isCalmWith_5 fg_X6_47 rfl rfl (by assumption) (by assumption) ?_
  refine A_inv1 dX6_isCalmWith_8 mv_X6_227 kCl_4 (Nat.le_of_ble_eq_true rfl) (by assumption) ?_
  refine M_take63 X C W (fun G1 d1 g m v hq => ?_)
  have X1 := X.gs (g.gs (by omega))
  obtain ⟨⟨p1, t0, t1, t2, t3, t4, t5, t6⟩, -, kO1, -, f30, f63, -⟩ := id X1
  have oK1 := kO1.1
  have q30 := f30.1
  obtain ⟨q63, ⟨e7, a7⟩, -, -, -, -, -, -, -, hcar⟩ := id f63
  have hS0 := hq.hs (by omega) (by omega)
  have loop : ∀ (f j : Nat), j + f = N → ∀ (d' : HD), CM d d' 63 → CM d1 d' 63 → CV d' 63 (hsR R bits j) → AW E mX6_isCalmWith (k + 5) 0 0 14 [some (kR 1), some (kI bits), some (kI car), some (kI n), some (kI j)] [] G1 d' K := by
    intro f
    induction f with
    | zero =>
      intro j hj d' hm hm1 hv
      have : j = N := by omega
      subst this
      have v4 : d' 30 4 = j := by rw [hm 30 (by omega), C.1.1.2.2.2.2.1]; exact hN
      obtain ⟨ec, oc, -, -⟩ := hcar car (by omega)
      have hs : ∀ i, i < 340 → hsR R bits j i = R i := fun i hi => hsR_at j i (by omega)
      have v2 := hv.w (c := car) (w := 7) (v := 1) (by rw [hs 5 (by omega)]; exact wb.2.1) (by rw [hs 6 (by omega)]; exact wp.2.1) (by omega) (by omega)
      have hW0 := W.1.hs (set := bits) (N := j) (by omega)
      have hW := hW0.tp (car := car) (v := 1) (by omega) (by rw [hs 2 (by omega)]; exact hc) (Or.inr rfl)
      refine A_iload dX6_isCalmWith_14 rfl ?_
      refine A_aload_n dX6_isCalmWith_16 rfl rfl ?_
      refine A_getR (fi := 1) dX6_isCalmWith_17 fg_X6_47 rfl rfl (by assumption) (by assumption) ?_
      refine A_get (fi := 4) dX6_isCalmWith_20 fg_X6_67 rfl rfl (by assumption) ?_
      refine A_icmp_ge (tgt := 56) dX6_isCalmWith_23 (by decide) (fun c_23 => ?_) (fun c_23 => absurd c_23 (by omega))
      refine A_aload_n dX6_isCalmWith_56 rfl rfl ?_
      refine A_getR (fi := 2) dX6_isCalmWith_57 fg_X6_51 rfl rfl (by assumption) (by assumption) ?_
      refine A_getR (fi := 7) dX6_isCalmWith_60 fg_X6_100 rfl rfl (by assumption) (by assumption) ?_
      refine A_iload_n dX6_isCalmWith_63 rfl rfl ?_
      refine A_aald (t := 2) dX6_isCalmWith_64 (fun _ => rfl) (by decide) (by assumption) (by omega) (by omega) (by assumption) ?_
      refine A_iconst dX6_isCalmWith_65 ⟨by decide, by decide⟩ ?_
      refine A_putZ (fi := 7) dX6_isCalmWith_66 fp_X6_184 rfl rfl (by assumption) (by first | exact Or.inl rfl | exact Or.inr rfl | assumption | omega) ?_
      refine A_aload_n dX6_isCalmWith_69 rfl rfl ?_
      refine A_getR (fi := 2) dX6_isCalmWith_70 fg_X6_51 rfl rfl (by assumption) (by assumption) ?_
      refine A_iload_n dX6_isCalmWith_73 rfl rfl ?_
      refine A_inv1 dX6_isCalmWith_74 mv_X6_192 kCl_4 (Nat.le_of_ble_eq_true rfl) (by assumption) ?_
      refine C_run f63 v2 (hS0.cg wv (fun i i1 i2 => by rw [fU_n (by omega)]; exact hs i i2) (hm1.u (by omega) (by omega))) hW w3.1 (by omega) (fun d2 m2 p2 => ?_)
      refine A_aload_n dX6_isCalmWith_77 rfl rfl ?_
      refine A_getR (fi := 5) dX6_isCalmWith_78 fg_X6_22 rfl rfl (by assumption) (by assumption) ?_
      refine A_aload_n dX6_isCalmWith_81 rfl rfl ?_
      refine A_getR (fi := 2) dX6_isCalmWith_82 fg_X6_51 rfl rfl (by assumption) (by assumption) ?_
      refine A_inv1 dX6_isCalmWith_85 mv_X6_196 kCl_2 (Nat.le_of_ble_eq_true rfl) (by assumption) ?_
      refine C_findIn kO1 (by omega) f63 p2 (tkN_W hW w3.1 n) (fun d3 n3 hk h20 H => ?_)
      have hmm : CM d d2 63 := (hm.u (by omega) (by omega)).tr m2
      have C2 := C.f63 W g hmm
      have fin := hK G1 d3 (g.gs (by omega)) g.1 ((hmm.fm (by omega)).tr (hk.fm (by omega))) (C2.mv W GS.rf rfl rfl rfl (C2.1.cd w2.2 (fun a a1 a2 => hk.o (by omega) (by omega))) (fun _ _ _ => rfl) (fun a ha => hk.o (by omega) (by omega)) (by rw [hk.o (a := 9) (by omega) (by omega)]))
      rw [← KS_n H] at fin
      refine A_if_ne (tgt := 95) dX6_isCalmWith_88 (by decide) (fun c_88 => ?_) (fun c_88 => ?_)
      · rw [if_neg c_88] at fin
        refine A_iconst dX6_isCalmWith_95 ⟨by decide, by decide⟩ ?_
        refine A_zret dX6_isCalmWith_96 rfl (by first | exact Or.inl rfl | exact Or.inr rfl | assumption | omega) ?_
        exact fin
      · rw [if_pos c_88] at fin
        refine A_iconst dX6_isCalmWith_91 ⟨by decide, by decide⟩ ?_
        refine A_goto (tgt := 96) dX6_isCalmWith_92 (by decide) ?_
        refine A_zret dX6_isCalmWith_96 rfl (by first | exact Or.inl rfl | exact Or.inr rfl | assumption | omega) ?_
        exact fin
    | succ f ih =>
      intro j hj d' hm hm1 hv
      have v4 : d' 30 4 = N := by rw [hm 30 (by omega), C.1.1.2.2.2.2.1]; exact hN
      obtain ⟨ec, oc, -, -⟩ := hcar j (by omega)
      have hs : ∀ i, i < 340 → hsR R bits j i = R i := fun i hi => hsR_at j i (by omega)
      have next := ih (j + 1) (by omega)
      refine A_iload dX6_isCalmWith_14 rfl ?_
      refine A_aload_n dX6_isCalmWith_16 rfl rfl ?_
      refine A_getR (fi := 1) dX6_isCalmWith_17 fg_X6_47 rfl rfl (by assumption) (by assumption) ?_
      refine A_get (fi := 4) dX6_isCalmWith_20 fg_X6_67 rfl rfl (by assumption) ?_
      refine A_icmp_ge (tgt := 56) dX6_isCalmWith_23 (by decide) (fun c_23 => absurd c_23 (by omega)) (fun c_23 => ?_)
      refine A_iload_n dX6_isCalmWith_26 rfl rfl ?_
      refine A_iload dX6_isCalmWith_27 rfl ?_
      refine A_ishr dX6_isCalmWith_29 ?_
      refine A_iconst dX6_isCalmWith_30 ⟨by decide, by decide⟩ ?_
      refine A_iand dX6_isCalmWith_31 ?_
      refine A_iconst dX6_isCalmWith_32 ⟨by decide, by decide⟩ ?_
      refine A_icmp_ne (tgt := 50) dX6_isCalmWith_33 (by decide) (fun c_33 => ?_) (fun c_33 => ?_)
      · have e : hsR R bits (j + 1) = hsR R bits j := by
          simp only [hsR]
          rw [if_neg c_33]
          funext i
          unfold fU
          by_cases z : i = 340 + 24 * (j : Int) + 3
          · rw [if_pos z, z, hsR_at j _ (by omega)]; rfl
          · rw [if_neg z]
        rw [e] at next
        refine A_iinc_ok dX6_isCalmWith_50 rfl rfl (by omega) (by omega) ?_
        refine A_goto (tgt := 14) dX6_isCalmWith_53 (by decide) ?_
        exact next d' hm hm1 hv
      · have e : hsR R bits (j + 1) = fU (hsR R bits j) (340 + 24 * (j : Int) + 3) 2 := by
          simp only [hsR]
          rw [if_pos c_33]
        rw [e] at next
        refine A_aload_n dX6_isCalmWith_36 rfl rfl ?_
        refine A_getR (fi := 2) dX6_isCalmWith_37 fg_X6_51 rfl rfl (by assumption) (by assumption) ?_
        refine A_getR (fi := 7) dX6_isCalmWith_40 fg_X6_100 rfl rfl (by assumption) (by assumption) ?_
        refine A_iload dX6_isCalmWith_43 rfl ?_
        refine A_aald (t := 2) dX6_isCalmWith_45 (fun _ => rfl) (by decide) (by assumption) (by omega) (by omega) (by assumption) ?_
        refine A_iconst dX6_isCalmWith_46 ⟨by decide, by decide⟩ ?_
        refine A_put (fi := 3) dX6_isCalmWith_47 fp_X6_104 rfl rfl (by assumption) ?_
        refine A_iinc_ok dX6_isCalmWith_50 rfl rfl (by omega) (by omega) ?_
        refine A_goto (tgt := 14) dX6_isCalmWith_53 (by decide) ?_
        exact next _ (hm.u (by omega) (by omega)) (hm1.u (by omega) (by omega)) (hv.w (by rw [hs 5 (by omega)]; exact wb.2.1) (by rw [hs 6 (by omega)]; exact wp.2.1) (by omega) (by omega))
  refine A_iconst dX6_isCalmWith_11 ⟨by decide, by decide⟩ ?_
  refine A_istore dX6_isCalmWith_12 (Nat.le_of_ble_eq_true rfl) rfl ?_
  exact loop N 0 (by omega) d1 m CM.rf v
theorem M_calmed {car n : Int} (X : XG G) (C : CI G d R S tp T im I) (W : WI R S tp im I) (hK : ∀ (G' : HG) (d' : HD), GS G G' → G'.1 = G.1 → FM d d' → CI G' d' R S tp T im I → K (some (kI (calmedA R car n))) G' d') : AM E mX6_calmed (k + 6) 0 0 [kR 1, kI car, kI n] G d K := by
  obtain ⟨⟨o1, r0, r1, r2, -⟩, -, -, -, g30, g63, -⟩ := id X
  have o30 := g30.1
  have v4 := C.1.1.2.2.2.2.1
  obtain ⟨w0, w1, w2, w3, wc, wb, wp, wv, wd⟩ := id W.1
  unfold calmedA at hK
  have bad : ¬ ((0 ≤ car ∧ car < R 2) ∧ 1 ≤ n ∧ n ≤ 200) → K (some (kI (-1))) G d := fun z => by
    rw [if_pos z] at hK
    exact hK G d GS.rf rfl FM.rf C
  refine AM.of rfl (Nat.le_of_ble_eq_true rfl) ?_
  refine A_aload_n dX6_calmed_0 rfl rfl ?_
  refine A_iload_n dX6_calmed_1 rfl rfl ?_
  refine A_inv1 dX6_calmed_2 mv_X6_97 kCl_6 (Nat.le_of_ble_eq_true rfl) (by assumption) ?_
  refine C_isCar6 X C W ?_
  refine A_if_eq (tgt := 19) dX6_calmed_5 (by decide) (fun c_5 => ?_) (fun c_5 => ?_)
  · have z := i01e c_5
    have fin := bad (by omega)
    replace c_5 := i01e c_5
    refine A_iconst dX6_calmed_19 ⟨by decide, by decide⟩ ?_
    refine A_iret dX6_calmed_20 rfl ?_
    exact fin
  · have z5 := i01n c_5
    replace c_5 := i01n c_5
    refine A_iload_n dX6_calmed_8 rfl rfl ?_
    refine A_iconst dX6_calmed_9 ⟨by decide, by decide⟩ ?_
    refine A_sipush dX6_calmed_10 ⟨by decide, by decide⟩ rfl ?_
    refine A_ins3 dX6_calmed_13 ms_X6_59 (Nat.le_of_ble_eq_true rfl) ?_
    refine C_within ?_
    refine A_if_ne (tgt := 21) dX6_calmed_16 (by decide) (fun c_16 => ?_) (fun c_16 => ?_)
    · have z16 := i01n c_16
      rw [if_neg (by omega)] at hK
      obtain ⟨q, hq⟩ : ∃ q : Nat, car = q := ⟨car.toNat, by omega⟩
      obtain ⟨N, hN⟩ : ∃ N : Nat, n = N := ⟨n.toNat, by omega⟩
      subst hq
      subst hN
      replace c_16 := i01n c_16
      refine A_aload_n dX6_calmed_21 rfl rfl ?_
      refine A_getR (fi := 1) dX6_calmed_22 fg_X6_47 rfl rfl (by assumption) (by assumption) ?_
      refine A_get (fi := 4) dX6_calmed_25 fg_X6_67 rfl rfl (by assumption) ?_
      refine A_bipush dX6_calmed_28 ⟨by decide, by decide⟩ rfl ?_
      refine A_icmp_le (tgt := 36) dX6_calmed_30 (by decide) (fun c_30 => ?_) (fun c_30 => ?_)
      · rw [v4] at c_30
        rw [if_neg (by omega)] at hK
        have sh := kShl_1 (n := R 2) w2.1 (by omega)
        obtain ⟨M, hM⟩ : ∃ M : Nat, kShl 1 (R 2) = M := ⟨(kShl 1 (R 2)).toNat, by omega⟩
        obtain ⟨P, hP⟩ : ∃ P : Nat, R 2 = P := ⟨(R 2).toNat, by omega⟩
        rw [show (kShl 1 (R 2)).toNat = M by omega, show (R 2).toNat = P by omega] at hK
        have fin : ∀ (G' : HG) (d' : HD) (x : Int), GS G G' → G'.1 = G.1 → FM d d' → CI G' d' R S tp T im I → x = clO R q N M (P + 1) 0 → K (some (kI x)) G' d' := fun G' d' x h1 h2 h3 h4 hx => by rw [hx]; exact hK G' d' h1 h2 h3 h4
        have loop : ∀ (f few : Nat), few + f = P + 1 → ∀ (G' : HG) (d' : HD), GS G G' → G'.1 = G.1 → FM d d' → CI G' d' R S tp T im I → clO R q N M f few = clO R q N M (P + 1) 0 → ∀ q5 : Option AV, AW E mX6_calmed (k + 6) 0 0 49 [some (kR 1), some (kI q), some (kI N), some (kI M), some (kI few), q5] [] G' d' K := by
          intro f
          induction f with
          | zero =>
            intro few hf G' d' h1 h2 h3 h4 he q5
            obtain ⟨⟨x1, t0, t1, -⟩, -, -, -, f30, -⟩ := X.gs h1
            have q30 := f30.1
            have u4 := h4.1.1.2.2.2.2.1
            have fin := fin G' d' (-4) h1 h2 h3 h4 he
            refine A_iload dX6_calmed_49 rfl ?_
            refine A_aload_n dX6_calmed_51 rfl rfl ?_
            refine A_getR (fi := 1) dX6_calmed_52 fg_X6_47 rfl rfl (by assumption) (by assumption) ?_
            refine A_get (fi := 4) dX6_calmed_55 fg_X6_67 rfl rfl (by assumption) ?_
            refine A_icmp_gt (tgt := 106) dX6_calmed_58 (by decide) (fun c_58 => ?_) (fun c_58 => absurd c_58 (by omega))
            refine A_bipush dX6_calmed_106 ⟨by decide, by decide⟩ rfl ?_
            refine A_iret dX6_calmed_108 rfl ?_
            exact fin
          | succ f ih =>
            intro few hf G' d' h1 h2 h3 h4 he q5
            obtain ⟨⟨x1, t0, t1, -⟩, -, -, -, f30, -⟩ := X.gs h1
            have q30 := f30.1
            have u4 := h4.1.1.2.2.2.2.1
            simp only [clO] at he
            have inner : ∀ (g s : Nat), s + g = M → ∀ (G' : HG) (d' : HD), GS G G' → G'.1 = G.1 → FM d d' → CI G' d' R S tp T im I → clI R q N few g s = clI R q N few M 0 → AW E mX6_calmed (k + 6) 0 0 64 [some (kR 1), some (kI q), some (kI N), some (kI M), some (kI few), some (kI s)] [] G' d' K := by
              intro g
              induction g with
              | zero =>
                intro s hs G' d' h1 h2 h3 h4 hi
                have e : clI R q N few M 0 = -1 := hi.symm
                rw [if_neg (by rw [e]; decide)] at he
                refine A_iload dX6_calmed_64 rfl ?_
                refine A_iload_n dX6_calmed_66 rfl rfl ?_
                refine A_icmp_ge (tgt := 100) dX6_calmed_67 (by decide) (fun c_67 => ?_) (fun c_67 => absurd c_67 (by omega))
                refine A_iinc_ok dX6_calmed_100 rfl rfl (by omega) (by omega) ?_
                refine A_goto (tgt := 49) dX6_calmed_103 (by decide) ?_
                exact ih (few + 1) (by omega) G' d' h1 h2 h3 h4 he _
              | succ g ihg =>
                intro s hs G' d' h1 h2 h3 h4 hi
                simp only [clI] at hi
                have bt := btF_rg s 8
                refine A_iload dX6_calmed_64 rfl ?_
                refine A_iload_n dX6_calmed_66 rfl rfl ?_
                refine A_icmp_ge (tgt := 100) dX6_calmed_67 (by decide) (fun c_67 => absurd c_67 (by omega)) (fun c_67 => ?_)
                refine A_iload dX6_calmed_70 rfl ?_
                refine A_ins1 dX6_calmed_72 ms_X6_219 (Nat.le_of_ble_eq_true rfl) ?_
                refine C_bitCount (by omega) ?_
                refine A_iload dX6_calmed_75 rfl ?_
                refine A_icmp_ne (tgt := 94) dX6_calmed_77 (by decide) (fun c_77 => ?_) (fun c_77 => ?_)
                · rw [if_neg (fun z => c_77 z.1)] at hi
                  refine A_iinc_ok dX6_calmed_94 rfl rfl (by omega) (by omega) ?_
                  refine A_goto (tgt := 64) dX6_calmed_97 (by decide) ?_
                  exact ihg (s + 1) (by omega) G' d' h1 h2 h3 h4 hi
                · obtain ⟨⟨x1, t0, t1, -⟩, -⟩ := id (X.gs h1)
                  refine A_aload_n dX6_calmed_80 rfl rfl ?_
                  refine A_iload dX6_calmed_81 rfl ?_
                  refine A_iload_n dX6_calmed_83 rfl rfl ?_
                  refine A_iload_n dX6_calmed_84 rfl rfl ?_
                  refine A_inv3 dX6_calmed_85 mv_X6_224 kCl_6 (Nat.le_of_ble_eq_true rfl) (by assumption) ?_
                  refine M_calmWith (X.gs h1) h4 W (by omega) (by omega) (fun G2 d2 y1 y2 y3 y4 => ?_)
                  have z1 := h1.tr y1
                  have z2 := y2.trans h2
                  have z3 := h3.tr y3
                  by_cases zz : knN (kaR R q N s) = 0
                  · rw [if_pos ⟨c_77, zz⟩] at hi
                    have he2 := he
                    rw [← hi, if_pos (by omega)] at he2
                    have fin := fin G2 d2 s z1 z2 z3 y4 he2
                    rw [if_pos zz]
                    refine A_if_eq (tgt := 94) dX6_calmed_88 (by decide) (fun c_88 => absurd c_88 (by omega)) (fun c_88 => ?_)
                    refine A_iload dX6_calmed_91 rfl ?_
                    refine A_iret dX6_calmed_93 rfl ?_
                    exact fin
                  · rw [if_neg (fun z => zz z.2)] at hi
                    rw [if_neg zz]
                    refine A_if_eq (tgt := 94) dX6_calmed_88 (by decide) (fun c_88 => ?_) (fun c_88 => absurd c_88 (by omega))
                    refine A_iinc_ok dX6_calmed_94 rfl rfl (by omega) (by omega) ?_
                    refine A_goto (tgt := 64) dX6_calmed_97 (by decide) ?_
                    exact ihg (s + 1) (by omega) G2 d2 z1 z2 z3 y4 hi
            refine A_iload dX6_calmed_49 rfl ?_
            refine A_aload_n dX6_calmed_51 rfl rfl ?_
            refine A_getR (fi := 1) dX6_calmed_52 fg_X6_47 rfl rfl (by assumption) (by assumption) ?_
            refine A_get (fi := 4) dX6_calmed_55 fg_X6_67 rfl rfl (by assumption) ?_
            refine A_icmp_gt (tgt := 106) dX6_calmed_58 (by decide) (fun c_58 => absurd c_58 (by omega)) (fun c_58 => ?_)
            refine A_iconst dX6_calmed_61 ⟨by decide, by decide⟩ ?_
            refine A_istore dX6_calmed_62 (Nat.le_of_ble_eq_true rfl) rfl ?_
            exact inner M 0 (by omega) G' d' h1 h2 h3 h4 rfl
        refine A_iconst dX6_calmed_36 ⟨by decide, by decide⟩ ?_
        refine A_aload_n dX6_calmed_37 rfl rfl ?_
        refine A_getR (fi := 1) dX6_calmed_38 fg_X6_47 rfl rfl (by assumption) (by assumption) ?_
        refine A_get (fi := 4) dX6_calmed_41 fg_X6_67 rfl rfl (by assumption) ?_
        rw [v4]
        refine A_ishl dX6_calmed_44 ?_
        rw [hM]
        refine A_istore_n dX6_calmed_45 rfl (Nat.le_of_ble_eq_true rfl) rfl ?_
        refine A_iconst dX6_calmed_46 ⟨by decide, by decide⟩ ?_
        refine A_istore dX6_calmed_47 (Nat.le_of_ble_eq_true rfl) rfl ?_
        exact loop (P + 1) 0 (by omega) G d GS.rf rfl FM.rf C rfl none
      · rw [v4] at c_30
        rw [if_pos (by omega)] at hK
        have fin := hK G d GS.rf rfl FM.rf C
        refine A_bipush dX6_calmed_33 ⟨by decide, by decide⟩ rfl ?_
        refine A_iret dX6_calmed_35 rfl ?_
        exact fin
    · have z := i01e c_16
      have fin := bad (by omega)
      replace c_16 := i01e c_16
      refine A_iconst dX6_calmed_19 ⟨by decide, by decide⟩ ?_
      refine A_iret dX6_calmed_20 rfl ?_
      exact fin
end CL8
