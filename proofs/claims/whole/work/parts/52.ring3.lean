theorem kAnd_3 {x : Int} (h : 0 ≤ x) (h2 : x ≤ 2147483647) : kAnd x 3 = x % 4 := by
  have e1 : (Int32.ofInt x).toBitVec.toNat = x.toNat := by
    show (BitVec.ofInt 32 x).toNat = _
    rw [BitVec.toNat_ofInt]
    omega
  have h' : (Int32.ofInt x &&& Int32.ofInt 3).toBitVec.toNat = x.toNat % 4 := by
    show ((Int32.ofInt x).toBitVec &&& (Int32.ofInt 3).toBitVec).toNat = _
    rw [BitVec.toNat_and, e1]
    exact Nat.and_two_pow_sub_one_eq_mod x.toNat 2
  have e := by_i (B := (Int32.ofInt x &&& Int32.ofInt 3).toBitVec) (by omega) (by decide)
  have : kAnd x 3 = ((Int32.ofInt x &&& Int32.ofInt 3).toBitVec.toNat : Int) := e
  rw [this, h']
  omega
section R3
variable {E : EE} {k A : Nat} {G : HG} {d : HD} {K : PQ} {R : Int → Int}
theorem C_placeOf {x : Int} (h : 0 ≤ x) (h2 : x ≤ 2147483647) (hK : K (some (kI (x % 4 * 3))) G d) : AM E mX0_placeOf k 0 0 [kI x] G d K := by
  have e := kAnd_3 h h2
  refine AM.of rfl (Nat.le_of_ble_eq_true rfl) ?_
  refine A_iload_n dX0_placeOf_0 rfl rfl ?_
  refine A_iconst dX0_placeOf_1 ⟨by decide, by decide⟩ ?_
  refine A_iand dX0_placeOf_2 ?_
  rw [e]
  refine A_iconst dX0_placeOf_3 ⟨by decide, by decide⟩ ?_
  refine A_imul_ok dX0_placeOf_4 (by omega) (by omega) ?_
  refine A_iret dX0_placeOf_5 rfl ?_
  exact hK
theorem C_hasRoomBeside {c : Nat} (hG : RG G A) (hV : CG d A R) (hW : WG R) (hc2 : (c : Int) < R 2) (hp : ∀ c, 0 ≤ c → c < R 2 → 0 ≤ cfR R c 2 ∧ cfR R c 2 ≤ 9) (hK : K (some (kI (roomS R c))) G d) : AM E mX4_hasRoomBeside (k + 1) 0 0 [kR A, kR (A + 9 + 2 * c)] G d K := by
  obtain ⟨ho, ⟨e7, a7⟩, -, -, -, -, -, -, -, hcar⟩ := id hG
  obtain ⟨w1, w2, w3, w4, w5⟩ := id hW
  obtain ⟨v0, v4, vc⟩ := id hV
  obtain ⟨N, hN⟩ : ∃ N : Nat, R 2 = N := ⟨(R 2).toNat, by omega⟩
  have eN : (R 2).toNat = N := by omega
  rw [hN] at v4
  obtain ⟨ec, oc, -, -⟩ := hcar c (by omega)
  obtain ⟨c0, c1, c2⟩ := vc c hc2
  have wc := w5 c (by omega) hc2
  have loop : ∀ (f j : Nat), j + f = N → ∀ free pb : Int, (((hrF R c j).2 = -1 ∧ (hrF R c j).1 = 1000 ∧ free = R 0 ∧ pb = 0) ∨ (0 ≤ (hrF R c j).2 ∧ (hrF R c j).2 < j ∧ free = (hrF R c j).1 - 1 ∧ pb = cfR R (hrF R c j).2 2)) → ∀ q5 : Option AV, AW E mX4_hasRoomBeside (k + 1) 0 0 10 [some (kR A), some (kR (A + 9 + 2 * c)), some (kI free), some (kI pb), some (kI j), q5] [] G d K := by
    intro f
    induction f with
    | zero =>
      intro j hj free pb hi q5
      have : j = N := by omega
      subst this
      have res : roomS R c = if pb ≤ free then 1 else 0 := by
        unfold roomS
        rw [eN]
        rcases hi with ⟨h1, h2, h3, h4⟩ | ⟨h1, h2, h3, h4⟩
        · rw [if_pos (by omega), if_pos (by omega)]
        · rw [if_neg (by omega)]
          have := hp _ h1 (by omega)
          by_cases q : pb ≤ free
          · rw [if_pos (by omega), if_pos q]
          · rw [if_neg (by omega), if_neg q]
      rw [res] at hK
      refine A_iload dX4_hasRoomBeside_10 rfl ?_
      refine A_aload_n dX4_hasRoomBeside_12 rfl rfl ?_
      refine A_get (fi := 4) dX4_hasRoomBeside_13 fg_X4_24 rfl rfl (by assumption) ?_
      refine A_icmp_ge (tgt := 84) dX4_hasRoomBeside_16 (by decide) (fun c_16 => ?_) (fun c_16 => absurd c_16 (by omega))
      refine A_iload_n dX4_hasRoomBeside_84 rfl rfl ?_
      refine A_iload_n dX4_hasRoomBeside_85 rfl rfl ?_
      refine A_icmp_lt (tgt := 93) dX4_hasRoomBeside_86 (by decide) (fun c_86 => ?_) (fun c_86 => ?_)
      · rw [if_neg (by omega)] at hK
        refine A_iconst dX4_hasRoomBeside_93 ⟨by decide, by decide⟩ ?_
        refine A_zret dX4_hasRoomBeside_94 rfl (by first | exact Or.inl rfl | exact Or.inr rfl | assumption | omega) ?_
        exact hK
      · rw [if_pos (by omega)] at hK
        refine A_iconst dX4_hasRoomBeside_89 ⟨by decide, by decide⟩ ?_
        refine A_goto (tgt := 94) dX4_hasRoomBeside_90 (by decide) ?_
        refine A_zret dX4_hasRoomBeside_94 rfl (by first | exact Or.inl rfl | exact Or.inr rfl | assumption | omega) ?_
        exact hK
    | succ f ih =>
      intro j hj free pb hi q5
      have next := ih (j + 1) (by omega)
      obtain ⟨ej, oj, -, -⟩ := hcar j (by omega)
      obtain ⟨d0, d1, d2⟩ := vc j (by omega)
      have wj := w5 j (by omega) (by omega)
      have rg := hrF_rg (R := R) (c := (c : Int)) hW j (by omega)
      have ron := onS_rg (n := R 0) (a := cfR R j 0) (b := cfR R c 0) (by omega)
      refine A_iload dX4_hasRoomBeside_10 rfl ?_
      refine A_aload_n dX4_hasRoomBeside_12 rfl rfl ?_
      refine A_get (fi := 4) dX4_hasRoomBeside_13 fg_X4_24 rfl rfl (by assumption) ?_
      refine A_icmp_ge (tgt := 84) dX4_hasRoomBeside_16 (by decide) (fun c_16 => absurd c_16 (by omega)) (fun c_16 => ?_)
      refine A_aload_n dX4_hasRoomBeside_19 rfl rfl ?_
      refine A_getR (fi := 7) dX4_hasRoomBeside_20 fg_X4_35 rfl rfl (by assumption) (by assumption) ?_
      refine A_iload dX4_hasRoomBeside_23 rfl ?_
      refine A_aald (t := 2) dX4_hasRoomBeside_25 (fun _ => rfl) (by decide) (by assumption) (by omega) (by omega) (by assumption) ?_
      refine A_get (fi := 1) dX4_hasRoomBeside_26 fg_X4_77 rfl rfl (by assumption) ?_
      refine A_aload_n dX4_hasRoomBeside_29 rfl rfl ?_
      refine A_get (fi := 1) dX4_hasRoomBeside_30 fg_X4_77 rfl rfl (by assumption) ?_
      refine A_icmp_eq (tgt := 78) dX4_hasRoomBeside_33 (by decide) (fun c_33 => ?_) (fun c_33 => ?_)
      · rw [d1, c1] at c_33
        refine A_iinc_ok dX4_hasRoomBeside_78 rfl rfl (by omega) (by omega) ?_
        refine A_goto (tgt := 10) dX4_hasRoomBeside_81 (by decide) ?_
        have e1 : hrF R c (j + 1) = hrF R c j := by simp only [hrF]; rw [if_neg (fun z => z.1 c_33)]
        rw [e1] at next
        exact next free pb (by omega) _
      · rw [d1, c1] at c_33
        refine A_aload_n dX4_hasRoomBeside_36 rfl rfl ?_
        refine A_aload_n dX4_hasRoomBeside_37 rfl rfl ?_
        refine A_getR (fi := 7) dX4_hasRoomBeside_38 fg_X4_35 rfl rfl (by assumption) (by assumption) ?_
        refine A_iload dX4_hasRoomBeside_41 rfl ?_
        refine A_aald (t := 2) dX4_hasRoomBeside_43 (fun _ => rfl) (by decide) (by assumption) (by omega) (by omega) (by assumption) ?_
        refine A_get (fi := 0) dX4_hasRoomBeside_44 fg_X4_80 rfl rfl (by assumption) ?_
        refine A_aload_n dX4_hasRoomBeside_47 rfl rfl ?_
        refine A_get (fi := 0) dX4_hasRoomBeside_48 fg_X4_80 rfl rfl (by assumption) ?_
        refine A_inv2 dX4_hasRoomBeside_51 mv_X4_93 kCl_4 (Nat.le_of_ble_eq_true rfl) (by assumption) ?_
        rw [d0, c0]
        refine C_cellsOn hG v0 w1 w2 wj.1 wj.2 wc.1 wc.2 ?_
        refine A_iconst dX4_hasRoomBeside_54 ⟨by decide, by decide⟩ ?_
        refine A_isub_ok dX4_hasRoomBeside_55 (by omega) (by omega) ?_
        refine A_istore dX4_hasRoomBeside_56 (Nat.le_of_ble_eq_true rfl) rfl ?_
        refine A_iload dX4_hasRoomBeside_58 rfl ?_
        refine A_iload_n dX4_hasRoomBeside_60 rfl rfl ?_
        refine A_icmp_ge (tgt := 78) dX4_hasRoomBeside_61 (by decide) (fun c_61 => ?_) (fun c_61 => ?_)
        · refine A_iinc_ok dX4_hasRoomBeside_78 rfl rfl (by omega) (by omega) ?_
          refine A_goto (tgt := 10) dX4_hasRoomBeside_81 (by decide) ?_
          have e1 : hrF R c (j + 1) = hrF R c j := by simp only [hrF]; rw [if_neg (by omega)]
          rw [e1] at next
          exact next free pb (by omega) _
        · refine A_iload dX4_hasRoomBeside_64 rfl ?_
          refine A_istore_n dX4_hasRoomBeside_66 rfl (Nat.le_of_ble_eq_true rfl) rfl ?_
          refine A_aload_n dX4_hasRoomBeside_67 rfl rfl ?_
          refine A_getR (fi := 7) dX4_hasRoomBeside_68 fg_X4_35 rfl rfl (by assumption) (by assumption) ?_
          refine A_iload dX4_hasRoomBeside_71 rfl ?_
          refine A_aald (t := 2) dX4_hasRoomBeside_73 (fun _ => rfl) (by decide) (by assumption) (by omega) (by omega) (by assumption) ?_
          refine A_get (fi := 2) dX4_hasRoomBeside_74 fg_X4_83 rfl rfl (by assumption) ?_
          rw [d2]
          refine A_istore_n dX4_hasRoomBeside_77 rfl (Nat.le_of_ble_eq_true rfl) rfl ?_
          refine A_iinc_ok dX4_hasRoomBeside_78 rfl rfl (by omega) (by omega) ?_
          refine A_goto (tgt := 10) dX4_hasRoomBeside_81 (by decide) ?_
          have e1 : hrF R c (j + 1) = (onS (R 0) (cfR R j 0) (cfR R c 0), (j : Int)) := by simp only [hrF]; rw [if_pos ⟨c_33, by omega⟩]
          rw [e1] at next
          exact next _ _ (Or.inr ⟨by show (0 : Int) ≤ j; omega, by show (j : Int) < ((j + 1 : Nat) : Int); omega, rfl, rfl⟩) _
  refine AM.of rfl (Nat.le_of_ble_eq_true rfl) ?_
  refine A_aload_n dX4_hasRoomBeside_0 rfl rfl ?_
  refine A_get (fi := 0) dX4_hasRoomBeside_1 fg_X4_9 rfl rfl (by assumption) ?_
  rw [v0]
  refine A_istore_n dX4_hasRoomBeside_4 rfl (Nat.le_of_ble_eq_true rfl) rfl ?_
  refine A_iconst dX4_hasRoomBeside_5 ⟨by decide, by decide⟩ ?_
  refine A_istore_n dX4_hasRoomBeside_6 rfl (Nat.le_of_ble_eq_true rfl) rfl ?_
  refine A_iconst dX4_hasRoomBeside_7 ⟨by decide, by decide⟩ ?_
  refine A_istore dX4_hasRoomBeside_8 (Nat.le_of_ble_eq_true rfl) rfl ?_
  exact loop N 0 (by omega) _ _ (Or.inl ⟨rfl, rfl, rfl, rfl⟩) none
end R3
