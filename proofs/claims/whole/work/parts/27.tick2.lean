def seeS (R : Int → Int) (c : Int) : Int := 340 + 24 * c + 9 + 3 * (if cfR R c 4 < cfR R c 8 then cfR R c 4 else cfR R c 8 - 1)
def decS (R : Int → Int) (c : Int) : Int × Int × Int := clS R (cfR R c 3) (R (seeS R c)) (R (seeS R c + 1)) (R (seeS R c + 2)) (cfR R c 2)
def hrF (R : Int → Int) (c : Int) : Nat → Int × Int
  | 0 => (1000, -1)
  | k + 1 => if cfR R k 1 ≠ cfR R c 1 ∧ onS (R 0) (cfR R k 0) (cfR R c 0) < (hrF R c k).1 then (onS (R 0) (cfR R k 0) (cfR R c 0), (k : Int)) else hrF R c k
def roomS (R : Int → Int) (c : Int) : Int := if (hrF R c (R 2).toNat).2 < 0 then 1 else if 0 < (hrF R c (R 2).toNat).1 ∧ cfR R (hrF R c (R 2).toNat).2 2 ≤ (hrF R c (R 2).toNat).1 - 1 then 1 else 0
theorem hrF_rg {R : Int → Int} {c : Int} (hW : WG R) : ∀ k : Nat, (k : Int) ≤ R 2 → 0 ≤ (hrF R c k).1 ∧ (hrF R c k).1 ≤ 1000 ∧ -1 ≤ (hrF R c k).2 ∧ (hrF R c k).2 < R 2
  | 0, _ => by have := hW.2.2.1; simp only [hrF]; omega
  | k + 1, h => by
    have ih := hrF_rg (c := c) hW k (by omega)
    obtain ⟨h1, h2, h3, h4, h5⟩ := hW
    have ho := onS_rg (n := R 0) (a := cfR R k 0) (b := cfR R c 0) (by omega)
    simp only [hrF]
    split
    · refine ⟨by omega, by omega, by omega, by omega⟩
    · exact ih
/-- boards and loops lie on the ring -/
def WB (R : Int → Int) : Prop := 0 ≤ R 5 ∧ R 5 ≤ 4 ∧ ∀ b, 0 ≤ b → b < R 5 → (0 ≤ R (10 + 3 * b) ∧ R (10 + 3 * b) < R 0) ∧ (0 ≤ R (10 + 3 * b + 1) ∧ R (10 + 3 * b + 1) < R 0) ∧ 0 ≤ R (10 + 3 * b + 2) ∧ R (10 + 3 * b + 2) ≤ 9
def WL (R : Int → Int) : Prop := 0 ≤ R 6 ∧ R 6 ≤ 4 ∧ ∀ b, 0 ≤ b → b < R 6 → (0 ≤ R (22 + 3 * b) ∧ R (22 + 3 * b) < R 0) ∧ (0 ≤ R (22 + 3 * b + 1) ∧ R (22 + 3 * b + 1) ≤ 100000000) ∧ 0 ≤ R (22 + 3 * b + 2) ∧ R (22 + 3 * b + 2) ≤ 100000000
def limF (R : Int → Int) (cell : Int) : Nat → Int
  | 0 => R 1
  | b + 1 => if onS (R 0) (R (10 + 3 * b)) cell ≤ onS (R 0) (R (10 + 3 * b)) (R (10 + 3 * b + 1)) ∧ R (10 + 3 * b + 2) < limF R cell b then R (10 + 3 * b + 2) else limF R cell b
def mstS (R : Int → Int) (c : Int) : Int := if gapS R c < limF R (cfR R c 0) (R 5).toNat then gapS R c else limF R (cfR R c 0) (R 5).toNat
def limS (R : Int → Int) (w c : Int) : Int := if cfR R c 7 = 1 then 0 else if mstS R c < (if w < 0 then 0 else w) then mstS R c else (if w < 0 then 0 else w)
section T2
variable {E : EE} {k m : Nat} {G : HG} {d : HD} {K : PQ} {R : Int → Int}
theorem C_decide {r c : Int} (hM : MO G m) (hR : PZ d m r R) (h1 : 0 ≤ r) (h2 : r ≤ 4) (hc : 0 ≤ c) (hc2 : c < 12) (hh : 0 ≤ cfR R c 3) (hh2 : cfR R c 3 ≤ 2) (hl : 0 ≤ cfR R c 4) (hl2 : cfR R c 4 ≤ 3) (hn : 1 ≤ cfR R c 8) (hv : 0 ≤ cfR R c 2) (hv2 : cfR R c 2 ≤ 9) (hV : VH R (cfR R c 3))
    (hK : ∀ d', (∀ a, a ≠ m → a ≠ m + 8 → a ≠ m + 9 → ¬ (m + 10 ≤ a ∧ a ≤ m + 12) → d' a = d a) → (∀ i, i ≠ 11 → i ≠ 12 → i ≠ 16 → i ≠ 17 → d' m i = d m i) → d' (m + 8) = fU (d (m + 8)) c (decS R c).2.1 → d' (m + 9) = fU (d (m + 9)) c (decS R c).2.2 → K none G d') (hch : (decS R c).2.2 = 0 ∨ (decS R c).2.2 = 1) : AM E mX7_decide (k + 6) 0 0 [kR m, kI r, kI c] G d K := by
  obtain ⟨ho, e0, a0, e1, a1, e2, a2, e4, a4, e5, a5, e6, a6, e7, a7, e8, a8, e9, a9, -⟩ := id hM
  have tail : ∀ (s : Int), s = (if cfR R c 4 < cfR R c 8 then cfR R c 4 else cfR R c 8 - 1) → AW E mX7_decide (k + 6) 0 0 40 [some (kR m), some (kI r), some (kI c), some (kI (cfR R c 8)), some (kI (cfR R c 4)), none] [kI s, kI 3, kI (640 * r + 340 + 24 * c + 9)] G d K := by
    intro s hs
    have hs0 : 0 ≤ s ∧ s ≤ 3 := by rw [hs]; split <;> omega
    have es : seeS R c = 340 + 24 * c + 9 + 3 * s := by unfold seeS; rw [hs]
    have v0 : d (m + 1) (640 * r + 340 + 24 * c + 9 + 3 * s) = R (seeS R c) := by
      have := hR (340 + 24 * c + 9 + 3 * s) (by omega) (by omega)
      rw [es, ← this]
      congr 1
      omega
    have v1 : d (m + 1) (640 * r + 340 + 24 * c + 9 + 3 * s + 1) = R (seeS R c + 1) := by
      have := hR (340 + 24 * c + 9 + 3 * s + 1) (by omega) (by omega)
      rw [es, ← this]
      congr 1
      omega
    have v2 : d (m + 1) (640 * r + 340 + 24 * c + 9 + 3 * s + 2) = R (seeS R c + 2) := by
      have := hR (340 + 24 * c + 9 + 3 * s + 2) (by omega) (by omega)
      rw [es, ← this]
      congr 1
      omega
    refine A_imul_ok dX7_decide_40 (by omega) (by omega) ?_
    refine A_iadd_ok dX7_decide_41 (by omega) (by omega) ?_
    refine A_istore dX7_decide_42 (Nat.le_of_ble_eq_true rfl) rfl ?_
    refine A_aload_n dX7_decide_44 rfl rfl ?_
    refine A_iload_n dX7_decide_45 rfl rfl ?_
    refine A_aload_n dX7_decide_46 rfl rfl ?_
    refine A_iload_n dX7_decide_47 rfl rfl ?_
    refine A_iload_n dX7_decide_48 rfl rfl ?_
    refine A_iconst dX7_decide_49 ⟨by decide, by decide⟩ ?_
    refine A_inv3 dX7_decide_50 mv_X7_57 kCl_7 (Nat.le_of_ble_eq_true rfl) (by assumption) ?_
    refine C_of hM hR (by omega) (by omega) (by omega) (by omega) (by omega) (by omega) ?_
    refine A_aload_n dX7_decide_53 rfl rfl ?_
    refine A_getR (fi := 0) dX7_decide_54 fg_X7_7 rfl rfl (by assumption) (by assumption) ?_
    refine A_iload dX7_decide_57 rfl ?_
    refine A_iald dX7_decide_59 (by assumption) (by omega) (by omega) ?_
    refine A_aload_n dX7_decide_60 rfl rfl ?_
    refine A_getR (fi := 0) dX7_decide_61 fg_X7_7 rfl rfl (by assumption) (by assumption) ?_
    refine A_iload dX7_decide_64 rfl ?_
    refine A_iconst dX7_decide_66 ⟨by decide, by decide⟩ ?_
    refine A_iadd_ok dX7_decide_67 (by omega) (by omega) ?_
    refine A_iald dX7_decide_68 (by assumption) (by omega) (by omega) ?_
    refine A_aload_n dX7_decide_69 rfl rfl ?_
    refine A_getR (fi := 0) dX7_decide_70 fg_X7_7 rfl rfl (by assumption) (by assumption) ?_
    refine A_iload dX7_decide_73 rfl ?_
    refine A_iconst dX7_decide_75 ⟨by decide, by decide⟩ ?_
    refine A_iadd_ok dX7_decide_76 (by omega) (by omega) ?_
    refine A_iald dX7_decide_77 (by assumption) (by omega) (by omega) ?_
    refine A_aload_n dX7_decide_78 rfl rfl ?_
    refine A_iload_n dX7_decide_79 rfl rfl ?_
    refine A_iload_n dX7_decide_80 rfl rfl ?_
    refine A_iconst dX7_decide_81 ⟨by decide, by decide⟩ ?_
    refine A_inv3 dX7_decide_82 mv_X7_57 kCl_7 (Nat.le_of_ble_eq_true rfl) (by assumption) ?_
    refine C_of hM hR (by omega) (by omega) (by omega) (by omega) (by omega) (by omega) ?_
    refine A_inv6 dX7_decide_85 mv_X7_169 kCl_7 (Nat.le_of_ble_eq_true rfl) (by assumption) ?_
    rw [v0, v1, v2]
    refine C_clause hM hR h1 h2 hh hh2 hV hv hv2 (fun d' q1 q2 q3 q4 => ?_)
    have q3' : d' m 16 = (decS R c).2.1 := q3
    have q4' : d' m 17 = (decS R c).2.2 := q4
    have q4k : ∀ w, kU d' (m + 8) c w m 17 = (decS R c).2.2 := fun w => by rw [kU_ne (by omega)]; exact q4'
    refine A_pop dX7_decide_88 (fun B => toV_cat B _) ?_
    refine A_aload_n dX7_decide_89 rfl rfl ?_
    refine A_getR (fi := 8) dX7_decide_90 fg_X7_32 rfl rfl (by assumption) (by assumption) ?_
    refine A_iload_n dX7_decide_93 rfl rfl ?_
    refine A_aload_n dX7_decide_94 rfl rfl ?_
    refine A_get (fi := 16) dX7_decide_95 fg_X7_156 rfl rfl (by assumption) ?_
    rw [q3']
    refine A_iast dX7_decide_98 (by assumption) (by omega) (by omega) ?_
    refine A_aload_n dX7_decide_99 rfl rfl ?_
    refine A_getR (fi := 9) dX7_decide_100 fg_X7_35 rfl rfl (by assumption) (by assumption) ?_
    refine A_iload_n dX7_decide_103 rfl rfl ?_
    refine A_aload_n dX7_decide_104 rfl rfl ?_
    refine A_get (fi := 17) dX7_decide_105 fg_X7_159 rfl rfl (by assumption) ?_
    rw [q4k]
    refine A_zast dX7_decide_108 (by assumption) (by omega) (by omega) (by first | exact Or.inl rfl | exact Or.inr rfl | assumption | omega) ?_
    refine A_vret dX7_decide_109 rfl ?_
    refine hK _ (fun a b1 b2 b3 b4 => by rw [kU_ne b3, kU_ne b2]; exact q1 a b1 b4) (fun i i1 i2 i3 i4 => by rw [kU_ne (by omega), kU_ne (by omega)]; exact q2 i i1 i2 i3 i4) ?_ ?_
    · rw [kU_ne (by omega)]
      funext i
      unfold kU fU
      rw [q1 (m + 8) (by omega) (by omega)]
      by_cases hi : i = c
      · rw [if_pos ⟨rfl, hi⟩, if_pos hi]
      · rw [if_neg (by omega), if_neg hi]
    · funext i
      unfold kU fU
      rw [if_neg (show ¬ (m + 9 = m + 8 ∧ i = c) by omega), q1 (m + 9) (by omega) (by omega)]
      by_cases hi : i = c
      · rw [if_pos ⟨rfl, hi⟩, if_pos hi]
      · rw [if_neg (by omega), if_neg hi]
  refine AM.of rfl (Nat.le_of_ble_eq_true rfl) ?_
  refine A_aload_n dX7_decide_0 rfl rfl ?_
  refine A_iload_n dX7_decide_1 rfl rfl ?_
  refine A_iload_n dX7_decide_2 rfl rfl ?_
  refine A_bipush dX7_decide_3 ⟨by decide, by decide⟩ rfl ?_
  refine A_inv3 dX7_decide_5 mv_X7_57 kCl_7 (Nat.le_of_ble_eq_true rfl) (by assumption) ?_
  refine C_of hM hR (by omega) (by omega) (by omega) (by omega) (by omega) (by omega) ?_
  refine A_istore_n dX7_decide_8 rfl (Nat.le_of_ble_eq_true rfl) rfl ?_
  refine A_aload_n dX7_decide_9 rfl rfl ?_
  refine A_iload_n dX7_decide_10 rfl rfl ?_
  refine A_iload_n dX7_decide_11 rfl rfl ?_
  refine A_iconst dX7_decide_12 ⟨by decide, by decide⟩ ?_
  refine A_inv3 dX7_decide_13 mv_X7_57 kCl_7 (Nat.le_of_ble_eq_true rfl) (by assumption) ?_
  refine C_of hM hR (by omega) (by omega) (by omega) (by omega) (by omega) (by omega) ?_
  refine A_istore dX7_decide_16 (Nat.le_of_ble_eq_true rfl) rfl ?_
  refine A_iload_n dX7_decide_18 rfl rfl ?_
  refine A_iload_n dX7_decide_19 rfl rfl ?_
  refine A_bipush dX7_decide_20 ⟨by decide, by decide⟩ rfl ?_
  refine A_ins3 dX7_decide_22 ms_X7_74 (Nat.le_of_ble_eq_true rfl) ?_
  refine C_at (by omega) (by omega) (by omega) (by omega) (by omega) (by omega) ?_
  refine A_iconst dX7_decide_25 ⟨by decide, by decide⟩ ?_
  refine A_iload dX7_decide_26 rfl ?_
  refine A_iload_n dX7_decide_28 rfl rfl ?_
  refine A_icmp_ge (tgt := 37) dX7_decide_29 (by decide) (fun c_29 => ?_) (fun c_29 => ?_)
  · refine AW.nm 3 rfl (fun n8 => ?_)
    have n8' := n8.2
    refine A_iload_n dX7_decide_37 rfl rfl ?_
    refine A_iconst dX7_decide_38 ⟨by decide, by decide⟩ ?_
    refine A_isub_ok dX7_decide_39 (by omega) (by omega) ?_
    exact tail _ (by rw [if_neg (by omega)])
  · refine A_iload dX7_decide_32 rfl ?_
    refine A_goto (tgt := 40) dX7_decide_34 (by decide) ?_
    exact tail _ (by rw [if_pos (by omega)])
theorem C_hasRoom {r c : Int} (hM : MO G m) (hR : PZ d m r R) (h1 : 0 ≤ r) (h2 : r ≤ 4) (hW : WG R) (hc : 0 ≤ c) (hc2 : c < R 2) (hK : K (some (kI (roomS R c))) G d) : AM E mX7_hasRoom (k + 1) 0 0 [kR m, kI r, kI c] G d K := by
  obtain ⟨w1, w2, w3, w4, w5⟩ := id hW
  obtain ⟨ho, e0, a0, -⟩ := id hM
  obtain ⟨N, hN⟩ : ∃ N : Nat, R 2 = N := ⟨(R 2).toNat, by omega⟩
  have z0 := hR 0 (by omega) (by omega)
  have z2 := hR 2 (by omega) (by omega)
  have wc := w5 c hc hc2
  have loop : ∀ (n j : Nat), N - j < n → j ≤ N → ∀ q6 : Option AV, AW E mX7_hasRoom (k + 1) 0 0 10 [some (kR m), some (kI r), some (kI c), some (kI (hrF R c j).1), some (kI (hrF R c j).2), some (kI j), q6] [] G d K := by
    intro n
    induction n with
    | zero => intro j h; omega
    | succ n ih =>
      intro j hj hjN q6
      have rg := hrF_rg (c := c) hW j (by omega)
      refine A_iload dX7_hasRoom_10 rfl ?_
      refine A_aload_n dX7_hasRoom_12 rfl rfl ?_
      refine A_getR (fi := 0) dX7_hasRoom_13 fg_X7_7 rfl rfl (by assumption) (by assumption) ?_
      refine A_sipush dX7_hasRoom_16 ⟨by decide, by decide⟩ rfl ?_
      refine A_iload_n dX7_hasRoom_19 rfl rfl ?_
      refine A_imul_ok dX7_hasRoom_20 (by omega) (by omega) ?_
      refine A_iconst dX7_hasRoom_21 ⟨by decide, by decide⟩ ?_
      refine A_iadd_ok dX7_hasRoom_22 (by omega) (by omega) ?_
      refine A_iald dX7_hasRoom_23 (by assumption) (by omega) (by omega) ?_
      refine A_icmp_ge (tgt := 86) dX7_hasRoom_24 (by decide) (fun c_24 => ?_) (fun c_24 => ?_)
      · have : j = N := by omega
        subst this
        have e : (R 2).toNat = j := by omega
        unfold roomS at hK
        rw [e] at hK
        generalize hrF R c j = p at *
        obtain ⟨le, ba⟩ := p
        dsimp only at *
        refine A_iload dX7_hasRoom_86 rfl ?_
        refine A_if_lt (tgt := 109) dX7_hasRoom_88 (by decide) (fun c_88 => ?_) (fun c_88 => ?_)
        · refine A_iconst dX7_hasRoom_109 ⟨by decide, by decide⟩ ?_
          refine A_goto (tgt := 114) dX7_hasRoom_110 (by decide) ?_
          refine A_zret dX7_hasRoom_114 rfl (by first | exact Or.inl rfl | exact Or.inr rfl | assumption | omega) ?_
          rw [if_pos c_88] at hK
          exact hK
        · rw [if_neg (by omega)] at hK
          refine A_iload_n dX7_hasRoom_91 rfl rfl ?_
          refine A_if_le (tgt := 113) dX7_hasRoom_92 (by decide) (fun c_92 => ?_) (fun c_92 => ?_)
          · refine A_iconst dX7_hasRoom_113 ⟨by decide, by decide⟩ ?_
            refine A_zret dX7_hasRoom_114 rfl (by first | exact Or.inl rfl | exact Or.inr rfl | assumption | omega) ?_
            rw [if_neg (by omega)] at hK
            exact hK
          · refine A_iload_n dX7_hasRoom_95 rfl rfl ?_
            refine A_iconst dX7_hasRoom_96 ⟨by decide, by decide⟩ ?_
            refine A_isub_ok dX7_hasRoom_97 (by omega) (by omega) ?_
            refine A_aload_n dX7_hasRoom_98 rfl rfl ?_
            refine A_iload_n dX7_hasRoom_99 rfl rfl ?_
            refine A_iload dX7_hasRoom_100 rfl ?_
            refine A_iconst dX7_hasRoom_102 ⟨by decide, by decide⟩ ?_
            refine A_inv3 dX7_hasRoom_103 mv_X7_57 kCl_7 (Nat.le_of_ble_eq_true rfl) (by assumption) ?_
            refine C_of hM hR (by omega) (by omega) (by omega) (by omega) (by omega) (by omega) ?_
            refine A_icmp_lt (tgt := 113) dX7_hasRoom_106 (by decide) (fun c_106 => ?_) (fun c_106 => ?_)
            · refine A_iconst dX7_hasRoom_113 ⟨by decide, by decide⟩ ?_
              refine A_zret dX7_hasRoom_114 rfl (by first | exact Or.inl rfl | exact Or.inr rfl | assumption | omega) ?_
              rw [if_neg (by omega)] at hK
              exact hK
            · refine A_iconst dX7_hasRoom_109 ⟨by decide, by decide⟩ ?_
              refine A_goto (tgt := 114) dX7_hasRoom_110 (by decide) ?_
              refine A_zret dX7_hasRoom_114 rfl (by first | exact Or.inl rfl | exact Or.inr rfl | assumption | omega) ?_
              rw [if_pos (by omega)] at hK
              exact hK
      · have wj := w5 j (by omega) (by omega)
        have next := ih (j + 1) (by omega) (by omega)
        refine A_aload_n dX7_hasRoom_27 rfl rfl ?_
        refine A_iload_n dX7_hasRoom_28 rfl rfl ?_
        refine A_aload_n dX7_hasRoom_29 rfl rfl ?_
        refine A_iload_n dX7_hasRoom_30 rfl rfl ?_
        refine A_iload dX7_hasRoom_31 rfl ?_
        refine A_iconst dX7_hasRoom_33 ⟨by decide, by decide⟩ ?_
        refine A_inv3 dX7_hasRoom_34 mv_X7_57 kCl_7 (Nat.le_of_ble_eq_true rfl) (by assumption) ?_
        refine C_of hM hR (by omega) (by omega) (by omega) (by omega) (by omega) (by omega) ?_
        refine A_aload_n dX7_hasRoom_37 rfl rfl ?_
        refine A_iload_n dX7_hasRoom_38 rfl rfl ?_
        refine A_iload_n dX7_hasRoom_39 rfl rfl ?_
        refine A_iconst dX7_hasRoom_40 ⟨by decide, by decide⟩ ?_
        refine A_inv3 dX7_hasRoom_41 mv_X7_57 kCl_7 (Nat.le_of_ble_eq_true rfl) (by assumption) ?_
        refine C_of hM hR (by omega) (by omega) (by omega) (by omega) (by omega) (by omega) ?_
        refine A_inv3 dX7_hasRoom_44 mv_X7_61 kCl_7 (Nat.le_of_ble_eq_true rfl) (by assumption) ?_
        refine C_on hM hR h1 h2 w1 w2 wj.1 wj.2 wc.1 wc.2 ?_
        refine A_istore dX7_hasRoom_47 (Nat.le_of_ble_eq_true rfl) rfl ?_
        refine A_aload_n dX7_hasRoom_49 rfl rfl ?_
        refine A_iload_n dX7_hasRoom_50 rfl rfl ?_
        refine A_iload dX7_hasRoom_51 rfl ?_
        refine A_iconst dX7_hasRoom_53 ⟨by decide, by decide⟩ ?_
        refine A_inv3 dX7_hasRoom_54 mv_X7_57 kCl_7 (Nat.le_of_ble_eq_true rfl) (by assumption) ?_
        refine C_of hM hR (by omega) (by omega) (by omega) (by omega) (by omega) (by omega) ?_
        refine A_aload_n dX7_hasRoom_57 rfl rfl ?_
        refine A_iload_n dX7_hasRoom_58 rfl rfl ?_
        refine A_iload_n dX7_hasRoom_59 rfl rfl ?_
        refine A_iconst dX7_hasRoom_60 ⟨by decide, by decide⟩ ?_
        refine A_inv3 dX7_hasRoom_61 mv_X7_57 kCl_7 (Nat.le_of_ble_eq_true rfl) (by assumption) ?_
        refine C_of hM hR (by omega) (by omega) (by omega) (by omega) (by omega) (by omega) ?_
        refine A_icmp_eq (tgt := 80) dX7_hasRoom_64 (by decide) (fun c_64 => ?_) (fun c_64 => ?_)
        · refine A_iinc_ok dX7_hasRoom_80 rfl rfl (by omega) (by omega) ?_
          refine A_goto (tgt := 10) dX7_hasRoom_83 (by decide) ?_
          have e : hrF R c (j + 1) = hrF R c j := by simp only [hrF]; rw [if_neg]; omega
          rw [e] at next
          exact next _
        · refine A_iload dX7_hasRoom_67 rfl ?_
          refine A_iload_n dX7_hasRoom_69 rfl rfl ?_
          refine A_icmp_ge (tgt := 80) dX7_hasRoom_70 (by decide) (fun c_70 => ?_) (fun c_70 => ?_)
          · refine A_iinc_ok dX7_hasRoom_80 rfl rfl (by omega) (by omega) ?_
            refine A_goto (tgt := 10) dX7_hasRoom_83 (by decide) ?_
            have e : hrF R c (j + 1) = hrF R c j := by simp only [hrF]; rw [if_neg]; omega
            rw [e] at next
            exact next _
          · refine A_iload dX7_hasRoom_73 rfl ?_
            refine A_istore_n dX7_hasRoom_75 rfl (Nat.le_of_ble_eq_true rfl) rfl ?_
            refine A_iload dX7_hasRoom_76 rfl ?_
            refine A_istore dX7_hasRoom_78 (Nat.le_of_ble_eq_true rfl) rfl ?_
            refine A_iinc_ok dX7_hasRoom_80 rfl rfl (by omega) (by omega) ?_
            refine A_goto (tgt := 10) dX7_hasRoom_83 (by decide) ?_
            have e : hrF R c (j + 1) = (onS (R 0) (cfR R j 0) (cfR R c 0), (j : Int)) := by simp only [hrF]; rw [if_pos]; omega
            rw [e] at next
            exact next _
  refine AM.of rfl (Nat.le_of_ble_eq_true rfl) ?_
  refine A_sipush dX7_hasRoom_0 ⟨by decide, by decide⟩ rfl ?_
  refine A_istore_n dX7_hasRoom_3 rfl (Nat.le_of_ble_eq_true rfl) rfl ?_
  refine A_iconst dX7_hasRoom_4 ⟨by decide, by decide⟩ ?_
  refine A_istore dX7_hasRoom_5 (Nat.le_of_ble_eq_true rfl) rfl ?_
  refine A_iconst dX7_hasRoom_7 ⟨by decide, by decide⟩ ?_
  refine A_istore dX7_hasRoom_8 (Nat.le_of_ble_eq_true rfl) rfl ?_
  exact loop (N + 1) 0 (by omega) (by omega) none
theorem limF_rg {cell : Int} (hB : WB R) (h1 : 1 ≤ R 1) (h2 : R 1 ≤ 9) : ∀ b : Nat, (b : Int) ≤ R 5 → 0 ≤ limF R cell b ∧ limF R cell b ≤ 9
  | 0, _ => by simp only [limF]; omega
  | b + 1, h => by
    have ih := limF_rg (cell := cell) hB h1 h2 b (by omega)
    have := hB.2.2 b (by omega) (by omega)
    simp only [limF]
    split <;> omega
theorem C_limited {r c w : Int} (hM : MO G m) (hR : PZ d m r R) (h1 : 0 ≤ r) (h2 : r ≤ 4) (hW : WG R) (hB : WB R) (hm1 : 1 ≤ R 1) (hm2 : R 1 ≤ 9) (hc : 0 ≤ c) (hc2 : c < R 2) (hw : d (m + 8) c = w) (hK : K (some (kI (limS R w c))) G d) : AM E mX7_limited (k + 3) 0 0 [kR m, kI r, kI c] G d K := by
  obtain ⟨w1, w2, w3, w4, w5⟩ := id hW
  obtain ⟨b1, b2, b3⟩ := id hB
  obtain ⟨ho, e0, a0, e1, a1, e2, a2, e4, a4, e5, a5, e6, a6, e7, a7, e8, a8, -⟩ := id hM
  obtain ⟨N, hN⟩ : ∃ N : Nat, R 5 = N := ⟨(R 5).toNat, by omega⟩
  have z1 := hR 1 (by omega) (by omega)
  have z5 := hR 5 (by omega) (by omega)
  have wc := w5 c hc hc2
  have rgap := gapS_rg (c := c) hW
  unfold limS at hK
  have fin : ∀ (q5 : Int) (q6 q7 : Option AV), AW E mX7_limited (k + 3) 0 0 171 [some (kR m), some (kI r), some (kI c), some (kI w), some (kI (mstS R c)), some (kI q5), q6, q7] [] G d K := by
    intro q5 q6 q7
    have vee : ∀ v : Int, v = (if w < 0 then 0 else w) → AW E mX7_limited (k + 3) 0 0 180 [some (kR m), some (kI r), some (kI c), some (kI w), some (kI (mstS R c)), some (kI q5), q6, q7] [kI v] G d K := by
      intro v hv
      rw [← hv] at hK
      refine A_istore_n dX7_limited_180 rfl (Nat.le_of_ble_eq_true rfl) rfl ?_
      refine A_aload_n dX7_limited_181 rfl rfl ?_
      refine A_iload_n dX7_limited_182 rfl rfl ?_
      refine A_iload_n dX7_limited_183 rfl rfl ?_
      refine A_bipush dX7_limited_184 ⟨by decide, by decide⟩ rfl ?_
      refine A_inv3 dX7_limited_186 mv_X7_57 kCl_7 (Nat.le_of_ble_eq_true rfl) (by assumption) ?_
      refine C_of hM hR (by omega) (by omega) (by omega) (by omega) (by omega) (by omega) ?_
      refine A_iconst dX7_limited_189 ⟨by decide, by decide⟩ ?_
      refine A_icmp_ne (tgt := 197) dX7_limited_190 (by decide) (fun c_190 => ?_) (fun c_190 => ?_)
      · rw [if_neg c_190] at hK
        refine A_iload_n dX7_limited_197 rfl rfl ?_
        refine A_iload dX7_limited_198 rfl ?_
        refine A_icmp_le (tgt := 208) dX7_limited_200 (by decide) (fun c_200 => ?_) (fun c_200 => ?_)
        · refine A_iload_n dX7_limited_208 rfl rfl ?_
          refine A_iret dX7_limited_209 rfl ?_
          rw [if_neg (by omega)] at hK
          exact hK
        · refine A_iload dX7_limited_203 rfl ?_
          refine A_goto (tgt := 209) dX7_limited_205 (by decide) ?_
          refine A_iret dX7_limited_209 rfl ?_
          rw [if_pos (by omega)] at hK
          exact hK
      · rw [if_pos c_190] at hK
        refine A_iconst dX7_limited_193 ⟨by decide, by decide⟩ ?_
        refine A_goto (tgt := 209) dX7_limited_194 (by decide) ?_
        refine A_iret dX7_limited_209 rfl ?_
        exact hK
    refine A_iload_n dX7_limited_171 rfl rfl ?_
    refine A_if_ge (tgt := 179) dX7_limited_172 (by decide) (fun c_172 => ?_) (fun c_172 => ?_)
    · refine A_iload_n dX7_limited_179 rfl rfl ?_
      exact vee w (by rw [if_neg (by omega)])
    · refine A_iconst dX7_limited_175 ⟨by decide, by decide⟩ ?_
      refine A_goto (tgt := 180) dX7_limited_176 (by decide) ?_
      exact vee 0 (by rw [if_pos (by omega)])
  have loop : ∀ (n j : Nat), N - j < n → j ≤ N → ∀ q6 q7 : Option AV, AW E mX7_limited (k + 3) 0 0 24 [some (kR m), some (kI r), some (kI c), some (kI w), some (kI (limF R (cfR R c 0) j)), some (kI j), q6, q7] [] G d K := by
    intro n
    induction n with
    | zero => intro j h; omega
    | succ n ih =>
      intro j hj hjN q6 q7
      have rg := limF_rg (cell := cfR R c 0) hB hm1 hm2 j (by omega)
      refine A_iload dX7_limited_24 rfl ?_
      refine A_aload_n dX7_limited_26 rfl rfl ?_
      refine A_getR (fi := 0) dX7_limited_27 fg_X7_7 rfl rfl (by assumption) (by assumption) ?_
      refine A_sipush dX7_limited_30 ⟨by decide, by decide⟩ rfl ?_
      refine A_iload_n dX7_limited_33 rfl rfl ?_
      refine A_imul_ok dX7_limited_34 (by omega) (by omega) ?_
      refine A_iconst dX7_limited_35 ⟨by decide, by decide⟩ ?_
      refine A_iadd_ok dX7_limited_36 (by omega) (by omega) ?_
      refine A_iald dX7_limited_37 (by assumption) (by omega) (by omega) ?_
      refine A_icmp_ge (tgt := 147) dX7_limited_38 (by decide) (fun c_38 => ?_) (fun c_38 => ?_)
      · have : j = N := by omega
        subst this
        have e : (R 5).toNat = j := by omega
        refine A_aload_n dX7_limited_147 rfl rfl ?_
        refine A_iload_n dX7_limited_148 rfl rfl ?_
        refine A_iload_n dX7_limited_149 rfl rfl ?_
        refine A_inv2 dX7_limited_150 mv_X7_92 kCl_7 (Nat.le_of_ble_eq_true rfl) (by assumption) ?_
        refine C_gap hM hR h1 h2 hW hc hc2 ?_
        refine A_istore dX7_limited_153 (Nat.le_of_ble_eq_true rfl) rfl ?_
        refine A_iload dX7_limited_155 rfl ?_
        refine A_iload dX7_limited_157 rfl ?_
        refine A_icmp_ge (tgt := 167) dX7_limited_159 (by decide) (fun c_159 => ?_) (fun c_159 => ?_)
        · have em : mstS R c = limF R (cfR R c 0) j := by unfold mstS; rw [e, if_neg (by omega)]
          refine A_iload dX7_limited_167 rfl ?_
          refine A_istore dX7_limited_169 (Nat.le_of_ble_eq_true rfl) rfl ?_
          rw [em] at fin
          exact fin _ _ _
        · have em : mstS R c = gapS R c := by unfold mstS; rw [e, if_pos (by omega)]
          refine A_iload dX7_limited_162 rfl ?_
          refine A_goto (tgt := 169) dX7_limited_164 (by decide) ?_
          refine A_istore dX7_limited_169 (Nat.le_of_ble_eq_true rfl) rfl ?_
          rw [em] at fin
          exact fin _ _ _
      · obtain ⟨wj1, wj2, wj3⟩ := b3 j (by omega) (by omega)
        have next := ih (j + 1) (by omega) (by omega)
        have v0 : d (m + 1) (640 * r + 10 + 3 * j) = R (10 + 3 * j) := by
          rw [← hR (10 + 3 * j) (by omega) (by omega)]; congr 1; omega
        have v1 : d (m + 1) (640 * r + 10 + 3 * j + 1) = R (10 + 3 * j + 1) := by
          rw [← hR (10 + 3 * j + 1) (by omega) (by omega)]; congr 1; omega
        have v2 : d (m + 1) (640 * r + 10 + 3 * j + 2) = R (10 + 3 * j + 2) := by
          rw [← hR (10 + 3 * j + 2) (by omega) (by omega)]; congr 1; omega
        refine A_sipush dX7_limited_41 ⟨by decide, by decide⟩ rfl ?_
        refine A_iload_n dX7_limited_44 rfl rfl ?_
        refine A_imul_ok dX7_limited_45 (by omega) (by omega) ?_
        refine A_bipush dX7_limited_46 ⟨by decide, by decide⟩ rfl ?_
        refine A_iadd_ok dX7_limited_48 (by omega) (by omega) ?_
        refine A_iconst dX7_limited_49 ⟨by decide, by decide⟩ ?_
        refine A_iload dX7_limited_50 rfl ?_
        refine A_imul_ok dX7_limited_52 (by omega) (by omega) ?_
        refine A_iadd_ok dX7_limited_53 (by omega) (by omega) ?_
        refine A_istore dX7_limited_54 (Nat.le_of_ble_eq_true rfl) rfl ?_
        refine A_aload_n dX7_limited_56 rfl rfl ?_
        refine A_iload_n dX7_limited_57 rfl rfl ?_
        refine A_aload_n dX7_limited_58 rfl rfl ?_
        refine A_getR (fi := 0) dX7_limited_59 fg_X7_7 rfl rfl (by assumption) (by assumption) ?_
        refine A_iload dX7_limited_62 rfl ?_
        refine A_iald dX7_limited_64 (by assumption) (by omega) (by omega) ?_
        refine A_aload_n dX7_limited_65 rfl rfl ?_
        refine A_iload_n dX7_limited_66 rfl rfl ?_
        refine A_iload_n dX7_limited_67 rfl rfl ?_
        refine A_iconst dX7_limited_68 ⟨by decide, by decide⟩ ?_
        refine A_inv3 dX7_limited_69 mv_X7_57 kCl_7 (Nat.le_of_ble_eq_true rfl) (by assumption) ?_
        refine C_of hM hR (by omega) (by omega) (by omega) (by omega) (by omega) (by omega) ?_
        refine A_inv3 dX7_limited_72 mv_X7_61 kCl_7 (Nat.le_of_ble_eq_true rfl) (by assumption) ?_
        rw [v0]
        refine C_on hM hR h1 h2 w1 w2 wj1.1 wj1.2 wc.1 wc.2 ?_
        refine A_aload_n dX7_limited_75 rfl rfl ?_
        refine A_iload_n dX7_limited_76 rfl rfl ?_
        refine A_aload_n dX7_limited_77 rfl rfl ?_
        refine A_getR (fi := 0) dX7_limited_78 fg_X7_7 rfl rfl (by assumption) (by assumption) ?_
        refine A_iload dX7_limited_81 rfl ?_
        refine A_iald dX7_limited_83 (by assumption) (by omega) (by omega) ?_
        refine A_aload_n dX7_limited_84 rfl rfl ?_
        refine A_getR (fi := 0) dX7_limited_85 fg_X7_7 rfl rfl (by assumption) (by assumption) ?_
        refine A_iload dX7_limited_88 rfl ?_
        refine A_iconst dX7_limited_90 ⟨by decide, by decide⟩ ?_
        refine A_iadd_ok dX7_limited_91 (by omega) (by omega) ?_
        refine A_iald dX7_limited_92 (by assumption) (by omega) (by omega) ?_
        refine A_inv3 dX7_limited_93 mv_X7_61 kCl_7 (Nat.le_of_ble_eq_true rfl) (by assumption) ?_
        rw [v0, v1]
        refine C_on hM hR h1 h2 w1 w2 wj1.1 wj1.2 wj2.1 wj2.2 ?_
        refine A_icmp_gt (tgt := 103) dX7_limited_96 (by decide) (fun c_96 => ?_) (fun c_96 => ?_)
        · refine A_iconst dX7_limited_103 ⟨by decide, by decide⟩ ?_
          refine A_istore dX7_limited_104 (Nat.le_of_ble_eq_true rfl) rfl ?_
          refine A_iload dX7_limited_106 rfl ?_
          refine A_if_eq (tgt := 137) dX7_limited_108 (by decide) (fun c_108 => ?_) (fun c_108 => absurd c_108 (by omega))
          refine A_iload dX7_limited_137 rfl ?_
          refine A_istore dX7_limited_139 (Nat.le_of_ble_eq_true rfl) rfl ?_
          refine A_iinc_ok dX7_limited_141 rfl rfl (by omega) (by omega) ?_
          refine A_goto (tgt := 24) dX7_limited_144 (by decide) ?_
          have e : limF R (cfR R c 0) (j + 1) = limF R (cfR R c 0) j := by simp only [limF]; rw [if_neg]; omega
          rw [e] at next
          exact next _ _
        · refine A_iconst dX7_limited_99 ⟨by decide, by decide⟩ ?_
          refine A_goto (tgt := 104) dX7_limited_100 (by decide) ?_
          refine A_istore dX7_limited_104 (Nat.le_of_ble_eq_true rfl) rfl ?_
          refine A_iload dX7_limited_106 rfl ?_
          refine A_if_eq (tgt := 137) dX7_limited_108 (by decide) (fun c_108 => absurd c_108 (by omega)) (fun c_108 => ?_)
          refine A_aload_n dX7_limited_111 rfl rfl ?_
          refine A_getR (fi := 0) dX7_limited_112 fg_X7_7 rfl rfl (by assumption) (by assumption) ?_
          refine A_iload dX7_limited_115 rfl ?_
          refine A_iconst dX7_limited_117 ⟨by decide, by decide⟩ ?_
          refine A_iadd_ok dX7_limited_118 (by omega) (by omega) ?_
          refine A_iald dX7_limited_119 (by assumption) (by omega) (by omega) ?_
          refine A_iload dX7_limited_120 rfl ?_
          refine A_icmp_ge (tgt := 137) dX7_limited_122 (by decide) (fun c_122 => ?_) (fun c_122 => ?_)
          · rw [v2] at c_122
            refine A_iload dX7_limited_137 rfl ?_
            refine A_istore dX7_limited_139 (Nat.le_of_ble_eq_true rfl) rfl ?_
            refine A_iinc_ok dX7_limited_141 rfl rfl (by omega) (by omega) ?_
            refine A_goto (tgt := 24) dX7_limited_144 (by decide) ?_
            have e : limF R (cfR R c 0) (j + 1) = limF R (cfR R c 0) j := by simp only [limF]; rw [if_neg]; omega
            rw [e] at next
            exact next _ _
          · rw [v2] at c_122
            refine A_aload_n dX7_limited_125 rfl rfl ?_
            refine A_getR (fi := 0) dX7_limited_126 fg_X7_7 rfl rfl (by assumption) (by assumption) ?_
            refine A_iload dX7_limited_129 rfl ?_
            refine A_iconst dX7_limited_131 ⟨by decide, by decide⟩ ?_
            refine A_iadd_ok dX7_limited_132 (by omega) (by omega) ?_
            refine A_iald dX7_limited_133 (by assumption) (by omega) (by omega) ?_
            refine A_goto (tgt := 139) dX7_limited_134 (by decide) ?_
            refine A_istore dX7_limited_139 (Nat.le_of_ble_eq_true rfl) rfl ?_
            refine A_iinc_ok dX7_limited_141 rfl rfl (by omega) (by omega) ?_
            refine A_goto (tgt := 24) dX7_limited_144 (by decide) ?_
            rw [v2]
            have e : limF R (cfR R c 0) (j + 1) = R (10 + 3 * j + 2) := by simp only [limF]; rw [if_pos]; omega
            rw [e] at next
            exact next _ _
  refine AM.of rfl (Nat.le_of_ble_eq_true rfl) ?_
  refine A_aload_n dX7_limited_0 rfl rfl ?_
  refine A_getR (fi := 8) dX7_limited_1 fg_X7_32 rfl rfl (by assumption) (by assumption) ?_
  refine A_iload_n dX7_limited_4 rfl rfl ?_
  refine A_iald dX7_limited_5 (by assumption) (by omega) (by omega) ?_
  refine A_istore_n dX7_limited_6 rfl (Nat.le_of_ble_eq_true rfl) rfl ?_
  refine A_aload_n dX7_limited_7 rfl rfl ?_
  refine A_getR (fi := 0) dX7_limited_8 fg_X7_7 rfl rfl (by assumption) (by assumption) ?_
  refine A_sipush dX7_limited_11 ⟨by decide, by decide⟩ rfl ?_
  refine A_iload_n dX7_limited_14 rfl rfl ?_
  refine A_imul_ok dX7_limited_15 (by omega) (by omega) ?_
  refine A_iconst dX7_limited_16 ⟨by decide, by decide⟩ ?_
  refine A_iadd_ok dX7_limited_17 (by omega) (by omega) ?_
  refine A_iald dX7_limited_18 (by assumption) (by omega) (by omega) ?_
  refine A_istore dX7_limited_19 (Nat.le_of_ble_eq_true rfl) rfl ?_
  refine A_iconst dX7_limited_21 ⟨by decide, by decide⟩ ?_
  refine A_istore dX7_limited_22 (Nat.le_of_ble_eq_true rfl) rfl ?_
  rw [hw, z1]
  exact loop (N + 1) 0 (by omega) (by omega) none none
end T2
