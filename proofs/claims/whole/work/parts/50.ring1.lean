/-! the class's ring: object A, its arrays, its cars -/
def RG (G : HG) (A : Nat) : Prop := isO G A 4 ∧ (G.2.2 A 7 = A + 1 ∧ isA G (A + 1) 10 12) ∧ (G.2.2 A 8 = A + 2 ∧ isA G (A + 2) 11 3) ∧ (G.2.2 A 9 = A + 3 ∧ isA G (A + 3) 8 4) ∧ (G.2.2 A 10 = A + 4 ∧ isA G (A + 4) 8 4) ∧ (G.2.2 A 11 = A + 5 ∧ isA G (A + 5) 8 4) ∧ (G.2.2 A 12 = A + 6 ∧ isA G (A + 6) 8 4) ∧ (G.2.2 A 13 = A + 7 ∧ isA G (A + 7) 8 4) ∧ (G.2.2 A 14 = A + 8 ∧ isA G (A + 8) 8 4) ∧ ∀ c : Nat, c < 12 → G.2.2 (A + 1) (c : Int) = A + 9 + 2 * c ∧ isO G (A + 9 + 2 * c) 0 ∧ G.2.2 (A + 9 + 2 * c) 9 = A + 10 + 2 * c ∧ isA G (A + 10 + 2 * c) 8 12
/-- length, cars, cells, lanes and paces are those of R -/
def CG (d : HD) (A : Nat) (R : Int → Int) : Prop := d A 0 = R 0 ∧ d A 4 = R 2 ∧ ∀ c : Nat, (c : Int) < R 2 → d (A + 9 + 2 * c) 0 = cfR R c 0 ∧ d (A + 9 + 2 * c) 1 = cfR R c 1 ∧ d (A + 9 + 2 * c) 2 = cfR R c 2
section R1
variable {E : EE} {k A : Nat} {G : HG} {d : HD} {K : PQ} {R : Int → Int}
theorem C_cellsOn {a b : Int} (hG : RG G A) (h0 : d A 0 = R 0) (hn : 12 ≤ R 0) (hn2 : R 0 ≤ 99) (ha : 0 ≤ a) (ha2 : a < R 0) (hb : 0 ≤ b) (hb2 : b < R 0) (hK : K (some (kI (onS (R 0) a b))) G d) : AM E mX4_cellsOn k 0 0 [kR A, kI a, kI b] G d K := by
  have ho := hG.1
  have e := onS_0 (n := R 0) (by omega) ha ha2 hb hb2
  rw [e] at hK
  refine AM.of rfl (Nat.le_of_ble_eq_true rfl) ?_
  refine A_iload_n dX4_cellsOn_0 rfl rfl ?_
  refine A_iload_n dX4_cellsOn_1 rfl rfl ?_
  refine A_icmp_lt (tgt := 11) dX4_cellsOn_2 (by decide) (fun c_2 => ?_) (fun c_2 => ?_)
  · rw [if_neg (by omega)] at hK
    refine A_iload_n dX4_cellsOn_11 rfl rfl ?_
    refine A_iload_n dX4_cellsOn_12 rfl rfl ?_
    refine A_isub_ok dX4_cellsOn_13 (by omega) (by omega) ?_
    refine A_aload_n dX4_cellsOn_14 rfl rfl ?_
    refine A_get (fi := 0) dX4_cellsOn_15 fg_X4_9 rfl rfl (by assumption) ?_
    rw [h0]
    refine A_iadd_ok dX4_cellsOn_18 (by omega) (by omega) ?_
    refine A_iret dX4_cellsOn_19 rfl ?_
    exact hK
  · rw [if_pos (by omega)] at hK
    refine A_iload_n dX4_cellsOn_5 rfl rfl ?_
    refine A_iload_n dX4_cellsOn_6 rfl rfl ?_
    refine A_isub_ok dX4_cellsOn_7 (by omega) (by omega) ?_
    refine A_goto (tgt := 19) dX4_cellsOn_8 (by decide) ?_
    refine A_iret dX4_cellsOn_19 rfl ?_
    exact hK
theorem C_lookFrom {c : Nat} (hG : RG G A) (hV : CG d A R) (hW : WG R) (hc2 : (c : Int) < R 2) (hp : ∀ c, 0 ≤ c → c < R 2 → 0 ≤ cfR R c 2 ∧ cfR R c 2 ≤ 9) (hK : K none G (kU (kU (kU (kU d (A + 9 + 2 * c) 10 (gapS R c)) (A + 9 + 2 * c) 11 (aheadS R c)) (A + 9 + 2 * c) 12 (leadS R c)) (A + 9 + 2 * c) 13 (otherS R c))) : AM E mX4_lookFrom (k + 1) 0 0 [kR A, kI c] G d K := by
  obtain ⟨ho, ⟨e7, a7⟩, -, -, -, -, -, -, -, hcar⟩ := id hG
  obtain ⟨w1, w2, w3, w4, w5⟩ := id hW
  obtain ⟨v0, v4, vc⟩ := id hV
  obtain ⟨N, hN⟩ : ∃ N : Nat, R 2 = N := ⟨(R 2).toNat, by omega⟩
  have eN : (R 2).toNat = N := by omega
  rw [hN] at v4
  obtain ⟨ec, oc, -, -⟩ := hcar c (by omega)
  obtain ⟨c0, c1, c2⟩ := vc c hc2
  have wc := w5 c (by omega) hc2
  have loop : ∀ (f j : Nat), j + f = N → ∀ q7 : Option AV, AW E mX4_lookFrom (k + 1) 0 0 26 [some (kR A), some (kI c), some (kR (A + 9 + 2 * c)), some (kI ((ahF R c j).1 - 1)), some (kI (ahF R c j).2), some (kI (otF R c j)), some (kI j), q7] [] G d K := by
    intro f
    induction f with
    | zero =>
      intro j hj q7
      have : j = N := by omega
      subst this
      have ra := aheadS_rg hW (c := (c : Int)) (by omega) hc2
      have eg := gapS_eq (R := R) (c := c)
      have ea : aheadS R c = (ahF R c j).2 := by unfold aheadS; rw [eN]
      have eo : otherS R c = otF R c j := by unfold otherS; rw [eN]
      rw [eN] at eg
      rw [← eg, ← ea, ← eo]
      obtain ⟨e, he⟩ : ∃ e : Nat, aheadS R c = e := ⟨(aheadS R c).toNat, by omega⟩
      have el : leadS R c = cfR R e 2 - cfR R c 2 := by unfold leadS; rw [he]
      rw [el, he] at hK
      rw [he]
      obtain ⟨ee, oe, -, -⟩ := hcar e (by omega)
      obtain ⟨d0, d1, d2⟩ := vc e (by omega)
      have pe := hp e (by omega) (by omega)
      have pc := hp c (by omega) hc2
      have x1 : kU (kU d (A + 9 + 2 * c) 10 (gapS R c)) (A + 9 + 2 * c) 11 e (A + 9 + 2 * e) 2 = cfR R e 2 := by
        unfold kU
        rw [if_neg (by omega), if_neg (by omega)]
        exact d2
      have x2 : kU (kU d (A + 9 + 2 * c) 10 (gapS R c)) (A + 9 + 2 * c) 11 e (A + 9 + 2 * c) 2 = cfR R c 2 := by
        rw [kU_f (by omega), kU_f (by omega)]
        exact c2
      refine A_iload dX4_lookFrom_26 rfl ?_
      refine A_aload_n dX4_lookFrom_28 rfl rfl ?_
      refine A_get (fi := 4) dX4_lookFrom_29 fg_X4_24 rfl rfl (by assumption) ?_
      refine A_icmp_ge (tgt := 120) dX4_lookFrom_32 (by decide) (fun c_32 => ?_) (fun c_32 => absurd c_32 (by omega))
      refine A_aload_n dX4_lookFrom_120 rfl rfl ?_
      refine A_iload_n dX4_lookFrom_121 rfl rfl ?_
      refine A_put (fi := 10) dX4_lookFrom_122 fp_X4_97 rfl rfl (by assumption) ?_
      refine A_aload_n dX4_lookFrom_125 rfl rfl ?_
      refine A_iload dX4_lookFrom_126 rfl ?_
      refine A_put (fi := 11) dX4_lookFrom_128 fp_X4_100 rfl rfl (by assumption) ?_
      refine A_aload_n dX4_lookFrom_131 rfl rfl ?_
      refine A_aload_n dX4_lookFrom_132 rfl rfl ?_
      refine A_getR (fi := 7) dX4_lookFrom_133 fg_X4_35 rfl rfl (by assumption) (by assumption) ?_
      refine A_iload dX4_lookFrom_136 rfl ?_
      refine A_aald (t := 2) dX4_lookFrom_138 (fun _ => rfl) (by decide) (by assumption) (by omega) (by omega) (by assumption) ?_
      refine A_get (fi := 2) dX4_lookFrom_139 fg_X4_83 rfl rfl (by assumption) ?_
      rw [x1]
      refine A_aload_n dX4_lookFrom_142 rfl rfl ?_
      refine A_get (fi := 2) dX4_lookFrom_143 fg_X4_83 rfl rfl (by assumption) ?_
      rw [x2]
      refine A_isub_ok dX4_lookFrom_146 (by omega) (by omega) ?_
      refine A_put (fi := 12) dX4_lookFrom_147 fp_X4_103 rfl rfl (by assumption) ?_
      refine A_aload_n dX4_lookFrom_150 rfl rfl ?_
      refine A_iload dX4_lookFrom_151 rfl ?_
      refine A_put (fi := 13) dX4_lookFrom_153 fp_X4_106 rfl rfl (by assumption) ?_
      refine A_vret dX4_lookFrom_156 rfl ?_
      exact hK
    | succ f ih =>
      intro j hj q7
      have next := ih (j + 1) (by omega)
      obtain ⟨ej, oj, -, -⟩ := hcar j (by omega)
      obtain ⟨d0, d1, d2⟩ := vc j (by omega)
      have wj := w5 j (by omega) (by omega)
      have rg := ahF_rg hW (c := (c : Int)) (by omega) hc2 j (by omega)
      have rgo := otF_rg (R := R) (c := (c : Int)) hW j
      have ron := onS_rg (n := R 0) (a := cfR R c 0) (b := cfR R j 0) (by omega)
      refine A_iload dX4_lookFrom_26 rfl ?_
      refine A_aload_n dX4_lookFrom_28 rfl rfl ?_
      refine A_get (fi := 4) dX4_lookFrom_29 fg_X4_24 rfl rfl (by assumption) ?_
      refine A_icmp_ge (tgt := 120) dX4_lookFrom_32 (by decide) (fun c_32 => absurd c_32 (by omega)) (fun c_32 => ?_)
      refine A_iload dX4_lookFrom_35 rfl ?_
      refine A_iload_n dX4_lookFrom_37 rfl rfl ?_
      refine A_icmp_eq (tgt := 114) dX4_lookFrom_38 (by decide) (fun c_38 => ?_) (fun c_38 => ?_)
      · refine A_iinc_ok dX4_lookFrom_114 rfl rfl (by omega) (by omega) ?_
        refine A_goto (tgt := 26) dX4_lookFrom_117 (by decide) ?_
        have e1 : ahF R c (j + 1) = ahF R c j := by simp only [ahF]; rw [if_neg (fun z => z.1 c_38)]
        have e2 : otF R c (j + 1) = otF R c j := by simp only [otF]; rw [if_neg (fun z => z.1 (by rw [c_38]))]
        rw [e1, e2] at next
        exact next _
      · refine A_aload_n dX4_lookFrom_41 rfl rfl ?_
        refine A_aload_n dX4_lookFrom_42 rfl rfl ?_
        refine A_get (fi := 0) dX4_lookFrom_43 fg_X4_80 rfl rfl (by assumption) ?_
        refine A_aload_n dX4_lookFrom_46 rfl rfl ?_
        refine A_getR (fi := 7) dX4_lookFrom_47 fg_X4_35 rfl rfl (by assumption) (by assumption) ?_
        refine A_iload dX4_lookFrom_50 rfl ?_
        refine A_aald (t := 2) dX4_lookFrom_52 (fun _ => rfl) (by decide) (by assumption) (by omega) (by omega) (by assumption) ?_
        refine A_get (fi := 0) dX4_lookFrom_53 fg_X4_80 rfl rfl (by assumption) ?_
        refine A_inv2 dX4_lookFrom_56 mv_X4_93 kCl_4 (Nat.le_of_ble_eq_true rfl) (by assumption) ?_
        rw [c0, d0]
        refine C_cellsOn hG v0 w1 w2 wc.1 wc.2 wj.1 wj.2 ?_
        refine A_istore dX4_lookFrom_59 (Nat.le_of_ble_eq_true rfl) rfl ?_
        refine A_aload_n dX4_lookFrom_61 rfl rfl ?_
        refine A_getR (fi := 7) dX4_lookFrom_62 fg_X4_35 rfl rfl (by assumption) (by assumption) ?_
        refine A_iload dX4_lookFrom_65 rfl ?_
        refine A_aald (t := 2) dX4_lookFrom_67 (fun _ => rfl) (by decide) (by assumption) (by omega) (by omega) (by assumption) ?_
        refine A_get (fi := 1) dX4_lookFrom_68 fg_X4_77 rfl rfl (by assumption) ?_
        rw [d1]
        refine A_aload_n dX4_lookFrom_71 rfl rfl ?_
        refine A_get (fi := 1) dX4_lookFrom_72 fg_X4_77 rfl rfl (by assumption) ?_
        rw [c1]
        refine A_icmp_eq (tgt := 97) dX4_lookFrom_75 (by decide) (fun c_75 => ?_) (fun c_75 => ?_)
        · have e2 : otF R c (j + 1) = otF R c j := by simp only [otF]; rw [if_neg (fun z => z.1 c_75)]
          refine A_iload dX4_lookFrom_97 rfl ?_
          refine A_iconst dX4_lookFrom_99 ⟨by decide, by decide⟩ ?_
          refine A_isub_ok dX4_lookFrom_100 (by omega) (by omega) ?_
          refine A_iload_n dX4_lookFrom_101 rfl rfl ?_
          refine A_icmp_ge (tgt := 114) dX4_lookFrom_102 (by decide) (fun c_102 => ?_) (fun c_102 => ?_)
          · refine A_iinc_ok dX4_lookFrom_114 rfl rfl (by omega) (by omega) ?_
            refine A_goto (tgt := 26) dX4_lookFrom_117 (by decide) ?_
            have e1 : ahF R c (j + 1) = ahF R c j := by simp only [ahF]; rw [if_neg (by omega)]
            rw [e1, e2] at next
            exact next _
          · refine A_iload dX4_lookFrom_105 rfl ?_
            refine A_iconst dX4_lookFrom_107 ⟨by decide, by decide⟩ ?_
            refine A_isub_ok dX4_lookFrom_108 (by omega) (by omega) ?_
            refine A_istore_n dX4_lookFrom_109 rfl (Nat.le_of_ble_eq_true rfl) rfl ?_
            refine A_iload dX4_lookFrom_110 rfl ?_
            refine A_istore dX4_lookFrom_112 (Nat.le_of_ble_eq_true rfl) rfl ?_
            refine A_iinc_ok dX4_lookFrom_114 rfl rfl (by omega) (by omega) ?_
            refine A_goto (tgt := 26) dX4_lookFrom_117 (by decide) ?_
            have e1 : ahF R c (j + 1) = (onS (R 0) (cfR R c 0) (cfR R j 0), (j : Int)) := by simp only [ahF]; rw [if_pos (by omega)]
            rw [e1, e2] at next
            exact next _
        · have e1 : ahF R c (j + 1) = ahF R c j := by simp only [ahF]; rw [if_neg (by omega)]
          refine A_iload dX4_lookFrom_78 rfl ?_
          refine A_iload dX4_lookFrom_80 rfl ?_
          refine A_icmp_ge (tgt := 90) dX4_lookFrom_82 (by decide) (fun c_82 => ?_) (fun c_82 => ?_)
          · refine A_iload dX4_lookFrom_90 rfl ?_
            refine A_istore dX4_lookFrom_92 (Nat.le_of_ble_eq_true rfl) rfl ?_
            refine A_goto (tgt := 114) dX4_lookFrom_94 (by decide) ?_
            refine A_iinc_ok dX4_lookFrom_114 rfl rfl (by omega) (by omega) ?_
            refine A_goto (tgt := 26) dX4_lookFrom_117 (by decide) ?_
            have e2 : otF R c (j + 1) = otF R c j := by simp only [otF]; rw [if_neg (by omega)]
            rw [e1, e2] at next
            exact next _
          · refine A_iload dX4_lookFrom_85 rfl ?_
            refine A_goto (tgt := 92) dX4_lookFrom_87 (by decide) ?_
            refine A_istore dX4_lookFrom_92 (Nat.le_of_ble_eq_true rfl) rfl ?_
            refine A_goto (tgt := 114) dX4_lookFrom_94 (by decide) ?_
            refine A_iinc_ok dX4_lookFrom_114 rfl rfl (by omega) (by omega) ?_
            refine A_goto (tgt := 26) dX4_lookFrom_117 (by decide) ?_
            have e2 : otF R c (j + 1) = onS (R 0) (cfR R c 0) (cfR R j 0) := by simp only [otF]; rw [if_pos (by omega)]
            rw [e1, e2] at next
            exact next _
  refine AM.of rfl (Nat.le_of_ble_eq_true rfl) ?_
  refine A_aload_n dX4_lookFrom_0 rfl rfl ?_
  refine A_getR (fi := 7) dX4_lookFrom_1 fg_X4_35 rfl rfl (by assumption) (by assumption) ?_
  refine A_iload_n dX4_lookFrom_4 rfl rfl ?_
  refine A_aald (t := 2) dX4_lookFrom_5 (fun _ => rfl) (by decide) (by assumption) (by omega) (by omega) (by assumption) ?_
  refine A_astore_n dX4_lookFrom_6 rfl (Nat.le_of_ble_eq_true rfl) rfl (by omega) ?_
  refine A_aload_n dX4_lookFrom_7 rfl rfl ?_
  refine A_get (fi := 0) dX4_lookFrom_8 fg_X4_9 rfl rfl (by assumption) ?_
  rw [v0]
  refine A_iconst dX4_lookFrom_11 ⟨by decide, by decide⟩ ?_
  refine A_isub_ok dX4_lookFrom_12 (by omega) (by omega) ?_
  refine A_istore_n dX4_lookFrom_13 rfl (Nat.le_of_ble_eq_true rfl) rfl ?_
  refine A_iload_n dX4_lookFrom_14 rfl rfl ?_
  refine A_istore dX4_lookFrom_15 (Nat.le_of_ble_eq_true rfl) rfl ?_
  refine A_aload_n dX4_lookFrom_17 rfl rfl ?_
  refine A_get (fi := 0) dX4_lookFrom_18 fg_X4_9 rfl rfl (by assumption) ?_
  rw [v0]
  refine A_istore dX4_lookFrom_21 (Nat.le_of_ble_eq_true rfl) rfl ?_
  refine A_iconst dX4_lookFrom_23 ⟨by decide, by decide⟩ ?_
  refine A_istore dX4_lookFrom_24 (Nat.le_of_ble_eq_true rfl) rfl ?_
  exact loop N 0 (by omega) none
end R1
