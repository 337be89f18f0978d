/-- only ring r of z has changed -/
def MR (d d' : HD) (m : Nat) (r : Int) : Prop := (∀ a, a ≠ m + 1 → d' a = d a) ∧ ∀ j, (j < 640 * r ∨ 640 * r + 640 ≤ j) → d' (m + 1) j = d (m + 1) j
theorem MR.rf {d : HD} {m : Nat} {r : Int} : MR d d m r := ⟨fun _ _ => rfl, fun _ _ => rfl⟩
theorem MR.tr {d d1 d2 : HD} {m : Nat} {r : Int} (h1 : MR d d1 m r) (h2 : MR d1 d2 m r) : MR d d2 m r := ⟨fun a h => (h2.1 a h).trans (h1.1 a h), fun j h => (h2.2 j h).trans (h1.2 j h)⟩
theorem MR.z {d d' : HD} {m : Nat} {r i v : Int} (h : MR d d' m r) (h1 : 640 * r ≤ i) (h2 : i < 640 * r + 640) : MR d (kU d' (m + 1) i v) m r := by
  refine ⟨fun a ha => ?_, fun j hj => ?_⟩
  · rw [kU_ne (by omega)]; exact h.1 a ha
  · unfold kU
    rw [if_neg (by omega)]
    exact h.2 j hj
theorem MR.MC {d d' : HD} {m : Nat} {r : Int} (h : MR d d' m r) : MC d d' m r := ⟨fun a ha => h.1 a (by omega), by rw [h.1 m (by omega)], h.2⟩
/-- two rings that look alike: length, cars, cells, lanes, paces -/
def geo (R R' : Int → Int) : Prop := R' 0 = R 0 ∧ R' 2 = R 2 ∧ ∀ c, 0 ≤ c → c < R 2 → cfR R' c 0 = cfR R c 0 ∧ cfR R' c 1 = cfR R c 1 ∧ cfR R' c 2 = cfR R c 2
theorem ahF_g {R R' : Int → Int} {c : Int} (h : geo R R') (hc : 0 ≤ c) (hc2 : c < R 2) : ∀ k : Nat, (k : Int) ≤ R 2 → ahF R' c k = ahF R c k
  | 0, _ => by simp only [ahF, h.1]
  | k + 1, hk => by
    have ih := ahF_g h hc hc2 k (by omega)
    obtain ⟨h0, h2, h3⟩ := h
    obtain ⟨a1, a2, a3⟩ := h3 c hc hc2
    obtain ⟨b1, b2, b3⟩ := h3 k (by omega) (by omega)
    simp only [ahF, ih, h0, a1, a2, b1, b2]
theorem aheadS_g {R R' : Int → Int} {c : Int} (h : geo R R') (hc : 0 ≤ c) (hc2 : c < R 2) : aheadS R' c = aheadS R c := by
  unfold aheadS
  rw [h.2.1, ahF_g h hc hc2 _ (by omega)]
theorem gapS_g {R R' : Int → Int} {c : Int} (h : geo R R') (hW : WG R) (hc : 0 ≤ c) (hc2 : c < R 2) : gapS R' c = gapS R c := by
  have ra := aheadS_rg hW hc hc2
  unfold gapS
  rw [aheadS_g h hc hc2, h.1, (h.2.2 c hc hc2).1, (h.2.2 _ ra.1 ra.2).1]
theorem leadS_g {R R' : Int → Int} {c : Int} (h : geo R R') (hW : WG R) (hc : 0 ≤ c) (hc2 : c < R 2) : leadS R' c = leadS R c := by
  have ra := aheadS_rg hW hc hc2
  unfold leadS
  rw [aheadS_g h hc hc2, (h.2.2 c hc hc2).2.2, (h.2.2 _ ra.1 ra.2).2.2]
theorem otF_g {R R' : Int → Int} {c : Int} (h : geo R R') (hc : 0 ≤ c) (hc2 : c < R 2) : ∀ k : Nat, (k : Int) ≤ R 2 → otF R' c k = otF R c k
  | 0, _ => by simp only [otF, h.1]
  | k + 1, hk => by
    have ih := otF_g h hc hc2 k (by omega)
    obtain ⟨h0, h2, h3⟩ := h
    obtain ⟨a1, a2, a3⟩ := h3 c hc hc2
    obtain ⟨b1, b2, b3⟩ := h3 k (by omega) (by omega)
    simp only [otF, ih, h0, a1, a2, b1, b2]
theorem otherS_g {R R' : Int → Int} {c : Int} (h : geo R R') (hc : 0 ≤ c) (hc2 : c < R 2) : otherS R' c = otherS R c := by
  unfold otherS
  rw [h.2.1, otF_g h hc hc2 _ (by omega)]
theorem WG_g {R R' : Int → Int} (h : geo R R') (hW : WG R) : WG R' := by
  obtain ⟨w1, w2, w3, w4, w5⟩ := hW
  obtain ⟨h0, h2, h3⟩ := h
  refine ⟨by omega, by omega, by omega, by omega, fun c c1 c2 => ?_⟩
  rw [(h3 c c1 (by omega)).1, h0]
  exact w5 c c1 (by omega)
theorem geo_tr {R R1 R2 : Int → Int} (h1 : geo R R1) (h2 : geo R1 R2) : geo R R2 := by
  refine ⟨h2.1.trans h1.1, h2.2.1.trans h1.2.1, fun c c1 c2 => ?_⟩
  obtain ⟨a1, a2, a3⟩ := h1.2.2 c c1 c2
  obtain ⟨b1, b2, b3⟩ := h2.2.2 c c1 (by rw [h1.2.1]; exact c2)
  exact ⟨b1.trans a1, b2.trans a2, b3.trans a3⟩
def shN (R : Int → Int) (c : Int) : Int → Int := fun j => if 340 + 24 * c + 12 ≤ j ∧ j < 340 + 24 * c + 21 then R (j - 3) else R j
def noteR (R : Int → Int) (c : Int) : Int → Int := fU (fU (fU (fU (shN R c) (340 + 24 * c + 9) (gapS R c)) (340 + 24 * c + 10) (leadS R c)) (340 + 24 * c + 11) (otherS R c)) (340 + 24 * c + 8) (cfR R c 8 + 1)
/-- a ring in which only what car c notes has changed -/
def onlyN (R R' : Int → Int) (c : Int) : Prop := ∀ j, (j < 340 + 24 * c + 8 ∨ 340 + 24 * c + 21 ≤ j) → R' j = R j
theorem onlyN.g {R R' : Int → Int} {c : Int} (h : onlyN R R' c) (hc : 0 ≤ c) : geo R R' := by
  refine ⟨h 0 (by omega), h 2 (by omega), fun q q1 q2 => ⟨?_, ?_, ?_⟩⟩ <;> (unfold cfR; exact h _ (by omega))
theorem onlyN.u {R R' : Int → Int} {c i v : Int} (h : onlyN R R' c) (h1 : 340 + 24 * c + 8 ≤ i) (h2 : i < 340 + 24 * c + 21) : onlyN R (fU R' i v) c := fun j hj => by
  rw [fU_n (by omega)]
  exact h j hj
theorem shN_n (R : Int → Int) (c : Int) : onlyN R (shN R c) c := fun j hj => by unfold shN; rw [if_neg (by omega)]
theorem noteR_n (R : Int → Int) (c : Int) : onlyN R (noteR R c) c := by
  unfold noteR
  exact ((((shN_n R c).u (by omega) (by omega)).u (by omega) (by omega)).u (by omega) (by omega)).u (by omega) (by omega)
section T1
variable {E : EE} {k m : Nat} {G : HG} {d : HD} {K : PQ} {R : Int → Int}
theorem C_note {r c : Int} (hM : MO G m) (hR : PZ d m r R) (h1 : 0 ≤ r) (h2 : r ≤ 4) (hW : WG R) (hp : ∀ c, 0 ≤ c → c < R 2 → 0 ≤ cfR R c 2 ∧ cfR R c 2 ≤ 9) (hc : 0 ≤ c) (hc2 : c < R 2) (h8 : 0 ≤ cfR R c 8) (h82 : cfR R c 8 ≤ 1000000) (hK : ∀ d', MR d d' m r → PZ d' m r (noteR R c) → K none G d') : AM E mX7_note (k + 3) 0 0 [kR m, kI r, kI c] G d K := by
  obtain ⟨ho, e0, a0, -⟩ := id hM
  obtain ⟨w1, w2, w3, w4, w5⟩ := id hW
  have loop : ∀ (q : Nat) (j : Int), (j - 1).toNat < q → 2 ≤ j → j ≤ 11 → ∀ d' R', MR d d' m r → PZ d' m r R' → (∀ i, R' i = if 340 + 24 * c + 9 + j < i ∧ i < 340 + 24 * c + 21 then R (i - 3) else R i) → AW E mX7_note (k + 3) 0 0 12 [some (kR m), some (kI r), some (kI c), some (kI (640 * r + 340 + 24 * c + 9)), some (kI j)] [] G d' K := by
    intro q
    induction q with
    | zero => intro j h; omega
    | succ q ih =>
      intro j hq hj1 hj2 d' R' hc' hz hs
      refine A_iload dX7_note_12 rfl ?_
      refine A_iconst dX7_note_14 ⟨by decide, by decide⟩ ?_
      refine A_icmp_lt (tgt := 44) dX7_note_15 (by decide) (fun c_15 => ?_) (fun c_15 => ?_)
      · have : j = 2 := by omega
        subst this
        have eR : R' = shN R c := by
          funext i
          rw [hs i]
          unfold shN
          by_cases hi : 340 + 24 * c + 12 ≤ i ∧ i < 340 + 24 * c + 21
          · rw [if_pos (by omega), if_pos hi]
          · rw [if_neg (by omega), if_neg hi]
        subst eR
        have n0 := shN_n R c
        have gg0 := n0.g hc
        have n1 := n0.u (i := 340 + 24 * c + 9) (v := gapS R c) (by omega) (by omega)
        have gg1 := n1.g hc
        have n2 := n1.u (i := 340 + 24 * c + 10) (v := leadS R c) (by omega) (by omega)
        have gg2 := n2.g hc
        have n3 := n2.u (i := 340 + 24 * c + 11) (v := otherS R c) (by omega) (by omega)
        have z1 := hz.u (i := 640 * r + 340 + 24 * c + 9) (q := 340 + 24 * c + 9) (v := gapS R c) (by omega)
        have z2 := z1.u (i := 640 * r + 340 + 24 * c + 9 + 1) (q := 340 + 24 * c + 10) (v := leadS R c) (by omega)
        have z3 := z2.u (i := 640 * r + 340 + 24 * c + 9 + 2) (q := 340 + 24 * c + 11) (v := otherS R c) (by omega)
        refine A_aload_n dX7_note_44 rfl rfl ?_
        refine A_getR (fi := 0) dX7_note_45 fg_X7_7 rfl rfl (by assumption) (by assumption) ?_
        refine A_iload_n dX7_note_48 rfl rfl ?_
        refine A_aload_n dX7_note_49 rfl rfl ?_
        refine A_iload_n dX7_note_50 rfl rfl ?_
        refine A_iload_n dX7_note_51 rfl rfl ?_
        refine A_inv2 dX7_note_52 mv_X7_92 kCl_7 (Nat.le_of_ble_eq_true rfl) (by assumption) ?_
        refine C_gap hM hz h1 h2 (WG_g gg0 hW) hc (by rw [gg0.2.1]; exact hc2) ?_
        rw [gapS_g gg0 hW hc hc2]
        refine A_iast dX7_note_55 (by assumption) (by omega) (by omega) ?_
        refine A_aload_n dX7_note_56 rfl rfl ?_
        refine A_getR (fi := 0) dX7_note_57 fg_X7_7 rfl rfl (by assumption) (by assumption) ?_
        refine A_iload_n dX7_note_60 rfl rfl ?_
        refine A_iconst dX7_note_61 ⟨by decide, by decide⟩ ?_
        refine A_iadd_ok dX7_note_62 (by omega) (by omega) ?_
        refine A_aload_n dX7_note_63 rfl rfl ?_
        refine A_iload_n dX7_note_64 rfl rfl ?_
        refine A_iload_n dX7_note_65 rfl rfl ?_
        refine A_inv2 dX7_note_66 mv_X7_166 kCl_7 (Nat.le_of_ble_eq_true rfl) (by assumption) ?_
        refine C_slower hM z1 h1 h2 (WG_g gg1 hW) (fun x x1 x2 => by rw [(gg1.2.2 x x1 (by rw [gg1.2.1] at x2; exact x2)).2.2]; exact hp x x1 (by rw [gg1.2.1] at x2; exact x2)) hc (by rw [gg1.2.1]; exact hc2) ?_
        rw [leadS_g gg1 hW hc hc2]
        refine A_iast dX7_note_69 (by assumption) (by omega) (by omega) ?_
        refine A_aload_n dX7_note_70 rfl rfl ?_
        refine A_getR (fi := 0) dX7_note_71 fg_X7_7 rfl rfl (by assumption) (by assumption) ?_
        refine A_iload_n dX7_note_74 rfl rfl ?_
        refine A_iconst dX7_note_75 ⟨by decide, by decide⟩ ?_
        refine A_iadd_ok dX7_note_76 (by omega) (by omega) ?_
        refine A_aload_n dX7_note_77 rfl rfl ?_
        refine A_iload_n dX7_note_78 rfl rfl ?_
        refine A_iload_n dX7_note_79 rfl rfl ?_
        refine A_inv2 dX7_note_80 mv_X7_95 kCl_7 (Nat.le_of_ble_eq_true rfl) (by assumption) ?_
        refine C_other hM z2 h1 h2 (WG_g gg2 hW) hc (by rw [gg2.2.1]; exact hc2) ?_
        rw [otherS_g gg2 hc hc2]
        have v8 : kU (kU (kU d' (m + 1) (640 * r + 340 + 24 * c + 9) (gapS R c)) (m + 1) (640 * r + 340 + 24 * c + 9 + 1) (leadS R c)) (m + 1) (640 * r + 340 + 24 * c + 9 + 2) (otherS R c) (m + 1) (640 * r + 340 + 24 * c + 8) = cfR R c 8 := by
          have := z3 (340 + 24 * c + 8) (by omega) (by omega)
          rw [show 640 * r + 340 + 24 * c + 8 = 640 * r + (340 + 24 * c + 8) by omega, this, fU_n (by omega), fU_n (by omega), fU_n (by omega)]
          unfold shN cfR
          rw [if_neg (by omega)]
        refine A_iast dX7_note_83 (by assumption) (by omega) (by omega) ?_
        refine A_aload_n dX7_note_84 rfl rfl ?_
        refine A_getR (fi := 0) dX7_note_85 fg_X7_7 rfl rfl (by assumption) (by assumption) ?_
        refine A_iload_n dX7_note_88 rfl rfl ?_
        refine A_iload_n dX7_note_89 rfl rfl ?_
        refine A_bipush dX7_note_90 ⟨by decide, by decide⟩ rfl ?_
        refine A_ins3 dX7_note_92 ms_X7_74 (Nat.le_of_ble_eq_true rfl) ?_
        refine C_at (by omega) (by omega) (by omega) (by omega) (by omega) (by omega) ?_
        refine A_dup2 dX7_note_95 (fun B => toV_cat B _) (fun B => toV_cat B _) ?_
        refine A_iald dX7_note_96 (by assumption) (by omega) (by omega) ?_
        refine A_iconst dX7_note_97 ⟨by decide, by decide⟩ ?_
        refine A_iadd_ok dX7_note_98 (by omega) (by omega) ?_
        refine A_iast dX7_note_99 (by assumption) (by omega) (by omega) ?_
        refine A_vret dX7_note_100 rfl ?_
        rw [v8]
        exact hK _ ((((hc'.z (by omega) (by omega)).z (by omega) (by omega)).z (by omega) (by omega)).z (by omega) (by omega)) (z3.u (by omega))
      · have v : d' (m + 1) (640 * r + 340 + 24 * c + 9 + j - 3) = R (340 + 24 * c + 9 + j - 3) := by
          have := hz (340 + 24 * c + 9 + j - 3) (by omega) (by omega)
          rw [show 640 * r + 340 + 24 * c + 9 + j - 3 = 640 * r + (340 + 24 * c + 9 + j - 3) by omega, this, hs, if_neg (by omega)]
        refine A_aload_n dX7_note_18 rfl rfl ?_
        refine A_getR (fi := 0) dX7_note_19 fg_X7_7 rfl rfl (by assumption) (by assumption) ?_
        refine A_iload_n dX7_note_22 rfl rfl ?_
        refine A_iload dX7_note_23 rfl ?_
        refine A_iadd_ok dX7_note_25 (by omega) (by omega) ?_
        refine A_aload_n dX7_note_26 rfl rfl ?_
        refine A_getR (fi := 0) dX7_note_27 fg_X7_7 rfl rfl (by assumption) (by assumption) ?_
        refine A_iload_n dX7_note_30 rfl rfl ?_
        refine A_iload dX7_note_31 rfl ?_
        refine A_iadd_ok dX7_note_33 (by omega) (by omega) ?_
        refine A_iconst dX7_note_34 ⟨by decide, by decide⟩ ?_
        refine A_isub_ok dX7_note_35 (by omega) (by omega) ?_
        refine A_iald dX7_note_36 (by assumption) (by omega) (by omega) ?_
        refine A_iast dX7_note_37 (by assumption) (by omega) (by omega) ?_
        refine A_iinc_ok dX7_note_38 rfl rfl (by omega) (by omega) ?_
        refine A_goto (tgt := 12) dX7_note_41 (by decide) ?_
        rw [v]
        refine ih (j + (-1)) (by omega) (by omega) (by omega) _ (fU R' (340 + 24 * c + 9 + j) (R (340 + 24 * c + 9 + j - 3))) (hc'.z (by omega) (by omega)) (hz.u (by omega)) (fun i => ?_)
        unfold fU
        by_cases hi : i = 340 + 24 * c + 9 + j
        · rw [if_pos hi, if_pos (by omega), hi]
        · rw [if_neg hi, hs i]
          by_cases hi2 : 340 + 24 * c + 9 + j < i ∧ i < 340 + 24 * c + 21
          · rw [if_pos hi2, if_pos (by omega)]
          · rw [if_neg hi2, if_neg (by omega)]
  refine AM.of rfl (Nat.le_of_ble_eq_true rfl) ?_
  refine A_iload_n dX7_note_0 rfl rfl ?_
  refine A_iload_n dX7_note_1 rfl rfl ?_
  refine A_bipush dX7_note_2 ⟨by decide, by decide⟩ rfl ?_
  refine A_ins3 dX7_note_4 ms_X7_74 (Nat.le_of_ble_eq_true rfl) ?_
  refine C_at (by omega) (by omega) (by omega) (by omega) (by omega) (by omega) ?_
  refine A_istore_n dX7_note_7 rfl (Nat.le_of_ble_eq_true rfl) rfl ?_
  refine A_bipush dX7_note_8 ⟨by decide, by decide⟩ rfl ?_
  refine A_istore dX7_note_10 (Nat.le_of_ble_eq_true rfl) rfl ?_
  exact loop 11 11 (by omega) (by omega) (by omega) d R MR.rf hR (fun i => by rw [if_neg (by omega)])
end T1
