section RD6
variable {E : EE} {k : Nat} {G : HG} {d : HD} {K : PQ} {n : Int} {t : Int → Int}
theorem C_readAct {p kk : Int} (hM : RO G) (hT : RT d n t) (hn : n ≤ 100) (h0 : 0 ≤ p) (h1 : p ≤ n) (hk : d 9 4 = kk) (k0 : 0 ≤ kk) (k1 : kk < 6) (hF : (acP t n p).1 = false → K (some (kI 0)) G (kU d 9 2 (acP t n p).2)) (hS : (acP t n p).1 = true → K (some (kI 1)) G (kU (kU (kU (kU d 16 kk (ch t n (sk t n p))) 17 kk (acD t n (sk t n p))) 9 2 (acP t n p).2) 18 kk (if ch t n (acC t n (sk t n p)) = 99 then 1 else 0))) : AM E mX3_readAct (k + 2) 0 0 [kR 9] G (kU d 9 2 p) K := by
  obtain ⟨ho, ⟨e0, a0⟩, -, -, -, -, -, ⟨e11, a11⟩, ⟨e12, a12⟩, ⟨e13, a13⟩, -⟩ := id hM
  have g1 := sk_ge (t := t) (n := n) p
  have l1 := sk_le (t := t) h1
  have F2 : ∀ (h : HD) x, kU h 9 2 x 9 2 = x := fun h x => kU_s
  have F4 : ∀ x, kU d 9 2 x 9 4 = kk := fun x => by rw [kU_f (by decide)]; exact hk
  obtain ⟨y, hy⟩ : ∃ y, sk t n p = y := ⟨_, rfl⟩
  unfold acP at hF hS
  rw [hy] at g1 l1 hF hS
  have rest : (ch t n y = 43 ∨ ch t n y = 45 ∨ ch t n y = 61) → AW E mX3_readAct (k + 2) 0 0 25 [some (kR 9), some (kI (ch t n y))] [] G (kU d 9 2 y) K := by
    intro hc
    have y1 := ch_lt (t := t) (n := n) (p := y) (by omega)
    have g2 := sk_ge (t := t) (n := n) (y + 1)
    have l2 := sk_le (t := t) (n := n) (p := y + 1) (by omega)
    rw [if_neg (by omega)] at hF hS
    obtain ⟨z, hz⟩ : ∃ z, sk t n (y + 1) = z := ⟨_, rfl⟩
    unfold acD acC at hS
    rw [hz] at g2 l2 hF hS
    refine A_aload_n dX3_readAct_25 rfl rfl ?_
    refine A_dup dX3_readAct_26 (fun B => toV_cat B _) ?_
    refine A_get (fi := 2) dX3_readAct_27 fg_X3_19 rfl rfl (by assumption) ?_
    rw [F2]
    refine A_iconst dX3_readAct_30 ⟨by decide, by decide⟩ ?_
    refine A_iadd_ok dX3_readAct_31 (by omega) (by omega) ?_
    refine A_put (fi := 2) dX3_readAct_32 fp_X3_19 rfl rfl (by assumption) ?_
    rw [kU_2]
    refine A_aload_n dX3_readAct_35 rfl rfl ?_
    refine A_inv0 dX3_readAct_36 mv_X3_81 kCl_3 (Nat.le_of_ble_eq_true rfl) (by assumption) ?_
    refine C_next hM hT hn (by omega) (by omega) ?_
    rw [hz]
    refine A_ins1 dX3_readAct_39 ms_X3_90 (Nat.le_of_ble_eq_true rfl) ?_
    refine C_rdig ?_
    refine A_if_ne (tgt := 47) dX3_readAct_42 (by decide) (fun c_42 => ?_) (fun c_42 => ?_)
    · have z42 := i01n c_42
      have lt := ch_lt (t := t) (n := n) (p := z) (by omega)
      have g3 := sk_ge (t := t) (n := n) (z + 1)
      have l3 := sk_le (t := t) (n := n) (p := z + 1) (by omega)
      rw [ch_at lt] at z42
      have hD : isD t n z := ⟨lt, z42.1, z42.2⟩
      rw [if_neg (Classical.not_not.mpr hD)] at hF hS
      have x4 : ∀ x, kU (kU d 9 2 x) 16 kk (ch t n y) 9 4 = kk := fun x => by rw [kU_ne (by decide)]; exact F4 x
      have x2 : ∀ x, kU (kU d 9 2 x) 16 kk (ch t n y) 9 2 = x := fun x => by rw [kU_ne (by decide)]; exact F2 _ x
      have xt : kU (kU d 9 2 z) 16 kk (ch t n y) 10 z = t z := by rw [kU_ne (by decide), kU_ne (by decide)]; exact hT.2 z (by omega) lt
      have x2' : ∀ x u, kU (kU (kU d 9 2 x) 16 kk (ch t n y)) 17 kk u 9 2 = x := fun x u => by rw [kU_ne (by decide)]; exact x2 x
      have sw : ∀ x u, kU (kU (kU (kU d 9 2 x) 16 kk (ch t n y)) 17 kk u) 9 2 (z + 1) = kU (kU (kU d 16 kk (ch t n y)) 17 kk u) 9 2 (z + 1) := fun x u => by
        rw [kU_c (a := 9) (b := 16) (by decide), kU_c (a := 9) (b := 17) (by decide), kU_2]
      have y4 : ∀ x u, kU (kU (kU d 16 kk (ch t n y)) 17 kk u) 9 2 x 9 4 = kk := fun x u => by rw [kU_f (by decide), kU_ne (by decide), kU_ne (by decide)]; exact hk
      replace c_42 := i01n c_42
      refine A_aload_n dX3_readAct_47 rfl rfl ?_
      refine A_getR (fi := 11) dX3_readAct_48 fg_X3_46 rfl rfl (by assumption) (by assumption) ?_
      refine A_aload_n dX3_readAct_51 rfl rfl ?_
      refine A_get (fi := 4) dX3_readAct_52 fg_X3_25 rfl rfl (by assumption) ?_
      rw [F4]
      refine A_iload_n dX3_readAct_55 rfl rfl ?_
      refine A_iast dX3_readAct_56 (by assumption) (by omega) (by omega) ?_
      refine A_aload_n dX3_readAct_57 rfl rfl ?_
      refine A_getR (fi := 12) dX3_readAct_58 fg_X3_49 rfl rfl (by assumption) (by assumption) ?_
      refine A_aload_n dX3_readAct_61 rfl rfl ?_
      refine A_get (fi := 4) dX3_readAct_62 fg_X3_25 rfl rfl (by assumption) ?_
      rw [x4]
      refine A_aload_n dX3_readAct_65 rfl rfl ?_
      refine A_getR (fi := 0) dX3_readAct_66 fg_X3_9 rfl rfl (by assumption) (by assumption) ?_
      refine A_aload_n dX3_readAct_69 rfl rfl ?_
      refine A_get (fi := 2) dX3_readAct_70 fg_X3_19 rfl rfl (by assumption) ?_
      rw [x2]
      refine A_iald dX3_readAct_73 (by assumption) (by omega) (by omega) ?_
      rw [xt]
      refine A_bipush dX3_readAct_74 ⟨by decide, by decide⟩ rfl ?_
      refine A_isub_ok dX3_readAct_76 (by omega) (by omega) ?_
      refine A_iast dX3_readAct_77 (by assumption) (by omega) (by omega) ?_
      refine A_aload_n dX3_readAct_78 rfl rfl ?_
      refine A_dup dX3_readAct_79 (fun B => toV_cat B _) ?_
      refine A_get (fi := 2) dX3_readAct_80 fg_X3_19 rfl rfl (by assumption) ?_
      rw [x2']
      refine A_iconst dX3_readAct_83 ⟨by decide, by decide⟩ ?_
      refine A_iadd_ok dX3_readAct_84 (by omega) (by omega) ?_
      refine A_put (fi := 2) dX3_readAct_85 fp_X3_19 rfl rfl (by assumption) ?_
      rw [sw]
      refine A_aload_n dX3_readAct_88 rfl rfl ?_
      refine A_getR (fi := 13) dX3_readAct_89 fg_X3_52 rfl rfl (by assumption) (by assumption) ?_
      refine A_aload_n dX3_readAct_92 rfl rfl ?_
      refine A_get (fi := 4) dX3_readAct_93 fg_X3_25 rfl rfl (by assumption) ?_
      rw [y4]
      refine A_aload_n dX3_readAct_96 rfl rfl ?_
      refine A_bipush dX3_readAct_97 ⟨by decide, by decide⟩ rfl ?_
      refine A_inv1 dX3_readAct_99 mv_X3_69 kCl_3 (Nat.le_of_ble_eq_true rfl) (by assumption) ?_
      refine C_rtake hM ((hT.u (by decide) (Or.inl (by decide))).u (by decide) (Or.inl (by decide))) hn (by omega) (by omega) (fun h99 => ?_) (fun h99 => ?_)
      · rw [if_pos h99] at hS
        rw [if_pos h99] at hS
        have fin := hS rfl
        refine A_if_eq (tgt := 109) dX3_readAct_102 (by decide) (fun c_102 => absurd c_102 (by omega)) (fun c_102 => ?_)
        refine A_iconst dX3_readAct_105 ⟨by decide, by decide⟩ ?_
        refine A_goto (tgt := 110) dX3_readAct_106 (by decide) ?_
        refine A_iast dX3_readAct_110 (by assumption) (by omega) (by omega) ?_
        refine A_iconst dX3_readAct_111 ⟨by decide, by decide⟩ ?_
        refine A_zret dX3_readAct_112 rfl (by first | exact Or.inl rfl | exact Or.inr rfl | assumption | omega) ?_
        exact fin
      · rw [if_neg h99] at hS
        rw [if_neg h99] at hS
        have fin := hS rfl
        refine A_if_eq (tgt := 109) dX3_readAct_102 (by decide) (fun c_102 => ?_) (fun c_102 => absurd c_102 (by omega))
        refine A_iconst dX3_readAct_109 ⟨by decide, by decide⟩ ?_
        refine A_iast dX3_readAct_110 (by assumption) (by omega) (by omega) ?_
        refine A_iconst dX3_readAct_111 ⟨by decide, by decide⟩ ?_
        refine A_zret dX3_readAct_112 rfl (by first | exact Or.inl rfl | exact Or.inr rfl | assumption | omega) ?_
        exact fin
    · have z42 := i01e c_42
      have hD : ¬ isD t n z := fun q => z42 (by rw [ch_at q.1]; exact q.2)
      rw [if_pos hD] at hF
      have fin := hF rfl
      replace c_42 := i01e c_42
      refine A_iconst dX3_readAct_45 ⟨by decide, by decide⟩ ?_
      refine A_zret dX3_readAct_46 rfl (by first | exact Or.inl rfl | exact Or.inr rfl | assumption | omega) ?_
      exact fin
  refine AM.of rfl (Nat.le_of_ble_eq_true rfl) ?_
  refine A_aload_n dX3_readAct_0 rfl rfl ?_
  refine A_inv0 dX3_readAct_1 mv_X3_81 kCl_3 (Nat.le_of_ble_eq_true rfl) (by assumption) ?_
  refine C_next hM hT hn (by omega) (by omega) ?_
  rw [hy]
  refine A_istore_n dX3_readAct_4 rfl (Nat.le_of_ble_eq_true rfl) rfl ?_
  refine A_iload_n dX3_readAct_5 rfl rfl ?_
  refine A_bipush dX3_readAct_6 ⟨by decide, by decide⟩ rfl ?_
  refine A_icmp_eq (tgt := 25) dX3_readAct_8 (by decide) (fun c_8 => ?_) (fun c_8 => ?_)
  · skip
    exact rest (by omega)
  · refine A_iload_n dX3_readAct_11 rfl rfl ?_
    refine A_bipush dX3_readAct_12 ⟨by decide, by decide⟩ rfl ?_
    refine A_icmp_eq (tgt := 25) dX3_readAct_14 (by decide) (fun c_14 => ?_) (fun c_14 => ?_)
    · skip
      exact rest (by omega)
    · refine A_iload_n dX3_readAct_17 rfl rfl ?_
      refine A_bipush dX3_readAct_18 ⟨by decide, by decide⟩ rfl ?_
      refine A_icmp_eq (tgt := 25) dX3_readAct_20 (by decide) (fun c_20 => ?_) (fun c_20 => ?_)
      · skip
        exact rest (by omega)
      · rw [if_pos (by omega)] at hF
        have fin := hF rfl
        refine A_iconst dX3_readAct_23 ⟨by decide, by decide⟩ ?_
        refine A_zret dX3_readAct_24 rfl (by first | exact Or.inl rfl | exact Or.inr rfl | assumption | omega) ?_
        exact fin
theorem C_endClause {a b kk c : Int} (hM : RO G) (hk : d 9 4 = kk) (k0 : 0 ≤ kk) (k1 : kk < 6) (hc : d 9 3 = c) (a0 : 0 ≤ a) (a1 : a ≤ 213) (b0 : 0 ≤ b) (b1 : b ≤ 213) (hK : K none G (kU (kU (kU d 20 a (-1 - kk)) 20 b c) 9 4 (kk + 1))) : AM E mX3_endClause (k + 1) 0 0 [kR 9, kI a, kI b] G d K := by
  have ho := hM.1
  have x3 : ∀ u, kU d 20 a u 9 3 = c := fun u => by rw [kU_ne (by decide)]; exact hc
  have x4 : ∀ u w, kU (kU d 20 a u) 20 b w 9 4 = kk := fun u w => by rw [kU_ne (by decide), kU_ne (by decide)]; exact hk
  refine AM.of rfl (Nat.le_of_ble_eq_true rfl) ?_
  refine A_aload_n dX3_endClause_0 rfl rfl ?_
  refine A_iload_n dX3_endClause_1 rfl rfl ?_
  refine A_aload_n dX3_endClause_2 rfl rfl ?_
  refine A_get (fi := 4) dX3_endClause_3 fg_X3_25 rfl rfl (by assumption) ?_
  rw [hk]
  refine A_iconst dX3_endClause_6 ⟨by decide, by decide⟩ ?_
  refine A_ixor dX3_endClause_7 ?_
  rw [kXor_m (by omega) (by omega)]
  refine A_inv2 dX3_endClause_8 mv_X3_87 kCl_3 (Nat.le_of_ble_eq_true rfl) (by assumption) ?_
  refine C_fix hM a0 a1 ?_
  refine A_aload_n dX3_endClause_11 rfl rfl ?_
  refine A_iload_n dX3_endClause_12 rfl rfl ?_
  refine A_aload_n dX3_endClause_13 rfl rfl ?_
  refine A_get (fi := 3) dX3_endClause_14 fg_X3_22 rfl rfl (by assumption) ?_
  rw [x3]
  refine A_inv2 dX3_endClause_17 mv_X3_87 kCl_3 (Nat.le_of_ble_eq_true rfl) (by assumption) ?_
  refine C_fix hM b0 b1 ?_
  refine A_aload_n dX3_endClause_20 rfl rfl ?_
  refine A_dup dX3_endClause_21 (fun B => toV_cat B _) ?_
  refine A_get (fi := 4) dX3_endClause_22 fg_X3_25 rfl rfl (by assumption) ?_
  rw [x4]
  refine A_iconst dX3_endClause_25 ⟨by decide, by decide⟩ ?_
  refine A_iadd_ok dX3_endClause_26 (by omega) (by omega) ?_
  refine A_put (fi := 4) dX3_endClause_27 fp_X3_25 rfl rfl (by assumption) ?_
  refine A_vret dX3_endClause_30 rfl ?_
  exact hK
/-- what a label comes to -/
def lamF (d : HD) : Nat → Int → Int
  | 0, l => d 20 l
  | f + 1, l => if d 19 l = -1 then d 20 l else lamF d f (d 19 l)
def lam (d : HD) (l : Int) : Int := lamF d (l.toNat + 1) l
theorem lamF_fu {l : Int} (hL : ∀ i, 0 ≤ i → i < l → d 19 i = -1 ∨ (0 ≤ d 19 i ∧ d 19 i < i)) : ∀ (f g : Nat) (x : Int), 0 ≤ x → x < l → x.toNat < f → x.toNat < g → lamF d f x = lamF d g x
  | 0, g, x, _, _, h, _ => by omega
  | f + 1, 0, x, _, _, _, h => by omega
  | f + 1, g + 1, x, h0, h1, hf, hg => by
    simp only [lamF]
    rcases hL x h0 h1 with h | h
    · rw [if_pos h, if_pos h]
    · rw [if_neg (by omega), if_neg (by omega)]
      exact lamF_fu hL f g _ h.1 (by omega) (by omega) (by omega)
theorem lam_s {c l x : Int} (hL : LI d c l) (h0 : 0 ≤ x) (h1 : x < l) : lam d x = if d 19 x = -1 then d 20 x else lam d (d 19 x) := by
  show (if d 19 x = -1 then d 20 x else lamF d x.toNat (d 19 x)) = _
  rcases hL.1 x h0 h1 with h | h
  · rw [if_pos h, if_pos h]
  · rw [if_neg (by omega), if_neg (by omega)]
    exact lamF_fu hL.1 _ _ _ h.1 (by omega) (by omega) (by omega)
theorem lam_cg {d' : HD} (h1 : d' 19 = d 19) (h2 : d' 20 = d 20) (x : Int) : lam d' x = lam d x := by
  have e : ∀ (f : Nat) (x : Int), lamF d' f x = lamF d f x := by
    intro f
    induction f with
    | zero => intro x; show d' 20 x = d 20 x; rw [h2]
    | succ f ih => intro x; simp only [lamF]; rw [h1, h2, ih]
  exact e _ _
theorem C_follow {c l x : Int} (hM : RO G) (hL : LI d c l) (hl : d 9 5 = l) (hl2 : l ≤ 214) (h0 : 0 ≤ x) (h1 : x < l) (hK : K (some (kI (lam d x))) G d) : AM E mX3_follow k 0 0 [kR 9, kI x] G d K := by
  obtain ⟨ho, -, -, -, -, -, -, -, -, -, ⟨e14, a14⟩, ⟨e15, a15⟩⟩ := id hM
  have loop : ∀ (m : Nat) (y j : Int), y.toNat < m → 0 ≤ y → y < l → 0 ≤ j → j + y ≤ x → lam d y = lam d x → AW E mX3_follow k 0 0 4 [some (kR 9), some (kI x), some (kI y), some (kI j)] [] G d K := by
    intro m
    induction m with
    | zero => intro y j h; omega
    | succ m ih =>
      intro y j hm y0 y1 j0 j1 he
      have s := lam_s hL y0 y1
      refine A_iload_n dX3_follow_4 rfl rfl ?_
      refine A_aload_n dX3_follow_5 rfl rfl ?_
      refine A_get (fi := 5) dX3_follow_6 fg_X3_28 rfl rfl (by assumption) ?_
      refine A_icmp_ge (tgt := 35) dX3_follow_9 (by decide) (fun c_9 => absurd c_9 (by omega)) (fun c_9 => ?_)
      refine A_aload_n dX3_follow_12 rfl rfl ?_
      refine A_getR (fi := 14) dX3_follow_13 fg_X3_55 rfl rfl (by assumption) (by assumption) ?_
      refine A_iload_n dX3_follow_16 rfl rfl ?_
      refine A_iald dX3_follow_17 (by assumption) (by omega) (by omega) ?_
      refine A_iconst dX3_follow_18 ⟨by decide, by decide⟩ ?_
      refine A_icmp_eq (tgt := 35) dX3_follow_19 (by decide) (fun c_19 => ?_) (fun c_19 => ?_)
      · rw [if_pos c_19] at s
        refine A_aload_n dX3_follow_35 rfl rfl ?_
        refine A_getR (fi := 15) dX3_follow_36 fg_X3_58 rfl rfl (by assumption) (by assumption) ?_
        refine A_iload_n dX3_follow_39 rfl rfl ?_
        refine A_iald dX3_follow_40 (by assumption) (by omega) (by omega) ?_
        refine A_iret dX3_follow_41 rfl ?_
        rw [← s, he]
        exact hK
      · rcases hL.1 y y0 y1 with h | h
        · exact absurd h c_19
        · rw [if_neg c_19] at s
          refine A_aload_n dX3_follow_22 rfl rfl ?_
          refine A_getR (fi := 14) dX3_follow_23 fg_X3_55 rfl rfl (by assumption) (by assumption) ?_
          refine A_iload_n dX3_follow_26 rfl rfl ?_
          refine A_iald dX3_follow_27 (by assumption) (by omega) (by omega) ?_
          refine A_istore_n dX3_follow_28 rfl (Nat.le_of_ble_eq_true rfl) rfl ?_
          refine A_iinc_ok dX3_follow_29 rfl rfl (by omega) (by omega) ?_
          refine A_goto (tgt := 4) dX3_follow_32 (by decide) ?_
          exact ih _ (j + 1) (by omega) h.1 (by omega) (by omega) (by omega) (by rw [← s, he])
  refine AM.of rfl (Nat.le_of_ble_eq_true rfl) ?_
  refine A_iload_n dX3_follow_0 rfl rfl ?_
  refine A_istore_n dX3_follow_1 rfl (Nat.le_of_ble_eq_true rfl) rfl ?_
  refine A_iconst dX3_follow_2 ⟨by decide, by decide⟩ ?_
  refine A_istore_n dX3_follow_3 rfl (Nat.le_of_ble_eq_true rfl) rfl ?_
  exact loop _ x 0 (Nat.lt_succ_self _) h0 h1 (by omega) (by omega) rfl
theorem C_followLabels {l : Int} {N : Nat} (hM : RO G) (hL : LI d N l) (hN : N ≤ 100) (hc : d 9 3 = N) (hl : d 9 5 = l) (hl2 : l ≤ 214) (hK : ∀ d', (∀ a, a ≠ 14 → a ≠ 15 → d' a = d a) → (∀ i : Int, 0 ≤ i → i < N → d' 14 i = lam d (d 14 i) ∧ d' 15 i = lam d (d 15 i)) → K none G d') : AM E mX3_followLabels (k + 1) 0 0 [kR 9] G d K := by
  obtain ⟨ho, -, -, -, -, ⟨e9, a9⟩, ⟨e10, a10⟩, -⟩ := id hM
  have loop : ∀ (f j : Nat), j + f = N → ∀ d', (∀ a, a ≠ 14 → a ≠ 15 → d' a = d a) → (∀ i : Int, 0 ≤ i → i < j → d' 14 i = lam d (d 14 i) ∧ d' 15 i = lam d (d 15 i)) → (∀ i : Int, (j : Int) ≤ i → d' 14 i = d 14 i ∧ d' 15 i = d 15 i) → AW E mX3_followLabels (k + 1) 0 0 2 [some (kR 9), some (kI j)] [] G d' K := by
    intro f
    induction f with
    | zero =>
      intro j hj d' ha h1 h2
      have x3 : d' 9 3 = N := by rw [ha 9 (by decide) (by decide)]; exact hc
      have : j = N := by omega
      subst this
      refine A_iload_n dX3_followLabels_2 rfl rfl ?_
      refine A_aload_n dX3_followLabels_3 rfl rfl ?_
      refine A_get (fi := 3) dX3_followLabels_4 fg_X3_22 rfl rfl (by assumption) ?_
      refine A_icmp_ge (tgt := 48) dX3_followLabels_7 (by decide) (fun c_7 => ?_) (fun c_7 => absurd c_7 (by omega))
      refine A_vret dX3_followLabels_48 rfl ?_
      exact hK d' ha h1
    | succ f ih =>
      intro j hj d' ha h1 h2
      have x3 : d' 9 3 = N := by rw [ha 9 (by decide) (by decide)]; exact hc
      have x5 : d' 9 5 = l := by rw [ha 9 (by decide) (by decide)]; exact hl
      have L0 : LI d' 0 l := ⟨fun i i1 i2 => by rw [ha 19 (by decide) (by decide)]; exact hL.1 i i1 i2, fun i i1 i2 => by omega⟩
      have hj7 := h2 j (Int.le_refl _)
      have lj := hL.2 j (by omega) (by omega)
      have lm : ∀ x, lam d' x = lam d x := lam_cg (ha 19 (by decide) (by decide)) (ha 20 (by decide) (by decide))
      have x8 : ∀ u, kU d' 14 j u 15 j = d 15 j := fun u => by rw [kU_ne (by decide)]; exact hj7.2
      have L1 : ∀ u, LI (kU d' 14 j u) 0 l := fun u => ⟨fun i i1 i2 => by rw [kU_ne (by decide)]; exact L0.1 i i1 i2, fun i i1 i2 => by omega⟩
      have lm1 : ∀ u x, lam (kU d' 14 j u) x = lam d x := fun u x => by rw [lam_cg (d := d') (kU_ne (by decide)) (kU_ne (by decide)), lm]
      refine A_iload_n dX3_followLabels_2 rfl rfl ?_
      refine A_aload_n dX3_followLabels_3 rfl rfl ?_
      refine A_get (fi := 3) dX3_followLabels_4 fg_X3_22 rfl rfl (by assumption) ?_
      refine A_icmp_ge (tgt := 48) dX3_followLabels_7 (by decide) (fun c_7 => absurd c_7 (by omega)) (fun c_7 => ?_)
      refine A_aload_n dX3_followLabels_10 rfl rfl ?_
      refine A_getR (fi := 9) dX3_followLabels_11 fg_X3_40 rfl rfl (by assumption) (by assumption) ?_
      refine A_iload_n dX3_followLabels_14 rfl rfl ?_
      refine A_aload_n dX3_followLabels_15 rfl rfl ?_
      refine A_aload_n dX3_followLabels_16 rfl rfl ?_
      refine A_getR (fi := 9) dX3_followLabels_17 fg_X3_40 rfl rfl (by assumption) (by assumption) ?_
      refine A_iload_n dX3_followLabels_20 rfl rfl ?_
      refine A_iald dX3_followLabels_21 (by assumption) (by omega) (by omega) ?_
      rw [hj7.1]
      refine A_inv1 dX3_followLabels_22 mv_X3_118 kCl_3 (Nat.le_of_ble_eq_true rfl) (by assumption) ?_
      refine C_follow hM L0 x5 hl2 lj.1.1 lj.1.2 ?_
      rw [lm]
      refine A_iast dX3_followLabels_25 (by assumption) (by omega) (by omega) ?_
      refine A_aload_n dX3_followLabels_26 rfl rfl ?_
      refine A_getR (fi := 10) dX3_followLabels_27 fg_X3_43 rfl rfl (by assumption) (by assumption) ?_
      refine A_iload_n dX3_followLabels_30 rfl rfl ?_
      refine A_aload_n dX3_followLabels_31 rfl rfl ?_
      refine A_aload_n dX3_followLabels_32 rfl rfl ?_
      refine A_getR (fi := 10) dX3_followLabels_33 fg_X3_43 rfl rfl (by assumption) (by assumption) ?_
      refine A_iload_n dX3_followLabels_36 rfl rfl ?_
      refine A_iald dX3_followLabels_37 (by assumption) (by omega) (by omega) ?_
      rw [x8]
      refine A_inv1 dX3_followLabels_38 mv_X3_118 kCl_3 (Nat.le_of_ble_eq_true rfl) (by assumption) ?_
      refine C_follow hM (L1 _) (by rw [kU_ne (by decide)]; exact x5) hl2 lj.2.1 lj.2.2 ?_
      rw [lm1]
      refine A_iast dX3_followLabels_41 (by assumption) (by omega) (by omega) ?_
      refine A_iinc_ok dX3_followLabels_42 rfl rfl (by omega) (by omega) ?_
      refine A_goto (tgt := 2) dX3_followLabels_45 (by decide) ?_
      refine ih (j + 1) (by omega) _ (fun a q1 q2 => by rw [kU_ne q2, kU_ne q1]; exact ha a q1 q2) (fun i i1 i2 => ?_) (fun i i1 => ?_)
      · by_cases q : i = j
        · subst q
          rw [kU_ne (by decide), kU_s, kU_s]
          exact ⟨rfl, rfl⟩
        · rw [kU_ne (by decide), kU_f q, kU_f q, kU_ne (by decide)]
          exact h1 i i1 (by omega)
      · rw [kU_ne (by decide), kU_f (by omega), kU_f (by omega), kU_ne (by decide)]
        exact h2 i (by omega)
  refine AM.of rfl (Nat.le_of_ble_eq_true rfl) ?_
  refine A_iconst dX3_followLabels_0 ⟨by decide, by decide⟩ ?_
  refine A_istore_n dX3_followLabels_1 rfl (Nat.le_of_ble_eq_true rfl) rfl ?_
  exact loop N 0 (by omega) d (fun _ _ _ => rfl) (fun i i1 i2 => by omega) (fun i _ => ⟨rfl, rfl⟩)
end RD6
