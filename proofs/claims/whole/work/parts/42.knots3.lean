/-- only what tells of knots has changed -/
def MK (d d' : HD) (m : Nat) : Prop := (∀ a, a ≠ m → a ≠ m + 13 → a ≠ m + 14 → d' a = d a) ∧ ∀ i, i ≠ 20 → d' m i = d m i
theorem MK.rf {d : HD} {m : Nat} : MK d d m := ⟨fun _ _ _ _ => rfl, fun _ _ => rfl⟩
theorem MK.tr {d d1 d2 : HD} {m : Nat} (h1 : MK d d1 m) (h2 : MK d1 d2 m) : MK d d2 m := ⟨fun a b c e => (h2.1 a b c e).trans (h1.1 a b c e), fun i h => (h2.2 i h).trans (h1.2 i h)⟩
theorem MK.MC {d d' : HD} {m : Nat} {r : Int} (h : MK d d' m) : MC d d' m r := ⟨fun a ha => h.1 a (by omega) (by omega) (by omega), h.2 3 (by decide), fun j _ => by rw [h.1 (m + 1) (by omega) (by omega) (by omega)]⟩
theorem MK.PZ {d d' : HD} {m : Nat} {r : Int} {R : Int → Int} (h : MK d d' m) (hR : PZ d m r R) : PZ d' m r R := fun j j1 j2 => by rw [h.1 (m + 1) (by omega) (by omega) (by omega)]; exact hR j j1 j2
theorem MK.a {d d' : HD} {m a : Nat} {i v : Int} (h : MK d d' m) (ha : a = m + 13 ∨ a = m + 14) : MK d (kU d' a i v) m := by
  refine ⟨fun b h1 h2 h3 => ?_, fun j hj => ?_⟩
  · rw [kU_ne (by omega)]; exact h.1 b h1 h2 h3
  · rw [kU_ne (by omega)]; exact h.2 j hj
theorem MK.f {d d' : HD} {m : Nat} {v : Int} (h : MK d d' m) : MK d (kU d' m 20 v) m := by
  refine ⟨fun b h1 h2 h3 => ?_, fun j hj => ?_⟩
  · rw [kU_ne h1]; exact h.1 b h1 h2 h3
  · rw [kU_f hj]; exact h.2 j hj
theorem key_inj {R : Int → Int} (hD : ND R) (hl : ∀ c, 0 ≤ c → c < R 2 → cfR R c 1 = 0 ∨ cfR R c 1 = 1) {a b : Int} (a1 : 0 ≤ a) (a2 : a < R 2) (b1 : 0 ≤ b) (b2 : b < R 2) (h : kyS R a = kyS R b) : a = b := by
  unfold kyS at h
  have la := hl a a1 a2
  have lb := hl b b1 b2
  by_cases q : a = b
  · exact q
  · exact absurd (by omega) (hD a b a1 a2 b1 b2 q (by omega))
def inN (h : Int → Int) (x : Int) : Nat → Bool
  | 0 => false
  | n + 1 => if h n = x then true else inN h x n
theorem inN_iff {h : Int → Int} {x : Int} : ∀ n : Nat, inN h x n = true ↔ ∃ i : Nat, i < n ∧ h i = x
  | 0 => ⟨fun z => (by cases z), fun ⟨i, h, _⟩ => (by omega)⟩
  | n + 1 => by
    simp only [inN]
    by_cases q : h n = x
    · rw [if_pos q]; exact ⟨fun _ => ⟨n, by omega, q⟩, fun _ => rfl⟩
    · rw [if_neg q, inN_iff n]
      exact ⟨fun ⟨i, i1, i2⟩ => ⟨i, by omega, i2⟩, fun ⟨i, i1, i2⟩ => by
        by_cases z : i = n
        · subst z; exact absurd i2 q
        · exact ⟨i, by omega, i2⟩⟩
theorem inN_ct {h : Int → Int} {N : Nat} : ∀ n : Nat, (∀ i : Nat, i < n → 0 ≤ h i ∧ h i < N) → (∀ i j : Nat, i < j → j < n → h i ≠ h j) → ctF (fun x => inN h x n = true) N = n
  | 0, _, _ => by
    have e : ∀ M : Nat, ctF (fun x => inN h x 0 = true) M = 0 := fun M => by
      induction M with
      | zero => rfl
      | succ M ih =>
        simp only [ctF]
        rw [ih, if_neg (by simp [inN])]
        rfl
    exact e N
  | n + 1, h1, h2 => by
    have ih := inN_ct (h := h) (N := N) n (fun i hi => h1 i (by omega)) (fun i j a b => h2 i j a (by omega))
    have hn := h1 n (by omega)
    have := ct_ins (p := fun x => inN h x n = true) (q := fun x => inN h x (n + 1) = true) (x := h n) (by
      rw [inN_iff]
      exact fun ⟨i, i1, i2⟩ => h2 i n i1 (by omega) i2) N hn.1 hn.2 (fun j hj => by
        simp only [inN]
        by_cases q : h n = j
        · rw [if_pos q]; exact ⟨fun _ => Or.inr q.symm, fun _ => rfl⟩
        · rw [if_neg q]; exact ⟨fun z => Or.inl z, fun z => by rcases z with z | z; (exact z); exact absurd z.symm q⟩)
    rw [this, ih]
    omega
/-- a car that leads none yet leaves room for one -/
theorem KS_lt {R : Int → Int} {P : Int → Prop} {n : Nat} {h s : Int → Int} {c : Int} (H : KS R P n h s) (hP : ∀ x, P x → 0 ≤ x ∧ x < R 2) (hc : 0 ≤ c) (hc2 : c < R 2) (hn : ¬ P c) : n < R 2 := by
  obtain ⟨a1, a2, a3⟩ := H
  have e := inN_ct (h := h) (N := (R 2).toNat) n (fun i hi => by have := hP _ (a1 i hi).1; omega) (fun i j z w y => by have := a2 i j z w; rw [y] at this; omega)
  have e2 := ct_ins (p := fun x => inN h x n = true) (q := fun x => inN h x n = true ∨ x = c) (x := c) (by
    rw [inN_iff]
    intro ⟨i, i1, i2⟩
    exact hn (by rw [← i2]; exact (a1 i i1).1)) (R 2).toNat hc (by omega) (fun j hj => Iff.rfl)
  have := (ct_rg (fun x => inN h x n = true ∨ x = c) (R 2).toNat).2
  omega
section K3
variable {E : EE} {k m : Nat} {G : HG} {d : HD} {K : PQ} {R : Int → Int}
theorem C_isSlow {r c : Int} (hM : MO G m) (hR : PZ d m r R) (h1 : 0 ≤ r) (h2 : r ≤ 4) (hc : 0 ≤ c) (hc2 : c < 12) (hK : K (some (kI (if cfR R c 2 < 2 then 1 else 0))) G d) : AM E mX7_isSlow (k + 1) 0 0 [kR m, kI r, kI c] G d K := by
  obtain ⟨ho, e0, a0, -⟩ := id hM
  refine AM.of rfl (Nat.le_of_ble_eq_true rfl) ?_
  refine A_aload_n dX7_isSlow_0 rfl rfl ?_
  refine A_iload_n dX7_isSlow_1 rfl rfl ?_
  refine A_iload_n dX7_isSlow_2 rfl rfl ?_
  refine A_iconst dX7_isSlow_3 ⟨by decide, by decide⟩ ?_
  refine A_inv3 dX7_isSlow_4 mv_X7_57 kCl_7 (Nat.le_of_ble_eq_true rfl) (by assumption) ?_
  refine C_of hM hR (by omega) (by omega) (by omega) (by omega) (by omega) (by omega) ?_
  refine A_iconst dX7_isSlow_7 ⟨by decide, by decide⟩ ?_
  refine A_icmp_ge (tgt := 15) dX7_isSlow_8 (by decide) (fun c_8 => ?_) (fun c_8 => ?_)
  · rw [if_neg (by omega)] at hK
    refine A_iconst dX7_isSlow_15 ⟨by decide, by decide⟩ ?_
    refine A_zret dX7_isSlow_16 rfl (by first | exact Or.inl rfl | exact Or.inr rfl | assumption | omega) ?_
    exact hK
  · rw [if_pos (by omega)] at hK
    refine A_iconst dX7_isSlow_11 ⟨by decide, by decide⟩ ?_
    refine A_goto (tgt := 16) dX7_isSlow_12 (by decide) ?_
    refine A_zret dX7_isSlow_16 rfl (by first | exact Or.inl rfl | exact Or.inr rfl | assumption | omega) ?_
    exact hK
theorem C_behind {r e : Int} (hM : MO G m) (hR : PZ d m r R) (h1 : 0 ≤ r) (h2 : r ≤ 4) (hW : WG R) (he : 0 ≤ e) (he2 : e < R 2) (hK : K (some (kI (bhS R e))) G d) : AM E mX7_behind (k + 2) 0 0 [kR m, kI r, kI e] G d K := by
  obtain ⟨ho, e0, a0, -⟩ := id hM
  obtain ⟨w1, w2, w3, w4, w5⟩ := id hW
  obtain ⟨N, hN⟩ : ∃ N : Nat, R 2 = N := ⟨(R 2).toNat, by omega⟩
  have eN : (R 2).toNat = N := by omega
  have z2 := hR 2 (by omega) (by omega)
  rw [hN] at z2
  unfold bhS at hK
  rw [eN] at hK
  generalize hv : bhF R e N 0 = v at *
  have loop : ∀ (f j : Nat), j + f = N → bhF R e f j = v → AW E mX7_behind (k + 2) 0 0 2 [some (kR m), some (kI r), some (kI e), some (kI j)] [] G d K := by
    intro f
    induction f with
    | zero =>
      intro j hj h
      simp only [bhF] at h
      refine A_iload_n dX7_behind_2 rfl rfl ?_
      refine A_aload_n dX7_behind_3 rfl rfl ?_
      refine A_getR (fi := 0) dX7_behind_4 fg_X7_7 rfl rfl (by assumption) (by assumption) ?_
      refine A_sipush dX7_behind_7 ⟨by decide, by decide⟩ rfl ?_
      refine A_iload_n dX7_behind_10 rfl rfl ?_
      refine A_imul_ok dX7_behind_11 (by omega) (by omega) ?_
      refine A_iconst dX7_behind_12 ⟨by decide, by decide⟩ ?_
      refine A_iadd_ok dX7_behind_13 (by omega) (by omega) ?_
      refine A_iald dX7_behind_14 (by assumption) (by omega) (by omega) ?_
      refine A_icmp_ge (tgt := 53) dX7_behind_15 (by decide) (fun c_15 => ?_) (fun c_15 => absurd c_15 (by omega))
      refine A_iload_n dX7_behind_53 rfl rfl ?_
      refine A_iret dX7_behind_54 rfl ?_
      rw [← h] at hK
      exact hK
    | succ f ih =>
      intro j hj h
      simp only [bhF] at h
      refine A_iload_n dX7_behind_2 rfl rfl ?_
      refine A_aload_n dX7_behind_3 rfl rfl ?_
      refine A_getR (fi := 0) dX7_behind_4 fg_X7_7 rfl rfl (by assumption) (by assumption) ?_
      refine A_sipush dX7_behind_7 ⟨by decide, by decide⟩ rfl ?_
      refine A_iload_n dX7_behind_10 rfl rfl ?_
      refine A_imul_ok dX7_behind_11 (by omega) (by omega) ?_
      refine A_iconst dX7_behind_12 ⟨by decide, by decide⟩ ?_
      refine A_iadd_ok dX7_behind_13 (by omega) (by omega) ?_
      refine A_iald dX7_behind_14 (by assumption) (by omega) (by omega) ?_
      refine A_icmp_ge (tgt := 53) dX7_behind_15 (by decide) (fun c_15 => absurd c_15 (by omega)) (fun c_15 => ?_)
      refine A_aload_n dX7_behind_18 rfl rfl ?_
      refine A_iload_n dX7_behind_19 rfl rfl ?_
      refine A_iload_n dX7_behind_20 rfl rfl ?_
      refine A_iconst dX7_behind_21 ⟨by decide, by decide⟩ ?_
      refine A_inv3 dX7_behind_22 mv_X7_57 kCl_7 (Nat.le_of_ble_eq_true rfl) (by assumption) ?_
      refine C_of hM hR (by omega) (by omega) (by omega) (by omega) (by omega) (by omega) ?_
      refine A_aload_n dX7_behind_25 rfl rfl ?_
      refine A_iload_n dX7_behind_26 rfl rfl ?_
      refine A_iload_n dX7_behind_27 rfl rfl ?_
      refine A_iconst dX7_behind_28 ⟨by decide, by decide⟩ ?_
      refine A_inv3 dX7_behind_29 mv_X7_57 kCl_7 (Nat.le_of_ble_eq_true rfl) (by assumption) ?_
      refine C_of hM hR (by omega) (by omega) (by omega) (by omega) (by omega) (by omega) ?_
      refine A_icmp_ne (tgt := 47) dX7_behind_32 (by decide) (fun c_32 => ?_) (fun c_32 => ?_)
      · refine A_iinc_ok dX7_behind_47 rfl rfl (by omega) (by omega) ?_
        refine A_goto (tgt := 2) dX7_behind_50 (by decide) ?_
        rw [if_neg (by omega)] at h
        exact ih (j + 1) (by omega) h
      · refine A_aload_n dX7_behind_35 rfl rfl ?_
        refine A_iload_n dX7_behind_36 rfl rfl ?_
        refine A_iload_n dX7_behind_37 rfl rfl ?_
        refine A_inv2 dX7_behind_38 mv_X7_64 kCl_7 (Nat.le_of_ble_eq_true rfl) (by assumption) ?_
        refine C_ahead hM hR h1 h2 hW (by omega) (by omega) ?_
        refine A_iload_n dX7_behind_41 rfl rfl ?_
        refine A_icmp_ne (tgt := 47) dX7_behind_42 (by decide) (fun c_42 => ?_) (fun c_42 => ?_)
        · refine A_iinc_ok dX7_behind_47 rfl rfl (by omega) (by omega) ?_
          refine A_goto (tgt := 2) dX7_behind_50 (by decide) ?_
          rw [if_neg (fun z => c_42 z.2)] at h
          exact ih (j + 1) (by omega) h
        · refine A_iload_n dX7_behind_45 rfl rfl ?_
          refine A_iret dX7_behind_46 rfl ?_
          rw [if_pos ⟨c_32, c_42⟩] at h
          rw [← h] at hK
          exact hK
  refine AM.of rfl (Nat.le_of_ble_eq_true rfl) ?_
  refine A_iconst dX7_behind_0 ⟨by decide, by decide⟩ ?_
  refine A_istore_n dX7_behind_1 rfl (Nat.le_of_ble_eq_true rfl) rfl ?_
  exact loop N 0 (by omega) hv
theorem C_addKnot {r c many : Int} {n : Nat} {P Q : Int → Prop} (hM : MO G m) (hR : PZ d m r R) (h1 : 0 ≤ r) (h2 : r ≤ 4) (hW : WG R) (hD : ND R) (hl : ∀ c, 0 ≤ c → c < R 2 → cfR R c 1 = 0 ∨ cfR R c 1 = 1) (hn : d m 20 = n) (H : KS R P n (d (m + 13)) (d (m + 14))) (hP : ∀ x, P x → 0 ≤ x ∧ x < R 2) (hc : 0 ≤ c) (hc2 : c < R 2) (hcP : ¬ P c) (hQ : ∀ x, Q x ↔ (P x ∨ x = c)) (hm : many = szS R c) (hK : ∀ d', MK d d' m → d' m 20 = ((n + 1 : Nat) : Int) → KS R Q (n + 1) (d' (m + 13)) (d' (m + 14)) → K none G d') : AM E mX7_addKnot (k + 1) 0 0 [kR m, kI r, kI c, kI many] G d K := by
  obtain ⟨ho, e0, a0, e1, a1, e2, a2, e4, a4, e5, a5, e6, a6, e7, a7, e8, a8, e9, a9, e13, a13, e14, a14, e15, a15, e18, a18, e19, a19⟩ := id hM
  obtain ⟨w1, w2, w3, w4, w5⟩ := id hW
  have lt := KS_lt H hP hc hc2 hcP
  obtain ⟨b1, b2, b3⟩ := id H
  have wc := w5 c hc hc2
  have lnc := hl c hc hc2
  have car : ∀ i : Nat, i < n → (0 ≤ d (m + 13) i ∧ d (m + 13) i < R 2) ∧ kyS R (d (m + 13) i) ≠ kyS R c := fun i hi => by
    have p := (b1 i hi).1
    have q := hP _ p
    exact ⟨q, fun z => hcP (by rw [← key_inj hD hl q.1 q.2 hc hc2 z]; exact p)⟩
  have fin : ∀ (j : Nat), j ≤ n → ∀ d', MK d d' m → d' m 20 = n → (∀ i : Nat, i < j → d' (m + 13) i = d (m + 13) i ∧ d' (m + 14) i = d (m + 14) i) → (∀ i : Nat, j ≤ i → i < n → d' (m + 13) ((i + 1 : Nat) : Int) = d (m + 13) i ∧ d' (m + 14) ((i + 1 : Nat) : Int) = d (m + 14) i) → (∀ i : Nat, j ≤ i → i < n → kyS R c < kyS R (d (m + 13) i)) → (∀ i : Nat, i < j → kyS R (d (m + 13) i) < kyS R c) → AW E mX7_addKnot (k + 1) 0 0 106 [some (kR m), some (kI r), some (kI c), some (kI many), some (kI j), some (kI (kyS R c))] [] G d' K := by
    intro j hj d' hc' h20 lo hi hg hlo
    have v20 : ∀ u w, kU (kU d' (m + 13) j u) (m + 14) j w m 20 = n := fun u w => by rw [kU_ne (by omega), kU_ne (by omega)]; exact h20
    refine A_aload_n dX7_addKnot_106 rfl rfl ?_
    refine A_getR (fi := 18) dX7_addKnot_107 fg_X7_47 rfl rfl (by assumption) (by assumption) ?_
    refine A_iload dX7_addKnot_110 rfl ?_
    refine A_iload_n dX7_addKnot_112 rfl rfl ?_
    refine A_iast dX7_addKnot_113 (by assumption) (by omega) (by omega) ?_
    refine A_aload_n dX7_addKnot_114 rfl rfl ?_
    refine A_getR (fi := 19) dX7_addKnot_115 fg_X7_50 rfl rfl (by assumption) (by assumption) ?_
    refine A_iload dX7_addKnot_118 rfl ?_
    refine A_iload_n dX7_addKnot_120 rfl rfl ?_
    refine A_iast dX7_addKnot_121 (by assumption) (by omega) (by omega) ?_
    refine A_aload_n dX7_addKnot_122 rfl rfl ?_
    refine A_dup dX7_addKnot_123 (fun B => toV_cat B _) ?_
    refine A_get (fi := 20) dX7_addKnot_124 fg_X7_203 rfl rfl (by assumption) ?_
    rw [v20]
    refine A_iconst dX7_addKnot_127 ⟨by decide, by decide⟩ ?_
    refine A_iadd_ok dX7_addKnot_128 (by omega) (by omega) ?_
    refine A_put (fi := 20) dX7_addKnot_129 fp_X7_203 rfl rfl (by assumption) ?_
    refine A_vret dX7_addKnot_132 rfl ?_
    refine hK _ (MK.f (MK.a (MK.a hc' (Or.inl rfl)) (Or.inr rfl))) (by rw [kU_s]; omega) ?_
    refine KS_ins H hj hlo hg (fun i hi' => ?_) ?_ (fun i i1 i2 => ?_) hQ
    · rw [kU_ne (by omega), kU_ne (by omega), kU_f (by omega), kU_ne (by omega), kU_f (by omega), kU_ne (by omega)]
      exact lo i hi'
    · rw [kU_ne (by omega), kU_ne (by omega), kU_s, kU_ne (by omega), kU_s]
      exact ⟨rfl, hm⟩
    · rw [kU_ne (by omega), kU_ne (by omega), kU_f (by omega), kU_ne (by omega), kU_f (by omega), kU_ne (by omega)]
      exact hi i i1 i2
  have loop : ∀ (j : Nat), j ≤ n → ∀ d', MK d d' m → d' m 20 = n → (∀ i : Nat, i < j → d' (m + 13) i = d (m + 13) i ∧ d' (m + 14) i = d (m + 14) i) → (∀ i : Nat, j ≤ i → i < n → d' (m + 13) ((i + 1 : Nat) : Int) = d (m + 13) i ∧ d' (m + 14) ((i + 1 : Nat) : Int) = d (m + 14) i) → (∀ i : Nat, j ≤ i → i < n → kyS R c < kyS R (d (m + 13) i)) → AW E mX7_addKnot (k + 1) 0 0 25 [some (kR m), some (kI r), some (kI c), some (kI many), some (kI j), some (kI (kyS R c))] [] G d' K := by
    intro j
    induction j with
    | zero =>
      intro hj d' hc' h20 lo hi hg
      refine A_iload dX7_addKnot_25 rfl ?_
      refine A_if_le (tgt := 106) dX7_addKnot_27 (by decide) (fun c_27 => ?_) (fun c_27 => absurd c_27 (by omega))
      exact fin 0 hj d' hc' h20 lo hi hg (fun i hi' => by omega)
    | succ j ih =>
      intro hj d' hc' h20 lo hi hg
      have cj := car j (by omega)
      have hz := hc'.PZ hR
      have v : d' (m + 13) (((j + 1 : Nat) : Int) - 1) = d (m + 13) j := by
        rw [show ((j + 1 : Nat) : Int) - 1 = j by omega]; exact (lo j (by omega)).1
      have v2 : d' (m + 14) (((j + 1 : Nat) : Int) - 1) = d (m + 14) j := by
        rw [show ((j + 1 : Nat) : Int) - 1 = j by omega]; exact (lo j (by omega)).2
      have v3 : ∀ u, kU d' (m + 13) ((j + 1 : Nat) : Int) u (m + 14) (((j + 1 : Nat) : Int) - 1) = d (m + 14) j := fun u => by
        rw [kU_ne (by omega)]; exact v2
      have ch := w5 _ cj.1.1 cj.1.2
      have lh := hl _ cj.1.1 cj.1.2
      generalize hx : d (m + 13) j = x at *
      have ky : kyS R x = 2 * cfR R x 0 + cfR R x 1 := rfl
      have kc : kyS R c = 2 * cfR R c 0 + cfR R c 1 := rfl
      refine A_iload dX7_addKnot_25 rfl ?_
      refine A_if_le (tgt := 106) dX7_addKnot_27 (by decide) (fun c_27 => absurd c_27 (by omega)) (fun c_27 => ?_)
      refine A_iconst dX7_addKnot_30 ⟨by decide, by decide⟩ ?_
      refine A_aload_n dX7_addKnot_31 rfl rfl ?_
      refine A_iload_n dX7_addKnot_32 rfl rfl ?_
      refine A_aload_n dX7_addKnot_33 rfl rfl ?_
      refine A_getR (fi := 18) dX7_addKnot_34 fg_X7_47 rfl rfl (by assumption) (by assumption) ?_
      refine A_iload dX7_addKnot_37 rfl ?_
      refine A_iconst dX7_addKnot_39 ⟨by decide, by decide⟩ ?_
      refine A_isub_ok dX7_addKnot_40 (by omega) (by omega) ?_
      refine A_iald dX7_addKnot_41 (by assumption) (by omega) (by omega) ?_
      rw [v]
      refine A_iconst dX7_addKnot_42 ⟨by decide, by decide⟩ ?_
      refine A_inv3 dX7_addKnot_43 mv_X7_57 kCl_7 (Nat.le_of_ble_eq_true rfl) (by assumption) ?_
      refine C_of hM hz (by omega) (by omega) (by omega) (by omega) (by omega) (by omega) ?_
      refine A_imul_ok dX7_addKnot_46 (by omega) (by omega) ?_
      refine A_aload_n dX7_addKnot_47 rfl rfl ?_
      refine A_iload_n dX7_addKnot_48 rfl rfl ?_
      refine A_aload_n dX7_addKnot_49 rfl rfl ?_
      refine A_getR (fi := 18) dX7_addKnot_50 fg_X7_47 rfl rfl (by assumption) (by assumption) ?_
      refine A_iload dX7_addKnot_53 rfl ?_
      refine A_iconst dX7_addKnot_55 ⟨by decide, by decide⟩ ?_
      refine A_isub_ok dX7_addKnot_56 (by omega) (by omega) ?_
      refine A_iald dX7_addKnot_57 (by assumption) (by omega) (by omega) ?_
      rw [v]
      refine A_iconst dX7_addKnot_58 ⟨by decide, by decide⟩ ?_
      refine A_inv3 dX7_addKnot_59 mv_X7_57 kCl_7 (Nat.le_of_ble_eq_true rfl) (by assumption) ?_
      refine C_of hM hz (by omega) (by omega) (by omega) (by omega) (by omega) (by omega) ?_
      refine A_iadd_ok dX7_addKnot_62 (by omega) (by omega) ?_
      refine A_iload dX7_addKnot_63 rfl ?_
      refine A_icmp_le (tgt := 106) dX7_addKnot_65 (by decide) (fun c_65 => ?_) (fun c_65 => ?_)
      · skip
        refine fin (j + 1) hj d' hc' h20 lo hi hg (fun i i1 => ?_)
        by_cases q : i = j
        · subst q; rw [hx]; omega
        · have := b2 i j (by omega) (by omega)
          rw [hx] at this
          omega
      · refine A_aload_n dX7_addKnot_68 rfl rfl ?_
        refine A_getR (fi := 18) dX7_addKnot_69 fg_X7_47 rfl rfl (by assumption) (by assumption) ?_
        refine A_iload dX7_addKnot_72 rfl ?_
        refine A_aload_n dX7_addKnot_74 rfl rfl ?_
        refine A_getR (fi := 18) dX7_addKnot_75 fg_X7_47 rfl rfl (by assumption) (by assumption) ?_
        refine A_iload dX7_addKnot_78 rfl ?_
        refine A_iconst dX7_addKnot_80 ⟨by decide, by decide⟩ ?_
        refine A_isub_ok dX7_addKnot_81 (by omega) (by omega) ?_
        refine A_iald dX7_addKnot_82 (by assumption) (by omega) (by omega) ?_
        rw [v]
        refine A_iast dX7_addKnot_83 (by assumption) (by omega) (by omega) ?_
        refine A_aload_n dX7_addKnot_84 rfl rfl ?_
        refine A_getR (fi := 19) dX7_addKnot_85 fg_X7_50 rfl rfl (by assumption) (by assumption) ?_
        refine A_iload dX7_addKnot_88 rfl ?_
        refine A_aload_n dX7_addKnot_90 rfl rfl ?_
        refine A_getR (fi := 19) dX7_addKnot_91 fg_X7_50 rfl rfl (by assumption) (by assumption) ?_
        refine A_iload dX7_addKnot_94 rfl ?_
        refine A_iconst dX7_addKnot_96 ⟨by decide, by decide⟩ ?_
        refine A_isub_ok dX7_addKnot_97 (by omega) (by omega) ?_
        refine A_iald dX7_addKnot_98 (by assumption) (by omega) (by omega) ?_
        rw [v3]
        refine A_iast dX7_addKnot_99 (by assumption) (by omega) (by omega) ?_
        refine A_iinc_ok dX7_addKnot_100 rfl rfl (by omega) (by omega) ?_
        refine A_goto (tgt := 25) dX7_addKnot_103 (by decide) ?_
        rw [show ((j + 1 : Nat) : Int) + -1 = j by omega]
        refine ih (by omega) _ (MK.a (MK.a hc' (Or.inl rfl)) (Or.inr rfl)) (by rw [kU_ne (by omega), kU_ne (by omega)]; exact h20) (fun i i1 => ?_) (fun i i1 i2 => ?_) (fun i i1 i2 => ?_)
        · rw [kU_ne (by omega), kU_f (by omega), kU_f (by omega), kU_ne (by omega)]
          exact lo i (by omega)
        · by_cases q : i = j
          · subst q
            rw [kU_ne (by omega), kU_s, kU_s, hx]
            exact ⟨rfl, rfl⟩
          · rw [kU_ne (by omega), kU_f (by omega), kU_f (by omega), kU_ne (by omega)]
            exact hi i (by omega) i2
        · by_cases q : i = j
          · subst q; rw [hx]; omega
          · exact hg i (by omega) i2
  refine AM.of rfl (Nat.le_of_ble_eq_true rfl) ?_
  refine A_aload_n dX7_addKnot_0 rfl rfl ?_
  refine A_get (fi := 20) dX7_addKnot_1 fg_X7_203 rfl rfl (by assumption) ?_
  rw [hn]
  refine A_istore dX7_addKnot_4 (Nat.le_of_ble_eq_true rfl) rfl ?_
  refine A_iconst dX7_addKnot_6 ⟨by decide, by decide⟩ ?_
  refine A_aload_n dX7_addKnot_7 rfl rfl ?_
  refine A_iload_n dX7_addKnot_8 rfl rfl ?_
  refine A_iload_n dX7_addKnot_9 rfl rfl ?_
  refine A_iconst dX7_addKnot_10 ⟨by decide, by decide⟩ ?_
  refine A_inv3 dX7_addKnot_11 mv_X7_57 kCl_7 (Nat.le_of_ble_eq_true rfl) (by assumption) ?_
  refine C_of hM hR (by omega) (by omega) (by omega) (by omega) (by omega) (by omega) ?_
  refine A_imul_ok dX7_addKnot_14 (by omega) (by omega) ?_
  refine A_aload_n dX7_addKnot_15 rfl rfl ?_
  refine A_iload_n dX7_addKnot_16 rfl rfl ?_
  refine A_iload_n dX7_addKnot_17 rfl rfl ?_
  refine A_iconst dX7_addKnot_18 ⟨by decide, by decide⟩ ?_
  refine A_inv3 dX7_addKnot_19 mv_X7_57 kCl_7 (Nat.le_of_ble_eq_true rfl) (by assumption) ?_
  refine C_of hM hR (by omega) (by omega) (by omega) (by omega) (by omega) (by omega) ?_
  refine A_iadd_ok dX7_addKnot_22 (by omega) (by omega) ?_
  refine A_istore dX7_addKnot_23 (Nat.le_of_ble_eq_true rfl) rfl ?_
  exact loop n (Nat.le_refl _) d MK.rf hn (fun i hi => ⟨rfl, rfl⟩) (fun i i1 i2 => by omega) (fun i i1 i2 => by omega)
end K3
