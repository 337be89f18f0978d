section R7
variable {E : EE} {k A : Nat} {G : HG} {d : HD} {K : PQ} {R : Int → Int}
theorem nfF_0 {x N : Int} : ∀ i : Nat, nfF R 0 x N i = x
  | 0 => rfl
  | i + 1 => by simp only [nfF]; rw [if_neg (fun z => z.1 rfl)]; exact nfF_0 i
theorem nfF_1 {nn x : Int} {N : Nat} (hn : nn ≠ 0) : ∀ i : Nat, i ≤ N → ((∀ c : Nat, N - i ≤ c → c < N → cfR R c 2 ≠ 0) ∧ nfF R nn x N i = x) ∨ ∃ c : Nat, N - i ≤ c ∧ c < N ∧ cfR R c 2 = 0 ∧ nfF R nn x N i = c ∧ ∀ e : Nat, N - i ≤ e → e < c → cfR R e 2 ≠ 0
  | 0, _ => Or.inl ⟨fun c h1 h2 => by omega, rfl⟩
  | i + 1, h => by
    have ec : (N : Int) - 1 - (i : Int) = ((N - 1 - i : Nat) : Int) := by omega
    simp only [nfF]
    rw [ec]
    by_cases q : cfR R ((N - 1 - i : Nat) : Int) 2 = 0
    · rw [if_pos ⟨hn, q⟩]
      exact Or.inr ⟨N - 1 - i, by omega, by omega, q, rfl, fun e h1 h2 => by omega⟩
    · rw [if_neg (fun z => q z.2)]
      rcases nfF_1 (x := x) (N := N) hn i (by omega) with ⟨h1, h2⟩ | ⟨c, c1, c2, c3, c4, c5⟩
      · refine Or.inl ⟨fun c d1 d2 => ?_, h2⟩
        by_cases z : c = N - 1 - i
        · subst z; exact q
        · exact h1 c (by omega) d2
      · refine Or.inr ⟨c, by omega, c2, c3, c4, fun e d1 d2 => ?_⟩
        by_cases z : e = N - 1 - i
        · subst z; exact q
        · exact c5 e (by omega) d2
theorem evnF_p : ∀ k : Nat, evnF R k ≠ 0 → ∀ c : Nat, c < k → 0 < cfR R c 2
  | 0, _, c, h => by omega
  | k + 1, hk, c, h => by
    simp only [evnF] at hk
    by_cases q : evnF R k ≠ 0 ∧ 0 < cfR R k 2 ∧ cfR R k 2 = cfR R 0 2
    · by_cases z : c = k
      · subst z; exact q.2.1
      · exact evnF_p k q.1 c (by omega)
    · rw [if_neg q] at hk; exact absurd rfl hk
theorem C_markFirst (hG : RG G A) (hV : CV d A R) (h2 : 0 ≤ R 2) (h22 : R 2 ≤ 12) (hp : ∀ c, 0 ≤ c → c < R 2 → 0 ≤ cfR R c 2 ∧ cfR R c 2 ≤ 9) (hK : ∀ d', CM d d' A → CV d' A (nfR R) → K none G d') : AM E mX4_markFirst (k + 1) 0 0 [kR A] G d K := by
  obtain ⟨ho, ⟨e7, a7⟩, -, -, -, -, -, -, -, hcar⟩ := id hG
  obtain ⟨N, hN⟩ : ∃ N : Nat, R 2 = N := ⟨(R 2).toNat, by omega⟩
  have eN : (R 2).toNat = N := by omega
  have n12 : nf1 R 2 = R 2 := by unfold nf1; split; (rw [fU_n (by omega)]); rfl
  have n1c : ∀ c, 0 ≤ c → cfR (nf1 R) c 2 = cfR R c 2 := fun c c1 => by unfold nf1 cfR; split; (rw [fU_n (by omega)]); rfl
  generalize htv : nfF R (nfN R) (nf1 R 4) (R 2) (R 2).toNat = tv
  have fin : ∀ d', CM d d' A → CV d' A (fU (nf1 R) 4 tv) → K none G d' := fun d' m v => hK d' m (by unfold nfR; rw [htv]; exact v)
  rw [eN, hN] at htv
  have TV1 : nf1 R 4 ≠ -4 → tv = nf1 R 4 := fun h => by
    have : nfN R = 0 := by unfold nfN; rw [if_neg (fun z => h z.1)]
    rw [this] at htv
    rw [← htv, nfF_0]
  have TV2 : nf1 R 4 = -4 → ((∀ c : Nat, c < N → cfR R c 2 ≠ 0) ∧ tv = -4) ∨ ∃ c : Nat, c < N ∧ cfR R c 2 = 0 ∧ tv = c ∧ ∀ e : Nat, e < c → cfR R e 2 ≠ 0 := fun h => by
    by_cases q : evnS R = 0
    · have : nfN R = 1 := by unfold nfN; rw [if_pos ⟨h, q⟩]
      rw [this] at htv
      rcases nfF_1 (R := R) (nn := 1) (x := nf1 R 4) (N := N) (by decide) N (Nat.le_refl _) with ⟨z1, z2⟩ | ⟨c, c1, c2, c3, c4, c5⟩
      · exact Or.inl ⟨fun c hc => z1 c (by omega) hc, by rw [← htv, z2, h]⟩
      · exact Or.inr ⟨c, c2, c3, by rw [← htv, c4], fun e he => c5 e (by omega) he⟩
    · have : nfN R = 0 := by unfold nfN; rw [if_neg (fun z => q z.2)]
      rw [this, nfF_0] at htv
      refine Or.inl ⟨fun c hc => ?_, by rw [← htv, h]⟩
      unfold evnS at q
      rw [eN] at q
      have := evnF_p N q c hc
      omega
  have id4 : ∀ v, fU (fU (nf1 R) 4 (-4)) 4 v = fU (nf1 R) 4 v := fun v => by funext z; unfold fU; split <;> rfl
  have loop : ∀ (f j : Nat), j + f = N → ∀ d', CM d d' A → CV d' A (fU (nf1 R) 4 (-4)) → nf1 R 4 = -4 → (∀ c : Nat, c < j → cfR R c 2 ≠ 0) → AW E mX4_markFirst (k + 1) 0 0 15 [some (kR A), some (kI j)] [] G d' K := by
    intro f
    induction f with
    | zero =>
      intro j hj d' hm hv h4 hz
      have v4 := hv.1.2.2.2.2.1
      rw [fU_n (by omega), n12, hN] at v4
      refine A_iload_n dX4_markFirst_15 rfl rfl ?_
      refine A_aload_n dX4_markFirst_16 rfl rfl ?_
      refine A_get (fi := 4) dX4_markFirst_17 fg_X4_24 rfl rfl (by assumption) ?_
      refine A_icmp_ge (tgt := 55) dX4_markFirst_20 (by decide) (fun c_20 => ?_) (fun c_20 => absurd c_20 (by omega))
      refine A_vret dX4_markFirst_55 rfl ?_
      refine fin d' hm ?_
      rcases TV2 h4 with ⟨t1, t2⟩ | ⟨c, c1, c2, c3, c4⟩
      · rw [t2]; exact hv
      · exact absurd c2 (hz c (by omega))
    | succ f ih =>
      intro j hj d' hm hv h4 hz
      have v4 := hv.1.2.2.2.2.1
      rw [fU_n (by omega), n12, hN] at v4
      have v3 := hv.1.2.2.2.1
      rw [fU_s] at v3
      obtain ⟨ej, oj, -, -⟩ := hcar j (by omega)
      have x2 : d' (A + 9 + 2 * j) 2 = cfR R j 2 := by
        rw [(hv.2.1 j (by rw [fU_n (by omega), n12]; omega)).1 2 (by omega) (by omega), ← n1c j (by omega)]
        unfold cfR
        rw [fU_n (by omega)]
      refine A_iload_n dX4_markFirst_15 rfl rfl ?_
      refine A_aload_n dX4_markFirst_16 rfl rfl ?_
      refine A_get (fi := 4) dX4_markFirst_17 fg_X4_24 rfl rfl (by assumption) ?_
      refine A_icmp_ge (tgt := 55) dX4_markFirst_20 (by decide) (fun c_20 => absurd c_20 (by omega)) (fun c_20 => ?_)
      refine A_aload_n dX4_markFirst_23 rfl rfl ?_
      refine A_get (fi := 3) dX4_markFirst_24 fg_X4_21 rfl rfl (by assumption) ?_
      refine A_bipush dX4_markFirst_27 ⟨by decide, by decide⟩ rfl ?_
      refine A_icmp_ne (tgt := 55) dX4_markFirst_29 (by decide) (fun c_29 => absurd c_29 (by omega)) (fun c_29 => ?_)
      refine A_aload_n dX4_markFirst_32 rfl rfl ?_
      refine A_getR (fi := 7) dX4_markFirst_33 fg_X4_35 rfl rfl (by assumption) (by assumption) ?_
      refine A_iload_n dX4_markFirst_36 rfl rfl ?_
      refine A_aald (t := 2) dX4_markFirst_37 (fun _ => rfl) (by decide) (by assumption) (by omega) (by omega) (by assumption) ?_
      refine A_get (fi := 2) dX4_markFirst_38 fg_X4_83 rfl rfl (by assumption) ?_
      refine A_if_ne (tgt := 49) dX4_markFirst_41 (by decide) (fun c_41 => ?_) (fun c_41 => ?_)
      · rw [x2] at c_41
        refine A_iinc_ok dX4_markFirst_49 rfl rfl (by omega) (by omega) ?_
        refine A_goto (tgt := 15) dX4_markFirst_52 (by decide) ?_
        exact ih (j + 1) (by omega) d' hm hv h4 (fun c hc => by
          by_cases q : c = j
          · subst q; exact c_41
          · exact hz c (by omega))
      · rw [x2] at c_41
        have tj : tv = j := by
          rcases TV2 h4 with ⟨t1, t2⟩ | ⟨c, c1, c2, c3, c4⟩
          · exact absurd c_41 (t1 j (by omega))
          · rw [c3]
            rcases Nat.lt_trichotomy c j with q | q | q
            · exact absurd c2 (hz c q)
            · rw [q]
            · exact absurd c_41 (c4 j q)
        have hv2 := hv.h (i := 3) (q := 4) (v := (j : Int)) (Or.inr (Or.inr ⟨rfl, rfl⟩))
        rw [id4, ← tj] at hv2
        have w4 := hv2.1.2.2.2.2.1
        rw [fU_n (by omega), n12, hN] at w4
        have w3 := hv2.1.2.2.2.1
        rw [fU_s, tj] at w3
        have hf := fin _ (hm.u (a := A) (i := 3) (v := tv) (by omega) (by omega)) hv2
        rw [tj] at hf w4
        refine A_aload_n dX4_markFirst_44 rfl rfl ?_
        refine A_iload_n dX4_markFirst_45 rfl rfl ?_
        refine A_put (fi := 3) dX4_markFirst_46 fp_X4_21 rfl rfl (by assumption) ?_
        refine A_iinc_ok dX4_markFirst_49 rfl rfl (by omega) (by omega) ?_
        refine A_goto (tgt := 15) dX4_markFirst_52 (by decide) ?_
        refine A_iload_n dX4_markFirst_15 rfl rfl ?_
        refine A_aload_n dX4_markFirst_16 rfl rfl ?_
        refine A_get (fi := 4) dX4_markFirst_17 fg_X4_24 rfl rfl (by assumption) ?_
        refine A_icmp_ge (tgt := 55) dX4_markFirst_20 (by decide) (fun c_20 => ?_) (fun c_20 => ?_)
        · refine A_vret dX4_markFirst_55 rfl ?_
          exact hf
        · refine A_aload_n dX4_markFirst_23 rfl rfl ?_
          refine A_get (fi := 3) dX4_markFirst_24 fg_X4_21 rfl rfl (by assumption) ?_
          refine A_bipush dX4_markFirst_27 ⟨by decide, by decide⟩ rfl ?_
          refine A_icmp_ne (tgt := 55) dX4_markFirst_29 (by decide) (fun c_29 => ?_) (fun c_29 => absurd c_29 (by omega))
          refine A_vret dX4_markFirst_55 rfl ?_
          exact hf
  have start : ∀ d', CM d d' A → CV d' A (nf1 R) → AW E mX4_markFirst (k + 1) 0 0 13 [some (kR A), none] [] G d' K := by
    intro d' hm hv
    have v4 := hv.1.2.2.2.2.1
    rw [n12, hN] at v4
    have v3 := hv.1.2.2.2.1
    have e4 : fU (nf1 R) 4 (nf1 R 4) = nf1 R := by funext z; unfold fU; split; (rename_i q; rw [q]); rfl
    by_cases h4 : nf1 R 4 = -4
    · rw [h4] at e4
      refine A_iconst dX4_markFirst_13 ⟨by decide, by decide⟩ ?_
      refine A_istore_n dX4_markFirst_14 rfl (Nat.le_of_ble_eq_true rfl) rfl ?_
      exact loop N 0 (by omega) d' hm (by rw [e4]; exact hv) h4 (fun c hc => by omega)
    · have hf := fin d' hm (by rw [TV1 h4, e4]; exact hv)
      refine A_iconst dX4_markFirst_13 ⟨by decide, by decide⟩ ?_
      refine A_istore_n dX4_markFirst_14 rfl (Nat.le_of_ble_eq_true rfl) rfl ?_
      refine A_iload_n dX4_markFirst_15 rfl rfl ?_
      refine A_aload_n dX4_markFirst_16 rfl rfl ?_
      refine A_get (fi := 4) dX4_markFirst_17 fg_X4_24 rfl rfl (by assumption) ?_
      refine A_icmp_ge (tgt := 55) dX4_markFirst_20 (by decide) (fun c_20 => ?_) (fun c_20 => ?_)
      · refine A_vret dX4_markFirst_55 rfl ?_
        exact hf
      · refine A_aload_n dX4_markFirst_23 rfl rfl ?_
        refine A_get (fi := 3) dX4_markFirst_24 fg_X4_21 rfl rfl (by assumption) ?_
        refine A_bipush dX4_markFirst_27 ⟨by decide, by decide⟩ rfl ?_
        refine A_icmp_ne (tgt := 55) dX4_markFirst_29 (by decide) (fun c_29 => ?_) (fun c_29 => absurd c_29 (by omega))
        refine A_vret dX4_markFirst_55 rfl ?_
        exact hf
  refine AM.of rfl (Nat.le_of_ble_eq_true rfl) ?_
  refine A_aload_n dX4_markFirst_0 rfl rfl ?_
  refine A_inv0 dX4_markFirst_1 mv_X4_161 kCl_4 (Nat.le_of_ble_eq_true rfl) (by assumption) ?_
  refine C_isEvenR hG hV.G h2 h22 hp ?_
  refine A_if_eq (tgt := 13) dX4_markFirst_4 (by decide) (fun c_4 => ?_) (fun c_4 => ?_)
  · skip
    have e : nf1 R = R := by unfold nf1; rw [if_neg (by omega)]
    rw [e] at start
    exact start d CM.rf hV
  · refine A_aload_n dX4_markFirst_7 rfl rfl ?_
    refine A_bipush dX4_markFirst_8 ⟨by decide, by decide⟩ rfl ?_
    refine A_put (fi := 3) dX4_markFirst_10 fp_X4_21 rfl rfl (by assumption) ?_
    have e : nf1 R = fU R 4 (-4) := by unfold nf1; rw [if_pos c_4]
    rw [e] at start
    exact start _ (CM.rf.u (by omega) (by omega)) (hV.h (Or.inr (Or.inr ⟨rfl, rfl⟩)))
end R7
