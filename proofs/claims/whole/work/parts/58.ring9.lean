section R9
variable {E : EE} {k A : Nat} {G : HG} {d : HD} {K : PQ} {R : Int → Int}
theorem C_changeLanes {wo : Int → Int} {B : Int} (hG : RG G A) (hV : CV d A R) (hW : WR R B) (hB : B ≤ 300000) (hwo : ∀ c : Nat, (c : Int) < R 2 → d (A + 9 + 2 * c) 15 = wo c) (hK : ∀ (d' : HD) (fl : Int), CM d d' A → CV d' A (lcF R wo (R 2).toNat) → (∀ e : Nat, e < 12 → ∀ w, 10 ≤ w → d' (A + 9 + 2 * e) w = d (A + 9 + 2 * e) w) → ((fl = 0 ∧ lcF R wo (R 2).toNat = R) ∨ fl = 1) → K (some (kI fl)) G d') : AM E mX4_changeLanes (k + 2) 0 0 [kR A] G d K := by
  obtain ⟨ho, ⟨e7, a7⟩, -, -, -, -, -, -, -, hcar⟩ := id hG
  obtain ⟨w0, w1, w2, w3, wc, wb, wp, wv, wd⟩ := id hW
  obtain ⟨N, hN⟩ : ∃ N : Nat, R 2 = N := ⟨(R 2).toNat, by omega⟩
  rw [show (R 2).toNat = N by omega] at hK
  have loop : ∀ (f j : Nat), j + f = N → ∀ (d' : HD) (fl : Int), CM d d' A → CV d' A (lcF R wo j) → (∀ e : Nat, e < 12 → ∀ w, 10 ≤ w → d' (A + 9 + 2 * e) w = d (A + 9 + 2 * e) w) → ((fl = 0 ∧ lcF R wo j = R) ∨ fl = 1) → ∀ q3 : Option AV, AW E mX4_changeLanes (k + 2) 0 0 4 [some (kR A), some (kI fl), some (kI j), q3] [] G d' K := by
    intro f
    induction f with
    | zero =>
      intro j hj d' fl hm hv hs hf q3
      have : j = N := by omega
      subst this
      have v4 := hv.1.2.2.2.2.1
      rw [lcF_at j 2 (by omega), hN] at v4
      have hf' : fl = 0 ∨ fl = 1 := by omega
      refine A_iload_n dX4_changeLanes_4 rfl rfl ?_
      refine A_aload_n dX4_changeLanes_5 rfl rfl ?_
      refine A_get (fi := 4) dX4_changeLanes_6 fg_X4_24 rfl rfl (by assumption) ?_
      refine A_icmp_ge (tgt := 62) dX4_changeLanes_9 (by decide) (fun c_9 => ?_) (fun c_9 => absurd c_9 (by omega))
      refine A_iload_n dX4_changeLanes_62 rfl rfl ?_
      refine A_zret dX4_changeLanes_63 rfl (by first | exact Or.inl rfl | exact Or.inr rfl | assumption | omega) ?_
      exact hK d' fl hm hv hs hf
    | succ f ih =>
      intro j hj d' fl hm hv hs hf q3
      have next := ih (j + 1) (by omega)
      have v4 := hv.1.2.2.2.2.1
      have l2 : lcF R wo j 2 = R 2 := lcF_at j 2 (by omega)
      have l5 : lcF R wo j 5 ≤ 4 := by rw [lcF_at j 5 (by omega)]; exact wb.2.1
      have l6 : lcF R wo j 6 ≤ 4 := by rw [lcF_at j 6 (by omega)]; exact wp.2.1
      rw [l2, hN] at v4
      obtain ⟨ej, oj, -, -⟩ := hcar j (by omega)
      obtain ⟨g1, g2, g3⟩ := lcF_w (wo := wo) hW j (by omega)
      have gj := g2 j (by omega) (by omega)
      have x15 : d' (A + 9 + 2 * j) 15 = wo j := by rw [hs j (by omega) 15 (by omega)]; exact hwo j (by omega)
      have x1 := (hv.2.1 j (by rw [l2]; omega)).1 1 (by omega) (by omega)
      have x6 := (hv.2.1 j (by rw [l2]; omega)).1 6 (by omega) (by omega)
      have y6 : ∀ u, kU d' (A + 9 + 2 * j) 1 u (A + 9 + 2 * j) 6 = cfR (lcF R wo j) j 6 := fun u => by rw [kU_f (by decide)]; exact x6
      refine A_iload_n dX4_changeLanes_4 rfl rfl ?_
      refine A_aload_n dX4_changeLanes_5 rfl rfl ?_
      refine A_get (fi := 4) dX4_changeLanes_6 fg_X4_24 rfl rfl (by assumption) ?_
      refine A_icmp_ge (tgt := 62) dX4_changeLanes_9 (by decide) (fun c_9 => absurd c_9 (by omega)) (fun c_9 => ?_)
      refine A_aload_n dX4_changeLanes_12 rfl rfl ?_
      refine A_getR (fi := 7) dX4_changeLanes_13 fg_X4_35 rfl rfl (by assumption) (by assumption) ?_
      refine A_iload_n dX4_changeLanes_16 rfl rfl ?_
      refine A_aald (t := 2) dX4_changeLanes_17 (fun _ => rfl) (by decide) (by assumption) (by omega) (by omega) (by assumption) ?_
      refine A_astore_n dX4_changeLanes_18 rfl (Nat.le_of_ble_eq_true rfl) rfl (by omega) ?_
      refine A_aload_n dX4_changeLanes_19 rfl rfl ?_
      refine A_get (fi := 15) dX4_changeLanes_20 fg_X4_146 rfl rfl (by assumption) ?_
      refine A_if_eq (tgt := 56) dX4_changeLanes_23 (by decide) (fun c_23 => ?_) (fun c_23 => ?_)
      · rw [x15] at c_23
        refine A_iinc_ok dX4_changeLanes_56 rfl rfl (by omega) (by omega) ?_
        refine A_goto (tgt := 4) dX4_changeLanes_59 (by decide) ?_
        have e : lcF R wo (j + 1) = lcF R wo j := by simp only [lcF]; rw [if_neg (fun z => z.1 c_23)]
        rw [e] at next
        exact next d' fl hm hv hs hf _
      · rw [x15] at c_23
        refine A_aload_n dX4_changeLanes_26 rfl rfl ?_
        refine A_aload_n dX4_changeLanes_27 rfl rfl ?_
        refine A_inv1 dX4_changeLanes_28 mv_X4_150 kCl_4 (Nat.le_of_ble_eq_true rfl) (by assumption) ?_
        refine C_hasRoomBeside hG hv.G g1 (by rw [l2]; omega) (fun c c1 c2 => by rw [l2] at c2; rw [lcF_c j c1 (by omega) (by omega) (by omega) (by omega)]; exact (wc c c1 c2).2.2.1) ?_
        refine A_if_eq (tgt := 56) dX4_changeLanes_31 (by decide) (fun c_31 => ?_) (fun c_31 => ?_)
        · refine A_iinc_ok dX4_changeLanes_56 rfl rfl (by omega) (by omega) ?_
          refine A_goto (tgt := 4) dX4_changeLanes_59 (by decide) ?_
          have e : lcF R wo (j + 1) = lcF R wo j := by simp only [lcF]; rw [if_neg (fun z => z.2 c_31)]
          rw [e] at next
          exact next d' fl hm hv hs hf _
        · refine A_aload_n dX4_changeLanes_34 rfl rfl ?_
          refine A_iconst dX4_changeLanes_35 ⟨by decide, by decide⟩ ?_
          refine A_aload_n dX4_changeLanes_36 rfl rfl ?_
          refine A_get (fi := 1) dX4_changeLanes_37 fg_X4_77 rfl rfl (by assumption) ?_
          rw [x1]
          refine A_isub_ok dX4_changeLanes_40 (by omega) (by omega) ?_
          refine A_put (fi := 1) dX4_changeLanes_41 fp_X4_77 rfl rfl (by assumption) ?_
          refine A_aload_n dX4_changeLanes_44 rfl rfl ?_
          refine A_dup dX4_changeLanes_45 (fun B => toV_cat B _) ?_
          refine A_get (fi := 6) dX4_changeLanes_46 fg_X4_153 rfl rfl (by assumption) ?_
          rw [y6]
          refine A_iconst dX4_changeLanes_49 ⟨by decide, by decide⟩ ?_
          refine A_iadd_ok dX4_changeLanes_50 (by omega) (by omega) ?_
          refine A_put (fi := 6) dX4_changeLanes_51 fp_X4_153 rfl rfl (by assumption) ?_
          refine A_iconst dX4_changeLanes_54 ⟨by decide, by decide⟩ ?_
          refine A_istore_n dX4_changeLanes_55 rfl (Nat.le_of_ble_eq_true rfl) rfl ?_
          refine A_iinc_ok dX4_changeLanes_56 rfl rfl (by omega) (by omega) ?_
          refine A_goto (tgt := 4) dX4_changeLanes_59 (by decide) ?_
          have e : lcF R wo (j + 1) = fU (fU (lcF R wo j) (340 + 24 * j + 1) (1 - cfR (lcF R wo j) j 1)) (340 + 24 * j + 6) (cfR (lcF R wo j) j 6 + 1) := by simp only [lcF]; rw [if_pos ⟨c_23, c_31⟩]
          rw [e] at next
          refine next _ 1 ((hm.u (by omega) (by omega)).u (by omega) (by omega)) ?_ (fun e' he w hw => ?_) (Or.inr rfl) _
          · exact (hv.w l5 l6 (by omega) (by omega)).w (by rw [fU_n (by omega)]; exact l5) (by rw [fU_n (by omega)]; exact l6) (by omega) (by omega)
          · unfold kU
            rw [if_neg (by omega), if_neg (by omega)]
            exact hs e' he w hw
  refine AM.of rfl (Nat.le_of_ble_eq_true rfl) ?_
  refine A_iconst dX4_changeLanes_0 ⟨by decide, by decide⟩ ?_
  refine A_istore_n dX4_changeLanes_1 rfl (Nat.le_of_ble_eq_true rfl) rfl ?_
  refine A_iconst dX4_changeLanes_2 ⟨by decide, by decide⟩ ?_
  refine A_istore_n dX4_changeLanes_3 rfl (Nat.le_of_ble_eq_true rfl) rfl ?_
  exact loop N 0 (by omega) d 0 CM.rf hV (fun _ _ _ _ => rfl) (Or.inl ⟨rfl, rfl⟩) none
end R9
