/-! a Habit object: what it answers -/
def HO (G : HG) (d : HD) (H N C : Nat) : Prop := (isO G H 1 ∧ d H 0 = C ∧ N ≤ 100 ∧ C ≤ 6) ∧ (G.2.2 H 1 = H + 1 ∧ isA G (H + 1) 8 N) ∧ (G.2.2 H 2 = H + 2 ∧ isA G (H + 2) 8 N) ∧ (G.2.2 H 3 = H + 3 ∧ isA G (H + 3) 8 N) ∧ (G.2.2 H 4 = H + 4 ∧ isA G (H + 4) 8 N) ∧ (G.2.2 H 5 = H + 5 ∧ isA G (H + 5) 8 N) ∧ (G.2.2 H 6 = H + 6 ∧ isA G (H + 6) 8 C) ∧ (G.2.2 H 7 = H + 7 ∧ isA G (H + 7) 8 C) ∧ (G.2.2 H 8 = H + 8 ∧ isA G (H + 8) 8 C)
def vlS (s g dd oo v : Int) : Int := if s = 103 then g else if s = 100 then dd else if s = 111 then oo else v
def soS (x rel n : Int) : Int := if rel = 60 then (if x < n then 1 else 0) else if rel = 62 then (if n < x then 1 else 0) else if rel = 61 then (if x = n then 1 else 0) else 1
def chF (d : HD) (H N : Nat) (g dd oo v : Int) : Nat → Int → Int
  | 0, x => x
  | f + 1, x => if 0 ≤ x ∧ x < N then chF d H N g dd oo v f (if soS (vlS (d (H + 1) x) g dd oo v) (d (H + 2) x) (d (H + 3) x) ≠ 0 then d (H + 4) x else d (H + 5) x) else x
def chA (d : HD) (H N : Nat) (g dd oo v : Int) : Int := if chF d H N g dd oo v N 0 < 0 then -1 - chF d H N g dd oo v N 0 else -4
section H1
variable {E : EE} {k H N C : Nat} {G : HG} {d : HD} {K : PQ}
theorem C_isSo {x rel n : Int} (hK : K (some (kI (soS x rel n))) G d) : AM E mX1_isSo k 0 0 [kI x, kI rel, kI n] G d K := by
  unfold soS at hK
  refine AM.of rfl (Nat.le_of_ble_eq_true rfl) ?_
  refine A_iload_n dX1_isSo_0 rfl rfl ?_
  -- switch at 1: .tableswitch 60 60 62 #[27, 49, 38]
  by_cases h : rel < 60 ∨ 62 < rel
  · refine A_tsO (tgt := 61) dX1_isSo_1 (by decide) h ?_
    rw [if_neg (by omega), if_neg (by omega), if_neg (by omega)] at hK
    refine A_iconst dX1_isSo_61 ⟨by decide, by decide⟩ ?_
    refine A_zret dX1_isSo_62 rfl (by first | exact Or.inl rfl | exact Or.inr rfl | assumption | omega) ?_
    exact hK
  · rcases (show rel = 60 ∨ rel = 61 ∨ rel = 62 by omega) with rfl | rfl | rfl
    · refine A_tsI (tgt := 28) dX1_isSo_1 (by omega) (by omega) rfl (by decide) ?_
      rw [if_pos rfl] at hK
      refine A_iload_n dX1_isSo_28 rfl rfl ?_
      refine A_iload_n dX1_isSo_29 rfl rfl ?_
      refine A_icmp_ge (tgt := 37) dX1_isSo_30 (by decide) (fun c_30 => ?_) (fun c_30 => ?_)
      · rw [if_neg (by omega)] at hK
        refine A_iconst dX1_isSo_37 ⟨by decide, by decide⟩ ?_
        refine A_zret dX1_isSo_38 rfl (by first | exact Or.inl rfl | exact Or.inr rfl | assumption | omega) ?_
        exact hK
      · rw [if_pos (by omega)] at hK
        refine A_iconst dX1_isSo_33 ⟨by decide, by decide⟩ ?_
        refine A_goto (tgt := 38) dX1_isSo_34 (by decide) ?_
        refine A_zret dX1_isSo_38 rfl (by first | exact Or.inl rfl | exact Or.inr rfl | assumption | omega) ?_
        exact hK
    · refine A_tsI (tgt := 50) dX1_isSo_1 (by omega) (by omega) rfl (by decide) ?_
      rw [if_neg (by decide), if_neg (by decide), if_pos rfl] at hK
      refine A_iload_n dX1_isSo_50 rfl rfl ?_
      refine A_iload_n dX1_isSo_51 rfl rfl ?_
      refine A_icmp_ne (tgt := 59) dX1_isSo_52 (by decide) (fun c_52 => ?_) (fun c_52 => ?_)
      · rw [if_neg (by omega)] at hK
        refine A_iconst dX1_isSo_59 ⟨by decide, by decide⟩ ?_
        refine A_zret dX1_isSo_60 rfl (by first | exact Or.inl rfl | exact Or.inr rfl | assumption | omega) ?_
        exact hK
      · rw [if_pos (by omega)] at hK
        refine A_iconst dX1_isSo_55 ⟨by decide, by decide⟩ ?_
        refine A_goto (tgt := 60) dX1_isSo_56 (by decide) ?_
        refine A_zret dX1_isSo_60 rfl (by first | exact Or.inl rfl | exact Or.inr rfl | assumption | omega) ?_
        exact hK
    · refine A_tsI (tgt := 39) dX1_isSo_1 (by omega) (by omega) rfl (by decide) ?_
      rw [if_neg (by decide), if_pos rfl] at hK
      refine A_iload_n dX1_isSo_39 rfl rfl ?_
      refine A_iload_n dX1_isSo_40 rfl rfl ?_
      refine A_icmp_le (tgt := 48) dX1_isSo_41 (by decide) (fun c_41 => ?_) (fun c_41 => ?_)
      · rw [if_neg (by omega)] at hK
        refine A_iconst dX1_isSo_48 ⟨by decide, by decide⟩ ?_
        refine A_zret dX1_isSo_49 rfl (by first | exact Or.inl rfl | exact Or.inr rfl | assumption | omega) ?_
        exact hK
      · rw [if_pos (by omega)] at hK
        refine A_iconst dX1_isSo_44 ⟨by decide, by decide⟩ ?_
        refine A_goto (tgt := 49) dX1_isSo_45 (by decide) ?_
        refine A_zret dX1_isSo_49 rfl (by first | exact Or.inl rfl | exact Or.inr rfl | assumption | omega) ?_
        exact hK
end H1
