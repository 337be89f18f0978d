theorem csF_rg {t : Int → Int} {n : Int} : ∀ (f : Nat) (c p : Int), 0 ≤ p → p ≤ n → 0 ≤ c → (c + f = 6) → (0 ≤ (csF t n f c p).2 ∧ (csF t n f c p).2 ≤ n) ∧ ((csF t n f c p).1 = -1 ∨ (1 ≤ (csF t n f c p).1 ∧ (csF t n f c p).1 ≤ 6))
  | 0, c, p, h0, h1, _, _ => ⟨⟨h0, h1⟩, Or.inl rfl⟩
  | f + 1, c, p, h0, h1, hc, hf => by
    have tl := tE_le (t := t) (n := n) _ false 0 p (Nat.lt_succ_self _) h1
    have al := acP_rg (t := t) (n := n) (p := (tE t n false 0 p).2) tl.2.1
    have g3 := sk_ge (t := t) (n := n) (acP t n (tE t n false 0 p).2).2
    have l3 := sk_le (t := t) (n := n) (p := (acP t n (tE t n false 0 p).2).2) (by omega)
    simp only [csF]
    split
    · exact ⟨⟨by show 0 ≤ (tE t n false 0 p).2; omega, by show (tE t n false 0 p).2 ≤ n; omega⟩, Or.inl rfl⟩
    · split
      · exact ⟨⟨by show 0 ≤ (acP t n (tE t n false 0 p).2).2; omega, al.2⟩, Or.inl rfl⟩
      · split
        · exact ⟨⟨by show 0 ≤ sk t n (acP t n (tE t n false 0 p).2).2; omega, l3⟩, Or.inr ⟨by show 1 ≤ c + 1; omega, by show c + 1 ≤ 6; omega⟩⟩
        · rename_i q
          have y3 := ch_lt q
          split
          · exact ⟨⟨by show 0 ≤ sk t n (acP t n (tE t n false 0 p).2).2; omega, l3⟩, Or.inl rfl⟩
          · exact csF_rg f (c + 1) _ (by omega) (by omega) (by omega) (by omega)
theorem csP_rg {t : Int → Int} {n : Int} (h : 0 ≤ n) : (0 ≤ (csP t n).2 ∧ (csP t n).2 ≤ n) ∧ ((csP t n).1 = -1 ∨ (1 ≤ (csP t n).1 ∧ (csP t n).1 ≤ 6)) := csF_rg 6 0 0 (by omega) h (by omega) (by omega)
def habR (R : Int → Int) (h tp : Int) (T : Int → Int) (c : Int) : Int → Int := fun j => if 40 + 100 * h ≤ j ∧ j < 40 + 100 * h + tp then T (j - (40 + 100 * h)) else if j = 34 + h then tp else if j = 37 + h then c else R j
/-- answer, what the tape holds then, ring -/
def habS (R : Int → Int) (tp : Int) (T : Int → Int) (h : Int) : Int × Int × (Int → Int) := if ¬ (0 ≤ h ∧ h ≤ 2) then (-1, tp, R) else if (csP T tp).1 < 0 then (-20 - (csP T tp).2, 0, R) else ((csP T tp).1, 0, habR R h tp T (csP T tp).1)
/-- only ring 0, the tape's size and scratch have changed -/
def MH (d d' : HD) (m : Nat) : Prop := (∀ a, (a < m ∨ m + 14 < a ∨ (m + 2 ≤ a ∧ a ≤ m + 6)) → d' a = d a) ∧ ∀ j, (j < 0 ∨ 640 ≤ j) → d' (m + 1) j = d (m + 1) j
theorem MH.rf {d : HD} {m : Nat} : MH d d m := ⟨fun _ _ => rfl, fun _ _ => rfl⟩
theorem MH.z {d d' : HD} {m : Nat} {i v : Int} (h : MH d d' m) (h1 : 0 ≤ i) (h2 : i < 640) : MH d (kU d' (m + 1) i v) m := by
  refine ⟨fun a ha => ?_, fun j hj => ?_⟩
  · rw [kU_ne (by omega)]; exact h.1 a ha
  · unfold kU
    rw [if_neg (by omega)]
    exact h.2 j hj
theorem MH.f {d d' : HD} {m : Nat} {i v : Int} (h : MH d d' m) : MH d (kU d' m i v) m := by
  refine ⟨fun a ha => ?_, fun j hj => ?_⟩
  · rw [kU_ne (by omega)]; exact h.1 a ha
  · rw [kU_ne (by omega)]; exact h.2 j hj
section F2
variable {E : EE} {k m : Nat} {G : HG} {d : HD} {K : PQ} {R : Int → Int}
theorem C_habit {h tp : Int} {T : Int → Int} (hM : MO G m) (hR : PZ d m 0 R) (hT : TZ d m tp T) (h0 : 0 ≤ tp) (h1 : tp ≤ 100) (hK : ∀ d', MH d d' m → d' m 3 = (habS R tp T h).2.1 → PZ d' m 0 (habS R tp T h).2.2 → K (some (kI (habS R tp T h).1)) G d') : AM E mX7_habit (k + 5) 0 0 [kR m, kI h] G d K := by
  obtain ⟨ho, e0, a0, e1, a1, e2, a2, -⟩ := id hM
  have cr := csP_rg (t := T) h0
  unfold habS at hK
  refine AM.of rfl (Nat.le_of_ble_eq_true rfl) ?_
  refine A_iload_n dX7_habit_0 rfl rfl ?_
  refine A_i2l dX7_habit_1 ?_
  refine A_lconst (x := 0) dX7_habit_2 ⟨by decide, by decide⟩ rfl ?_
  refine A_ldc2 (x := 2) dX7_habit_3 cs_X7_88 rfl ⟨by decide, by decide⟩ ?_
  refine A_ins3 dX7_habit_6 ms_X7_53 (Nat.le_of_ble_eq_true rfl) ?_
  refine C_in ?_
  refine A_if_ne (tgt := 14) dX7_habit_9 (by decide) (fun c_9 => ?_) (fun c_9 => ?_)
  · rw [if_neg (by omega)] at hK
    have hd : kU d m 10 (d m 10) = d := kU_id rfl
    replace c_9 := i01n c_9
    refine A_aload_n dX7_habit_14 rfl rfl ?_
    refine A_inv0 dX7_habit_15 mv_X7_134 kCl_7 (Nat.le_of_ble_eq_true rfl) (by assumption) ?_
    rw [← hd]
    refine C_clauses hM hT h0 h1 ?_
    have v3 : kU d m 10 (csP T tp).2 m 3 = tp := by rw [kU_f (by decide)]; exact hT.1
    have v10 : kU (kU d m 10 (csP T tp).2) m 3 0 m 10 = (csP T tp).2 := by rw [kU_f (by decide), kU_s]
    refine A_istore_n dX7_habit_18 rfl (Nat.le_of_ble_eq_true rfl) rfl ?_
    refine A_aload_n dX7_habit_19 rfl rfl ?_
    refine A_get (fi := 3) dX7_habit_20 fg_X7_106 rfl rfl (by assumption) ?_
    rw [v3]
    refine A_istore_n dX7_habit_23 rfl (Nat.le_of_ble_eq_true rfl) rfl ?_
    refine A_aload_n dX7_habit_24 rfl rfl ?_
    refine A_iconst dX7_habit_25 ⟨by decide, by decide⟩ ?_
    refine A_put (fi := 3) dX7_habit_26 fp_X7_106 rfl rfl (by assumption) ?_
    refine A_iload_n dX7_habit_29 rfl rfl ?_
    refine A_if_ge (tgt := 41) dX7_habit_30 (by decide) (fun c_30 => ?_) (fun c_30 => ?_)
    · rw [if_neg (by omega)] at hK
      generalize hc : (csP T tp).1 = c at *
      obtain ⟨N, hN⟩ : ∃ N : Nat, tp = N := ⟨tp.toNat, by omega⟩
      have loop : ∀ (q j : Nat), N - j < q → j ≤ N → ∀ d', MH d d' m → d' m 3 = 0 → (∀ i, 0 ≤ i → i < tp → d' (m + 3) i = T i) → PZ d' m 0 (fun i => if 40 + 100 * h ≤ i ∧ i < 40 + 100 * h + j then T (i - (40 + 100 * h)) else R i) → AW E mX7_habit (k + 5) 0 0 44 [some (kR m), some (kI h), some (kI c), some (kI tp), some (kI j)] [] G d' K := by
        intro q
        induction q with
        | zero => intro j h; omega
        | succ q ih =>
          intro j hj hjN d' hc' h3 ht hz
          refine A_iload dX7_habit_44 rfl ?_
          refine A_iload_n dX7_habit_46 rfl rfl ?_
          refine A_icmp_ge (tgt := 78) dX7_habit_47 (by decide) (fun c_47 => ?_) (fun c_47 => ?_)
          · have : j = N := by omega
            subst this
            refine A_aload_n dX7_habit_78 rfl rfl ?_
            refine A_getR (fi := 0) dX7_habit_79 fg_X7_7 rfl rfl (by assumption) (by assumption) ?_
            refine A_bipush dX7_habit_82 ⟨by decide, by decide⟩ rfl ?_
            refine A_iload_n dX7_habit_84 rfl rfl ?_
            refine A_iadd_ok dX7_habit_85 (by omega) (by omega) ?_
            refine A_iload_n dX7_habit_86 rfl rfl ?_
            refine A_iast dX7_habit_87 (by assumption) (by omega) (by omega) ?_
            refine A_aload_n dX7_habit_88 rfl rfl ?_
            refine A_getR (fi := 0) dX7_habit_89 fg_X7_7 rfl rfl (by assumption) (by assumption) ?_
            refine A_bipush dX7_habit_92 ⟨by decide, by decide⟩ rfl ?_
            refine A_iload_n dX7_habit_94 rfl rfl ?_
            refine A_iadd_ok dX7_habit_95 (by omega) (by omega) ?_
            refine A_iload_n dX7_habit_96 rfl rfl ?_
            refine A_iast dX7_habit_97 (by assumption) (by omega) (by omega) ?_
            refine A_iload_n dX7_habit_98 rfl rfl ?_
            refine A_iret dX7_habit_99 rfl ?_
            refine hK _ ((hc'.z (by omega) (by omega)).z (by omega) (by omega)) (by rw [kU_ne (by omega), kU_ne (by omega)]; exact h3) ?_
            have := (hz.u (i := 34 + h) (q := 34 + h) (v := tp) (by omega)).u (i := 37 + h) (q := 37 + h) (v := c) (by omega)
            intro i i1 i2
            have t := this i i1 i2
            rw [t]
            show _ = habR R h tp T c i
            unfold habR fU
            dsimp only
            by_cases z1 : 40 + 100 * h ≤ i ∧ i < 40 + 100 * h + tp
            · rw [if_neg (by omega), if_neg (by omega), if_pos (by omega), if_pos z1]
            · rw [if_neg z1]
              by_cases z2 : i = 37 + h
              · rw [if_pos z2, if_neg (by omega), if_pos z2]
              · rw [if_neg z2]
                by_cases z3 : i = 34 + h
                · rw [if_pos z3, if_pos z3]
                · rw [if_neg z3, if_neg (by omega), if_neg z3, if_neg z2]
          · have tj := ht j (by omega) (by omega)
            refine A_aload_n dX7_habit_50 rfl rfl ?_
            refine A_getR (fi := 0) dX7_habit_51 fg_X7_7 rfl rfl (by assumption) (by assumption) ?_
            refine A_bipush dX7_habit_54 ⟨by decide, by decide⟩ rfl ?_
            refine A_bipush dX7_habit_56 ⟨by decide, by decide⟩ rfl ?_
            refine A_iload_n dX7_habit_58 rfl rfl ?_
            refine A_imul_ok dX7_habit_59 (by omega) (by omega) ?_
            refine A_iadd_ok dX7_habit_60 (by omega) (by omega) ?_
            refine A_iload dX7_habit_61 rfl ?_
            refine A_iadd_ok dX7_habit_63 (by omega) (by omega) ?_
            refine A_aload_n dX7_habit_64 rfl rfl ?_
            refine A_getR (fi := 2) dX7_habit_65 fg_X7_17 rfl rfl (by assumption) (by assumption) ?_
            refine A_iload dX7_habit_68 rfl ?_
            refine A_iald dX7_habit_70 (by assumption) (by omega) (by omega) ?_
            rw [tj]
            refine A_iast dX7_habit_71 (by assumption) (by omega) (by omega) ?_
            refine A_iinc_ok dX7_habit_72 rfl rfl (by omega) (by omega) ?_
            refine A_goto (tgt := 44) dX7_habit_75 (by decide) ?_
            refine ih (j + 1) (by omega) (by omega) _ (hc'.z (by omega) (by omega)) (by rw [kU_ne (by omega)]; exact h3) (fun i i1 i2 => by rw [kU_ne (by omega)]; exact ht i i1 i2) ?_
            intro i i1 i2
            have t := hz.u (i := 40 + 100 * h + j) (q := 40 + 100 * h + j) (v := T j) (by omega) i i1 i2
            rw [t]
            unfold fU
            dsimp only
            by_cases z1 : i = 40 + 100 * h + j
            · rw [if_pos z1, if_pos (by omega), show i - (40 + 100 * h) = j by omega]
            · rw [if_neg z1]
              by_cases z2 : 40 + 100 * h ≤ i ∧ i < 40 + 100 * h + j
              · rw [if_pos z2, if_pos (by omega)]
              · rw [if_neg z2, if_neg (by omega)]
      refine A_iconst dX7_habit_41 ⟨by decide, by decide⟩ ?_
      refine A_istore dX7_habit_42 (Nat.le_of_ble_eq_true rfl) rfl ?_
      refine loop (N + 1) 0 (by omega) (by omega) _ (MH.f (MH.f MH.rf)) kU_s (fun i i1 i2 => by rw [kU_ne (by omega), kU_ne (by omega)]; exact hT.2 i i1 i2) (fun i i1 i2 => by rw [kU_ne (by omega), kU_ne (by omega)]; dsimp only; rw [if_neg (by omega)]; exact hR i i1 i2)
    · rw [if_pos (by omega)] at hK
      refine A_bipush dX7_habit_33 ⟨by decide, by decide⟩ rfl ?_
      refine A_aload_n dX7_habit_35 rfl rfl ?_
      refine A_get (fi := 10) dX7_habit_36 fg_X7_110 rfl rfl (by assumption) ?_
      rw [v10]
      refine A_isub_ok dX7_habit_39 (by omega) (by omega) ?_
      refine A_iret dX7_habit_40 rfl ?_
      exact hK _ (MH.f (MH.f MH.rf)) kU_s ((hR.ne (by omega)).ne (by omega))
  · rw [if_pos (by omega)] at hK
    replace c_9 := i01e c_9
    refine A_iconst dX7_habit_12 ⟨by decide, by decide⟩ ?_
    refine A_iret dX7_habit_13 rfl ?_
    exact hK d MH.rf hT.1 hR
/-! what two rings have alike -/
end F2
def nsF (R S : Int → Int) (c x : Int) : Nat → Int
  | 0 => x
  | i + 1 => if nsF R S c x i ≠ 0 ∧ cfR R c (9 + i) = cfR S c (9 + i) then 1 else 0
def hasS (R : Int → Int) (c late : Int) : Int := if cfR R c 8 < late then cfR R c 8 else late
def samC (R S : Int → Int) (c : Int) : Int := nsF R S c (if (cfR R c 0 = cfR S c 0 ∧ cfR R c 1 = cfR S c 1 ∧ cfR R c 2 = cfR S c 2) ∧ hasS R c (cfR R c 4) = hasS S c (cfR R c 4) then 1 else 0) (3 * hasS R c (cfR R c 4)).toNat
def smF (R S : Int → Int) : Nat → Nat → Int
  | 0, _ => 1
  | f + 1, c => if samC R S c = 0 then 0 else smF R S f (c + 1)
def samS (R S : Int → Int) : Int := smF R S (R 2).toNat 0
theorem nsF_b {R S : Int → Int} {c x : Int} (h : x = 0 ∨ x = 1) : ∀ i : Nat, nsF R S c x i = 0 ∨ nsF R S c x i = 1
  | 0 => h
  | i + 1 => by simp only [nsF]; split <;> simp
section F3
variable {E : EE} {k m : Nat} {G : HG} {d : HD} {K : PQ} {R S : Int → Int}
theorem C_isSame (hM : MO G m) (hR : PZ d m 0 R) (hS : PZ d m 1 S) (h1 : 0 ≤ R 2) (h2 : R 2 ≤ 12) (hl : ∀ c, 0 ≤ c → c < R 2 → (0 ≤ cfR R c 4 ∧ cfR R c 4 ≤ 3) ∧ 0 ≤ cfR R c 8 ∧ 0 ≤ cfR S c 8) (hK : K (some (kI (samS R S))) G d) : AM E mX7_isSame (k + 1) 0 0 [kR m] G d K := by
  obtain ⟨ho, e0, a0, -⟩ := id hM
  obtain ⟨N, hN⟩ : ∃ N : Nat, R 2 = N := ⟨(R 2).toNat, by omega⟩
  have eN : (R 2).toNat = N := by omega
  have z2 := hR.z 2 (by omega) (by omega)
  rw [hN] at z2
  unfold samS at hK
  rw [eN] at hK
  have loop : ∀ (f j : Nat), j + f = N → smF R S f j = smF R S N 0 → ∀ q2 q3 q4 q5 q6 : Option AV, AW E mX7_isSame (k + 1) 0 0 2 [some (kR m), some (kI j), q2, q3, q4, q5, q6] [] G d K := by
    intro f
    induction f with
    | zero =>
      intro j hj he q2 q3 q4 q5 q6
      refine A_iload_n dX7_isSame_2 rfl rfl ?_
      refine A_aload_n dX7_isSame_3 rfl rfl ?_
      refine A_getR (fi := 0) dX7_isSame_4 fg_X7_7 rfl rfl (by assumption) (by assumption) ?_
      refine A_iconst dX7_isSame_7 ⟨by decide, by decide⟩ ?_
      refine A_iald dX7_isSame_8 (by assumption) (by omega) (by omega) ?_
      refine A_icmp_ge (tgt := 211) dX7_isSame_9 (by decide) (fun c_9 => ?_) (fun c_9 => absurd c_9 (by omega))
      refine A_iconst dX7_isSame_211 ⟨by decide, by decide⟩ ?_
      refine A_zret dX7_isSame_212 rfl (by first | exact Or.inl rfl | exact Or.inr rfl | assumption | omega) ?_
      simp only [smF] at he
      rw [← he] at hK
      exact hK
    | succ f ih =>
      intro j hj he q2 q3 q4 q5 q6
      simp only [smF] at he
      obtain ⟨l4, l8, l8'⟩ := hl j (by omega) (by omega)
      generalize hlt : cfR R j 4 = late at *
      -- from the notes on
      have notes : ∀ (x : Int), (x = 0 ∨ x = 1) → ∀ has : Int, 0 ≤ has → has ≤ 3 → (samC R S j = nsF R S j x (3 * has).toNat) → ∀ (q i : Nat), (3 * has).toNat - i < q → i ≤ (3 * has).toNat → ∀ q5 : Int, AW E mX7_isSame (k + 1) 0 0 149 [some (kR m), some (kI j), some (kI (nsF R S j x i)), some (kI late), some (kI has), some (kI q5), some (kI i)] [] G d K := by
        intro x hx has has0 has3 hs q
        induction q with
        | zero => intro i h; omega
        | succ q ih2 =>
          intro i hi hiN q5
          have hb := nsF_b (R := R) (S := S) (c := j) hx i
          refine A_iload dX7_isSame_149 rfl ?_
          refine A_iconst dX7_isSame_151 ⟨by decide, by decide⟩ ?_
          refine A_iload dX7_isSame_152 rfl ?_
          refine A_imul_ok dX7_isSame_154 (by omega) (by omega) ?_
          refine A_icmp_ge (tgt := 199) dX7_isSame_155 (by decide) (fun c_155 => ?_) (fun c_155 => ?_)
          · have : i = (3 * has).toNat := by omega
            subst this
            rw [hs] at he
            refine A_iload_n dX7_isSame_199 rfl rfl ?_
            refine A_if_ne (tgt := 205) dX7_isSame_200 (by decide) (fun c_200 => ?_) (fun c_200 => ?_)
            · rw [if_neg c_200] at he
              refine A_iinc_ok dX7_isSame_205 rfl rfl (by omega) (by omega) ?_
              refine A_goto (tgt := 2) dX7_isSame_208 (by decide) ?_
              exact ih (j + 1) (by omega) he _ _ _ _ _
            · rw [if_pos c_200] at he
              refine A_iconst dX7_isSame_203 ⟨by decide, by decide⟩ ?_
              refine A_zret dX7_isSame_204 rfl (by first | exact Or.inl rfl | exact Or.inr rfl | assumption | omega) ?_
              rw [← he] at hK
              exact hK
          · have next := ih2 (i + 1) (by omega) (by omega)
            refine A_iload_n dX7_isSame_158 rfl rfl ?_
            refine A_if_eq (tgt := 191) dX7_isSame_159 (by decide) (fun c_159 => ?_) (fun c_159 => ?_)
            · refine A_iconst dX7_isSame_191 ⟨by decide, by decide⟩ ?_
              refine A_istore_n dX7_isSame_192 rfl (Nat.le_of_ble_eq_true rfl) rfl ?_
              refine A_iinc_ok dX7_isSame_193 rfl rfl (by omega) (by omega) ?_
              refine A_goto (tgt := 149) dX7_isSame_196 (by decide) ?_
              have e : nsF R S j x (i + 1) = 0 := by simp only [nsF]; rw [if_neg (by omega)]
              rw [e] at next
              exact next _
            · refine A_aload_n dX7_isSame_162 rfl rfl ?_
              refine A_iconst dX7_isSame_163 ⟨by decide, by decide⟩ ?_
              refine A_iload_n dX7_isSame_164 rfl rfl ?_
              refine A_bipush dX7_isSame_165 ⟨by decide, by decide⟩ rfl ?_
              refine A_iload dX7_isSame_167 rfl ?_
              refine A_iadd_ok dX7_isSame_169 (by omega) (by omega) ?_
              refine A_inv3 dX7_isSame_170 mv_X7_57 kCl_7 (Nat.le_of_ble_eq_true rfl) (by assumption) ?_
              refine C_of hM hR (by omega) (by omega) (by omega) (by omega) (by omega) (by omega) ?_
              refine A_aload_n dX7_isSame_173 rfl rfl ?_
              refine A_iconst dX7_isSame_174 ⟨by decide, by decide⟩ ?_
              refine A_iload_n dX7_isSame_175 rfl rfl ?_
              refine A_bipush dX7_isSame_176 ⟨by decide, by decide⟩ rfl ?_
              refine A_iload dX7_isSame_178 rfl ?_
              refine A_iadd_ok dX7_isSame_180 (by omega) (by omega) ?_
              refine A_inv3 dX7_isSame_181 mv_X7_57 kCl_7 (Nat.le_of_ble_eq_true rfl) (by assumption) ?_
              refine C_of hM hS (by omega) (by omega) (by omega) (by omega) (by omega) (by omega) ?_
              refine A_icmp_ne (tgt := 191) dX7_isSame_184 (by decide) (fun c_184 => ?_) (fun c_184 => ?_)
              · refine A_iconst dX7_isSame_191 ⟨by decide, by decide⟩ ?_
                refine A_istore_n dX7_isSame_192 rfl (Nat.le_of_ble_eq_true rfl) rfl ?_
                refine A_iinc_ok dX7_isSame_193 rfl rfl (by omega) (by omega) ?_
                refine A_goto (tgt := 149) dX7_isSame_196 (by decide) ?_
                have e : nsF R S j x (i + 1) = 0 := by simp only [nsF]; rw [if_neg (by omega)]
                rw [e] at next
                exact next _
              · refine A_iconst dX7_isSame_187 ⟨by decide, by decide⟩ ?_
                refine A_goto (tgt := 192) dX7_isSame_188 (by decide) ?_
                refine A_istore_n dX7_isSame_192 rfl (Nat.le_of_ble_eq_true rfl) rfl ?_
                refine A_iinc_ok dX7_isSame_193 rfl rfl (by omega) (by omega) ?_
                refine A_goto (tgt := 149) dX7_isSame_196 (by decide) ?_
                have e : nsF R S j x (i + 1) = 1 := by simp only [nsF]; rw [if_pos (by omega)]
                rw [e] at next
                exact next _
      have w129 : ∀ (b : Int), b = (if cfR R j 0 = cfR S j 0 ∧ cfR R j 1 = cfR S j 1 ∧ cfR R j 2 = cfR S j 2 then 1 else 0) → ∀ a o : Int, a = hasS R j late → o = hasS S j late → ∀ q6, AW E mX7_isSame (k + 1) 0 0 127 [some (kR m), some (kI j), some (kI b), some (kI late), some (kI a), q5, q6] [kI o] G d K := by
        intro b hb a o ha ho' q6
        have a3 : 0 ≤ a ∧ a ≤ 3 := by rw [ha]; unfold hasS; split <;> omega
        have sc : ∀ x : Int, x = (if (cfR R j 0 = cfR S j 0 ∧ cfR R j 1 = cfR S j 1 ∧ cfR R j 2 = cfR S j 2) ∧ a = o then 1 else 0) → samC R S j = nsF R S j x (3 * a).toNat := fun x hx => by
          unfold samC
          rw [hlt, ← ha, ← ho', hx]
        have go : ∀ x : Int, x = (if (cfR R j 0 = cfR S j 0 ∧ cfR R j 1 = cfR S j 1 ∧ cfR R j 2 = cfR S j 2) ∧ a = o then 1 else 0) → AW E mX7_isSame (k + 1) 0 0 145 [some (kR m), some (kI j), some (kI b), some (kI late), some (kI a), some (kI o), q6] [kI x] G d K := by
          intro x hx
          refine A_istore_n dX7_isSame_145 rfl (Nat.le_of_ble_eq_true rfl) rfl ?_
          refine A_iconst dX7_isSame_146 ⟨by decide, by decide⟩ ?_
          refine A_istore dX7_isSame_147 (Nat.le_of_ble_eq_true rfl) rfl ?_
          exact notes x (by rw [hx]; split <;> omega) a a3.1 a3.2 (sc x hx) ((3 * a).toNat + 1) 0 (by omega) (by omega) _
        refine A_istore dX7_isSame_127 (Nat.le_of_ble_eq_true rfl) rfl ?_
        refine A_iload_n dX7_isSame_129 rfl rfl ?_
        refine A_if_eq (tgt := 144) dX7_isSame_130 (by decide) (fun c_130 => ?_) (fun c_130 => ?_)
        · refine A_iconst dX7_isSame_144 ⟨by decide, by decide⟩ ?_
          rw [c_130] at hb
          exact go 0 (by rw [if_neg]; intro z; rw [if_pos z.1] at hb; omega)
        · have hb' : cfR R j 0 = cfR S j 0 ∧ cfR R j 1 = cfR S j 1 ∧ cfR R j 2 = cfR S j 2 := by
            by_cases z : cfR R j 0 = cfR S j 0 ∧ cfR R j 1 = cfR S j 1 ∧ cfR R j 2 = cfR S j 2
            · exact z
            · rw [if_neg z] at hb; omega
          refine A_iload dX7_isSame_133 rfl ?_
          refine A_iload dX7_isSame_135 rfl ?_
          refine A_icmp_ne (tgt := 144) dX7_isSame_137 (by decide) (fun c_137 => ?_) (fun c_137 => ?_)
          · refine A_iconst dX7_isSame_144 ⟨by decide, by decide⟩ ?_
            exact go 0 (by rw [if_neg]; intro z; omega)
          · refine A_iconst dX7_isSame_140 ⟨by decide, by decide⟩ ?_
            refine A_goto (tgt := 145) dX7_isSame_141 (by decide) ?_
            exact go 1 (by rw [if_pos ⟨hb', by omega⟩])
      have w101 : ∀ (b : Int), b = (if cfR R j 0 = cfR S j 0 ∧ cfR R j 1 = cfR S j 1 ∧ cfR R j 2 = cfR S j 2 then 1 else 0) → ∀ a : Int, a = hasS R j late → AW E mX7_isSame (k + 1) 0 0 101 [some (kR m), some (kI j), some (kI b), some (kI late), q4, q5, q6] [kI a] G d K := by
        intro b hb a ha
        refine A_istore dX7_isSame_101 (Nat.le_of_ble_eq_true rfl) rfl ?_
        refine A_aload_n dX7_isSame_103 rfl rfl ?_
        refine A_iconst dX7_isSame_104 ⟨by decide, by decide⟩ ?_
        refine A_iload_n dX7_isSame_105 rfl rfl ?_
        refine A_bipush dX7_isSame_106 ⟨by decide, by decide⟩ rfl ?_
        refine A_inv3 dX7_isSame_108 mv_X7_57 kCl_7 (Nat.le_of_ble_eq_true rfl) (by assumption) ?_
        refine C_of hM hS (by omega) (by omega) (by omega) (by omega) (by omega) (by omega) ?_
        refine A_iload_n dX7_isSame_111 rfl rfl ?_
        refine A_icmp_ge (tgt := 126) dX7_isSame_112 (by decide) (fun c_112 => ?_) (fun c_112 => ?_)
        · refine A_iload_n dX7_isSame_126 rfl rfl ?_
          exact w129 b hb a _ ha (by unfold hasS; rw [if_neg (by omega)]) _
        · refine A_aload_n dX7_isSame_115 rfl rfl ?_
          refine A_iconst dX7_isSame_116 ⟨by decide, by decide⟩ ?_
          refine A_iload_n dX7_isSame_117 rfl rfl ?_
          refine A_bipush dX7_isSame_118 ⟨by decide, by decide⟩ rfl ?_
          refine A_inv3 dX7_isSame_120 mv_X7_57 kCl_7 (Nat.le_of_ble_eq_true rfl) (by assumption) ?_
          refine C_of hM hS (by omega) (by omega) (by omega) (by omega) (by omega) (by omega) ?_
          refine A_goto (tgt := 127) dX7_isSame_123 (by decide) ?_
          exact w129 b hb a _ ha (by unfold hasS; rw [if_pos (by omega)]) _
      have w68 : ∀ (b : Int), b = (if cfR R j 0 = cfR S j 0 ∧ cfR R j 1 = cfR S j 1 ∧ cfR R j 2 = cfR S j 2 then 1 else 0) → AW E mX7_isSame (k + 1) 0 0 68 [some (kR m), some (kI j), q2, q3, q4, q5, q6] [kI b] G d K := by
        intro b hb
        refine A_istore_n dX7_isSame_68 rfl (Nat.le_of_ble_eq_true rfl) rfl ?_
        refine A_aload_n dX7_isSame_69 rfl rfl ?_
        refine A_iconst dX7_isSame_70 ⟨by decide, by decide⟩ ?_
        refine A_iload_n dX7_isSame_71 rfl rfl ?_
        refine A_iconst dX7_isSame_72 ⟨by decide, by decide⟩ ?_
        refine A_inv3 dX7_isSame_73 mv_X7_57 kCl_7 (Nat.le_of_ble_eq_true rfl) (by assumption) ?_
        refine C_of hM hR (by omega) (by omega) (by omega) (by omega) (by omega) (by omega) ?_
        rw [hlt]
        refine A_istore_n dX7_isSame_76 rfl (Nat.le_of_ble_eq_true rfl) rfl ?_
        refine A_aload_n dX7_isSame_77 rfl rfl ?_
        refine A_iconst dX7_isSame_78 ⟨by decide, by decide⟩ ?_
        refine A_iload_n dX7_isSame_79 rfl rfl ?_
        refine A_bipush dX7_isSame_80 ⟨by decide, by decide⟩ rfl ?_
        refine A_inv3 dX7_isSame_82 mv_X7_57 kCl_7 (Nat.le_of_ble_eq_true rfl) (by assumption) ?_
        refine C_of hM hR (by omega) (by omega) (by omega) (by omega) (by omega) (by omega) ?_
        refine A_iload_n dX7_isSame_85 rfl rfl ?_
        refine A_icmp_ge (tgt := 100) dX7_isSame_86 (by decide) (fun c_86 => ?_) (fun c_86 => ?_)
        · refine A_iload_n dX7_isSame_100 rfl rfl ?_
          exact w101 b hb _ (by unfold hasS; rw [if_neg (by omega)])
        · refine A_aload_n dX7_isSame_89 rfl rfl ?_
          refine A_iconst dX7_isSame_90 ⟨by decide, by decide⟩ ?_
          refine A_iload_n dX7_isSame_91 rfl rfl ?_
          refine A_bipush dX7_isSame_92 ⟨by decide, by decide⟩ rfl ?_
          refine A_inv3 dX7_isSame_94 mv_X7_57 kCl_7 (Nat.le_of_ble_eq_true rfl) (by assumption) ?_
          refine C_of hM hR (by omega) (by omega) (by omega) (by omega) (by omega) (by omega) ?_
          refine A_goto (tgt := 101) dX7_isSame_97 (by decide) ?_
          exact w101 b hb _ (by unfold hasS; rw [if_pos (by omega)])
      refine A_iload_n dX7_isSame_2 rfl rfl ?_
      refine A_aload_n dX7_isSame_3 rfl rfl ?_
      refine A_getR (fi := 0) dX7_isSame_4 fg_X7_7 rfl rfl (by assumption) (by assumption) ?_
      refine A_iconst dX7_isSame_7 ⟨by decide, by decide⟩ ?_
      refine A_iald dX7_isSame_8 (by assumption) (by omega) (by omega) ?_
      refine A_icmp_ge (tgt := 211) dX7_isSame_9 (by decide) (fun c_9 => absurd c_9 (by omega)) (fun c_9 => ?_)
      refine A_aload_n dX7_isSame_12 rfl rfl ?_
      refine A_iconst dX7_isSame_13 ⟨by decide, by decide⟩ ?_
      refine A_iload_n dX7_isSame_14 rfl rfl ?_
      refine A_iconst dX7_isSame_15 ⟨by decide, by decide⟩ ?_
      refine A_inv3 dX7_isSame_16 mv_X7_57 kCl_7 (Nat.le_of_ble_eq_true rfl) (by assumption) ?_
      refine C_of hM hR (by omega) (by omega) (by omega) (by omega) (by omega) (by omega) ?_
      refine A_aload_n dX7_isSame_19 rfl rfl ?_
      refine A_iconst dX7_isSame_20 ⟨by decide, by decide⟩ ?_
      refine A_iload_n dX7_isSame_21 rfl rfl ?_
      refine A_iconst dX7_isSame_22 ⟨by decide, by decide⟩ ?_
      refine A_inv3 dX7_isSame_23 mv_X7_57 kCl_7 (Nat.le_of_ble_eq_true rfl) (by assumption) ?_
      refine C_of hM hS (by omega) (by omega) (by omega) (by omega) (by omega) (by omega) ?_
      refine A_icmp_ne (tgt := 67) dX7_isSame_26 (by decide) (fun c_26 => ?_) (fun c_26 => ?_)
      · refine A_iconst dX7_isSame_67 ⟨by decide, by decide⟩ ?_
        exact w68 0 (by rw [if_neg (by omega)])
      · refine A_aload_n dX7_isSame_29 rfl rfl ?_
        refine A_iconst dX7_isSame_30 ⟨by decide, by decide⟩ ?_
        refine A_iload_n dX7_isSame_31 rfl rfl ?_
        refine A_iconst dX7_isSame_32 ⟨by decide, by decide⟩ ?_
        refine A_inv3 dX7_isSame_33 mv_X7_57 kCl_7 (Nat.le_of_ble_eq_true rfl) (by assumption) ?_
        refine C_of hM hR (by omega) (by omega) (by omega) (by omega) (by omega) (by omega) ?_
        refine A_aload_n dX7_isSame_36 rfl rfl ?_
        refine A_iconst dX7_isSame_37 ⟨by decide, by decide⟩ ?_
        refine A_iload_n dX7_isSame_38 rfl rfl ?_
        refine A_iconst dX7_isSame_39 ⟨by decide, by decide⟩ ?_
        refine A_inv3 dX7_isSame_40 mv_X7_57 kCl_7 (Nat.le_of_ble_eq_true rfl) (by assumption) ?_
        refine C_of hM hS (by omega) (by omega) (by omega) (by omega) (by omega) (by omega) ?_
        refine A_icmp_ne (tgt := 67) dX7_isSame_43 (by decide) (fun c_43 => ?_) (fun c_43 => ?_)
        · refine A_iconst dX7_isSame_67 ⟨by decide, by decide⟩ ?_
          exact w68 0 (by rw [if_neg (by omega)])
        · refine A_aload_n dX7_isSame_46 rfl rfl ?_
          refine A_iconst dX7_isSame_47 ⟨by decide, by decide⟩ ?_
          refine A_iload_n dX7_isSame_48 rfl rfl ?_
          refine A_iconst dX7_isSame_49 ⟨by decide, by decide⟩ ?_
          refine A_inv3 dX7_isSame_50 mv_X7_57 kCl_7 (Nat.le_of_ble_eq_true rfl) (by assumption) ?_
          refine C_of hM hR (by omega) (by omega) (by omega) (by omega) (by omega) (by omega) ?_
          refine A_aload_n dX7_isSame_53 rfl rfl ?_
          refine A_iconst dX7_isSame_54 ⟨by decide, by decide⟩ ?_
          refine A_iload_n dX7_isSame_55 rfl rfl ?_
          refine A_iconst dX7_isSame_56 ⟨by decide, by decide⟩ ?_
          refine A_inv3 dX7_isSame_57 mv_X7_57 kCl_7 (Nat.le_of_ble_eq_true rfl) (by assumption) ?_
          refine C_of hM hS (by omega) (by omega) (by omega) (by omega) (by omega) (by omega) ?_
          refine A_icmp_ne (tgt := 67) dX7_isSame_60 (by decide) (fun c_60 => ?_) (fun c_60 => ?_)
          · refine A_iconst dX7_isSame_67 ⟨by decide, by decide⟩ ?_
            exact w68 0 (by rw [if_neg (by omega)])
          · refine A_iconst dX7_isSame_63 ⟨by decide, by decide⟩ ?_
            refine A_goto (tgt := 68) dX7_isSame_64 (by decide) ?_
            exact w68 1 (by rw [if_pos (by omega)])
  refine AM.of rfl (Nat.le_of_ble_eq_true rfl) ?_
  refine A_iconst dX7_isSame_0 ⟨by decide, by decide⟩ ?_
  refine A_istore_n dX7_isSame_1 rfl (Nat.le_of_ble_eq_true rfl) rfl ?_
  exact loop N 0 (by omega) rfl none none none none none
end F3
