/-! texts of habits: t its bytes, n how many; the flat reading and the flat judging of them -/
def skF (t : Int → Int) (n : Int) : Nat → Int → Int
  | 0, p => p
  | f + 1, p => if p < n ∧ t p = 32 then skF t n f (p + 1) else p
def sk (t : Int → Int) (n p : Int) : Int := skF t n (n - p).toNat p
def ch (t : Int → Int) (n p : Int) : Int := if p < n then t p else -1
abbrev isD (t : Int → Int) (n p : Int) : Prop := p < n ∧ 48 ≤ t p ∧ t p ≤ 57
theorem ch_lt {t : Int → Int} {n p : Int} (h : ch t n p ≠ -1) : p < n := by
  unfold ch at h
  by_cases q : p < n
  · exact q
  · rw [if_neg q] at h; omega
theorem ch_at {t : Int → Int} {n p : Int} (h : p < n) : ch t n p = t p := if_pos h
theorem sk_b {t : Int → Int} {n p : Int} (h1 : p < n) (h2 : t p = 32) : sk t n p = sk t n (p + 1) := by
  unfold sk
  rw [show (n - p).toNat = (n - (p + 1)).toNat + 1 by omega]
  show (if p < n ∧ t p = 32 then _ else _) = _
  rw [if_pos ⟨h1, h2⟩]
theorem sk_s {t : Int → Int} {n p : Int} (h : ¬ (p < n ∧ t p = 32)) : sk t n p = p := by
  unfold sk
  cases (n - p).toNat with
  | zero => rfl
  | succ f =>
    show (if p < n ∧ t p = 32 then _ else _) = _
    rw [if_neg h]
theorem sk_all {t : Int → Int} {n : Int} : ∀ (f : Nat) (p : Int), (n - p).toNat = f → p ≤ sk t n p ∧ (p ≤ n → sk t n p ≤ n) ∧ ¬ (sk t n p < n ∧ t (sk t n p) = 32)
  | 0, p, h => by
    rw [sk_s (show ¬ (p < n ∧ t p = 32) by omega)]
    omega
  | f + 1, p, h => by
    by_cases q : p < n ∧ t p = 32
    · rw [sk_b q.1 q.2]
      have ih := sk_all (t := t) (n := n) f (p + 1) (by omega)
      exact ⟨by omega, fun _ => ih.2.1 (by omega), ih.2.2⟩
    · rw [sk_s q]
      exact ⟨by omega, fun h => h, q⟩
theorem sk_ge {t : Int → Int} {n : Int} (p : Int) : p ≤ sk t n p := (sk_all _ p rfl).1
theorem sk_le {t : Int → Int} {n p : Int} (h : p ≤ n) : sk t n p ≤ n := (sk_all _ p rfl).2.1 h
theorem sk_nb {t : Int → Int} {n : Int} (p : Int) : ¬ (sk t n p < n ∧ t (sk t n p) = 32) := (sk_all _ p rfl).2.2
theorem sk_sk {t : Int → Int} {n : Int} (p : Int) : sk t n (sk t n p) = sk t n p := sk_s (sk_nb p)
/-- behind a perhaps '!' -/
def nb (t : Int → Int) (n p : Int) : Int := if ch t n (sk t n p) = 33 then sk t n (sk t n p + 1) else sk t n p
def c3 (t : Int → Int) (n p : Int) : Int := if ch t n (sk t n (sk t n (p + 1) + 1)) = 45 then sk t n (sk t n (sk t n (p + 1) + 1) + 1) else sk t n (sk t n (p + 1) + 1)
def c5 (t : Int → Int) (n p : Int) : Int := if isD t n (c3 t n p + 1) then c3 t n p + 1 + 1 else c3 t n p + 1
def clP (t : Int → Int) (n p : Int) : Bool × Int := if ch t n p = 42 then (true, p + 1) else if ¬ (ch t n p = 103 ∨ ch t n p = 100 ∨ ch t n p = 111 ∨ ch t n p = 118) then (false, p) else if ¬ (ch t n (sk t n (p + 1)) = 60 ∨ ch t n (sk t n (p + 1)) = 62 ∨ ch t n (sk t n (p + 1)) = 61) then (false, sk t n (p + 1)) else if ¬ isD t n (c3 t n p) then (false, c3 t n p) else (true, c5 t n p)
def tF (t : Int → Int) (n : Int) : Nat → Bool → Int → Int → Bool × Int
  | 0, _, _, p => (false, p)
  | f + 1, false, o, p => if ch t n (nb t n p) = 40 then (if o = 4 then (false, nb t n p) else tF t n f false (o + 1) (nb t n p + 1)) else if (clP t n (nb t n p)).1 = true then tF t n f true o (clP t n (nb t n p)).2 else (false, (clP t n (nb t n p)).2)
  | f + 1, true, o, p => if ch t n (sk t n p) = 41 ∧ 0 < o then tF t n f true (o - 1) (sk t n p + 1) else if ch t n (sk t n p) = 38 ∨ ch t n (sk t n p) = 124 then tF t n f false o (sk t n p + 1) else if ch t n (sk t n p) = 58 ∧ o = 0 then (true, sk t n p + 1) else (false, sk t n p)
def tE (t : Int → Int) (n : Int) (b : Bool) (o p : Int) : Bool × Int := tF t n ((n - p).toNat + 1) b o p
theorem nb_ge {t : Int → Int} {n : Int} (p : Int) : p ≤ nb t n p := by
  unfold nb
  have h1 := sk_ge (t := t) (n := n) p
  have h2 := sk_ge (t := t) (n := n) (sk t n p + 1)
  split <;> omega
theorem nb_le {t : Int → Int} {n p : Int} (h : p ≤ n) : nb t n p ≤ n := by
  unfold nb
  have h1 := sk_le (t := t) h
  split
  · rename_i q
    have := ch_lt (t := t) (n := n) (p := sk t n p) (by omega)
    exact sk_le (by omega)
  · exact h1
theorem nb_sk {t : Int → Int} {n : Int} (p : Int) : sk t n (nb t n p) = nb t n p := by
  unfold nb
  split <;> exact sk_sk _
theorem c3_ge {t : Int → Int} {n : Int} (p : Int) : p + 2 ≤ c3 t n p := by
  unfold c3
  have h1 := sk_ge (t := t) (n := n) (p + 1)
  have h2 := sk_ge (t := t) (n := n) (sk t n (p + 1) + 1)
  have h3 := sk_ge (t := t) (n := n) (sk t n (sk t n (p + 1) + 1) + 1)
  split <;> omega
theorem clP_ok {t : Int → Int} {n p : Int} (h : (clP t n p).1 = true) : p + 1 ≤ (clP t n p).2 ∧ (clP t n p).2 ≤ n ∧ p < n := by
  unfold clP at h ⊢
  by_cases h1 : ch t n p = 42
  · rw [if_pos h1]
    have := ch_lt (t := t) (n := n) (p := p) (by omega)
    exact ⟨Int.le_refl _, by show p + 1 ≤ n; omega, this⟩
  · rw [if_neg h1] at h ⊢
    by_cases h2 : ¬ (ch t n p = 103 ∨ ch t n p = 100 ∨ ch t n p = 111 ∨ ch t n p = 118)
    · rw [if_pos h2] at h; cases h
    · rw [if_neg h2] at h ⊢
      have := ch_lt (t := t) (n := n) (p := p) (by omega)
      by_cases h3 : ¬ (ch t n (sk t n (p + 1)) = 60 ∨ ch t n (sk t n (p + 1)) = 62 ∨ ch t n (sk t n (p + 1)) = 61)
      · rw [if_pos h3] at h; cases h
      · rw [if_neg h3] at h ⊢
        by_cases h4 : ¬ isD t n (c3 t n p)
        · rw [if_pos h4] at h; cases h
        · rw [if_neg h4] at h ⊢
          have g := c3_ge (t := t) (n := n) p
          refine ⟨?_, ?_, this⟩
          · show p + 1 ≤ c5 t n p
            unfold c5
            split <;> omega
          · show c5 t n p ≤ n
            unfold c5
            have h5 : c3 t n p < n := (Classical.not_not.mp h4).1
            split
            · rename_i q; have := q.1; omega
            · omega
theorem tF_fuel {t : Int → Int} {n : Int} : ∀ (f g : Nat) (b : Bool) (o p : Int), p ≤ n → (n - p).toNat < f → (n - p).toNat < g → tF t n f b o p = tF t n g b o p
  | 0, g, b, o, p, _, h, _ => by omega
  | f + 1, 0, b, o, p, _, _, h => by omega
  | f + 1, g + 1, false, o, p, hp, h1, h2 => by
    have hnb := nb_ge (t := t) (n := n) p
    simp only [tF]
    by_cases c1 : ch t n (nb t n p) = 40
    · have := ch_lt (t := t) (n := n) (p := nb t n p) (by omega)
      rw [if_pos c1, if_pos c1]
      by_cases c2 : o = 4
      · rw [if_pos c2, if_pos c2]
      · rw [if_neg c2, if_neg c2]
        exact tF_fuel f g false (o + 1) _ (by omega) (by omega) (by omega)
    · rw [if_neg c1, if_neg c1]
      by_cases c2 : (clP t n (nb t n p)).1 = true
      · rw [if_pos c2, if_pos c2]
        have := clP_ok c2
        exact tF_fuel f g true o _ (by omega) (by omega) (by omega)
      · rw [if_neg c2, if_neg c2]
  | f + 1, g + 1, true, o, p, hp, h1, h2 => by
    have hnb := sk_ge (t := t) (n := n) p
    simp only [tF]
    by_cases c1 : ch t n (sk t n p) = 41 ∧ 0 < o
    · have := ch_lt (t := t) (n := n) (p := sk t n p) (by omega)
      rw [if_pos c1, if_pos c1]
      exact tF_fuel f g true _ _ (by omega) (by omega) (by omega)
    · rw [if_neg c1, if_neg c1]
      by_cases c2 : ch t n (sk t n p) = 38 ∨ ch t n (sk t n p) = 124
      · have := ch_lt (t := t) (n := n) (p := sk t n p) (by omega)
        rw [if_pos c2, if_pos c2]
        exact tF_fuel f g false _ _ (by omega) (by omega) (by omega)
      · rw [if_neg c2, if_neg c2]
theorem tE_of {t : Int → Int} {n : Int} {f : Nat} {b : Bool} {o p : Int} (hp : p ≤ n) (hf : (n - p).toNat < f) : tF t n f b o p = tE t n b o p := tF_fuel _ _ b o p hp hf (by omega)
theorem tE_F {t : Int → Int} {n o p : Int} (hp : p ≤ n) : tE t n false o p = if ch t n (nb t n p) = 40 then (if o = 4 then (false, nb t n p) else tE t n false (o + 1) (nb t n p + 1)) else if (clP t n (nb t n p)).1 = true then tE t n true o (clP t n (nb t n p)).2 else (false, (clP t n (nb t n p)).2) := by
  have hnb := nb_ge (t := t) (n := n) p
  show (if ch t n (nb t n p) = 40 then _ else _) = _
  by_cases c1 : ch t n (nb t n p) = 40
  · have := ch_lt (t := t) (n := n) (p := nb t n p) (by omega)
    rw [if_pos c1, if_pos c1, tE_of (by omega) (by omega)]
  · rw [if_neg c1, if_neg c1]
    by_cases c2 : (clP t n (nb t n p)).1 = true
    · have := clP_ok c2
      rw [if_pos c2, if_pos c2, tE_of (by omega) (by omega)]
    · rw [if_neg c2, if_neg c2]
theorem tE_A {t : Int → Int} {n o p : Int} (hp : p ≤ n) : tE t n true o p = if ch t n (sk t n p) = 41 ∧ 0 < o then tE t n true (o - 1) (sk t n p + 1) else if ch t n (sk t n p) = 38 ∨ ch t n (sk t n p) = 124 then tE t n false o (sk t n p + 1) else if ch t n (sk t n p) = 58 ∧ o = 0 then (true, sk t n p + 1) else (false, sk t n p) := by
  have hnb := sk_ge (t := t) (n := n) p
  show (if ch t n (sk t n p) = 41 ∧ 0 < o then _ else _) = _
  by_cases c1 : ch t n (sk t n p) = 41 ∧ 0 < o
  · have := ch_lt (t := t) (n := n) (p := sk t n p) (by omega)
    rw [if_pos c1, if_pos c1, tE_of (by omega) (by omega)]
  · rw [if_neg c1, if_neg c1]
    by_cases c2 : ch t n (sk t n p) = 38 ∨ ch t n (sk t n p) = 124
    · have := ch_lt (t := t) (n := n) (p := sk t n p) (by omega)
      rw [if_pos c2, if_pos c2, tE_of (by omega) (by omega)]
    · rw [if_neg c2, if_neg c2]
/-- where the reading of a test ends, it isn't behind the text's end -/
theorem tE_le {t : Int → Int} {n : Int} : ∀ (f : Nat) (b : Bool) (o p : Int), (n - p).toNat < f → p ≤ n → p ≤ (tE t n b o p).2 ∧ (tE t n b o p).2 ≤ n ∧ ((tE t n b o p).1 = true → p < (tE t n b o p).2)
  | 0, b, o, p, h, _ => by omega
  | f + 1, false, o, p, h, hp => by
    have hnb := nb_ge (t := t) (n := n) p
    have hnl := nb_le (t := t) hp
    rw [tE_F hp]
    by_cases c1 : ch t n (nb t n p) = 40
    · have := ch_lt (t := t) (n := n) (p := nb t n p) (by omega)
      rw [if_pos c1]
      by_cases c2 : o = 4
      · rw [if_pos c2]; exact ⟨hnb, hnl, fun h => by cases h⟩
      · rw [if_neg c2]
        have ih := tE_le (t := t) (n := n) f false (o + 1) (nb t n p + 1) (by omega) (by omega)
        exact ⟨by omega, ih.2.1, fun _ => by omega⟩
    · rw [if_neg c1]
      by_cases c2 : (clP t n (nb t n p)).1 = true
      · have := clP_ok c2
        rw [if_pos c2]
        have ih := tE_le (t := t) (n := n) f true o (clP t n (nb t n p)).2 (by omega) (by omega)
        exact ⟨by omega, ih.2.1, fun _ => by omega⟩
      · rw [if_neg c2]
        refine ⟨?_, ?_, fun h => by cases h⟩
        · show p ≤ (clP t n (nb t n p)).2
          unfold clP at c2 ⊢
          have g1 := sk_ge (t := t) (n := n) (nb t n p + 1)
          have g2 := c3_ge (t := t) (n := n) (nb t n p)
          repeat' split
          all_goals first | omega | (show p ≤ c5 t n (nb t n p); unfold c5; split <;> omega) | skip
          all_goals (try (show p ≤ _; omega))
        · show (clP t n (nb t n p)).2 ≤ n
          unfold clP at c2 ⊢
          by_cases d1 : ch t n (nb t n p) = 42
          · rw [if_pos d1] at c2; exact absurd rfl c2
          · rw [if_neg d1] at c2 ⊢
            by_cases d2 : ¬ (ch t n (nb t n p) = 103 ∨ ch t n (nb t n p) = 100 ∨ ch t n (nb t n p) = 111 ∨ ch t n (nb t n p) = 118)
            · rw [if_pos d2]; exact hnl
            · rw [if_neg d2] at c2 ⊢
              have l1 := ch_lt (t := t) (n := n) (p := nb t n p) (by omega)
              have l2 := sk_le (t := t) (n := n) (p := nb t n p + 1) (by omega)
              by_cases d3 : ¬ (ch t n (sk t n (nb t n p + 1)) = 60 ∨ ch t n (sk t n (nb t n p + 1)) = 62 ∨ ch t n (sk t n (nb t n p + 1)) = 61)
              · rw [if_pos d3]; exact l2
              · rw [if_neg d3] at c2 ⊢
                have l3 := ch_lt (t := t) (n := n) (p := sk t n (nb t n p + 1)) (by omega)
                have l4 := sk_le (t := t) (n := n) (p := sk t n (nb t n p + 1) + 1) (by omega)
                have l5 : c3 t n (nb t n p) ≤ n := by
                  unfold c3
                  split
                  · rename_i q
                    have := ch_lt (t := t) (n := n) (p := sk t n (sk t n (nb t n p + 1) + 1)) (by omega)
                    exact sk_le (by omega)
                  · exact l4
                by_cases d4 : ¬ isD t n (c3 t n (nb t n p))
                · rw [if_pos d4]; exact l5
                · rw [if_neg d4] at c2; exact absurd rfl c2
  | f + 1, true, o, p, h, hp => by
    have hnb := sk_ge (t := t) (n := n) p
    have hnl := sk_le (t := t) hp
    rw [tE_A hp]
    by_cases c1 : ch t n (sk t n p) = 41 ∧ 0 < o
    · have := ch_lt (t := t) (n := n) (p := sk t n p) (by omega)
      rw [if_pos c1]
      have ih := tE_le (t := t) (n := n) f true (o - 1) (sk t n p + 1) (by omega) (by omega)
      exact ⟨by omega, ih.2.1, fun _ => by omega⟩
    · rw [if_neg c1]
      by_cases c2 : ch t n (sk t n p) = 38 ∨ ch t n (sk t n p) = 124
      · have := ch_lt (t := t) (n := n) (p := sk t n p) (by omega)
        rw [if_pos c2]
        have ih := tE_le (t := t) (n := n) f false o (sk t n p + 1) (by omega) (by omega)
        exact ⟨by omega, ih.2.1, fun _ => by omega⟩
      · rw [if_neg c2]
        by_cases c3 : ch t n (sk t n p) = 58 ∧ o = 0
        · have := ch_lt (t := t) (n := n) (p := sk t n p) (by omega)
          rw [if_pos c3]
          exact ⟨by show p ≤ sk t n p + 1; omega, by show sk t n p + 1 ≤ n; omega, fun _ => by show p < sk t n p + 1; omega⟩
        · rw [if_neg c3]; exact ⟨hnb, hnl, fun h => by cases h⟩
/-- an act -/
def acP (t : Int → Int) (n p : Int) : Bool × Int := if ¬ (ch t n (sk t n p) = 43 ∨ ch t n (sk t n p) = 45 ∨ ch t n (sk t n p) = 61) then (false, sk t n p) else if ¬ isD t n (sk t n (sk t n p + 1)) then (false, sk t n (sk t n p + 1)) else if ch t n (sk t n (sk t n (sk t n p + 1) + 1)) = 99 then (true, sk t n (sk t n (sk t n p + 1) + 1) + 1) else (true, sk t n (sk t n (sk t n p + 1) + 1))
/-- clauses from p on, c of them read; how many there are, or -1; where it stands -/
def csF (t : Int → Int) (n : Int) : Nat → Int → Int → Int × Int
  | 0, _, p => (-1, p)
  | f + 1, c, p => if (tE t n false 0 p).1 = false then (-1, (tE t n false 0 p).2) else if (acP t n (tE t n false 0 p).2).1 = false then (-1, (acP t n (tE t n false 0 p).2).2) else if ch t n (sk t n (acP t n (tE t n false 0 p).2).2) = -1 then (c + 1, sk t n (acP t n (tE t n false 0 p).2).2) else if ch t n (sk t n (acP t n (tE t n false 0 p).2).2) ≠ 59 ∨ c + 1 = 6 then (-1, sk t n (acP t n (tE t n false 0 p).2).2) else csF t n f (c + 1) (sk t n (acP t n (tE t n false 0 p).2).2 + 1)
def csP (t : Int → Int) (n : Int) : Int × Int := csF t n 6 0 0
