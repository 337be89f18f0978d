/-! who is ahead, who behind, how many between -/
def slw (R : Int → Int) (c : Int) : Prop := cfR R c 2 < 2
/-- how far it is from c on to k -/
def DD (R : Int → Int) (k c : Int) : Int := if cfR R c 0 ≤ cfR R k 0 then cfR R k 0 - cfR R c 0 else cfR R k 0 - cfR R c 0 + R 0
theorem DD_sp (R : Int → Int) (k c : Int) : (cfR R c 0 ≤ cfR R k 0 ∧ DD R k c = cfR R k 0 - cfR R c 0) ∨ (cfR R k 0 < cfR R c 0 ∧ DD R k c = cfR R k 0 - cfR R c 0 + R 0) := by
  unfold DD
  by_cases h : cfR R c 0 ≤ cfR R k 0
  · rw [if_pos h]; exact Or.inl ⟨h, rfl⟩
  · rw [if_neg h]; exact Or.inr ⟨by omega, rfl⟩
def bhF (R : Int → Int) (e : Int) : Nat → Nat → Int
  | 0, _ => e
  | f + 1, k => if cfR R k 1 = cfR R e 1 ∧ aheadS R k = e then k else bhF R e f (k + 1)
def bhS (R : Int → Int) (e : Int) : Int := bhF R e (R 2).toNat 0
theorem toN {e : Int} (h : 0 ≤ e) : ((e.toNat : Nat) : Int) = e := by omega
section KM
variable {R : Int → Int}
theorem DD_on (hW : WG R) {c k : Int} (hc : 0 ≤ c) (hc2 : c < R 2) (hk : 0 ≤ k) (hk2 : k < R 2) : onS (R 0) (cfR R c 0) (cfR R k 0) = DD R k c := by
  obtain ⟨w1, w2, w3, w4, w5⟩ := hW
  have a := w5 c hc hc2
  have b := w5 k hk hk2
  rw [onS_0 (by omega) a.1 a.2 b.1 b.2]
  rfl
theorem ah_sp (hW : WG R) {c : Int} (hc : 0 ≤ c) (hc2 : c < R 2) : (aheadS R c = c ∧ ∀ j, 0 ≤ j → j < R 2 → j ≠ c → cfR R j 1 ≠ cfR R c 1) ∨ (aheadS R c ≠ c ∧ 0 ≤ aheadS R c ∧ aheadS R c < R 2 ∧ cfR R (aheadS R c) 1 = cfR R c 1 ∧ ∀ j, 0 ≤ j → j < R 2 → j ≠ c → cfR R j 1 = cfR R c 1 → DD R (aheadS R c) c ≤ DD R j c) := by
  have w0 := hW.1
  have hl : ∀ j, 0 ≤ j → j < R 2 → j ≠ c → cfR R j 1 = cfR R c 1 → (ahF R c (R 2).toNat).1 ≤ DD R j c := fun j j1 j2 jn jl => by
    have := ahF_le (R := R) (c := c) (R 2).toNat j.toNat (by omega) (by omega) (by rw [toN j1]; exact jl)
    rw [toN j1, DD_on hW hc hc2 j1 j2] at this
    exact this
  rcases ahF_is (R := R) (c := c) (R 2).toNat with ⟨h1, h2⟩ | ⟨h1, h2, h3, h4, h5⟩
  · refine Or.inl ⟨h1, fun j j1 j2 jn jl => ?_⟩
    have := hl j j1 j2 jn jl
    have o := onS_rg (n := R 0) (a := cfR R c 0) (b := cfR R j 0) (by omega)
    rw [DD_on hW hc hc2 j1 j2] at o
    omega
  · refine Or.inr ⟨h1, h2, by show (ahF R c (R 2).toNat).2 < R 2; omega, h4, fun j j1 j2 jn jl => ?_⟩
    have := hl j j1 j2 jn jl
    rw [h5, DD_on hW hc hc2 h2 (by omega)] at this
    exact this
theorem ah_rg (hW : WG R) {c : Int} (hc : 0 ≤ c) (hc2 : c < R 2) : 0 ≤ aheadS R c ∧ aheadS R c < R 2 ∧ cfR R (aheadS R c) 1 = cfR R c 1 := by
  rcases ah_sp hW hc hc2 with ⟨h1, h2⟩ | ⟨h1, h2, h3, h4, h5⟩
  · rw [h1]; exact ⟨hc, hc2, rfl⟩
  · exact ⟨h2, h3, h4⟩
theorem ah_inj (hW : WG R) (hD : ND R) {a b : Int} (ha : 0 ≤ a) (ha2 : a < R 2) (hb : 0 ≤ b) (hb2 : b < R 2) (h : aheadS R a = aheadS R b) : a = b := by
  have la := (ah_rg hW ha ha2).2.2
  have lb := (ah_rg hW hb hb2).2.2
  have lab : cfR R a 1 = cfR R b 1 := by rw [← la, h, lb]
  by_cases hne : a = b
  · exact hne
  · exfalso
    obtain ⟨w1, w2, w3, w4, w5⟩ := id hW
    have ca := w5 a ha ha2
    have cb := w5 b hb hb2
    have dab := hD a b ha ha2 hb hb2 hne lab
    rcases ah_sp hW ha ha2 with ⟨h1, h2⟩ | ⟨h1, h2, h3, h4, h5⟩
    · exact h2 b hb hb2 (fun z => hne z.symm) lab.symm
    · rcases ah_sp hW hb hb2 with ⟨g1, g2⟩ | ⟨g1, g2, g3, g4, g5⟩
      · exact g2 a ha ha2 hne lab
      · have p := h5 b hb hb2 (fun z => hne z.symm) lab.symm
        have q := g5 a ha ha2 hne lab
        rw [← h] at q g1 g2 g3 g4
        have ce := w5 _ h2 h3
        have dae := hD a _ ha ha2 h2 h3 (fun z => h1 z.symm) h4.symm
        have dbe := hD b _ hb hb2 h2 h3 (fun z => g1 z.symm) g4.symm
        generalize aheadS R a = e at *
        have s1 := DD_sp R e a
        have s2 := DD_sp R b a
        have s3 := DD_sp R e b
        have s4 := DD_sp R a b
        omega
/-- of those that are there, one is least -/
theorem least_ex (P : Int → Prop) (f : Int → Int) : ∀ n : Nat, (∀ j : Nat, j < n → ¬ P j) ∨ ∃ x : Int, 0 ≤ x ∧ x < n ∧ P x ∧ ∀ j : Nat, j < n → P j → f x ≤ f j
  | 0 => Or.inl (fun j h => by omega)
  | n + 1 => by
    rcases least_ex P f n with h | ⟨x, x0, x1, x2, x3⟩
    · by_cases p : P n
      · refine Or.inr ⟨n, by omega, by omega, p, fun j hj pj => ?_⟩
        by_cases q : j = n
        · subst q; exact Int.le_refl _
        · exact absurd pj (h j (by omega))
      · refine Or.inl (fun j hj pj => ?_)
        by_cases q : j = n
        · subst q; exact p pj
        · exact h j (by omega) pj
    · by_cases p : P n ∧ f n < f x
      · refine Or.inr ⟨n, by omega, by omega, p.1, fun j hj pj => ?_⟩
        by_cases q : j = n
        · subst q; exact Int.le_refl _
        · have := x3 j (by omega) pj; omega
      · refine Or.inr ⟨x, x0, by omega, x2, fun j hj pj => ?_⟩
        by_cases q : j = n
        · subst q
          by_cases z : f j < f x
          · exact absurd ⟨pj, z⟩ p
          · omega
        · exact x3 j (by omega) pj
theorem bh_ex (hW : WG R) (hD : ND R) {e : Int} (he : 0 ≤ e) (he2 : e < R 2) : ∃ c, 0 ≤ c ∧ c < R 2 ∧ cfR R c 1 = cfR R e 1 ∧ aheadS R c = e := by
  obtain ⟨w1, w2, w3, w4, w5⟩ := id hW
  rcases least_ex (fun c => c ≠ e ∧ cfR R c 1 = cfR R e 1) (fun c => DD R e c) (R 2).toNat with h | ⟨x, x0, x1, ⟨x2, x3⟩, x4⟩
  · refine ⟨e, he, he2, rfl, ?_⟩
    rcases ah_sp hW he he2 with ⟨h1, h2⟩ | ⟨h1, h2, h3, h4, h5⟩
    · exact h1
    · exfalso
      refine h (aheadS R e).toNat (by omega) ?_
      rw [toN h2]
      exact ⟨h1, h4⟩
  · have x1' : x < R 2 := by omega
    refine ⟨x, x0, x1', x3, ?_⟩
    rcases ah_sp hW x0 x1' with ⟨h1, h2⟩ | ⟨h1, h2, h3, h4, h5⟩
    · exact absurd x3.symm (h2 e he he2 (fun z => x2 z.symm))
    · by_cases q : aheadS R x = e
      · exact q
      · exfalso
        have p := h5 e he he2 (fun z => x2 z.symm) x3.symm
        have l := x4 (aheadS R x).toNat (by omega) (by rw [toN h2]; exact ⟨q, by rw [h4, x3]⟩)
        rw [toN h2] at l
        have cx := w5 x x0 x1'
        have ce := w5 e he he2
        have cz := w5 _ h2 h3
        have d1 := hD x _ x0 x1' h2 h3 (fun z => h1 z.symm) h4.symm
        have d2 := hD _ e h2 h3 he he2 q (by rw [h4, x3])
        have d3 := hD x e x0 x1' he he2 x2 x3
        generalize aheadS R x = z at *
        have s1 := DD_sp R z x
        have s2 := DD_sp R e x
        have s3 := DD_sp R e z
        omega
theorem bhF_sp {e : Int} : ∀ (f k : Nat), ((∀ j : Nat, k ≤ j → j < k + f → ¬ (cfR R j 1 = cfR R e 1 ∧ aheadS R j = e)) ∧ bhF R e f k = e) ∨ (((k : Int) ≤ bhF R e f k ∧ bhF R e f k < k + f) ∧ cfR R (bhF R e f k) 1 = cfR R e 1 ∧ aheadS R (bhF R e f k) = e)
  | 0, k => Or.inl ⟨fun j h1 h2 => by omega, rfl⟩
  | f + 1, k => by
    simp only [bhF]
    by_cases q : cfR R k 1 = cfR R e 1 ∧ aheadS R k = e
    · rw [if_pos q]
      exact Or.inr ⟨⟨by omega, by omega⟩, q⟩
    · rw [if_neg q]
      rcases bhF_sp (e := e) f (k + 1) with ⟨h1, h2⟩ | ⟨h1, h2⟩
      · refine Or.inl ⟨fun j j1 j2 => ?_, h2⟩
        by_cases z : j = k
        · subst z; exact q
        · exact h1 j (by omega) (by omega)
      · exact Or.inr ⟨⟨by omega, by omega⟩, h2⟩
theorem bh_sp (hW : WG R) (hD : ND R) {e : Int} (he : 0 ≤ e) (he2 : e < R 2) : (0 ≤ bhS R e ∧ bhS R e < R 2) ∧ cfR R (bhS R e) 1 = cfR R e 1 ∧ aheadS R (bhS R e) = e := by
  obtain ⟨c, c1, c2, c3, c4⟩ := bh_ex hW hD he he2
  unfold bhS
  rcases bhF_sp (R := R) (e := e) (R 2).toNat 0 with ⟨h1, h2⟩ | ⟨h1, h2⟩
  · exact absurd (by rw [toN c1]; exact ⟨c3, c4⟩) (h1 c.toNat (by omega) (by omega))
  · exact ⟨⟨by omega, by omega⟩, h2⟩
theorem bh_of (hW : WG R) (hD : ND R) {c : Int} (hc : 0 ≤ c) (hc2 : c < R 2) : bhS R (aheadS R c) = c := by
  have r := ah_rg hW hc hc2
  obtain ⟨b1, b2, b3⟩ := bh_sp hW hD r.1 r.2.1
  exact ah_inj hW hD b1.1 b1.2 hc hc2 b3
end KM
/-! counting -/
def ctF (p : Int → Prop) [DecidablePred p] : Nat → Int
  | 0 => 0
  | n + 1 => ctF p n + if p n then 1 else 0
theorem ct_rg (p : Int → Prop) [DecidablePred p] : ∀ n : Nat, 0 ≤ ctF p n ∧ ctF p n ≤ n
  | 0 => by simp only [ctF]; omega
  | n + 1 => by have := ct_rg p n; simp only [ctF]; split <;> omega
theorem ct_cg {p q : Int → Prop} [DecidablePred p] [DecidablePred q] : ∀ n : Nat, (∀ j : Nat, j < n → (p j ↔ q j)) → ctF p n = ctF q n
  | 0, _ => rfl
  | n + 1, h => by
    have ih := ct_cg n (fun j hj => h j (by omega))
    have hn := h n (by omega)
    simp only [ctF, ih]
    by_cases z : q n
    · rw [if_pos z, if_pos (hn.mpr z)]
    · rw [if_neg z, if_neg (fun y => z (hn.mp y))]
theorem ct_ins {p q : Int → Prop} [DecidablePred p] [DecidablePred q] {x : Int} (hx : ¬ p x) : ∀ n : Nat, 0 ≤ x → x < n → (∀ j : Nat, j < n → (q j ↔ (p j ∨ (j : Int) = x))) → ctF q n = ctF p n + 1
  | 0, h1, h2, _ => by omega
  | n + 1, h1, h2, h => by
    have hn := h n (by omega)
    simp only [ctF]
    by_cases z : x = n
    · have e : ctF q n = ctF p n := ct_cg n (fun j hj => by
        have := h j (by omega)
        constructor
        · intro y
          rcases this.mp y with a | a
          · exact a
          · omega
        · exact fun y => this.mpr (Or.inl y))
      rw [if_pos (hn.mpr (Or.inr z.symm)), if_neg (by rw [← z]; exact hx), e]
      omega
    · have e := ct_ins hx n h1 (by omega) (fun j hj => h j (by omega))
      rw [e]
      by_cases y : p n
      · rw [if_pos y, if_pos (hn.mpr (Or.inl y))]
      · rw [if_neg y, if_neg (fun w => by rcases hn.mp w with a | a; (exact y a); omega)]; omega
theorem ct_le {p q : Int → Prop} [DecidablePred p] [DecidablePred q] : ∀ n : Nat, (∀ j : Nat, j < n → p j → q j) → ctF p n ≤ ctF q n
  | 0, _ => Int.le_refl _
  | n + 1, h => by
    have ih := ct_le n (fun j hj => h j (by omega))
    have hn := h n (by omega)
    simp only [ctF]
    by_cases z : p n
    · rw [if_pos z, if_pos (hn z)]; omega
    · rw [if_neg z]; split <;> omega
