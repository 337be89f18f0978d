/-- how many of k's lane are nearer behind k than x; how many are in its lane -/
def cn (R : Int → Int) (k x : Int) : Int := ctF (fun c => cfR R c 1 = cfR R k 1 ∧ DD R k c < DD R k x) (R 2).toNat
def lc (R : Int → Int) (k : Int) : Int := ctF (fun c => cfR R c 1 = cfR R k 1) (R 2).toNat
def wkF (R : Int → Int) (k : Int) : Nat → Int → Int → Int
  | 0, _, n => n
  | f + 1, x, n => if bhS R x ≠ k ∧ cfR R (bhS R x) 2 < 2 then wkF R k f (bhS R x) (n + 1) else n
def szS (R : Int → Int) (k : Int) : Int := wkF R k (R 2).toNat k 1
section KN
variable {R : Int → Int}
theorem DD_0 (hW : WG R) {k c : Int} (hk : 0 ≤ k) (hk2 : k < R 2) (hc : 0 ≤ c) (hc2 : c < R 2) : 0 ≤ DD R k c := by
  have a := hW.2.2.2.2 k hk hk2
  have b := hW.2.2.2.2 c hc hc2
  have := DD_sp R k c
  omega
theorem cn_0 (hW : WG R) {k : Int} (hk : 0 ≤ k) (hk2 : k < R 2) : cn R k k = 0 := by
  unfold cn
  have h : ∀ n : Nat, (n : Int) ≤ R 2 → ctF (fun c => cfR R c 1 = cfR R k 1 ∧ DD R k c < DD R k k) n = 0 := by
    intro n
    induction n with
    | zero => intro _; rfl
    | succ n ih =>
      intro hn
      simp only [ctF]
      rw [ih (by omega), if_neg]
      · rfl
      · intro z
        have := DD_0 hW hk hk2 (c := n) (by omega) (by omega)
        have s := DD_sp R k k
        omega
  exact h _ (by omega)
theorem cn_s (hW : WG R) (hD : ND R) {k x : Int} (hk : 0 ≤ k) (hk2 : k < R 2) (hx : 0 ≤ x) (hx2 : x < R 2) (hl : cfR R x 1 = cfR R k 1) (hy : bhS R x ≠ k) : cn R k (bhS R x) = cn R k x + 1 := by
  obtain ⟨b1, b2, b3⟩ := bh_sp hW hD hx hx2
  generalize bhS R x = y at *
  obtain ⟨w1, w2, w3, w4, w5⟩ := id hW
  have ck := w5 k hk hk2
  have cx := w5 x hx hx2
  have cy := w5 y b1.1 b1.2
  rcases ah_sp hW b1.1 b1.2 with ⟨h1, h2⟩ | ⟨h1, h2, h3, h4, h5⟩
  · exact absurd (by rw [b2, hl]) (h2 k hk hk2 (fun z => hy z.symm))
  · rw [b3] at h1 h2 h3 h4 h5
    have pk := h5 k hk hk2 (fun z => hy z.symm) (by rw [b2, hl])
    have dxy := hD x y hx hx2 b1.1 b1.2 h1 h4
    have dky := hD k y hk hk2 b1.1 b1.2 (fun z => hy z.symm) (by rw [b2, hl])
    have s1 := DD_sp R x y
    have s2 := DD_sp R k y
    have s3 := DD_sp R k x
    unfold cn
    refine ct_ins (x := x) (by omega) _ hx (by omega) (fun j hj => ?_)
    have j1 : (0 : Int) ≤ j := by omega
    have j2 : (j : Int) < R 2 := by omega
    have cj := w5 j j1 j2
    have s4 := DD_sp R k j
    have s5 := DD_sp R j y
    by_cases e1 : (j : Int) = x
    · rw [e1] at *
      constructor
      · exact fun _ => Or.inr rfl
      · exact fun _ => ⟨hl, by omega⟩
    · by_cases e2 : (j : Int) = y
      · rw [e2] at *
        constructor
        · intro z; omega
        · intro z; omega
      · by_cases e3 : cfR R j 1 = cfR R k 1
        · have pj := h5 j j1 j2 e2 (by rw [e3, b2, hl])
          have djx := hD j x j1 j2 hx hx2 e1 (by rw [e3, hl])
          have djy := hD j y j1 j2 b1.1 b1.2 e2 (by rw [e3, b2, hl])
          constructor
          · intro z; exact Or.inl ⟨e3, by omega⟩
          · intro z
            rcases z with z | z
            · exact ⟨e3, by omega⟩
            · omega
        · constructor
          · intro z; exact absurd z.1 e3
          · intro z
            rcases z with z | z
            · exact absurd z.1 e3
            · omega
theorem cn_e (hW : WG R) (hD : ND R) {k x : Int} (hk : 0 ≤ k) (hk2 : k < R 2) (hx : 0 ≤ x) (hx2 : x < R 2) (hy : bhS R x = k) : lc R k = cn R k x + 1 := by
  obtain ⟨b1, b2, b3⟩ := bh_sp hW hD hx hx2
  rw [hy] at b2 b3
  obtain ⟨w1, w2, w3, w4, w5⟩ := id hW
  have ck := w5 k hk hk2
  have cx := w5 x hx hx2
  have s3 := DD_sp R k x
  unfold lc cn
  refine ct_ins (x := x) (by omega) _ hx (by omega) (fun j hj => ?_)
  have j1 : (0 : Int) ≤ j := by omega
  have j2 : (j : Int) < R 2 := by omega
  have cj := w5 j j1 j2
  have s4 := DD_sp R k j
  by_cases e3 : cfR R j 1 = cfR R k 1
  · refine ⟨fun _ => ?_, fun _ => e3⟩
    by_cases e1 : (j : Int) = x
    · exact Or.inr e1
    · refine Or.inl ⟨e3, ?_⟩
      rcases ah_sp hW hk hk2 with ⟨h1, h2⟩ | ⟨h1, h2, h3, h4, h5⟩
      · rw [b3] at h1
        by_cases e2 : (j : Int) = k
        · omega
        · exact absurd e3 (h2 j j1 j2 e2)
      · rw [b3] at h1 h2 h3 h4 h5
        have s1 := DD_sp R x k
        have s5 := DD_sp R j k
        have dxk := hD x k hx hx2 hk hk2 h1 h4
        by_cases e2 : (j : Int) = k
        · have s6 := DD_sp R k k
          rw [e2]
          omega
        · have pj := h5 j j1 j2 e2 e3
          have djx := hD j x j1 j2 hx hx2 e1 (by rw [e3, h4])
          have djk := hD j k j1 j2 hk hk2 e2 e3
          omega
  · constructor
    · intro z; exact absurd z e3
    · intro z
      rcases z with z | z
      · exact z.1
      · rw [z]; exact b2.symm
theorem cn_lt {k x : Int} (hx : 0 ≤ x) (hx2 : x < R 2) (hl : cfR R x 1 = cfR R k 1) : cn R k x + 1 ≤ lc R k := by
  have h : ctF (fun c => (cfR R c 1 = cfR R k 1 ∧ DD R k c < DD R k x) ∨ c = x) (R 2).toNat = cn R k x + 1 := ct_ins (x := x) (by omega) _ hx (by omega) (fun j hj => Iff.rfl)
  rw [← h]
  exact ct_le _ (fun j hj z => by rcases z with z | z; (exact z.1); rw [z]; exact hl)
theorem lcn_le {k : Int} (h : 0 ≤ R 2) : lc R k ≤ R 2 := by
  have := (ct_rg (fun c => cfR R c 1 = cfR R k 1) (R 2).toNat).2
  unfold lc
  omega
/-- the walk back through a lane all slow counts the lane -/
theorem wk_all (hW : WG R) (hD : ND R) {k : Int} (hk : 0 ≤ k) (hk2 : k < R 2) (ha : ∀ c, 0 ≤ c → c < R 2 → cfR R c 1 = cfR R k 1 → cfR R c 2 < 2) : ∀ (f : Nat) (x : Int), 0 ≤ x → x < R 2 → cfR R x 1 = cfR R k 1 → cn R k x + f = R 2 → wkF R k f x (cn R k x + 1) = lc R k
  | 0, x, x1, x2, xl, hf => by
    have a := cn_lt x1 x2 xl
    have b := lcn_le (R := R) (k := k) hW.2.2.1
    omega
  | f + 1, x, x1, x2, xl, hf => by
    obtain ⟨b1, b2, b3⟩ := bh_sp hW hD x1 x2
    simp only [wkF]
    by_cases q : bhS R x = k
    · rw [if_neg (fun z => z.1 q)]
      exact (cn_e hW hD hk hk2 x1 x2 q).symm
    · rw [if_pos ⟨q, ha _ b1.1 b1.2 (by rw [b2, xl])⟩]
      have e := cn_s hW hD hk hk2 x1 x2 xl q
      rw [← e]
      exact wk_all hW hD hk hk2 ha f _ b1.1 b1.2 (by rw [b2, xl]) (by omega)
theorem sz_all (hW : WG R) (hD : ND R) {k : Int} (hk : 0 ≤ k) (hk2 : k < R 2) (ha : ∀ c, 0 ≤ c → c < R 2 → cfR R c 1 = cfR R k 1 → cfR R c 2 < 2) : szS R k = lc R k := by
  have e := cn_0 hW hk hk2
  have := wk_all hW hD hk hk2 ha (R 2).toNat k hk hk2 rfl (by omega)
  rw [e] at this
  exact this
end KN
def hdP (R : Int → Int) (c : Int) : Prop := cfR R c 2 < 2 ∧ (2 ≤ cfR R (aheadS R c) 2 ∨ ∀ e, 0 ≤ e → e < R 2 → cfR R e 1 = cfR R c 1 → c ≤ e ∧ cfR R e 2 < 2)
/-- c leads a knot -/
def knP (R : Int → Int) (c : Int) : Prop := (0 ≤ c ∧ c < R 2) ∧ hdP R c ∧ 2 ≤ szS R c
def kyS (R : Int → Int) (c : Int) : Int := 2 * cfR R c 0 + cfR R c 1
/-- n knots, in their order, are those of which P holds -/
def KS (R : Int → Int) (P : Int → Prop) (n : Nat) (h s : Int → Int) : Prop := (∀ i : Nat, i < n → P (h i) ∧ s i = szS R (h i)) ∧ (∀ i j : Nat, i < j → j < n → kyS R (h i) < kyS R (h j)) ∧ ∀ c, P c → ∃ i : Nat, i < n ∧ h i = c
theorem KS_u {R : Int → Int} {P : Int → Prop} {n n' : Nat} {h s h' s' : Int → Int} (H : KS R P n h s) (H' : KS R P n' h' s') (hi : ∀ a b, P a → P b → kyS R a = kyS R b → a = b) : n = n' ∧ ∀ i : Nat, i < n → h i = h' i ∧ s i = s' i := by
  obtain ⟨a1, a2, a3⟩ := H
  obtain ⟨b1, b2, b3⟩ := H'
  have le : ∀ (i j : Nat), i ≤ j → j < n → kyS R (h i) ≤ kyS R (h j) := fun i j h1 h2 => by
    by_cases q : i = j
    · subst q; exact Int.le_refl _
    · have := a2 i j (by omega) h2; omega
  have le' : ∀ (i j : Nat), i ≤ j → j < n' → kyS R (h' i) ≤ kyS R (h' j) := fun i j h1 h2 => by
    by_cases q : i = j
    · subst q; exact Int.le_refl _
    · have := b2 i j (by omega) h2; omega
  have eq : ∀ i : Nat, i ≤ n → i ≤ n' → ∀ j : Nat, j < i → h j = h' j := by
    intro i
    induction i with
    | zero => intro _ _ j hj; omega
    | succ i ih =>
      intro h1 h2 j hj
      have ih' := ih (by omega) (by omega)
      by_cases q : j = i
      · subst q
        obtain ⟨u, u1, u2⟩ := b3 _ (a1 j (by omega)).1
        obtain ⟨v, v1, v2⟩ := a3 _ (b1 j (by omega)).1
        have hu : j ≤ u := by
          rcases Nat.lt_or_ge u j with z | z
          · have := a2 u j z (by omega)
            rw [ih' u z, u2] at this
            omega
          · exact z
        have hv : j ≤ v := by
          rcases Nat.lt_or_ge v j with z | z
          · have := b2 v j z (by omega)
            rw [← ih' v z, v2] at this
            omega
          · exact z
        have l1 := le' j u hu u1
        have l2 := le j v hv v1
        rw [u2] at l1
        rw [v2] at l2
        exact hi _ _ (a1 j (by omega)).1 (b1 j (by omega)).1 (by omega)
      · exact ih' j (by omega)
  have en : n = n' := by
    rcases Nat.lt_trichotomy n n' with z | z | z
    · obtain ⟨v, v1, v2⟩ := a3 _ (b1 n z).1
      have := b2 v n v1 z
      rw [← eq n (Nat.le_refl _) (by omega) v v1, v2] at this
      omega
    · exact z
    · obtain ⟨v, v1, v2⟩ := b3 _ (a1 n' z).1
      have := a2 v n' v1 z
      rw [eq n' (by omega) (Nat.le_refl _) v v1, v2] at this
      omega
  refine ⟨en, fun i h1 => ?_⟩
  have e := eq n (Nat.le_refl _) (by omega) i h1
  refine ⟨e, ?_⟩
  rw [(a1 i h1).2, (b1 i (by omega)).2, e]
/-- one more, put in where it belongs -/
theorem KS_ins {R : Int → Int} {P Q : Int → Prop} {n j : Nat} {h s h' s' : Int → Int} {c : Int} (H : KS R P n h s) (hj : j ≤ n) (hl : ∀ i : Nat, i < j → kyS R (h i) < kyS R c) (hg : ∀ i : Nat, j ≤ i → i < n → kyS R c < kyS R (h i)) (e1 : ∀ i : Nat, i < j → h' i = h i ∧ s' i = s i) (e2 : h' j = c ∧ s' j = szS R c) (e3 : ∀ i : Nat, j ≤ i → i < n → h' ((i + 1 : Nat) : Int) = h i ∧ s' ((i + 1 : Nat) : Int) = s i) (hQ : ∀ x, Q x ↔ (P x ∨ x = c)) : KS R Q (n + 1) h' s' := by
  obtain ⟨a1, a2, a3⟩ := H
  refine ⟨fun i hi => ?_, fun i u h1 h2 => ?_, fun x hx => ?_⟩
  · rcases Nat.lt_trichotomy i j with z | z | z
    · rw [(e1 i z).1, (e1 i z).2]
      exact ⟨(hQ _).mpr (Or.inl (a1 i (by omega)).1), (a1 i (by omega)).2⟩
    · subst z
      rw [e2.1, e2.2]
      exact ⟨(hQ _).mpr (Or.inr rfl), rfl⟩
    · obtain ⟨q, rfl⟩ : ∃ q, i = q + 1 := ⟨i - 1, by omega⟩
      rw [(e3 q (by omega) (by omega)).1, (e3 q (by omega) (by omega)).2]
      exact ⟨(hQ _).mpr (Or.inl (a1 q (by omega)).1), (a1 q (by omega)).2⟩
  · rcases Nat.lt_trichotomy i j with z | z | z
    · rw [(e1 i z).1]
      rcases Nat.lt_trichotomy u j with y | y | y
      · rw [(e1 u y).1]; exact a2 i u h1 (by omega)
      · subst y; rw [e2.1]; exact hl i z
      · obtain ⟨q, rfl⟩ : ∃ q, u = q + 1 := ⟨u - 1, by omega⟩
        rw [(e3 q (by omega) (by omega)).1]
        exact a2 i q (by omega) (by omega)
    · subst z
      obtain ⟨q, rfl⟩ : ∃ q, u = q + 1 := ⟨u - 1, by omega⟩
      rw [e2.1, (e3 q (by omega) (by omega)).1]
      exact hg q (by omega) (by omega)
    · obtain ⟨q, rfl⟩ : ∃ q, u = q + 1 := ⟨u - 1, by omega⟩
      obtain ⟨p, rfl⟩ : ∃ p, i = p + 1 := ⟨i - 1, by omega⟩
      rw [(e3 q (by omega) (by omega)).1, (e3 p (by omega) (by omega)).1]
      exact a2 p q (by omega) (by omega)
  · rcases (hQ x).mp hx with z | z
    · obtain ⟨i, i1, i2⟩ := a3 x z
      rcases Nat.lt_or_ge i j with y | y
      · exact ⟨i, by omega, by rw [(e1 i y).1]; exact i2⟩
      · exact ⟨i + 1, by omega, by rw [(e3 i y i1).1]; exact i2⟩
    · exact ⟨j, by omega, by rw [e2.1]; exact z.symm⟩
