def lsF (R : Int → Int) (c : Int) : Nat → Bool
  | 0 => true
  | e + 1 => lsF R c e && (decide (cfR R e 1 ≠ cfR R c 1) || (decide (c ≤ e) && decide (cfR R e 2 < 2)))
def knB (R : Int → Int) (c : Int) : Bool := decide (cfR R c 2 < 2) && (decide (2 ≤ cfR R (aheadS R c) 2) || lsF R c (R 2).toNat) && decide (2 ≤ szS R c)
/-- how many knots there are -/
def knN (R : Int → Int) : Int := ctF (fun c => knB R c = true) (R 2).toNat
theorem lsF_iff {R : Int → Int} {c : Int} : ∀ n : Nat, lsF R c n = true ↔ ∀ e : Nat, e < n → cfR R e 1 = cfR R c 1 → c ≤ e ∧ cfR R e 2 < 2
  | 0 => ⟨fun _ e h => (by omega), fun _ => rfl⟩
  | n + 1 => by
    simp only [lsF, Bool.and_eq_true, Bool.or_eq_true, decide_eq_true_eq, lsF_iff n]
    constructor
    · intro ⟨h1, h2⟩ e he hl
      by_cases q : e = n
      · subst q
        rcases h2 with h2 | h2
        · exact absurd hl h2
        · exact h2
      · exact h1 e (by omega) hl
    · intro h
      refine ⟨fun e he => h e (by omega), ?_⟩
      by_cases q : cfR R n 1 = cfR R c 1
      · exact Or.inr (h n (by omega) q)
      · exact Or.inl q
theorem knB_iff {R : Int → Int} {c : Int} : knP R c ↔ (0 ≤ c ∧ c < R 2) ∧ knB R c = true := by
  unfold knP hdP knB
  simp only [Bool.and_eq_true, Bool.or_eq_true, decide_eq_true_eq, lsF_iff]
  have e : (∀ e : Int, 0 ≤ e → e < R 2 → cfR R e 1 = cfR R c 1 → c ≤ e ∧ cfR R e 2 < 2) ↔ ∀ e : Nat, e < (R 2).toNat → cfR R e 1 = cfR R c 1 → c ≤ e ∧ cfR R e 2 < 2 := by
    constructor
    · exact fun h e he hl => h e (by omega) (by omega) hl
    · intro h e e1 e2 hl
      have := h e.toNat (by omega) (by rw [toN e1]; exact hl)
      rw [toN e1] at this
      exact this
  rw [e]
theorem KS_n {R : Int → Int} {n : Nat} {h s : Int → Int} (H : KS R (knP R) n h s) : (n : Int) = knN R := by
  obtain ⟨a1, a2, a3⟩ := H
  have e := inN_ct (h := h) (N := (R 2).toNat) n (fun i hi => by have := (a1 i hi).1.1; omega) (fun i j z w y => by have := a2 i j z w; rw [y] at this; omega)
  rw [← e]
  unfold knN
  refine ct_cg _ (fun j hj => ?_)
  rw [inN_iff]
  constructor
  · intro ⟨i, i1, i2⟩
    rw [← i2]
    exact (knB_iff.mp (a1 i i1).1).2
  · intro hk
    exact a3 j (knB_iff.mpr ⟨by omega, hk⟩)
theorem knN_rg {R : Int → Int} (h : 0 ≤ R 2) : 0 ≤ knN R ∧ knN R ≤ R 2 := by
  have := ct_rg (fun c => knB R c = true) (R 2).toNat
  unfold knN
  omega
theorem wkF_le {R : Int → Int} {k : Int} : ∀ (f : Nat) (x n : Int), n ≤ wkF R k f x n ∧ wkF R k f x n ≤ n + f
  | 0, x, n => by simp only [wkF]; omega
  | f + 1, x, n => by
    simp only [wkF]
    split
    · have := wkF_le (R := R) (k := k) f (bhS R x) (n + 1); omega
    · omega
def suF (s : Int → Int) : Nat → Int
  | 0 => 0
  | i + 1 => suF s i + s i
def countA (R : Int → Int) (n : Nat) (s : Int → Int) (what : Int) : Int := if ¬ (0 ≤ what ∧ what ≤ 9) then -1 else if what = 0 then R 2 else if what ≤ 3 then R (37 + what - 1) else if what = 4 then R 5 else if what = 5 then R 6 else if what = 6 then n else if what = 7 then suF s n else if what = 8 then R 3 else evnS R
def knotA (n : Nat) (h s : Int → Int) (i what : Int) : Int := if i < 0 ∨ ¬ (0 ≤ what ∧ what ≤ 1) then -1 else if n ≤ i then -4 else if what = 0 then h i else s i
theorem KS_su {R : Int → Int} {n : Nat} {h s : Int → Int} (hR : 0 ≤ R 2) (hR2 : R 2 ≤ 12) (H : KS R (knP R) n h s) : ∀ i : Nat, i ≤ n → 0 ≤ suF s i ∧ suF s i ≤ 13 * i
  | 0, _ => by simp only [suF]; omega
  | i + 1, hi => by
    have ih := KS_su hR hR2 H i (by omega)
    have e := (H.1 i (by omega)).2
    have w := wkF_le (R := R) (k := h i) (R 2).toNat (h i) 1
    have w' : 1 ≤ szS R (h i) ∧ szS R (h i) ≤ 1 + (R 2).toNat := w
    simp only [suF]
    omega
/-! habits of those whose bit is set, 2 -/
def hsR (R : Int → Int) (set : Int) : Nat → (Int → Int)
  | 0 => R
  | c + 1 => fU (hsR R set c) (340 + 24 * c + 3) (if kAnd (kShr set c) 1 = 1 then 2 else cfR R c 3)
def kaR (R : Int → Int) (car n set : Int) : Int → Int := tkN (fU (hsR R set (R 2).toNat) (340 + 24 * car + 7) 1) n.toNat
def afterA (R : Int → Int) (car n : Int) : Int := if (0 ≤ car ∧ car < R 2) ∧ 1 ≤ n ∧ n ≤ 200 then knN (kaR R car n 0) else -1
def btF (set : Int) : Nat → Int
  | 0 => 0
  | k + 1 => btF set k + kAnd (kShr set k) 1
def clI (R : Int → Int) (car n many : Int) : Nat → Nat → Int
  | 0, _ => -1
  | f + 1, s => if btF s 8 = many ∧ knN (kaR R car n s) = 0 then s else clI R car n many f (s + 1)
def clO (R : Int → Int) (car n : Int) (M : Nat) : Nat → Nat → Int
  | 0, _ => -4
  | f + 1, many => if 0 ≤ clI R car n many M 0 then clI R car n many M 0 else clO R car n M f (many + 1)
def calmedA (R : Int → Int) (car n : Int) : Int := if ¬ ((0 ≤ car ∧ car < R 2) ∧ 1 ≤ n ∧ n ≤ 200) then -1 else if 8 < R 2 then -2 else clO R car n (kShl 1 (R 2)).toNat ((R 2).toNat + 1) 0
theorem kAnd_1 (x : Int) : kAnd x 1 = 0 ∨ kAnd x 1 = 1 := by
  have h : (Int32.ofInt x &&& Int32.ofInt 1).toBitVec.toNat ≤ 1 := by
    show ((Int32.ofInt x).toBitVec &&& (Int32.ofInt 1).toBitVec).toNat ≤ 1
    rw [BitVec.toNat_and]
    exact Nat.and_le_right
  have e := by_i (B := (Int32.ofInt x &&& Int32.ofInt 1).toBitVec) (by omega) (by decide)
  have : kAnd x 1 = ((Int32.ofInt x &&& Int32.ofInt 1).toBitVec.toNat : Int) := e
  omega
theorem btF_rg (set : Int) : ∀ k : Nat, 0 ≤ btF set k ∧ btF set k ≤ k
  | 0 => by simp only [btF]; omega
  | k + 1 => by
    have := btF_rg set k
    have := kAnd_1 (kShr set k)
    simp only [btF]
    omega
theorem hsR_at {R : Int → Int} {set : Int} : ∀ (k : Nat) (j : Int), (j < 340 ∨ 340 + 24 * k ≤ j ∨ (j - 340) % 24 ≠ 3) → hsR R set k j = R j
  | 0, _, _ => rfl
  | k + 1, j, h => by
    simp only [hsR]
    rw [fU_n (by omega)]
    exact hsR_at k j (by omega)
theorem hsR_3 {R : Int → Int} {set B : Int} (hW : WR R B) : ∀ (k : Nat), (k : Int) ≤ R 2 → ∀ c, 0 ≤ c → c < R 2 → 0 ≤ cfR (hsR R set k) c 3 ∧ cfR (hsR R set k) c 3 ≤ 2
  | 0, _, c, c1, c2 => (hW.2.2.2.2.1 c c1 c2).2.2.2.1
  | k + 1, hk, c, c1, c2 => by
    have ih := hsR_3 (set := set) hW k (by omega) c c1 c2
    have wk := (hW.2.2.2.2.1 k (by omega) (by omega)).2.2.2.1
    simp only [hsR]
    by_cases q : c = k
    · subst q
      have e : ∀ v, cfR (fU (hsR R set k) (340 + 24 * (k : Int) + 3) v) k 3 = v := fun v => by unfold cfR; rw [fU_s]
      rw [e]
      split <;> omega
    · have e : ∀ v, cfR (fU (hsR R set k) (340 + 24 * (k : Int) + 3) v) c 3 = cfR (hsR R set k) c 3 := fun v => by unfold cfR; rw [fU_n (by omega)]
      rw [e]
      exact ih
theorem WR.hs {R : Int → Int} {B set : Int} (h : WR R B) {N : Nat} (hN : (N : Int) ≤ R 2) : WR (hsR R set N) B := by
  obtain ⟨h0, h1, h2, h3, hc', hb, hp, hV, hd⟩ := id h
  have e : ∀ j, j < 340 → hsR R set N j = R j := fun j hj => hsR_at N j (by omega)
  have ec : ∀ c w, 0 ≤ c → 0 ≤ w → w < 24 → w ≠ 3 → cfR (hsR R set N) c w = cfR R c w := fun c w c1 w1 w2 hh => by unfold cfR; exact hsR_at N _ (by omega)
  refine ⟨by rw [e 0 (by omega)]; exact h0, by rw [e 1 (by omega)]; exact h1, by rw [e 2 (by omega)]; exact h2, by rw [e 3 (by omega)]; exact h3, fun c c1 c2 => ?_, ?_, ?_, fun q q1 q2 => ?_, fun c q c1 c2 q1 q2 hne hl => ?_⟩
  · rw [e 2 (by omega)] at c2
    obtain ⟨a1, a2, a3, a4, a5, a6, a7, a8, a9⟩ := hc' c c1 c2
    unfold WC
    rw [ec c 0 c1 (by omega) (by omega) (by omega), ec c 1 c1 (by omega) (by omega) (by omega), ec c 2 c1 (by omega) (by omega) (by omega), ec c 4 c1 (by omega) (by omega) (by omega), ec c 5 c1 (by omega) (by omega) (by omega), ec c 6 c1 (by omega) (by omega) (by omega), ec c 7 c1 (by omega) (by omega) (by omega), ec c 8 c1 (by omega) (by omega) (by omega), e 0 (by omega)]
    exact ⟨a1, a2, a3, hsR_3 h N hN c c1 c2, a5, a6, a7, a8, a9⟩
  · obtain ⟨b1, b2, b3⟩ := hb
    refine ⟨by rw [e 5 (by omega)]; exact b1, by rw [e 5 (by omega)]; exact b2, fun b q1 q2 => ?_⟩
    rw [e 5 (by omega)] at q2
    rw [e 0 (by omega), e _ (by omega), e _ (by omega), e _ (by omega)]
    exact b3 b q1 q2
  · obtain ⟨b1, b2, b3⟩ := hp
    refine ⟨by rw [e 6 (by omega)]; exact b1, by rw [e 6 (by omega)]; exact b2, fun b q1 q2 => ?_⟩
    rw [e 6 (by omega)] at q2
    rw [e 0 (by omega), e _ (by omega), e _ (by omega), e _ (by omega)]
    exact b3 b q1 q2
  · exact VH_cg q1 q2 (fun j j1 j2 => e j (by omega)) (hV q q1 q2)
  · rw [e 2 (by omega)] at c2 q2
    rw [ec c 1 c1 (by omega) (by omega) (by omega), ec q 1 q1 (by omega) (by omega) (by omega)] at hl
    rw [ec c 0 c1 (by omega) (by omega) (by omega), ec q 0 q1 (by omega) (by omega) (by omega)]
    exact hd c q c1 c2 q1 q2 hne hl
section K5
variable {E : EE} {k m : Nat} {G : HG} {d : HD} {K : PQ} {R : Int → Int}
theorem C_bits {set : Int} (hK : K (some (kI (btF set 8))) G d) : AM E mX7_bits k 0 0 [kI set] G d K := by
  have loop : ∀ (f j : Nat), j + f = 8 → AW E mX7_bits k 0 0 4 [some (kI set), some (kI (btF set j)), some (kI j)] [] G d K := by
    intro f
    induction f with
    | zero =>
      intro j hj
      have : j = 8 := by omega
      subst this
      refine A_iload_n dX7_bits_4 rfl rfl ?_
      refine A_bipush dX7_bits_5 ⟨by decide, by decide⟩ rfl ?_
      refine A_icmp_ge (tgt := 24) dX7_bits_7 (by decide) (fun c_7 => ?_) (fun c_7 => absurd c_7 (by omega))
      refine A_iload_n dX7_bits_24 rfl rfl ?_
      refine A_iret dX7_bits_25 rfl ?_
      exact hK
    | succ f ih =>
      intro j hj
      have b := btF_rg set j
      have a := kAnd_1 (kShr set j)
      refine A_iload_n dX7_bits_4 rfl rfl ?_
      refine A_bipush dX7_bits_5 ⟨by decide, by decide⟩ rfl ?_
      refine A_icmp_ge (tgt := 24) dX7_bits_7 (by decide) (fun c_7 => absurd c_7 (by omega)) (fun c_7 => ?_)
      refine A_iload_n dX7_bits_10 rfl rfl ?_
      refine A_iload_n dX7_bits_11 rfl rfl ?_
      refine A_iload_n dX7_bits_12 rfl rfl ?_
      refine A_ishr dX7_bits_13 ?_
      refine A_iconst dX7_bits_14 ⟨by decide, by decide⟩ ?_
      refine A_iand dX7_bits_15 ?_
      refine A_iadd_ok dX7_bits_16 (by omega) (by omega) ?_
      refine A_istore_n dX7_bits_17 rfl (Nat.le_of_ble_eq_true rfl) rfl ?_
      refine A_iinc_ok dX7_bits_18 rfl rfl (by omega) (by omega) ?_
      refine A_goto (tgt := 4) dX7_bits_21 (by decide) ?_
      exact ih (j + 1) (by omega)
  refine AM.of rfl (Nat.le_of_ble_eq_true rfl) ?_
  refine A_iconst dX7_bits_0 ⟨by decide, by decide⟩ ?_
  refine A_istore_n dX7_bits_1 rfl (Nat.le_of_ble_eq_true rfl) rfl ?_
  refine A_iconst dX7_bits_2 ⟨by decide, by decide⟩ ?_
  refine A_istore_n dX7_bits_3 rfl (Nat.le_of_ble_eq_true rfl) rfl ?_
  exact loop 8 0 (by omega)
theorem C_knotsAfter {car n set B : Int} (hM : MO G m) (hR : PZ d m 0 R) (hW : WR R B) (hB : 0 ≤ B) (hB2 : B ≤ 100000) (hc : 0 ≤ car) (hc2 : car < R 2) (hn : 1 ≤ n) (hn2 : n ≤ 200) (hK : ∀ d', MF d d' m → K (some (kI (knN (kaR R car n set)))) G d') : AM E mX7_knotsAfter (k + 8) 0 0 [kR m, kI car, kI n, kI set] G d K := by
  obtain ⟨ho, e0, a0, -⟩ := id hM
  have w2 := hW.2.2.1
  obtain ⟨N, hN⟩ : ∃ N : Nat, R 2 = N := ⟨(R 2).toNat, by omega⟩
  obtain ⟨T, hT⟩ : ∃ T : Nat, n = T := ⟨n.toNat, by omega⟩
  unfold kaR at hK
  rw [show (R 2).toNat = N by omega, show n.toNat = T by omega] at hK
  have W1 : WR (fU (hsR R set N) (340 + 24 * car + 7) 1) B := by
    have h0 := hW.hs (set := set) (N := N) (by omega)
    have e2 : hsR R set N 2 = R 2 := hsR_at N 2 (by omega)
    exact h0.tp hc (by omega) (Or.inr rfl)
  generalize hR1 : fU (hsR R set N) (340 + 24 * car + 7) 1 = R1 at *
  have tl : ∀ (f j : Nat), j + f = T → ∀ d', MF d d' m → PZ d' m 1 (tkN R1 j) → AW E mX7_knotsAfter (k + 8) 0 0 76 [some (kR m), some (kI car), some (kI n), some (kI set), some (kI j)] [] G d' K := by
    intro f
    induction f with
    | zero =>
      intro j hj d' hc' hz
      have : j = T := by omega
      subst this
      have T1 := tkN_W W1 hB j
      refine A_iload dX7_knotsAfter_76 rfl ?_
      refine A_iload_n dX7_knotsAfter_78 rfl rfl ?_
      refine A_icmp_ge (tgt := 93) dX7_knotsAfter_79 (by decide) (fun c_79 => ?_) (fun c_79 => absurd c_79 (by omega))
      refine A_aload_n dX7_knotsAfter_93 rfl rfl ?_
      refine A_iconst dX7_knotsAfter_94 ⟨by decide, by decide⟩ ?_
      refine A_inv1 dX7_knotsAfter_95 mv_X7_215 kCl_7 (Nat.le_of_ble_eq_true rfl) (by assumption) ?_
      refine C_findKnots hM hz (by omega) (by omega) T1.G T1.2.2.2.2.2.2.2.2 (fun c c1 c2 => (T1.2.2.2.2.1 c c1 c2).2.1) (fun d2 n2 g1 g2 g3 => ?_)
      have e := KS_n g3
      rw [← e] at hK
      refine A_aload_n dX7_knotsAfter_98 rfl rfl ?_
      refine A_get (fi := 20) dX7_knotsAfter_99 fg_X7_203 rfl rfl (by assumption) ?_
      rw [g2]
      refine A_iret dX7_knotsAfter_102 rfl ?_
      exact hK d2 (hc'.mc (g1.MC (r := 1)) (by omega) (by omega))
    | succ f ih =>
      intro j hj d' hc' hz
      have T1 := tkN_W W1 hB j
      refine A_iload dX7_knotsAfter_76 rfl ?_
      refine A_iload_n dX7_knotsAfter_78 rfl rfl ?_
      refine A_icmp_ge (tgt := 93) dX7_knotsAfter_79 (by decide) (fun c_79 => absurd c_79 (by omega)) (fun c_79 => ?_)
      refine A_aload_n dX7_knotsAfter_82 rfl rfl ?_
      refine A_iconst dX7_knotsAfter_83 ⟨by decide, by decide⟩ ?_
      refine A_inv1 dX7_knotsAfter_84 mv_X7_200 kCl_7 (Nat.le_of_ble_eq_true rfl) (by assumption) ?_
      refine C_tick hM hz (by omega) (by omega) T1 (by omega) (by omega) (fun d2 m2 p2 => ?_)
      refine A_iinc_ok dX7_knotsAfter_87 rfl rfl (by omega) (by omega) ?_
      refine A_goto (tgt := 76) dX7_knotsAfter_90 (by decide) ?_
      exact ih (j + 1) (by omega) d2 (hc'.mc m2 (by omega) (by omega)) p2
  have hl : ∀ (f j : Nat), j + f = N → ∀ d', MF d d' m → PZ d' m 1 (hsR R set j) → AW E mX7_knotsAfter (k + 8) 0 0 9 [some (kR m), some (kI car), some (kI n), some (kI set), some (kI j)] [] G d' K := by
    intro f
    induction f with
    | zero =>
      intro j hj d' hc' hz
      have : j = N := by omega
      subst this
      have hz0 := hc'.PZ (q := 0) (by omega) hR
      have z2 := hz0.z 2 (by omega) (by omega)
      rw [hN] at z2
      refine A_iload dX7_knotsAfter_9 rfl ?_
      refine A_aload_n dX7_knotsAfter_11 rfl rfl ?_
      refine A_getR (fi := 0) dX7_knotsAfter_12 fg_X7_7 rfl rfl (by assumption) (by assumption) ?_
      refine A_iconst dX7_knotsAfter_15 ⟨by decide, by decide⟩ ?_
      refine A_iald dX7_knotsAfter_16 (by assumption) (by omega) (by omega) ?_
      refine A_icmp_ge (tgt := 60) dX7_knotsAfter_17 (by decide) (fun c_17 => ?_) (fun c_17 => absurd c_17 (by omega))
      refine A_aload_n dX7_knotsAfter_60 rfl rfl ?_
      refine A_getR (fi := 0) dX7_knotsAfter_61 fg_X7_7 rfl rfl (by assumption) (by assumption) ?_
      refine A_iconst dX7_knotsAfter_64 ⟨by decide, by decide⟩ ?_
      refine A_iload_n dX7_knotsAfter_65 rfl rfl ?_
      refine A_bipush dX7_knotsAfter_66 ⟨by decide, by decide⟩ rfl ?_
      refine A_ins3 dX7_knotsAfter_68 ms_X7_74 (Nat.le_of_ble_eq_true rfl) ?_
      refine C_at (by omega) (by omega) (by omega) (by omega) (by omega) (by omega) ?_
      refine A_iconst dX7_knotsAfter_71 ⟨by decide, by decide⟩ ?_
      refine A_iast dX7_knotsAfter_72 (by assumption) (by omega) (by omega) ?_
      refine A_iconst dX7_knotsAfter_73 ⟨by decide, by decide⟩ ?_
      refine A_istore dX7_knotsAfter_74 (Nat.le_of_ble_eq_true rfl) rfl ?_
      refine tl T 0 (by omega) _ (hc'.z (by omega) (by omega)) ?_
      have := hz.u (i := 640 * 1 + 340 + 24 * car + 7) (q := 340 + 24 * car + 7) (v := 1) (by omega)
      rw [hR1] at this
      exact this
    | succ f ih =>
      intro j hj d' hc' hz
      have hz0 := hc'.PZ (q := 0) (by omega) hR
      have z2 := hz0.z 2 (by omega) (by omega)
      rw [hN] at z2
      have hR := hz0
      have next := ih (j + 1) (by omega)
      have st : ∀ v : Int, v = (if kAnd (kShr set j) 1 = 1 then 2 else cfR R j 3) → AW E mX7_knotsAfter (k + 8) 0 0 53 [some (kR m), some (kI car), some (kI n), some (kI set), some (kI j)] [kI v, kI (640 * 1 + 340 + 24 * j + 3), kR (m + 1)] G d' K := by
        intro v hv
        refine A_iast dX7_knotsAfter_53 (by assumption) (by omega) (by omega) ?_
        refine A_iinc_ok dX7_knotsAfter_54 rfl rfl (by omega) (by omega) ?_
        refine A_goto (tgt := 9) dX7_knotsAfter_57 (by decide) ?_
        refine next _ (hc'.z (by omega) (by omega)) ?_
        have := hz.u (i := 640 * 1 + 340 + 24 * j + 3) (q := 340 + 24 * j + 3) (v := v) (by omega)
        simp only [hsR]
        rw [← hv]
        exact this
      refine A_iload dX7_knotsAfter_9 rfl ?_
      refine A_aload_n dX7_knotsAfter_11 rfl rfl ?_
      refine A_getR (fi := 0) dX7_knotsAfter_12 fg_X7_7 rfl rfl (by assumption) (by assumption) ?_
      refine A_iconst dX7_knotsAfter_15 ⟨by decide, by decide⟩ ?_
      refine A_iald dX7_knotsAfter_16 (by assumption) (by omega) (by omega) ?_
      refine A_icmp_ge (tgt := 60) dX7_knotsAfter_17 (by decide) (fun c_17 => absurd c_17 (by omega)) (fun c_17 => ?_)
      refine A_aload_n dX7_knotsAfter_20 rfl rfl ?_
      refine A_getR (fi := 0) dX7_knotsAfter_21 fg_X7_7 rfl rfl (by assumption) (by assumption) ?_
      refine A_iconst dX7_knotsAfter_24 ⟨by decide, by decide⟩ ?_
      refine A_iload dX7_knotsAfter_25 rfl ?_
      refine A_iconst dX7_knotsAfter_27 ⟨by decide, by decide⟩ ?_
      refine A_ins3 dX7_knotsAfter_28 ms_X7_74 (Nat.le_of_ble_eq_true rfl) ?_
      refine C_at (by omega) (by omega) (by omega) (by omega) (by omega) (by omega) ?_
      refine A_iload_n dX7_knotsAfter_31 rfl rfl ?_
      refine A_iload dX7_knotsAfter_32 rfl ?_
      refine A_ishr dX7_knotsAfter_34 ?_
      refine A_iconst dX7_knotsAfter_35 ⟨by decide, by decide⟩ ?_
      refine A_iand dX7_knotsAfter_36 ?_
      refine A_iconst dX7_knotsAfter_37 ⟨by decide, by decide⟩ ?_
      refine A_icmp_ne (tgt := 45) dX7_knotsAfter_38 (by decide) (fun c_38 => ?_) (fun c_38 => ?_)
      · refine A_aload_n dX7_knotsAfter_45 rfl rfl ?_
        refine A_iconst dX7_knotsAfter_46 ⟨by decide, by decide⟩ ?_
        refine A_iload dX7_knotsAfter_47 rfl ?_
        refine A_iconst dX7_knotsAfter_49 ⟨by decide, by decide⟩ ?_
        refine A_inv3 dX7_knotsAfter_50 mv_X7_57 kCl_7 (Nat.le_of_ble_eq_true rfl) (by assumption) ?_
        refine C_of hM hR (by omega) (by omega) (by omega) (by omega) (by omega) (by omega) ?_
        exact st _ (by rw [if_neg c_38])
      · refine A_iconst dX7_knotsAfter_41 ⟨by decide, by decide⟩ ?_
        refine A_goto (tgt := 53) dX7_knotsAfter_42 (by decide) ?_
        exact st _ (by rw [if_pos c_38])
  refine AM.of rfl (Nat.le_of_ble_eq_true rfl) ?_
  refine A_aload_n dX7_knotsAfter_0 rfl rfl ?_
  refine A_iconst dX7_knotsAfter_1 ⟨by decide, by decide⟩ ?_
  refine A_iconst dX7_knotsAfter_2 ⟨by decide, by decide⟩ ?_
  refine A_inv2 dX7_knotsAfter_3 mv_X7_219 kCl_7 (Nat.le_of_ble_eq_true rfl) (by assumption) ?_
  refine C_copyRing hM (by omega) (by omega) (by omega) (by omega) (by omega) ?_
  refine A_iconst dX7_knotsAfter_6 ⟨by decide, by decide⟩ ?_
  refine A_istore dX7_knotsAfter_7 (Nat.le_of_ble_eq_true rfl) rfl ?_
  exact hl N 0 (by omega) _ (MF.rf.cp (by omega) (by omega)) (cpR_to hR)
theorem C_after {car n B : Int} (hM : MO G m) (hR : PZ d m 0 R) (hW : WR R B) (hB : 0 ≤ B) (hB2 : B ≤ 100000) (hK : ∀ d', MF d d' m → K (some (kI (afterA R car n))) G d') : AM E mX7_after (k + 9) 0 0 [kR m, kI car, kI n] G d K := by
  obtain ⟨ho, e0, a0, -⟩ := id hM
  have z2 := hR.z 2 (by omega) (by omega)
  have w2 := hW.2.2.1
  unfold afterA at hK
  refine AM.of rfl (Nat.le_of_ble_eq_true rfl) ?_
  refine A_aload_n dX7_after_0 rfl rfl ?_
  refine A_iload_n dX7_after_1 rfl rfl ?_
  refine A_inv1 dX7_after_2 mv_X7_84 kCl_7 (Nat.le_of_ble_eq_true rfl) (by assumption) ?_
  refine C_isCar hM (by omega) (by omega) ?_
  rw [z2]
  refine A_if_eq (tgt := 30) dX7_after_5 (by decide) (fun c_5 => ?_) (fun c_5 => ?_)
  · replace c_5 := i01e c_5
    refine A_iconst dX7_after_30 ⟨by decide, by decide⟩ ?_
    refine A_iret dX7_after_31 rfl ?_
    rw [if_neg (by omega)] at hK
    exact hK d MF.rf
  · replace c_5 := i01n c_5
    refine A_iload_n dX7_after_8 rfl rfl ?_
    refine A_i2l dX7_after_9 ?_
    refine A_lconst (x := 1) dX7_after_10 ⟨by decide, by decide⟩ rfl ?_
    refine A_ldc2 (x := 200) dX7_after_11 cs_X7_197 rfl ⟨by decide, by decide⟩ ?_
    refine A_ins3 dX7_after_14 ms_X7_53 (Nat.le_of_ble_eq_true rfl) ?_
    refine C_in ?_
    refine A_if_eq (tgt := 30) dX7_after_17 (by decide) (fun c_17 => ?_) (fun c_17 => ?_)
    · replace c_17 := i01e c_17
      refine A_iconst dX7_after_30 ⟨by decide, by decide⟩ ?_
      refine A_iret dX7_after_31 rfl ?_
      rw [if_neg (by omega)] at hK
      exact hK d MF.rf
    · replace c_17 := i01n c_17
      refine A_aload_n dX7_after_20 rfl rfl ?_
      refine A_iload_n dX7_after_21 rfl rfl ?_
      refine A_iload_n dX7_after_22 rfl rfl ?_
      refine A_iconst dX7_after_23 ⟨by decide, by decide⟩ ?_
      refine A_inv3 dX7_after_24 mv_X7_225 kCl_7 (Nat.le_of_ble_eq_true rfl) (by assumption) ?_
      rw [if_pos (by omega)] at hK
      refine C_knotsAfter hM hR hW hB hB2 (by omega) (by omega) (by omega) (by omega) (fun d2 g => ?_)
      refine A_goto (tgt := 31) dX7_after_27 (by decide) ?_
      refine A_iret dX7_after_31 rfl ?_
      exact hK d2 g
end K5
