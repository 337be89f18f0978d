/-! a whole text read -/
def RQ (d d' : HD) (c l k : Int) : Prop := (∀ a, a ≠ 9 → (a < 11 ∨ 20 < a) → d' a = d a) ∧ d' 9 1 = d 9 1 ∧ (∀ a i, i < c → 11 ≤ a → a ≤ 15 → d' a i = d a i) ∧ (∀ a i, i < l → (a = 19 ∨ a = 20) → d' a i = d a i) ∧ ∀ a i, i < k → 16 ≤ a → a ≤ 18 → d' a i = d a i
theorem RF.Q {d d' : HD} {c l k : Int} (h : RF d d' c l) : RQ d d' c l k := ⟨fun a h1 h2 => h.1 a h1 (by omega) (by omega) (by omega), h.2.1 1 (by decide) (by decide) (by decide), h.2.2.1, h.2.2.2, fun a i _ h1 h2 => by rw [h.1 a (by omega) (by omega) (by omega) (by omega)]⟩
theorem RQ.tr {d d1 d2 : HD} {c l k c1 l1 k1 : Int} (h1 : RQ d d1 c l k) (h2 : RQ d1 d2 c1 l1 k1) (hc : c ≤ c1) (hl : l ≤ l1) (hk : k ≤ k1) : RQ d d2 c l k := ⟨fun a q1 q2 => (h2.1 a q1 q2).trans (h1.1 a q1 q2), h2.2.1.trans h1.2.1, fun a i q1 q2 q3 => (h2.2.2.1 a i (by omega) q2 q3).trans (h1.2.2.1 a i q1 q2 q3), fun a i q1 q2 => (h2.2.2.2.1 a i (by omega) q2).trans (h1.2.2.2.1 a i q1 q2), fun a i q1 q2 q3 => (h2.2.2.2.2 a i (by omega) q2 q3).trans (h1.2.2.2.2 a i q1 q2 q3)⟩
theorem RQ.u {d d' : HD} {c l k i v : Int} {a : Nat} (h : RQ d d' c l k) (ok : (a = 9 ∧ i ≠ 1) ∨ (11 ≤ a ∧ a ≤ 15 ∧ c ≤ i) ∨ ((a = 19 ∨ a = 20) ∧ l ≤ i) ∨ (16 ≤ a ∧ a ≤ 18 ∧ k ≤ i)) : RQ d (kU d' a i v) c l k := by
  refine ⟨fun b q1 q2 => ?_, ?_, fun b j q1 q2 q3 => ?_, fun b j q1 q2 => ?_, fun b j q1 q2 q3 => ?_⟩
  · rw [kU_ne (by omega)]; exact h.1 b q1 q2
  · unfold kU; rw [if_neg (by omega)]; exact h.2.1
  · unfold kU; rw [if_neg (by omega)]; exact h.2.2.1 b j q1 q2 q3
  · unfold kU; rw [if_neg (by omega)]; exact h.2.2.2.1 b j q1 q2
  · unfold kU; rw [if_neg (by omega)]; exact h.2.2.2.2 b j q1 q2 q3
theorem RQ.T {d d' : HD} {c l k n : Int} {t : Int → Int} (h : RQ d d' c l k) (hT : RT d n t) : RT d' n t := ⟨by rw [h.2.1]; exact hT.1, fun i i1 i2 => by rw [h.1 10 (by decide) (by decide)]; exact hT.2 i i1 i2⟩
def RLv (d : HD) (C N v r : Int) (s : Int × Int × Int) : Prop := (r < 0 ∧ s.1 = -1 - r ∧ s.1 < C ∧ s.2.1 = (if d 16 s.1 = 43 then v + d 17 s.1 else if d 16 s.1 = 45 then v - d 17 s.1 else d 17 s.1) ∧ s.2.2 = (if d 18 s.1 = 1 then 1 else 0)) ∨ (N ≤ r ∧ s = (-4, v, 0))
def XH (t : Int → Int) (n : Int) (d dE : HD) (f k : Nat) (p c l : Int) (N : Nat) (L C : Int) : Prop := RQ d dE c l k ∧ (dE 9 3 = N ∧ dE 9 4 = C ∧ dE 9 5 = L) ∧ LI dE N L ∧ (c ≤ N ∧ N ≤ 100 ∧ l ≤ L ∧ L ≤ 214 ∧ k < C ∧ C ≤ 6) ∧ (csF t n f k p).1 = C ∧ (∀ i : Int, k ≤ i → i < C → 0 ≤ dE 17 i ∧ dE 17 i ≤ 9) ∧ ∀ g dd oo v, ∃ (kk : Nat) (r : Int), (kk : Int) ≤ N - c ∧ RC dE (lam dE) N g dd oo v kk c r ∧ RLv dE C N v r (clF t n (cvS t n g dd oo v) v (C - k).toNat k p)
def stD (d : HD) (kk a b w p l c : Int) : HD := kU (kU (kU (kU (kU (kU (kU d 16 kk a) 17 kk b) 9 2 p) 18 kk w) 20 l (-1 - kk)) 20 (l + 1) c) 9 4 (kk + 1)
section RD7
variable {d : HD} {kk a b w p l c : Int}
theorem stD_a {q : Nat} (h1 : q ≠ 9) (h2 : q < 16 ∨ 18 < q) (h3 : q ≠ 20) : stD d kk a b w p l c q = d q := by
  unfold stD
  rw [kU_ne h1, kU_ne h3, kU_ne h3, kU_ne (by omega), kU_ne h1, kU_ne (by omega), kU_ne (by omega)]
theorem stD_2 {i : Int} (h2 : i ≠ 2) (h4 : i ≠ 4) : stD d kk a b w p l c 9 i = d 9 i := by
  unfold stD
  rw [kU_f h4, kU_ne (by decide), kU_ne (by decide), kU_ne (by decide), kU_f h2, kU_ne (by decide), kU_ne (by decide)]
theorem stD_22 : stD d kk a b w p l c 9 2 = p := by
  unfold stD
  rw [kU_f (by decide), kU_ne (by decide), kU_ne (by decide), kU_ne (by decide), kU_s]
theorem stD_24 : stD d kk a b w p l c 9 4 = kk + 1 := by
  unfold stD
  rw [kU_s]
theorem stD_9 : stD d kk a b w p l c 16 kk = a ∧ stD d kk a b w p l c 17 kk = b ∧ stD d kk a b w p l c 18 kk = w := by
  unfold stD
  refine ⟨?_, ?_, ?_⟩
  · rw [kU_ne (by decide), kU_ne (by decide), kU_ne (by decide), kU_ne (by decide), kU_ne (by decide), kU_ne (by decide), kU_s]
  · rw [kU_ne (by decide), kU_ne (by decide), kU_ne (by decide), kU_ne (by decide), kU_ne (by decide), kU_s]
  · rw [kU_ne (by decide), kU_ne (by decide), kU_ne (by decide), kU_s]
theorem stD_13 : stD d kk a b w p l c 20 l = -1 - kk ∧ stD d kk a b w p l c 20 (l + 1) = c := by
  unfold stD
  refine ⟨?_, ?_⟩
  · rw [kU_ne (by decide), kU_f (by omega), kU_s]
  · rw [kU_ne (by decide), kU_s]
theorem stD_13n {i : Int} (h1 : i ≠ l) (h2 : i ≠ l + 1) : stD d kk a b w p l c 20 i = d 20 i := by
  unfold stD
  rw [kU_ne (by decide), kU_f h2, kU_f h1, kU_ne (by decide), kU_ne (by decide), kU_ne (by decide), kU_ne (by decide)]
theorem stD_Q {c0 l0 : Int} (hl : l0 ≤ l) : RQ d (stD d kk a b w p l c) c0 l0 kk := by
  unfold stD
  have k0 := Int.le_refl kk
  have rf : RQ d d c0 l0 kk := ⟨fun _ _ _ => rfl, rfl, fun _ _ _ _ _ => rfl, fun _ _ _ _ => rfl, fun _ _ _ _ _ => rfl⟩
  exact ((((((rf.u (Or.inr (Or.inr (Or.inr ⟨by decide, by decide, k0⟩)))).u (Or.inr (Or.inr (Or.inr ⟨by decide, by decide, k0⟩)))).u (Or.inl ⟨rfl, by decide⟩)).u (Or.inr (Or.inr (Or.inr ⟨by decide, by decide, k0⟩)))).u (Or.inr (Or.inr (Or.inl ⟨Or.inr rfl, hl⟩)))).u (Or.inr (Or.inr (Or.inl ⟨Or.inr rfl, by omega⟩)))).u (Or.inl ⟨rfl, by decide⟩)
end RD7
theorem gF_out {F : HD} {lm : Int → Int} {N : Nat} {g dd oo v r : Int} (h : r < 0 ∨ N ≤ r) : ∀ f : Nat, gF F lm N g dd oo v f r = r
  | 0 => rfl
  | f + 1 => by
    show (if 0 ≤ r ∧ r < (N : Int) then _ else r) = r
    rw [if_neg (by omega)]
section RD8
variable {E : EE} {k : Nat} {G : HG} {n : Int} {t : Int → Int} {K : PQ}
/-- what a sound text leaves in the reader -/
def XR (t : Int → Int) (n : Int) (d' : HD) (N : Nat) (C : Int) : Prop := (d' 9 3 = N ∧ d' 9 4 = C ∧ N ≤ 100 ∧ 1 ≤ C ∧ C ≤ 6 ∧ (csP t n).1 = C) ∧ (∀ i : Int, 0 ≤ i → i < C → 0 ≤ d' 17 i ∧ d' 17 i ≤ 9) ∧ ∃ (F : HD) (lm : Int → Int), (∀ i : Int, 0 ≤ i → i < N → d' 11 i = F 11 i ∧ d' 12 i = F 12 i ∧ d' 13 i = F 13 i ∧ d' 14 i = lm (F 14 i) ∧ d' 15 i = lm (F 15 i)) ∧ ∀ g dd oo v, RLv d' C N v (gF F lm N g dd oo v N 0) (clF t n (cvS t n g dd oo v) v C.toNat 0 0)
theorem C_readHabit {d : HD} (hM : RO G) (hT : RT d n t) (hn0 : 0 ≤ n) (hn : n ≤ 100) (hF0 : ∀ d', (∀ a, a ≠ 9 → (a < 11 ∨ 20 < a) → d' a = d a) → d' 9 1 = d 9 1 → d' 9 2 = (csP t n).2 → (csP t n).1 = -1 → K (some (kI 0)) G d') (hS0 : ∀ (d' : HD) (N : Nat) (C : Int), (∀ a, a ≠ 9 → (a < 11 ∨ 20 < a) → d' a = d a) → d' 9 1 = d 9 1 → XR t n d' N C → K (some (kI 1)) G d') : AM E mX3_readHabit (k + 18) 0 0 [kR 9] G d K := by
  have ho := hM.1
  have loop : ∀ (f kk : Nat) (d : HD) (p c l : Int), kk + f = 6 → EN t n d p c l (2 * kk) → d 9 4 = kk → (∀ d' p', RQ d d' c l kk → d' 9 2 = p' → csF t n f kk p = (-1, p') → K (some (kI 0)) G d') → (∀ (dE : HD) (N : Nat) (L C : Int), XH t n d dE f kk p c l N L C → ∀ q1 q2 q3 : Option AV, AW E mX3_readHabit (k + 18) 0 0 80 [some (kR 9), q1, q2, q3] [] G dE K) → ∀ q2 q3 : Option AV, AW E mX3_readHabit (k + 18) 0 0 22 [some (kR 9), some (kI kk), q2, q3] [] G d K := by
    intro f
    induction f with
    | zero =>
      intro kk d p c l hk hE h4 hF hS q2 q3
      refine A_iload_n dX3_readHabit_22 rfl rfl ?_
      refine A_bipush dX3_readHabit_23 ⟨by decide, by decide⟩ rfl ?_
      refine A_icmp_ge (tgt := 112) dX3_readHabit_25 (by decide) (fun c_25 => ?_) (fun c_25 => absurd c_25 (by omega))
      refine A_iconst dX3_readHabit_112 ⟨by decide, by decide⟩ ?_
      refine A_zret dX3_readHabit_113 rfl (by first | exact Or.inl rfl | exact Or.inr rfl | assumption | omega) ?_
      exact hF d p RF.rf.Q hE.2.1.1 rfl
    | succ f ih =>
      intro kk d p c l hk hE h4 hF hS q2 q3
      obtain ⟨hT, ⟨f2, f3, f5⟩, hL, b1, b2, b3, b4, b5, b6⟩ := id hE
      have E1 : EN t n (nlD d l) p c (l + 1) (2 * kk + 1) := hE.nl (by omega)
      have E2 : EN t n (nlD (nlD d l) (l + 1)) p c (l + 1 + 1) 12 := E1.nl (by omega)
      have R2 : RF d (nlD (nlD d l) (l + 1)) c l := (RF.nl b5).tr (RF.nl (by omega)) (Int.le_refl _) (by omega)
      have cs1 : csF t n (f + 1) kk p = if (tE t n false 0 p).1 = false then (-1, (tE t n false 0 p).2) else if (acP t n (tE t n false 0 p).2).1 = false then (-1, (acP t n (tE t n false 0 p).2).2) else if ch t n (sk t n (acP t n (tE t n false 0 p).2).2) = -1 then ((kk : Int) + 1, sk t n (acP t n (tE t n false 0 p).2).2) else if ch t n (sk t n (acP t n (tE t n false 0 p).2).2) ≠ 59 ∨ (kk : Int) + 1 = 6 then (-1, sk t n (acP t n (tE t n false 0 p).2).2) else csF t n f ((kk : Int) + 1) (sk t n (acP t n (tE t n false 0 p).2).2 + 1) := rfl
      refine A_iload_n dX3_readHabit_22 rfl rfl ?_
      refine A_bipush dX3_readHabit_23 ⟨by decide, by decide⟩ rfl ?_
      refine A_icmp_ge (tgt := 112) dX3_readHabit_25 (by decide) (fun c_25 => absurd c_25 (by omega)) (fun c_25 => ?_)
      refine A_aload_n dX3_readHabit_28 rfl rfl ?_
      refine A_inv0 dX3_readHabit_29 mv_X3_61 kCl_3 (Nat.le_of_ble_eq_true rfl) (by assumption) ?_
      refine C_newLabel hM f5 b5 (by omega) ?_
      refine A_istore_n dX3_readHabit_32 rfl (Nat.le_of_ble_eq_true rfl) rfl ?_
      refine A_aload_n dX3_readHabit_33 rfl rfl ?_
      refine A_inv0 dX3_readHabit_34 mv_X3_61 kCl_3 (Nat.le_of_ble_eq_true rfl) (by assumption) ?_
      refine C_newLabel hM E1.2.1.2.2 (by omega) (by omega) ?_
      refine A_istore_n dX3_readHabit_37 rfl (Nat.le_of_ble_eq_true rfl) rfl ?_
      refine A_aload_n dX3_readHabit_38 rfl rfl ?_
      refine A_iload_n dX3_readHabit_39 rfl rfl ?_
      refine A_iload_n dX3_readHabit_40 rfl rfl ?_
      refine A_iconst dX3_readHabit_41 ⟨by decide, by decide⟩ ?_
      refine A_inv3 dX3_readHabit_42 mv_X3_65 kCl_3 (Nat.le_of_ble_eq_true rfl) (by assumption) ?_
      refine rd_PT0 hM hn _ p c (l + 1 + 1) l (l + 1) _ E2 ⟨b5, by omega⟩ ⟨by omega, by omega⟩ (fun d2 p2 r z h => ?_) (fun d2 p2 c2 l2 X => ?_)
      · refine A_if_eq (tgt := 64) dX3_readHabit_45 (by decide) (fun c_45 => ?_) (fun c_45 => absurd c_45 (by omega))
        refine A_iconst dX3_readHabit_64 ⟨by decide, by decide⟩ ?_
        refine A_zret dX3_readHabit_65 rfl (by first | exact Or.inl rfl | exact Or.inr rfl | assumption | omega) ?_
        exact hF d2 p2 (R2.tr r (Int.le_refl _) (by omega)).Q z (by rw [cs1, h, if_pos rfl])
      obtain ⟨r2, ⟨u2, u3, u5⟩, hL2, ⟨v1, v2, v3, v4, v5, v6⟩, ⟨te, sp2, n38, n124⟩, hsem⟩ := X
      have rd2 : RF d d2 c l := R2.tr r2 (Int.le_refl _) (by omega)
      have u4 : d2 9 4 = kk := by rw [rd2.2.1 4 (by decide) (by decide) (by decide)]; exact h4
      refine A_if_eq (tgt := 64) dX3_readHabit_45 (by decide) (fun c_45 => absurd c_45 (by omega)) (fun c_45 => ?_)
      refine A_aload_n dX3_readHabit_48 rfl rfl ?_
      refine A_bipush dX3_readHabit_49 ⟨by decide, by decide⟩ rfl ?_
      refine A_inv1 dX3_readHabit_51 mv_X3_69 kCl_3 (Nat.le_of_ble_eq_true rfl) (by assumption) ?_
      rw [← kU_id u2]
      refine C_rtake hM (rd2.T hT) hn (by omega) v2 (fun h58 => ?_) (fun h58 => ?_)
      rotate_left
      · rw [sp2] at h58 ⊢
        refine A_if_eq (tgt := 64) dX3_readHabit_54 (by decide) (fun c_54 => ?_) (fun c_54 => absurd c_54 (by omega))
        refine A_iconst dX3_readHabit_64 ⟨by decide, by decide⟩ ?_
        refine A_zret dX3_readHabit_65 rfl (by first | exact Or.inl rfl | exact Or.inr rfl | assumption | omega) ?_
        refine hF _ p2 (rd2.u (Or.inl ⟨rfl, Or.inl rfl⟩)).Q kU_s ?_
        have e : tE t n false 0 p = (false, p2) := by rw [te, tE_A v2, sp2, if_neg (by omega), if_neg (by omega), if_neg (fun z => h58 z.1)]
        rw [cs1, e, if_pos rfl]
      rw [sp2] at h58 ⊢
      have lt2 := ch_lt (t := t) (n := n) (p := p2) (by omega)
      have eT : tE t n false 0 p = (true, p2 + 1) := by rw [te, tE_A v2, sp2, if_neg (by omega), if_neg (by omega), if_pos ⟨h58, rfl⟩]
      rw [eT] at cs1
      rw [if_neg (fun z => by cases z)] at cs1
      refine A_if_eq (tgt := 64) dX3_readHabit_54 (by decide) (fun c_54 => absurd c_54 (by omega)) (fun c_54 => ?_)
      refine A_aload_n dX3_readHabit_57 rfl rfl ?_
      refine A_inv0 dX3_readHabit_58 mv_X3_73 kCl_3 (Nat.le_of_ble_eq_true rfl) (by assumption) ?_
      refine C_readAct hM (rd2.T hT) hn (by omega) (by omega) u4 (by omega) (by omega) (fun hac => ?_) (fun hac => ?_)
      · refine A_if_ne (tgt := 66) dX3_readHabit_61 (by decide) (fun c_61 => absurd c_61 (by omega)) (fun c_61 => ?_)
        refine A_iconst dX3_readHabit_64 ⟨by decide, by decide⟩ ?_
        refine A_zret dX3_readHabit_65 rfl (by first | exact Or.inl rfl | exact Or.inr rfl | assumption | omega) ?_
        exact hF _ _ (rd2.u (Or.inl ⟨rfl, Or.inl rfl⟩)).Q kU_s (by rw [cs1, if_pos hac])
      rw [if_neg (by rw [hac]; decide)] at cs1
      have rga := acP_rg (t := t) (n := n) (p := p2 + 1) (by omega)
      have oka := acP_ok hac (by omega)
      have e24 : ∀ x y z w q, kU (kU (kU (kU d2 16 x y) 17 x z) 9 2 w) 18 x q 9 4 = kk := fun x y z w q => by rw [kU_ne (by decide), kU_f (by decide), kU_ne (by decide), kU_ne (by decide)]; exact u4
      have e23 : ∀ x y z w q, kU (kU (kU (kU d2 16 x y) 17 x z) 9 2 w) 18 x q 9 3 = c2 := fun x y z w q => by rw [kU_ne (by decide), kU_f (by decide), kU_ne (by decide), kU_ne (by decide)]; exact u3
      refine A_if_ne (tgt := 66) dX3_readHabit_61 (by decide) (fun c_61 => ?_) (fun c_61 => absurd c_61 (by omega))
      refine A_aload_n dX3_readHabit_66 rfl rfl ?_
      refine A_iload_n dX3_readHabit_67 rfl rfl ?_
      refine A_iload_n dX3_readHabit_68 rfl rfl ?_
      refine A_inv2 dX3_readHabit_69 mv_X3_77 kCl_3 (Nat.le_of_ble_eq_true rfl) (by assumption) ?_
      refine C_endClause hM (e24 _ _ _ _ _) (by omega) (by omega) (e23 _ _ _ _ _) b5 (by omega) (by omega) (by omega) ?_
      obtain ⟨p4, hp4⟩ : ∃ x, (acP t n (p2 + 1)).2 = x := ⟨_, rfl⟩
      obtain ⟨A, hA⟩ : ∃ x, sk t n (p2 + 1) = x := ⟨_, rfl⟩
      have ac2 := oka.2.2.1
      have acd := oka.2.1
      rw [hp4] at rga cs1 ac2
      rw [hA] at ac2 acd
      rw [hp4, hA]
      generalize hd4 : kU (kU (kU (kU (kU (kU (kU d2 16 kk (ch t n A)) 17 kk (acD t n A)) 9 2 p4) 18 kk (if ch t n (acC t n A) = 99 then 1 else 0)) 20 l (-1 - (kk : Int))) 20 (l + 1) c2) 9 4 ((kk : Int) + 1) = d4
      have hd : d4 = stD d2 kk (ch t n A) (acD t n A) (if ch t n (acC t n A) = 99 then 1 else 0) p4 l c2 := hd4.symm
      clear hd4
      have q22 : d4 9 2 = p4 := by rw [hd]; exact stD_22
      have q23 : d4 9 3 = c2 := by rw [hd, stD_2 (by decide) (by decide)]; exact u3
      have q24 : d4 9 4 = (kk : Int) + 1 := by rw [hd]; exact stD_24
      have q25 : d4 9 5 = l2 := by rw [hd, stD_2 (by decide) (by decide)]; exact u5
      have rd4 : RQ d d4 c l kk := by rw [hd]; exact rd2.Q.tr (stD_Q (Int.le_refl l)) (Int.le_refl _) (Int.le_refl _) (Int.le_refl _)
      have q12 : d4 19 = d2 19 := by rw [hd]; exact stD_a (by decide) (by decide) (by decide)
      have q48 : ∀ a, 11 ≤ a → a ≤ 15 → d4 a = d2 a := fun a a1 a2 => by rw [hd]; exact stD_a (by omega) (by omega) (by omega)
      have q13 : ∀ i, i ≠ l → i ≠ l + 1 → d4 20 i = d2 20 i := fun i i1 i2 => by rw [hd]; exact stD_13n i1 i2
      have q13l : d4 20 l = -1 - (kk : Int) ∧ d4 20 (l + 1) = c2 := by rw [hd]; exact stD_13
      have q9 : d4 16 kk = ch t n A ∧ d4 17 kk = acD t n A ∧ d4 18 kk = if ch t n (acC t n A) = 99 then 1 else 0 := by rw [hd]; exact stD_9
      clear hd
      have j1 : d4 19 l = -1 := by rw [q12, r2.2.2.2 19 l (by omega) (Or.inl rfl)]; unfold nlD; rw [kU_ne (by decide), kU_ne (by decide), kU_f (by omega)]; exact nlD_12
      have j2 : d4 19 (l + 1) = -1 := by rw [q12, r2.2.2.2 19 (l + 1) (by omega) (Or.inl rfl)]; exact nlD_12
      have L4 : LI d4 c2 l2 := ⟨fun i i1 i2 => by rw [q12]; exact hL2.1 i i1 i2, fun i i1 i2 => by rw [q48 14 (by decide) (by decide), q48 15 (by decide) (by decide)]; exact hL2.2 i i1 i2⟩
      have g4 := sk_ge (t := t) (n := n) p4
      have l4 := sk_le (t := t) rga.2
      -- the test of this clause, and where its chain goes
      have tsem : ∀ g dd oo v, ∃ x, (x = 0 ∨ x = 1) ∧ evT t n (cvS t n g dd oo v) p = x ∧ CHN d2 c c2 (l + 1 + 1) l2 g dd oo v x l (l + 1) := by
        intro g dd oo v
        obtain ⟨x, hx, ⟨e, cc, hec, hfl⟩, hch⟩ := hsem g dd oo v
        refine ⟨x, hx, ?_, hch⟩
        have ht : (tE t n true 0 p2).1 = true := by rw [← te, eT]
        have q0 : (fun _ : Int => (0 : Int)) = fU (fun _ => 0) 0 0 := by funext j; unfold fU; split <;> rfl
        have q1 : (fun _ : Int => (1 : Int)) = fU (fun _ => 1) 0 1 := by funext j; unfold fU; split <;> rfl
        unfold evT
        rw [show eE t n (cvS t n g dd oo v) false 0 p (fun _ => 0) (fun _ => 1) (fun _ => 0) = eE t n (cvS t n g dd oo v) false 0 p (fU (fun _ => 0) 0 0) (fU (fun _ => 1) 0 1) (fun _ => 0) by rw [← q0, ← q1], hfl ht 0 _ _ _ (Or.inl rfl), eE_A4 (by rw [sp2]; exact h58), fU_s, fU_s, or1_as, hec]
        rcases hx with rfl | rfl <;> rfl
      have clS1 : ∀ (g dd oo v : Int) (m : Nat), clF t n (cvS t n g dd oo v) v (m + 1) kk p = if evT t n (cvS t n g dd oo v) p ≠ 0 then ((kk : Int), acW t n A v, if ch t n (acC t n A) = 99 then 1 else 0) else clF t n (cvS t n g dd oo v) v m ((kk : Int) + 1) (sk t n p4 + 1) := fun g dd oo v m => by
        simp only [clF]
        rw [eT]
        show (if evT t n (cvS t n g dd oo v) p ≠ 0 then ((kk : Int), acW t n (sk t n (p2 + 1)) v, if ch t n (acC t n (sk t n (p2 + 1))) = 99 then 1 else 0) else clF t n (cvS t n g dd oo v) v m ((kk : Int) + 1) (sk t n (acE t n (sk t n (p2 + 1))) + 1)) = _
        rw [hA, ← ac2]
      have dig : 0 ≤ acD t n A ∧ acD t n A ≤ 9 := by unfold acD; have := acd.2; omega
      -- a clause that holds, in any state that keeps this one's rows
      have holdsC : ∀ (dE : HD) (C N v : Int), dE 16 kk = d4 16 kk → dE 17 kk = d4 17 kk → dE 18 kk = d4 18 kk → (kk : Int) < C → RLv dE C N v (-1 - (kk : Int)) ((kk : Int), acW t n A v, if ch t n (acC t n A) = 99 then 1 else 0) := by
        intro dE C N v h9 h10 h11 hC
        refine Or.inl ⟨by omega, by show (kk : Int) = _; omega, hC, ?_, ?_⟩
        · show acW t n A v = if dE 16 kk = 43 then v + dE 17 kk else if dE 16 kk = 45 then v - dE 17 kk else dE 17 kk
          rw [h9, h10, q9.1, q9.2.1]
          rfl
        · show (if ch t n (acC t n A) = 99 then (1 : Int) else 0) = if dE 18 kk = 1 then 1 else 0
          rw [h11, q9.2.2]
          split <;> rfl
      refine A_aload_n dX3_readHabit_72 rfl rfl ?_
      refine A_inv0 dX3_readHabit_73 mv_X3_81 kCl_3 (Nat.le_of_ble_eq_true rfl) (by assumption) ?_
      rw [← kU_id q22]
      refine C_next hM (rd4.T hT) hn (by omega) rga.2 ?_
      refine A_iconst dX3_readHabit_76 ⟨by decide, by decide⟩ ?_
      refine A_icmp_ne (tgt := 86) dX3_readHabit_77 (by decide) (fun c_77 => ?_) (fun c_77 => ?_)
      · rw [if_neg c_77] at cs1
        have w24 : kU d4 9 2 (sk t n p4) 9 4 = (kk : Int) + 1 := by rw [kU_f (by decide)]; exact q24
        refine A_aload_n dX3_readHabit_86 rfl rfl ?_
        refine A_get (fi := 4) dX3_readHabit_87 fg_X3_25 rfl rfl (by assumption) ?_
        rw [w24]
        refine A_bipush dX3_readHabit_90 ⟨by decide, by decide⟩ rfl ?_
        refine A_icmp_eq (tgt := 104) dX3_readHabit_92 (by decide) (fun c_92 => ?_) (fun c_92 => ?_)
        · refine A_iconst dX3_readHabit_104 ⟨by decide, by decide⟩ ?_
          refine A_zret dX3_readHabit_105 rfl (by first | exact Or.inl rfl | exact Or.inr rfl | assumption | omega) ?_
          exact hF _ _ (rd4.u (Or.inl ⟨rfl, by decide⟩)) kU_s (by rw [cs1, if_pos (Or.inr c_92)])
        · refine A_aload_n dX3_readHabit_95 rfl rfl ?_
          refine A_bipush dX3_readHabit_96 ⟨by decide, by decide⟩ rfl ?_
          refine A_inv1 dX3_readHabit_98 mv_X3_69 kCl_3 (Nat.le_of_ble_eq_true rfl) (by assumption) ?_
          refine C_rtake hM (rd4.T hT) hn (by omega) l4 (fun h59 => ?_) (fun h59 => ?_)
          · rw [sk_sk] at h59 ⊢
            have lt4 := ch_lt (t := t) (n := n) (p := sk t n p4) (by omega)
            rw [if_neg (by omega)] at cs1
            have r5 : RQ d (kU d4 9 2 (sk t n p4 + 1)) c l kk := rd4.u (Or.inl ⟨rfl, by decide⟩)
            refine A_if_ne (tgt := 106) dX3_readHabit_101 (by decide) (fun c_101 => ?_) (fun c_101 => absurd c_101 (by omega))
            refine A_iinc_ok dX3_readHabit_106 rfl rfl (by omega) (by omega) ?_
            refine A_goto (tgt := 22) dX3_readHabit_109 (by decide) ?_
            refine ih (kk + 1) _ (sk t n p4 + 1) c2 l2 (by omega) ⟨r5.T hT, ⟨kU_s, by rw [kU_f (by decide)]; exact q23, by rw [kU_f (by decide)]; exact q25⟩, L4.u (by decide) (by decide) (by decide), by omega, by omega, by omega, by omega, by omega, by omega⟩ (by rw [kU_f (by decide)]; exact q24) (fun d' p' r z h => ?_) (fun dE N L C X => ?_) _ _
            · exact hF d' p' (r5.tr r (by omega) (by omega) (by omega)) z (by rw [cs1]; exact h)
            · obtain ⟨rE, hfE, LE', ⟨x1, x2, x3, x4, x5, x6⟩, hcs, hdg, hse⟩ := X
              have kE : ∀ a, 16 ≤ a → a ≤ 18 → dE a kk = d4 a kk := fun a a1 a2 => by rw [rE.2.2.2.2 a kk (by omega) a1 a2, kU_ne (by omega)]
              refine hS dE N L C ⟨r5.tr rE (by omega) (by omega) (by omega), hfE, LE', ⟨by omega, x2, by omega, x4, by omega, x6⟩, by rw [cs1]; exact hcs, fun i i1 i2 => ?_, fun g dd oo v => ?_⟩
              · by_cases z : i = kk
                · subst z
                  rw [kE 17 (by decide) (by decide), q9.2.1]
                  exact dig
                · exact hdg i (by omega) i2
              · obtain ⟨x, hx, hev, hch⟩ := tsem g dd oo v
                obtain ⟨k2, r, hk2, hr2, hrl⟩ := hse g dd oo v
                have lmS := fun (i : Int) (i1 : 0 ≤ i) (i2 : i < L) => lam_s LE' i1 i2
                have e12 : ∀ i, i < l2 → dE 19 i = d4 19 i := fun i hi => by rw [rE.2.2.2.1 19 i hi (Or.inl rfl), kU_ne (by decide)]
                have e13 : ∀ i, i < l2 → dE 20 i = d4 20 i := fun i hi => by rw [rE.2.2.2.1 20 i hi (Or.inr rfl), kU_ne (by decide)]
                obtain ⟨k1, hk1, hr1⟩ := hch dE (lam dE) N ⟨fun a i a1 a2 i1 i2 => by rw [rE.2.2.1 a i i2 a1 a2, kU_ne (by omega), q48 a a1 a2], fun i i1 i2 => by rw [lmS i (by omega) (by omega), e12 i i2, e13 i i2, q12, q13 i (by omega) (by omega)]⟩ (by omega)
                rw [show (C - (kk : Int)).toNat = (C - ((kk + 1 : Nat) : Int)).toNat + 1 by omega, clS1, hev]
                rcases hx with rfl | rfl
                · have el : lam dE (l + 1) = c2 := by rw [lmS (l + 1) (by omega) (by omega), e12 _ (by omega), e13 _ (by omega), j2, if_pos rfl, q13l.2]
                  rw [if_neg (by decide), el] at hr1
                  rw [if_neg (by decide)]
                  exact ⟨k1 + k2, r, by omega, hr1.tr hr2, hrl⟩
                · have el : lam dE l = -1 - (kk : Int) := by rw [lmS l (by omega) (by omega), e12 _ (by omega), e13 _ (by omega), j1, if_pos rfl, q13l.1]
                  rw [if_pos (by decide), el] at hr1
                  rw [if_pos (by decide)]
                  exact ⟨k1, _, by omega, hr1, holdsC dE C N v (kE 16 (by decide) (by decide)) (kE 17 (by decide) (by decide)) (kE 18 (by decide) (by decide)) (by omega)⟩
          · rw [sk_sk] at h59 ⊢
            refine A_if_ne (tgt := 106) dX3_readHabit_101 (by decide) (fun c_101 => absurd c_101 (by omega)) (fun c_101 => ?_)
            refine A_iconst dX3_readHabit_104 ⟨by decide, by decide⟩ ?_
            refine A_zret dX3_readHabit_105 rfl (by first | exact Or.inl rfl | exact Or.inr rfl | assumption | omega) ?_
            exact hF _ _ (rd4.u (Or.inl ⟨rfl, by decide⟩)) kU_s (by rw [cs1, if_pos (Or.inl h59)])
      · rw [if_pos c_77] at cs1
        have r5 : RQ d (kU d4 9 2 (sk t n p4)) c l kk := rd4.u (Or.inl ⟨rfl, by decide⟩)
        obtain ⟨N, hN⟩ : ∃ N : Nat, c2 = N := ⟨c2.toNat, by omega⟩
        have L5 : LI (kU d4 9 2 (sk t n p4)) N l2 := by rw [← hN]; exact L4.u (by decide) (by decide) (by decide)
        refine hS _ N l2 ((kk : Int) + 1) ⟨r5, ⟨by rw [kU_f (by decide), q23, hN], by rw [kU_f (by decide)]; exact q24, by rw [kU_f (by decide)]; exact q25⟩, L5, ⟨by omega, by omega, by omega, by omega, by omega, by omega⟩, by rw [cs1], fun i i1 i2 => ?_, fun g dd oo v => ?_⟩ _ _ _
        · have : i = kk := by omega
          subst this
          rw [kU_ne (by decide), q9.2.1]
          exact dig
        · obtain ⟨x, hx, hev, hch⟩ := tsem g dd oo v
          have lmS := fun (i : Int) (i1 : 0 ≤ i) (i2 : i < l2) => lam_s L5 i1 i2
          obtain ⟨k1, hk1, hr1⟩ := hch (kU d4 9 2 (sk t n p4)) (lam (kU d4 9 2 (sk t n p4))) N ⟨fun a i a1 a2 i1 i2 => by rw [kU_ne (by omega), q48 a a1 a2], fun i i1 i2 => by rw [lmS i (by omega) (by omega), kU_ne (by decide), kU_ne (by decide), q12, q13 i (by omega) (by omega)]⟩ (by omega)
          rw [show ((kk : Int) + 1 - (kk : Int)).toNat = 0 + 1 by omega, clS1, hev]
          rcases hx with rfl | rfl
          · have el : lam (kU d4 9 2 (sk t n p4)) (l + 1) = c2 := by rw [lmS (l + 1) (by omega) (by omega), kU_ne (by decide), kU_ne (by decide), j2, if_pos rfl, q13l.2]
            rw [if_neg (by decide), el] at hr1
            rw [if_neg (by decide)]
            exact ⟨k1, c2, by omega, hr1, Or.inr ⟨by omega, rfl⟩⟩
          · have el : lam (kU d4 9 2 (sk t n p4)) l = -1 - (kk : Int) := by rw [lmS l (by omega) (by omega), kU_ne (by decide), kU_ne (by decide), j1, if_pos rfl, q13l.1]
            rw [if_pos (by decide), el] at hr1
            rw [if_pos (by decide)]
            exact ⟨k1, _, by omega, hr1, holdsC _ _ _ v (by rw [kU_ne (by decide)]) (by rw [kU_ne (by decide)]) (by rw [kU_ne (by decide)]) (by omega)⟩
  have rg := csP_rg (t := t) hn0
  have st : EN t n (kU (kU (kU (kU d 9 2 0) 9 3 0) 9 4 0) 9 5 0) 0 0 0 (2 * ((0 : Nat) : Int)) := by
    refine ⟨(((hT.u (by decide) (Or.inr (by decide))).u (by decide) (Or.inr (by decide))).u (by decide) (Or.inr (by decide))).u (by decide) (Or.inr (by decide)), ⟨?_, ?_, ?_⟩, ⟨fun i i1 i2 => by omega, fun i i1 i2 => by omega⟩, by omega, hn0, by omega, by omega, by omega, by omega⟩
    · rw [kU_f (by decide), kU_f (by decide), kU_f (by decide), kU_s]
    · rw [kU_f (by decide), kU_f (by decide), kU_s]
    · rw [kU_s]
  have s1 : (kU (kU (kU (kU d 9 2 0) 9 3 0) 9 4 0) 9 5 0) 9 1 = d 9 1 := by rw [kU_f (by decide), kU_f (by decide), kU_f (by decide), kU_f (by decide)]
  have s2 : ∀ a, a ≠ 9 → (kU (kU (kU (kU d 9 2 0) 9 3 0) 9 4 0) 9 5 0) a = d a := fun a h => by rw [kU_ne h, kU_ne h, kU_ne h, kU_ne h]
  refine AM.of rfl (Nat.le_of_ble_eq_true rfl) ?_
  refine A_aload_n dX3_readHabit_0 rfl rfl ?_
  refine A_iconst dX3_readHabit_1 ⟨by decide, by decide⟩ ?_
  refine A_put (fi := 2) dX3_readHabit_2 fp_X3_19 rfl rfl (by assumption) ?_
  refine A_aload_n dX3_readHabit_5 rfl rfl ?_
  refine A_iconst dX3_readHabit_6 ⟨by decide, by decide⟩ ?_
  refine A_put (fi := 3) dX3_readHabit_7 fp_X3_22 rfl rfl (by assumption) ?_
  refine A_aload_n dX3_readHabit_10 rfl rfl ?_
  refine A_iconst dX3_readHabit_11 ⟨by decide, by decide⟩ ?_
  refine A_put (fi := 4) dX3_readHabit_12 fp_X3_25 rfl rfl (by assumption) ?_
  refine A_aload_n dX3_readHabit_15 rfl rfl ?_
  refine A_iconst dX3_readHabit_16 ⟨by decide, by decide⟩ ?_
  refine A_put (fi := 5) dX3_readHabit_17 fp_X3_28 rfl rfl (by assumption) ?_
  refine A_iconst dX3_readHabit_20 ⟨by decide, by decide⟩ ?_
  refine A_istore_n dX3_readHabit_21 rfl (Nat.le_of_ble_eq_true rfl) rfl ?_
  refine loop 6 0 _ 0 0 0 rfl st (by rw [kU_f (by decide), kU_s]; rfl) (fun d' p' r z h => ?_) (fun dE N L C X => ?_) none none
  · have e : csP t n = (-1, p') := h
    exact hF0 d' (fun a a1 a2 => (r.1 a a1 a2).trans (s2 a a1)) (r.2.1.trans s1) (by rw [e]; exact z) (by rw [e])
  · intro q1 q2 q3
    obtain ⟨rE, ⟨x23, x24, x25⟩, LE', ⟨x1, x2, x3, x4, x5, x6⟩, hcs, hdg, hse⟩ := X
    refine A_aload_n dX3_readHabit_80 rfl rfl ?_
    refine A_inv0 dX3_readHabit_81 mv_X3_84 kCl_3 (Nat.le_of_ble_eq_true rfl) (by assumption) ?_
    refine C_followLabels hM LE' x2 x23 x25 x4 (fun d' ha h78 => ?_)
    refine A_iconst dX3_readHabit_84 ⟨by decide, by decide⟩ ?_
    refine A_zret dX3_readHabit_85 rfl (by first | exact Or.inl rfl | exact Or.inr rfl | assumption | omega) ?_
    refine hS0 d' N C (fun a a1 a2 => by rw [ha a (by omega) (by omega), rE.1 a a1 a2, s2 a a1]) (by rw [ha 9 (by decide) (by decide), rE.2.1, s1]) ⟨⟨by rw [ha 9 (by decide) (by decide)]; exact x23, by rw [ha 9 (by decide) (by decide)]; exact x24, x2, by omega, x6, hcs⟩, fun i i1 i2 => by rw [ha 17 (by decide) (by decide)]; exact hdg i (by omega) i2, dE, lam dE, fun i i1 i2 => ⟨by rw [ha 11 (by decide) (by decide)], by rw [ha 12 (by decide) (by decide)], by rw [ha 13 (by decide) (by decide)], (h78 i i1 i2).1, (h78 i i1 i2).2⟩, fun g dd oo v => ?_⟩
    obtain ⟨kk, r, hk, hr, hrl⟩ := hse g dd oo v
    have out : r < 0 ∨ (N : Int) ≤ r := by
      rcases hrl with h | h
      · exact Or.inl h.1
      · exact Or.inr h.1
    have e := hr (N - kk)
    rw [show N - kk + kk = N by omega, gF_out out] at e
    rw [e]
    rw [show (C - ((0 : Nat) : Int)).toNat = C.toNat by omega] at hrl
    unfold RLv at hrl ⊢
    rw [ha 16 (by decide) (by decide), ha 17 (by decide) (by decide), ha 18 (by decide) (by decide)]
    exact hrl
end RD8
