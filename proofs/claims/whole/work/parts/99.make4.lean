/-! the KnotRing constructor -/
def GQ (G G' : HG) : Prop := G.1 ≤ G'.1 ∧ ∀ a, 1 ≤ a → a ≤ G.1 → G'.2.1 a = G.2.1 a ∧ (a ≠ 1 → a ≠ 2 → a ≠ 8 → G'.2.2 a = G.2.2 a)
section GQ1
variable {G G' : HG} {d d' : HD} {A : Nat}
theorem GQ.O {a k : Nat} (h : GQ G G') (ho : isO G a k) : isO G' a k := ⟨ho.1, Nat.le_trans ho.2.1 h.1, by rw [(h.2 a ho.1 ho.2.1).1]; exact ho.2.2⟩
theorem GQ.Ar {a k n : Nat} (h : GQ G G') (ho : isA G a k n) : isA G' a k n := ⟨ho.1, Nat.le_trans ho.2.1 h.1, by rw [(h.2 a ho.1 ho.2.1).1]; exact ho.2.2.1, ho.2.2.2⟩
theorem GQ.r {a k : Nat} (h : GQ G G') (ho : isO G a k) (h1 : a ≠ 1) (h2 : a ≠ 2) (h3 : a ≠ 8) : G'.2.2 a = G.2.2 a := (h.2 a ho.1 ho.2.1).2 h1 h2 h3
theorem GQ.ra {a k n : Nat} (h : GQ G G') (ho : isA G a k n) (h1 : a ≠ 1) (h2 : a ≠ 2) (h3 : a ≠ 8) : G'.2.2 a = G.2.2 a := (h.2 a ho.1 ho.2.1).2 h1 h2 h3
theorem GQ.RG (h : GQ G G') (hG : RG G A) (hA : 30 ≤ A) : RG G' A := by
  obtain ⟨ho, ⟨e7, a7⟩, ⟨e8, a8⟩, ⟨e9, a9⟩, ⟨e10, a10⟩, ⟨e11, a11⟩, ⟨e12, a12⟩, ⟨e13, a13⟩, ⟨e14, a14⟩, hcar⟩ := hG
  have r := h.r ho (by omega) (by omega) (by omega)
  refine ⟨h.O ho, ⟨by rw [r]; exact e7, h.Ar a7⟩, ⟨by rw [r]; exact e8, h.Ar a8⟩, ⟨by rw [r]; exact e9, h.Ar a9⟩, ⟨by rw [r]; exact e10, h.Ar a10⟩, ⟨by rw [r]; exact e11, h.Ar a11⟩, ⟨by rw [r]; exact e12, h.Ar a12⟩, ⟨by rw [r]; exact e13, h.Ar a13⟩, ⟨by rw [r]; exact e14, h.Ar a14⟩, fun c hc => ?_⟩
  obtain ⟨x1, x2, x3, x4⟩ := hcar c hc
  exact ⟨by rw [h.ra a7 (by omega) (by omega) (by omega)]; exact x1, h.O x2, by rw [h.r x2 (by omega) (by omega) (by omega)]; exact x3, h.Ar x4⟩
theorem GQ.RO (h : GQ G G') (hM : RO G) : RO G' := by
  obtain ⟨ho, x0, x6, x7, x8, x9, x10, x11, x12, x13, x14, x15⟩ := hM
  have r := h.r ho (by omega) (by omega) (by omega)
  exact ⟨h.O ho, ⟨by rw [r]; exact x0.1, h.Ar x0.2⟩, ⟨by rw [r]; exact x6.1, h.Ar x6.2⟩, ⟨by rw [r]; exact x7.1, h.Ar x7.2⟩, ⟨by rw [r]; exact x8.1, h.Ar x8.2⟩, ⟨by rw [r]; exact x9.1, h.Ar x9.2⟩, ⟨by rw [r]; exact x10.1, h.Ar x10.2⟩, ⟨by rw [r]; exact x11.1, h.Ar x11.2⟩, ⟨by rw [r]; exact x12.1, h.Ar x12.2⟩, ⟨by rw [r]; exact x13.1, h.Ar x13.2⟩, ⟨by rw [r]; exact x14.1, h.Ar x14.2⟩, ⟨by rw [r]; exact x15.1, h.Ar x15.2⟩⟩
theorem GQ.KO (h : GQ G G') (hM : KO G) : KO G' := by
  obtain ⟨ho, x0, x1, x3⟩ := hM
  have r := h.r ho (by omega) (by omega) (by omega)
  exact ⟨h.O ho, ⟨by rw [r]; exact x0.1, h.Ar x0.2⟩, ⟨by rw [r]; exact x1.1, h.Ar x1.2⟩, ⟨by rw [r]; exact x3.1, h.Ar x3.2⟩⟩
theorem GQ.HO {N C : Nat} (h : GQ G G') (hO : HO G d 21 N C) (hd : d' 21 = d 21) : HO G' d' 21 N C := by
  obtain ⟨⟨ho, h0, hN, hC⟩, ⟨e1, a1⟩, ⟨e2, a2⟩, ⟨e3, a3⟩, ⟨e4, a4⟩, ⟨e5, a5⟩, ⟨e6, a6⟩, ⟨e7, a7⟩, ⟨e8, a8⟩⟩ := hO
  have r := h.r ho (by omega) (by omega) (by omega)
  exact ⟨⟨h.O ho, by rw [hd]; exact h0, hN, hC⟩, ⟨by rw [r]; exact e1, h.Ar a1⟩, ⟨by rw [r]; exact e2, h.Ar a2⟩, ⟨by rw [r]; exact e3, h.Ar a3⟩, ⟨by rw [r]; exact e4, h.Ar a4⟩, ⟨by rw [r]; exact e5, h.Ar a5⟩, ⟨by rw [r]; exact e6, h.Ar a6⟩, ⟨by rw [r]; exact e7, h.Ar a7⟩, ⟨by rw [r]; exact e8, h.Ar a8⟩⟩
def KF (n : Nat) (G : HG) (d : HD) : Prop := isO G 1 6 ∧ (20 ≤ n → RO G ∧ ∀ q, d 9 q = 0) ∧ (2 ≤ n → G.2.2 1 3 = 2 ∧ isA G 2 12 2) ∧ (3 ≤ n → G.2.2 1 4 = 3 ∧ isA G 3 9 2 ∧ ∀ q, d 3 q = 0) ∧ (7 ≤ n → G.2.2 1 5 = 4 ∧ KO G) ∧ (8 ≤ n → G.2.2 1 6 = 8 ∧ isA G 8 13 4) ∧ (29 ≤ n → HO G d 21 0 0 ∧ G.2.2 1 0 = 9) ∧ (62 ≤ n → G.2.2 1 1 = 30 ∧ RG G 30 ∧ (∀ h : Nat, h < 3 → G.2.2 32 (h : Int) = 21) ∧ ∀ q, d 30 q = rgv q) ∧ (95 ≤ n → G.2.2 1 2 = 63 ∧ RG G 63) ∧ (128 ≤ n → G.2.2 2 0 = 96 ∧ RG G 96) ∧ (161 ≤ n → G.2.2 2 1 = 129 ∧ RG G 129) ∧ ∀ s : Nat, s < 4 → 163 + 2 * s ≤ n → G.2.2 8 (s : Int) = 162 + 2 * s ∧ isO G (162 + 2 * s) 5 ∧ G.2.2 (162 + 2 * s) 2 = 163 + 2 * s ∧ isA G (163 + 2 * s) 8 36 ∧ (∀ q, d (162 + 2 * s) q = if q = 0 then -1 else 0) ∧ ∀ q, d (163 + 2 * s) q = 0
theorem KF.gq {n : Nat} (h : KF n G d) (g : GQ G G') (hd : ∀ b, b ≤ n → d' b = d b) (r1 : ∀ f : Int, ((29 ≤ n ∧ f = 0) ∨ (2 ≤ n ∧ f = 3) ∨ (3 ≤ n ∧ f = 4) ∨ (7 ≤ n ∧ f = 5) ∨ (8 ≤ n ∧ f = 6) ∨ (62 ≤ n ∧ f = 1) ∨ (95 ≤ n ∧ f = 2)) → G'.2.2 1 f = G.2.2 1 f) (r14 : ∀ f : Int, ((128 ≤ n ∧ f = 0) ∨ (161 ≤ n ∧ f = 1)) → G'.2.2 2 f = G.2.2 2 f) (r20 : ∀ s : Nat, 163 + 2 * s ≤ n → G'.2.2 8 (s : Int) = G.2.2 8 (s : Int)) : KF n G' d' := by
  obtain ⟨o1, x13, x14, x15, x19, x20, x29, x62, x95, x128, x161, xs⟩ := h
  refine ⟨g.O o1, fun z => ?_, fun z => ?_, fun z => ?_, fun z => ?_, fun z => ?_, fun z => ?_, fun z => ?_, fun z => ?_, fun z => ?_, fun z => ?_, fun s hs z => ?_⟩
  · rw [hd 9 (by omega)]; exact ⟨g.RO (x13 z).1, (x13 z).2⟩
  · rw [r1 3 (by omega)]; exact ⟨(x14 z).1, g.Ar (x14 z).2⟩
  · rw [r1 4 (by omega), hd 3 (by omega)]; exact ⟨(x15 z).1, g.Ar (x15 z).2.1, (x15 z).2.2⟩
  · rw [r1 5 (by omega)]; exact ⟨(x19 z).1, g.KO (x19 z).2⟩
  · rw [r1 6 (by omega)]; exact ⟨(x20 z).1, g.Ar (x20 z).2⟩
  · rw [r1 0 (by omega)]; exact ⟨g.HO (x29 z).1 (hd 21 (by omega)), (x29 z).2⟩
  · obtain ⟨y1, y2, y3, y4⟩ := x62 z
    rw [r1 1 (by omega), hd 30 (by omega), g.ra y2.2.2.1.2 (by omega) (by omega) (by omega)]
    exact ⟨y1, g.RG y2 (by omega), y3, y4⟩
  · rw [r1 2 (by omega)]; exact ⟨(x95 z).1, g.RG (x95 z).2 (by omega)⟩
  · rw [r14 0 (by omega)]; exact ⟨(x128 z).1, g.RG (x128 z).2 (by omega)⟩
  · rw [r14 1 (by omega)]; exact ⟨(x161 z).1, g.RG (x161 z).2 (by omega)⟩
  · obtain ⟨y1, y2, y3, y4, y5, y6⟩ := xs s hs z
    rw [r20 s z, hd (162 + 2 * s) (by omega), hd (163 + 2 * s) (by omega), g.r y2 (by omega) (by omega) (by omega)]
    exact ⟨y1, g.O y2, y3, g.Ar y4, y5, y6⟩
/-- what a constructor behind a new leaves alone -/
theorem OP.ex {ka i : Nat} {F Kd Ln : Nat → Nat} (h : OP (kNew G ka 0) (kNewD G d) (G.1 + 1) F Kd Ln G' d' i) : G'.1 = G.1 + 1 + i ∧ ∀ b, b ≤ G.1 → G'.2.1 b = G.2.1 b ∧ G'.2.2 b = G.2.2 b ∧ d' b = d b := by
  obtain ⟨h1, h2, h3, h4, h5⟩ := h
  refine ⟨h1, fun b hb => ⟨?_, ?_, ?_⟩⟩
  · rw [h2 b (by omega)]; exact nw_s (by omega)
  · rw [(h3 b (by omega)).1]; exact nw_r (by omega)
  · rw [(h3 b (by omega)).2]; exact nw_d (by omega)
theorem GQ.of (h1 : G.1 ≤ G'.1) (h : ∀ b, b ≤ G.1 → G'.2.1 b = G.2.1 b ∧ G'.2.2 b = G.2.2 b) : GQ G G' := ⟨h1, fun a _ a2 => ⟨(h a a2).1, fun _ _ _ => (h a a2).2⟩⟩
theorem GQ.pt {a r : Nat} {f : Int} (h : GQ G G') (ha : a = 1 ∨ a = 2 ∨ a = 8) : GQ G (kUR G' a f r) := ⟨h.1, fun b b1 b2 => ⟨(h.2 b b1 b2).1, fun z1 z2 z3 => by rw [ur_r (by omega)]; exact (h.2 b b1 b2).2 z1 z2 z3⟩⟩
end GQ1
section MK5
variable {E : EE} {k : Nat} {G : HG} {d : HD} {K : PQ}
theorem C_knotRingInit (hO : isO G 1 6) (hG : G.1 = 1) (hK : ∀ (G' : HG) (d' : HD), G'.1 = 169 → KF 169 G' d' → K none G' d') : AM E mX6_init (k + 3) 168 2835 [kR 1] G d K := by
  -- the sheets
  have tS : ∀ (f j : Nat), j + f = 4 → ∀ (G1 : HG) (d1 : HD), G1.1 = 161 + 2 * j → KF (161 + 2 * j) G1 d1 → AW E mX6_init (k + 3) (2 * f) (39 * f) 113 [some (kR 1), some (kR 9), some (kR 21), some (kI j)] [] G1 d1 K := by
    intro f
    induction f with
    | zero =>
      intro j hj G1 d1 h1 hF
      have : j = 4 := by omega
      subst this
      refine A_iload_n dX6_init_113 rfl rfl ?_
      refine A_iconst dX6_init_114 ⟨by decide, by decide⟩ ?_
      refine A_icmp_ge (tgt := 137) dX6_init_115 (by decide) (fun c_115 => ?_) (fun c_115 => absurd c_115 (by omega))
      refine A_vret dX6_init_137 rfl ?_
      exact hK G1 d1 h1 hF
    | succ f ih =>
      intro j hj G1 d1 h1 hF
      have o1 := hF.1
      obtain ⟨r20, i20⟩ := hF.2.2.2.2.2.1 (by omega)
      refine A_iload_n dX6_init_113 rfl rfl ?_
      refine A_iconst dX6_init_114 ⟨by decide, by decide⟩ ?_
      refine A_icmp_ge (tgt := 137) dX6_init_115 (by decide) (fun c_115 => absurd c_115 (by omega)) (fun c_115 => ?_)
      refine A_aload_n dX6_init_118 rfl rfl ?_
      refine A_getR (fi := 6) dX6_init_119 fg_X6_28 rfl rfl (by assumption) (by assumption) ?_
      refine A_iload_n dX6_init_122 rfl rfl ?_
      refine A_new dX6_init_123 kCl_5 cl_X6_26 in_X5 it_X5 (by omega) (by show 3 ≤ 39 * (f + 1); omega) ?_
      refine AW.more (bc' := 2 * f + 1) (bs' := 39 * f + 36) (by omega) (by show 39 * f + 36 ≤ 39 * (f + 1) - 3; omega) ?_
      refine A_dup dX6_init_126 (fun B => toV_cat B _) ?_
      refine A_inN (bc' := 1) (bs' := 36) [] dX6_init_127 mn_X6_54 rfl rfl (Nat.le_of_ble_eq_true rfl) (by omega) (by omega) (by omega) ?_
      refine C_sheetInit nw_nO rfl (fun q => nw_0) (fun G2 d2 hP hz => ?_)
      obtain ⟨e1, e2⟩ := hP.ex
      have g12 : GQ G1 G2 := GQ.of (by omega) (fun b hb => ⟨(e2 b hb).1, (e2 b hb).2.1⟩)
      obtain ⟨p1, p2, p3, p4, p5⟩ := hP
      obtain ⟨v1, v2⟩ := p5 1 (by omega) (by omega)
      have ia : isA G2 8 13 4 := g12.Ar i20
      have oc : isO G2 (G1.1 + 1) 5 := ⟨by omega, by omega, by rw [p2 _ (Nat.le_refl _)]; exact (nw_nO (G := G1) (ka := 5)).2.2⟩
      refine A_aast (t := 5) dX6_init_130 (fun _ => rfl) kCl_5 (by decide) ia oc (by omega) (by omega) ?_
      refine A_iinc_ok dX6_init_131 rfl rfl (by omega) (by omega) ?_
      refine A_goto (tgt := 113) dX6_init_134 (by decide) ?_
      refine AW.more (by omega) (by omega) (ih (j + 1) (by omega) _ d2 (by show G2.1 = _; omega) ?_)
      have old : KF (161 + 2 * j) (kUR G2 8 (j : Int) (G1.1 + 1)) d2 := hF.gq (g12.pt (Or.inr (Or.inr rfl))) (fun b hb => (e2 b (by omega)).2.2) (fun f _ => by rw [ur_r (by omega), (e2 1 (by omega)).2.1]) (fun f _ => by rw [ur_r (by omega), (e2 2 (by omega)).2.1]) (fun s hs => by rw [ur_f (by omega), (e2 8 (by omega)).2.1])
      obtain ⟨z1, z13, z14, z15, z19, z20, z29, z62, z95, z128, z161, zs⟩ := old
      refine ⟨z1, fun _ => z13 (by omega), fun _ => z14 (by omega), fun _ => z15 (by omega), fun _ => z19 (by omega), fun _ => z20 (by omega), fun _ => z29 (by omega), fun _ => z62 (by omega), fun _ => z95 (by omega), fun _ => z128 (by omega), fun _ => z161 (by omega), fun s hs hs2 => ?_⟩
      by_cases z : s = j
      · subst z
        have ec : G1.1 + 1 = 162 + 2 * s := by omega
        have ec2 : G1.1 + 1 + 1 = 163 + 2 * s := by omega
        rw [ur_e, ← ec, ← ec2, ur_r (by omega)]
        exact ⟨rfl, oc, v1, v2, hz, fun q => p4 _ (by omega) (by omega) q⟩
      · exact zs s hs (by omega)
  -- a ring behind a new
  have ring : ∀ (G1 : HG) (d1 : HD) (pc bc bs : Nat) (L : List (Option AV)) (S : List AV), (29 ≤ G1.1) → HO G1 d1 21 0 0 → decode cX6_init pc = .ok (.invokespecial 44, 3) → (S.map kCat).sum ≤ 8 → (∀ (G2 : HG) (d2 : HD), G2.1 = G1.1 + 33 → (∀ b, b ≤ G1.1 → G2.2.1 b = G1.2.1 b ∧ G2.2.2 b = G1.2.2 b ∧ d2 b = d1 b) → RG G2 (G1.1 + 1) → (∀ h : Nat, h < 3 → G2.2.2 (G1.1 + 1 + 2) (h : Int) = 21) → (∀ q, d2 (G1.1 + 1) q = rgv q) → AW E mX6_init (k + 3) bc bs (pc + 3) L S G2 d2 K) → AW E mX6_init (k + 3) (bc + 32) (bs + 375) pc L (kR 21 :: kR (G1.1 + 1) :: S) (kNew G1 4 0) (kNewD G1 d1) K := by
    intro G1 d1 pc bc bs L S hn hH hdec hcat hk
    refine A_ini (bc' := 32) (bs' := 375) [kR 21] hdec mc_X6_44 rfl rfl hcat (by omega) (by omega) (by omega) ?_
    have o21 := hH.1.1
    refine C_ringInit nw_nO rfl (fun q => nw_0) (nw_O o21) (by omega) (fun G2 d2 g1 g2 g3 g4 g5 => ?_)
    refine AW.more (by omega) (by omega) (hk G2 d2 (by omega) (fun b hb => ?_) g3 g4 g5)
    obtain ⟨y1, y2, y3⟩ := g2 b (by omega)
    exact ⟨by rw [y1]; exact nw_s (by omega), by rw [y2]; exact nw_r (by omega), by rw [y3]; exact nw_d (by omega)⟩
  have tI : ∀ (f j : Nat), j + f = 2 → ∀ (G1 : HG) (d1 : HD), G1.1 = 95 + 33 * j → KF (95 + 33 * j) G1 d1 → AW E mX6_init (k + 3) (8 + 33 * f) (156 + 390 * f) 86 [some (kR 1), some (kR 9), some (kR 21), some (kI j)] [] G1 d1 K := by
    intro f
    induction f with
    | zero =>
      intro j hj G1 d1 h1 hF
      have : j = 2 := by omega
      subst this
      refine A_iload_n dX6_init_86 rfl rfl ?_
      refine A_iconst dX6_init_87 ⟨by decide, by decide⟩ ?_
      refine A_icmp_ge (tgt := 111) dX6_init_88 (by decide) (fun c_88 => ?_) (fun c_88 => absurd c_88 (by omega))
      refine A_iconst dX6_init_111 ⟨by decide, by decide⟩ ?_
      refine A_istore_n dX6_init_112 rfl (Nat.le_of_ble_eq_true rfl) rfl ?_
      exact AW.more (by omega) (by omega) (tS 4 0 rfl G1 d1 (by omega) hF)
    | succ f ih =>
      intro j hj G1 d1 h1 hF
      have o1 := hF.1
      obtain ⟨r14, i14⟩ := hF.2.2.1 (by omega)
      have hH := (hF.2.2.2.2.2.2.1 (by omega)).1
      refine A_iload_n dX6_init_86 rfl rfl ?_
      refine A_iconst dX6_init_87 ⟨by decide, by decide⟩ ?_
      refine A_icmp_ge (tgt := 111) dX6_init_88 (by decide) (fun c_88 => absurd c_88 (by omega)) (fun c_88 => ?_)
      refine A_aload_n dX6_init_91 rfl rfl ?_
      refine A_getR (fi := 3) dX6_init_92 fg_X6_11 rfl rfl (by assumption) (by assumption) ?_
      refine A_iload_n dX6_init_95 rfl rfl ?_
      refine A_new dX6_init_96 kCl_4 cl_X6_9 in_X4 it_X4 (by omega) (by show 15 ≤ 156 + 390 * (f + 1); omega) ?_
      refine AW.more (bc' := (8 + 33 * f) + 32) (bs' := (156 + 390 * f) + 375) (by omega) (by show _ ≤ 156 + 390 * (f + 1) - 15; omega) ?_
      refine A_dup dX6_init_99 (fun B => toV_cat B _) ?_
      refine A_aload_n dX6_init_100 rfl rfl ?_
      refine ring G1 d1 101 _ _ _ _ (by omega) hH dX6_init_101 (Nat.le_of_ble_eq_true rfl) (fun G2 d2 g1 g2 g3 g4 g5 => ?_)
      have g12 : GQ G1 G2 := GQ.of (by omega) (fun b hb => ⟨(g2 b hb).1, (g2 b hb).2.1⟩)
      have ia : isA G2 2 12 2 := g12.Ar i14
      have oc := g3.1
      refine A_aast (t := 4) dX6_init_104 (fun _ => rfl) kCl_4 (by decide) ia oc (by omega) (by omega) ?_
      refine A_iinc_ok dX6_init_105 rfl rfl (by omega) (by omega) ?_
      refine A_goto (tgt := 86) dX6_init_108 (by decide) ?_
      refine ih (j + 1) (by omega) _ d2 (by show G2.1 = _; omega) ?_
      have old : KF (95 + 33 * j) (kUR G2 2 (j : Int) (G1.1 + 1)) d2 := hF.gq (g12.pt (Or.inr (Or.inl rfl))) (fun b hb => (g2 b (by omega)).2.2) (fun f _ => by rw [ur_r (by omega), (g2 1 (by omega)).2.1]) (fun f hf => by rw [ur_f (by omega), (g2 2 (by omega)).2.1]) (fun s hs => by omega)
      obtain ⟨z1, z13, z14, z15, z19, z20, z29, z62, z95, z128, z161, zs⟩ := old
      have g3' : RG (kUR G2 2 (j : Int) (G1.1 + 1)) (G1.1 + 1) := by
        have gq : GQ G2 (kUR G2 2 (j : Int) (G1.1 + 1)) := (GQ.of (Nat.le_refl _) (fun b _ => ⟨rfl, rfl⟩)).pt (Or.inr (Or.inl rfl))
        exact gq.RG g3 (by omega)
      rcases (show j = 0 ∨ j = 1 by omega) with rfl | rfl
      · have ec : G1.1 + 1 = 96 := by omega
        rw [ec] at g3'
        refine ⟨z1, fun _ => z13 (by omega), fun _ => z14 (by omega), fun _ => z15 (by omega), fun _ => z19 (by omega), fun _ => z20 (by omega), fun _ => z29 (by omega), fun _ => z62 (by omega), fun _ => z95 (by omega), fun _ => ⟨?_, ?_⟩, fun z => by omega, fun s hs hs2 => by omega⟩
        · rw [ec]; exact ur_e
        · rw [ec]; exact g3'
      · have ec : G1.1 + 1 = 129 := by omega
        rw [ec] at g3'
        refine ⟨z1, fun _ => z13 (by omega), fun _ => z14 (by omega), fun _ => z15 (by omega), fun _ => z19 (by omega), fun _ => z20 (by omega), fun _ => z29 (by omega), fun _ => z62 (by omega), fun _ => z95 (by omega), fun _ => z128 (by omega), fun _ => ⟨?_, ?_⟩, fun s hs hs2 => by omega⟩
        · rw [ec]; exact ur_e
        · rw [ec]; exact g3'
  have t95 : ∀ (G1 : HG) (d1 : HD), G1.1 = 95 → KF 95 G1 d1 → AW E mX6_init (k + 3) 74 936 84 [some (kR 1), some (kR 9), some (kR 21), none] [] G1 d1 K := by
    intro G1 d1 h1 hF
    refine A_iconst dX6_init_84 ⟨by decide, by decide⟩ ?_
    refine A_istore_n dX6_init_85 rfl (Nat.le_of_ble_eq_true rfl) rfl ?_
    exact AW.more (by omega) (by omega) (tI 2 0 rfl G1 d1 h1 hF)
  have t62 : ∀ (G1 : HG) (d1 : HD), G1.1 = 62 → KF 62 G1 d1 → AW E mX6_init (k + 3) 107 1326 72 [some (kR 1), some (kR 9), some (kR 21), none] [] G1 d1 K := by
    intro G1 d1 h1 hF
    have o1 := hF.1
    have hH := (hF.2.2.2.2.2.2.1 (by omega)).1
    refine A_aload_n dX6_init_72 rfl rfl ?_
    refine A_new dX6_init_73 kCl_4 cl_X6_9 in_X4 it_X4 (by omega) (by decide) ?_
    refine AW.more (bc' := 74 + 32) (bs' := 936 + 375) (by decide) (by decide) ?_
    refine A_dup dX6_init_76 (fun B => toV_cat B _) ?_
    refine A_aload_n dX6_init_77 rfl rfl ?_
    refine ring G1 d1 78 _ _ _ _ (by omega) hH dX6_init_78 (Nat.le_of_ble_eq_true rfl) (fun G2 d2 g1 g2 g3 g4 g5 => ?_)
    have g12 : GQ G1 G2 := GQ.of (by omega) (fun b hb => ⟨(g2 b hb).1, (g2 b hb).2.1⟩)
    have o2 := g12.O o1
    refine A_putR (fi := 2) dX6_init_81 fp_X6_51 (Or.inr rfl) rfl rfl (by assumption) ?_
    refine t95 _ d2 (by show G2.1 = _; omega) ?_
    have old : KF 62 (kUR G2 1 2 (G1.1 + 1)) d2 := hF.gq (g12.pt (Or.inl rfl)) (fun b hb => (g2 b (by omega)).2.2) (fun f hf => by rw [ur_f (by omega), (g2 1 (by omega)).2.1]) (fun f hf => by omega) (fun s hs => by omega)
    obtain ⟨z1, z13, z14, z15, z19, z20, z29, z62, z95, z128, z161, zs⟩ := old
    have gq : GQ G2 (kUR G2 1 2 (G1.1 + 1)) := (GQ.of (Nat.le_refl _) (fun b _ => ⟨rfl, rfl⟩)).pt (Or.inl rfl)
    have g3' := gq.RG g3 (by omega)
    have ec : G1.1 + 1 = 63 := by omega
    rw [ec] at g3'
    refine ⟨z1, fun _ => z13 (by omega), fun _ => z14 (by omega), fun _ => z15 (by omega), fun _ => z19 (by omega), fun _ => z20 (by omega), fun _ => z29 (by omega), fun _ => z62 (by omega), fun _ => ⟨?_, ?_⟩, fun z => by omega, fun z => by omega, fun s hs hs2 => by omega⟩
    · rw [ec]; exact ur_e
    · rw [ec]; exact g3'
  have t29 : ∀ (G1 : HG) (d1 : HD), G1.1 = 29 → KF 29 G1 d1 → AW E mX6_init (k + 3) 140 1716 60 [some (kR 1), some (kR 9), some (kR 21), none] [] G1 d1 K := by
    intro G1 d1 h1 hF
    have o1 := hF.1
    have hH := (hF.2.2.2.2.2.2.1 (by omega)).1
    refine A_aload_n dX6_init_60 rfl rfl ?_
    refine A_new dX6_init_61 kCl_4 cl_X6_9 in_X4 it_X4 (by omega) (by decide) ?_
    refine AW.more (bc' := 107 + 32) (bs' := 1326 + 375) (by decide) (by decide) ?_
    refine A_dup dX6_init_64 (fun B => toV_cat B _) ?_
    refine A_aload_n dX6_init_65 rfl rfl ?_
    refine ring G1 d1 66 _ _ _ _ (by omega) hH dX6_init_66 (Nat.le_of_ble_eq_true rfl) (fun G2 d2 g1 g2 g3 g4 g5 => ?_)
    have g12 : GQ G1 G2 := GQ.of (by omega) (fun b hb => ⟨(g2 b hb).1, (g2 b hb).2.1⟩)
    have o2 := g12.O o1
    refine A_putR (fi := 1) dX6_init_69 fp_X6_47 (Or.inr rfl) rfl rfl (by assumption) ?_
    refine t62 _ d2 (by show G2.1 = _; omega) ?_
    have old : KF 29 (kUR G2 1 1 (G1.1 + 1)) d2 := hF.gq (g12.pt (Or.inl rfl)) (fun b hb => (g2 b (by omega)).2.2) (fun f hf => by rw [ur_f (by omega), (g2 1 (by omega)).2.1]) (fun f hf => by omega) (fun s hs => by omega)
    obtain ⟨z1, z13, z14, z15, z19, z20, z29, z62, z95, z128, z161, zs⟩ := old
    have gq : GQ G2 (kUR G2 1 1 (G1.1 + 1)) := (GQ.of (Nat.le_refl _) (fun b _ => ⟨rfl, rfl⟩)).pt (Or.inl rfl)
    have g3' := gq.RG g3 (by omega)
    have ec : G1.1 + 1 = 30 := by omega
    rw [ec] at g3' g4 g5
    refine ⟨z1, fun _ => z13 (by omega), fun _ => z14 (by omega), fun _ => z15 (by omega), fun _ => z19 (by omega), fun _ => z20 (by omega), fun _ => z29 (by omega), fun _ => ⟨?_, ?_, fun h hh => ?_, g5⟩, fun z => by omega, fun z => by omega, fun z => by omega, fun s hs hs2 => by omega⟩
    · rw [ec]; exact ur_e
    · rw [ec]; exact g3'
    · rw [ur_r (by omega)]; exact g4 h hh
  have t20 : ∀ (G1 : HG) (d1 : HD), G1.1 = 20 → KF 20 G1 d1 → AW E mX6_init (k + 3) 149 1725 46 [some (kR 1), some (kR 9), none, none] [] G1 d1 K := by
    intro G1 d1 h1 hF
    have o1 := hF.1
    obtain ⟨rO, hd2⟩ := hF.2.1 (by omega)
    refine A_new dX6_init_46 kCl_1 cl_X6_35 in_X1 it_X1 (by omega) (by decide) ?_
    refine AW.more (bc' := 140 + 8) (bs' := 1716 + 0) (by decide) (by decide) ?_
    refine A_dup dX6_init_49 (fun B => toV_cat B _) ?_
    refine A_aload_n dX6_init_50 rfl rfl ?_
    refine A_ini (bc' := 8) (bs' := 5 * 0 + 3 * 0) [kR 9] dX6_init_51 mc_X6_37 rfl rfl (Nat.le_of_ble_eq_true rfl) (by omega) (by omega) (by omega) ?_
    have dz : ∀ q, kNewD G1 d1 9 q = 0 := fun q => by rw [nw_d (by omega)]; exact hd2 q
    refine C_habitInit (N := 0) (C := 0) (nw_GS.RO rO) nw_nO rfl (by omega) (dz 4) (by omega) (dz 3) (by omega) (fun G2 d2 hP => ?_)
    obtain ⟨p1, p2, p3, p4, p5⟩ := id hP
    have ex : ∀ b, b ≤ G1.1 → G2.2.1 b = G1.2.1 b ∧ G2.2.2 b = G1.2.2 b ∧ d2 b = d1 b := fun b hb => ⟨by rw [p2 b (by omega)]; exact nw_s (by omega), by rw [(p3 b (by omega)).1]; exact nw_r (by omega), by rw [(p3 b (by omega)).2]; exact nw_d (by omega)⟩
    have g12 : GQ G1 G2 := GQ.of (by omega) (fun b hb => ⟨(ex b hb).1, (ex b hb).2.1⟩)
    have ec : G1.1 + 1 = 21 := by omega
    have arr : ∀ j : Nat, 1 ≤ j → j ≤ 8 → ∀ fi : Int, fi = (j : Int) → G2.2.2 (G1.1 + 1) fi = G1.1 + 1 + j ∧ isA G2 (G1.1 + 1 + j) 8 0 := fun j j1 j2 fi hfi => by
      rw [hfi]
      obtain ⟨y1, y2, -⟩ := p5 j j1 j2
      have : hln 0 0 j = 0 := by unfold hln; split <;> rfl
      rw [this] at y2
      exact ⟨y1, y2⟩
    have hH : HO G2 d2 (G1.1 + 1) 0 0 := ⟨⟨⟨by omega, by omega, by rw [p2 _ (Nat.le_refl _)]; exact (nw_nO (G := G1) (ka := 1)).2.2⟩, p4, by omega, by omega⟩, arr 1 (by omega) (by omega) 1 rfl, arr 2 (by omega) (by omega) 2 rfl, arr 3 (by omega) (by omega) 3 rfl, arr 4 (by omega) (by omega) 4 rfl, arr 5 (by omega) (by omega) 5 rfl, arr 6 (by omega) (by omega) 6 rfl, arr 7 (by omega) (by omega) 7 rfl, arr 8 (by omega) (by omega) 8 rfl⟩
    rw [ec]
    rw [ec] at hH
    have o2 := g12.O o1
    have rd2 : isO G2 9 3 := g12.O rO.1
    refine A_astore_n dX6_init_54 rfl (Nat.le_of_ble_eq_true rfl) rfl (by omega) ?_
    refine A_aload_n dX6_init_55 rfl rfl ?_
    refine A_aload_n dX6_init_56 rfl rfl ?_
    refine A_putR (fi := 0) dX6_init_57 fp_X6_40 (Or.inr rfl) rfl rfl (by assumption) ?_
    refine AW.more (by omega) (by omega) (t29 _ d2 (by show G2.1 = 29; omega) ?_)
    have old : KF 20 (kUR G2 1 0 9) d2 := hF.gq (g12.pt (Or.inl rfl)) (fun b hb => (ex b (by omega)).2.2) (fun f hf => by rw [ur_f (by omega), (ex 1 (by omega)).2.1]) (fun f hf => by omega) (fun s hs => by omega)
    obtain ⟨z1, z13, z14, z15, z19, z20, z29, z62, z95, z128, z161, zs⟩ := old
    have gq : GQ G2 (kUR G2 1 0 9) := (GQ.of (Nat.le_refl _) (fun b _ => ⟨rfl, rfl⟩)).pt (Or.inl rfl)
    exact ⟨z1, fun _ => z13 (by omega), fun _ => z14 (by omega), fun _ => z15 (by omega), fun _ => z19 (by omega), fun _ => z20 (by omega), fun _ => ⟨gq.HO hH rfl, ur_e⟩, fun z => by omega, fun z => by omega, fun z => by omega, fun z => by omega, fun s hs hs2 => by omega⟩
  have t8 : ∀ (G1 : HG) (d1 : HD), G1.1 = 8 → KF 8 G1 d1 → AW E mX6_init (k + 3) 161 2787 38 [some (kR 1), none, none, none] [] G1 d1 K := by
    intro G1 d1 h1 hF
    have o1 := hF.1
    refine A_new dX6_init_38 kCl_3 cl_X6_32 in_X3 it_X3 (by omega) (by decide) ?_
    refine AW.more (bc' := 149 + 11) (bs' := 1725 + 1046) (by decide) (by decide) ?_
    refine A_dup dX6_init_41 (fun B => toV_cat B _) ?_
    refine A_inN (bc' := 11) (bs' := 1046) [] dX6_init_42 mn_X6_34 rfl rfl (Nat.le_of_ble_eq_true rfl) (by omega) (by omega) (by omega) ?_
    refine C_readerInit nw_nO rfl (fun q => nw_0) (fun G2 d2 hP hz => ?_)
    obtain ⟨e1, e2⟩ := hP.ex
    have g12 : GQ G1 G2 := GQ.of (by omega) (fun b hb => ⟨(e2 b hb).1, (e2 b hb).2.1⟩)
    obtain ⟨p1, p2, p3, p4, p5⟩ := hP
    have ec : G1.1 + 1 = 9 := by omega
    have oc : isO G2 (G1.1 + 1) 3 := ⟨by omega, by omega, by rw [p2 _ (Nat.le_refl _)]; exact (nw_nO (G := G1) (ka := 3)).2.2⟩
    have kk : RO G2 := by
      rw [ec] at p5 oc
      exact ⟨oc, p5 1 (by omega) (by omega), p5 2 (by omega) (by omega), p5 3 (by omega) (by omega), p5 4 (by omega) (by omega), p5 5 (by omega) (by omega), p5 6 (by omega) (by omega), p5 7 (by omega) (by omega), p5 8 (by omega) (by omega), p5 9 (by omega) (by omega), p5 10 (by omega) (by omega), p5 11 (by omega) (by omega)⟩
    rw [ec]
    rw [ec] at hz
    refine A_astore_n dX6_init_45 rfl (Nat.le_of_ble_eq_true rfl) rfl (by omega) ?_
    refine AW.more (by omega) (by omega) (t20 _ d2 (by show G2.1 = _; omega) ?_)
    have old : KF 8 G2 d2 := hF.gq g12 (fun b hb => (e2 b (by omega)).2.2) (fun f hf => by rw [(e2 1 (by omega)).2.1]) (fun f hf => by omega) (fun s hs => by omega)
    obtain ⟨z1, z13, z14, z15, z19, z20, z29, z62, z95, z128, z161, zs⟩ := old
    exact ⟨z1, fun _ => ⟨kk, hz⟩, fun _ => z14 (by omega), fun _ => z15 (by omega), fun _ => z19 (by omega), fun _ => z20 (by omega), fun z => by omega, fun z => by omega, fun z => by omega, fun z => by omega, fun z => by omega, fun s hs hs2 => by omega⟩
  have t7 : ∀ (G1 : HG) (d1 : HD), G1.1 = 7 → KF 7 G1 d1 → AW E mX6_init (k + 3) 162 2791 30 [some (kR 1), none, none, none] [] G1 d1 K := by
    intro G1 d1 h1 hF
    have o1 := hF.1
    have o2 : isO (kNew G1 13 ((4 : Int)).toNat) 1 6 := nw_O o1
    refine A_aload_n dX6_init_30 rfl rfl ?_
    refine A_iconst dX6_init_31 ⟨by decide, by decide⟩ ?_
    refine A_newq (ka := 13) (t := 5) dX6_init_32 cl_X6_26 (fun _ h => h.2.2.1.2.2.2) (fun _ => rfl) (by decide) (by omega) (by omega) (by omega) (by omega) ?_
    refine A_putR (fi := 6) dX6_init_35 fp_X6_28 (Or.inr rfl) rfl rfl (by assumption) ?_
    refine AW.more (by omega) (by omega) (t8 _ _ (by show G1.1 + 1 = 8; omega) ?_)
    have g12 : GQ G1 (kNew G1 13 ((4 : Int)).toNat) := GQ.of (Nat.le_succ _) (fun b hb => ⟨nw_s (by omega), nw_r (by omega)⟩)
    have old := hF.gq (d' := kNewD G1 d1) (g12.pt (a := 1) (f := 6) (r := G1.1 + 1) (Or.inl rfl)) (fun b hb => nw_d (by omega)) (fun f hf => by rw [ur_f (by omega), nw_r (by omega)]) (fun f hf => by omega) (fun s hs => by omega)
    obtain ⟨z1, z13, z14, z15, z19, z20, z29, z62, z95, z128, z161, zs⟩ := old
    have ec : G1.1 + 1 = 8 := by omega
    have na : isA (kNew G1 13 ((4 : Int)).toNat) (G1.1 + 1) 13 4 := nw_nA (by decide)
    rw [ec] at na
    refine ⟨z1, fun z => by omega, fun _ => z14 (by omega), fun _ => z15 (by omega), fun _ => z19 (by omega), fun _ => ⟨?_, na⟩, fun z => by omega, fun z => by omega, fun z => by omega, fun z => by omega, fun z => by omega, fun s hs hs2 => by omega⟩
    rw [ec]; exact ur_e
  have t3 : ∀ (G1 : HG) (d1 : HD), G1.1 = 3 → KF 3 G1 d1 → AW E mX6_init (k + 3) 166 2831 19 [some (kR 1), none, none, none] [] G1 d1 K := by
    intro G1 d1 h1 hF
    have o1 := hF.1
    refine A_aload_n dX6_init_19 rfl rfl ?_
    refine A_new dX6_init_20 kCl_2 cl_X6_19 in_X2 it_X2 (by omega) (by decide) ?_
    refine AW.more (bc' := 162 + 3) (bs' := 2791 + 36) (by decide) (by decide) ?_
    refine A_dup dX6_init_23 (fun B => toV_cat B _) ?_
    refine A_inN (bc' := 3) (bs' := 36) [] dX6_init_24 mn_X6_21 rfl rfl (Nat.le_of_ble_eq_true rfl) (by omega) (by omega) (by omega) ?_
    refine C_knotsInit nw_nO rfl (fun q => nw_0) (fun G2 d2 hP hz => ?_)
    obtain ⟨e1, e2⟩ := hP.ex
    have g12 : GQ G1 G2 := GQ.of (by omega) (fun b hb => ⟨(e2 b hb).1, (e2 b hb).2.1⟩)
    obtain ⟨p1, p2, p3, p4, p5⟩ := hP
    have o2 := g12.O o1
    have ec : G1.1 + 1 = 4 := by omega
    have oc : isO G2 (G1.1 + 1) 2 := ⟨by omega, by omega, by rw [p2 _ (Nat.le_refl _)]; exact (nw_nO (G := G1) (ka := 2)).2.2⟩
    have kk : KO G2 := by
      rw [ec] at p5 oc
      exact ⟨oc, p5 1 (by omega) (by omega), p5 2 (by omega) (by omega), p5 3 (by omega) (by omega)⟩
    refine A_putR (fi := 5) dX6_init_27 fp_X6_22 (Or.inr rfl) rfl rfl (by assumption) ?_
    refine AW.more (by omega) (by omega) (t7 _ d2 (by show G2.1 = _; omega) ?_)
    have old : KF 3 (kUR G2 1 5 (G1.1 + 1)) d2 := hF.gq (g12.pt (Or.inl rfl)) (fun b hb => (e2 b (by omega)).2.2) (fun f hf => by rw [ur_f (by omega), (e2 1 (by omega)).2.1]) (fun f hf => by omega) (fun s hs => by omega)
    obtain ⟨z1, z13, z14, z15, z19, z20, z29, z62, z95, z128, z161, zs⟩ := old
    have gq : GQ G2 (kUR G2 1 5 (G1.1 + 1)) := (GQ.of (Nat.le_refl _) (fun b _ => ⟨rfl, rfl⟩)).pt (Or.inl rfl)
    refine ⟨z1, fun z => by omega, fun _ => z14 (by omega), fun _ => z15 (by omega), fun _ => ⟨?_, gq.KO kk⟩, fun z => by omega, fun z => by omega, fun z => by omega, fun z => by omega, fun z => by omega, fun z => by omega, fun s hs hs2 => by omega⟩
    rw [ec]; exact ur_e
  have t2 : ∀ (G1 : HG) (d1 : HD), G1.1 = 2 → KF 2 G1 d1 → AW E mX6_init (k + 3) 167 2833 12 [some (kR 1), none, none, none] [] G1 d1 K := by
    intro G1 d1 h1 hF
    have o1 := hF.1
    have o2 : isO (kNew G1 9 ((2 : Int)).toNat) 1 6 := nw_O o1
    refine A_aload_n dX6_init_12 rfl rfl ?_
    refine A_iconst dX6_init_13 ⟨by decide, by decide⟩ ?_
    refine A_newa (ka := 9) (t := 1) dX6_init_14 rfl ac_boolean (fun _ => rfl) (Or.inr ⟨rfl, rfl⟩) (by omega) (by omega) (by omega) (by omega) ?_
    refine A_putR (fi := 4) dX6_init_16 fp_X6_15 (Or.inr rfl) rfl rfl (by assumption) ?_
    refine AW.more (by omega) (by omega) (t3 _ _ (by show G1.1 + 1 = 3; omega) ?_)
    have g12 : GQ G1 (kNew G1 9 ((2 : Int)).toNat) := GQ.of (Nat.le_succ _) (fun b hb => ⟨nw_s (by omega), nw_r (by omega)⟩)
    have old := hF.gq (d' := kNewD G1 d1) (g12.pt (a := 1) (f := 4) (r := G1.1 + 1) (Or.inl rfl)) (fun b hb => nw_d (by omega)) (fun f hf => by rw [ur_f (by omega), nw_r (by omega)]) (fun f hf => by omega) (fun s hs => by omega)
    obtain ⟨z1, z13, z14, z15, z19, z20, z29, z62, z95, z128, z161, zs⟩ := old
    have ec : G1.1 + 1 = 3 := by omega
    have na : isA (kNew G1 9 ((2 : Int)).toNat) (G1.1 + 1) 9 2 := nw_nA (by decide)
    have n0 : ∀ q, kNewD G1 d1 (G1.1 + 1) q = 0 := fun q => nw_0
    rw [ec] at na n0
    refine ⟨z1, fun z => by omega, fun _ => z14 (by omega), fun _ => ⟨?_, na, n0⟩, fun z => by omega, fun z => by omega, fun z => by omega, fun z => by omega, fun z => by omega, fun z => by omega, fun z => by omega, fun s hs hs2 => by omega⟩
    rw [ec]; exact ur_e
  have h1 := hO.1
  have o2 : isO (kNew G 12 ((2 : Int)).toNat) 1 6 := nw_O hO
  refine AM.of rfl (Nat.le_of_ble_eq_true rfl) ?_
  refine A_aload_n dX6_init_0 rfl rfl ?_
  refine A_obj dX6_init_1 lk_X6_3 ow_inst ow_code (Nat.le_of_ble_eq_true rfl) (by omega) ?_
  refine A_aload_n dX6_init_4 rfl rfl ?_
  refine A_iconst dX6_init_5 ⟨by decide, by decide⟩ ?_
  refine A_newq (ka := 12) (t := 4) dX6_init_6 cl_X6_9 (fun _ h => h.2.2.1.2.2.1) (fun _ => rfl) (by decide) (by omega) (by omega) (by omega) (by omega) ?_
  refine A_putR (fi := 3) dX6_init_9 fp_X6_11 (Or.inr rfl) rfl rfl (by assumption) ?_
  refine AW.more (by omega) (by omega) (t2 _ _ (by show G.1 + 1 = 2; omega) ?_)
  have ec : G.1 + 1 = 2 := by omega
  have na : isA (kNew G 12 ((2 : Int)).toNat) (G.1 + 1) 12 2 := nw_nA (by decide)
  rw [ec] at na
  refine ⟨o2, fun z => by omega, fun _ => ⟨?_, na⟩, fun z => by omega, fun z => by omega, fun z => by omega, fun z => by omega, fun z => by omega, fun z => by omega, fun z => by omega, fun z => by omega, fun s hs hs2 => by omega⟩
  rw [ec]; exact ur_e
end MK5
