/-! the class as a whole: KnotRing 1, images 2, imaged 3, Knots 4, sheets 8, Reader 9, here 30, foretold 63, images 96 and 129, sheets 162 .. 169 -/
def HN (H : Nat) : Prop := H = 21 ∨ 185 ≤ H
def HQ (G : HG) (d : HD) (A : Nat) (R : Int → Int) : Prop := ∀ h : Nat, h < 3 → HN (G.2.2 (A + 2) (h : Int)) ∧ HB G d (G.2.2 (A + 2) (h : Int)) R h
def SO (G : HG) : Prop := isA G 8 13 4 ∧ ∀ s : Nat, s < 4 → G.2.2 8 (s : Int) = 162 + 2 * s ∧ isO G (162 + 2 * s) 5 ∧ G.2.2 (162 + 2 * s) 2 = 163 + 2 * s ∧ isA G (163 + 2 * s) 8 36
def CS (d : HD) (S : SS) : Prop := ∀ s : Nat, s < 4 → d (162 + 2 * s) 0 = S.1 s ∧ d (162 + 2 * s) 1 = S.2.1 s ∧ ∀ i : Int, 0 ≤ i → i < 36 → d (163 + 2 * s) i = S.2.2 s i
def XG (G : HG) : Prop := (isO G 1 6 ∧ G.2.2 1 0 = 9 ∧ G.2.2 1 1 = 30 ∧ G.2.2 1 2 = 63 ∧ G.2.2 1 3 = 2 ∧ G.2.2 1 4 = 3 ∧ G.2.2 1 5 = 4 ∧ G.2.2 1 6 = 8) ∧ RO G ∧ KO G ∧ SO G ∧ RG G 30 ∧ RG G 63 ∧ RG G 96 ∧ RG G 129 ∧ (isA G 2 12 2 ∧ G.2.2 2 0 = 96 ∧ G.2.2 2 1 = 129) ∧ isA G 3 9 2 ∧ 169 ≤ G.1
def GS (G G' : HG) : Prop := G.1 ≤ G'.1 ∧ ∀ a, 1 ≤ a → a ≤ G.1 → G'.2.1 a = G.2.1 a ∧ (a ≠ 32 → a ≠ 65 → a ≠ 98 → a ≠ 131 → G'.2.2 a = G.2.2 a)
def FM (d d' : HD) : Prop := ∀ a, 170 ≤ a → a ≤ 184 → d' a = d a
def CI (G : HG) (d : HD) (R : Int → Int) (S : SS) (tp : Int) (T im : Int → Int) (I : Int → Int → Int) : Prop := CV d 30 R ∧ HQ G d 30 R ∧ CS d S ∧ RT d tp T ∧ ∀ n : Nat, n < 2 → d 3 n = im n ∧ (im n ≠ 0 → CV d (96 + 33 * n) (I n) ∧ HQ G d (96 + 33 * n) (I n))
def WI (R : Int → Int) (S : SS) (tp : Int) (im : Int → Int) (I : Int → Int → Int) : Prop := WR R (R 3) ∧ R 3 ≤ 99999 ∧ WS S ∧ (0 ≤ tp ∧ tp ≤ 100) ∧ ∀ n : Nat, n < 2 → (im n = 0 ∨ im n = 1) ∧ (im n ≠ 0 → WR (I n) (I n 3) ∧ I n 3 ≤ 99999)
section GS1
variable {G G' : HG} {d d' : HD} {A B H : Nat} {R R' T im : Int → Int} {S : SS} {tp : Int} {I : Int → Int → Int}
theorem HQ.hs (h : HQ G d A R) (h1 : 30 ≤ A) (h2 : A ≤ 129) : HS G d A R := fun q hq => ⟨by have := (h q hq).1; unfold HN at this; unfold HZ; omega, (h q hq).2⟩
theorem GS.rf : GS G G := ⟨Nat.le_refl _, fun _ _ _ => ⟨rfl, fun _ _ _ _ => rfl⟩⟩
theorem GS.O {a k : Nat} (h : GS G G') (ho : isO G a k) : isO G' a k := ⟨ho.1, Nat.le_trans ho.2.1 h.1, by rw [(h.2 a ho.1 ho.2.1).1]; exact ho.2.2⟩
theorem GS.Ar {a k n : Nat} (h : GS G G') (ho : isA G a k n) : isA G' a k n := ⟨ho.1, Nat.le_trans ho.2.1 h.1, by rw [(h.2 a ho.1 ho.2.1).1]; exact ho.2.2.1, ho.2.2.2⟩
theorem GS.r {a k : Nat} (h : GS G G') (ho : isO G a k) (h1 : a ≠ 32) (h2 : a ≠ 65) (h3 : a ≠ 98) (h4 : a ≠ 131) : G'.2.2 a = G.2.2 a := (h.2 a ho.1 ho.2.1).2 h1 h2 h3 h4
theorem GS.ra {a k n : Nat} (h : GS G G') (ho : isA G a k n) (h1 : a ≠ 32) (h2 : a ≠ 65) (h3 : a ≠ 98) (h4 : a ≠ 131) : G'.2.2 a = G.2.2 a := (h.2 a ho.1 ho.2.1).2 h1 h2 h3 h4
theorem GS.RG (h : GS G G') (hG : RG G A) (hA : A = 30 ∨ A = 63 ∨ A = 96 ∨ A = 129) : RG G' A := by
  obtain ⟨ho, ⟨e7, a7⟩, ⟨e8, a8⟩, ⟨e9, a9⟩, ⟨e10, a10⟩, ⟨e11, a11⟩, ⟨e12, a12⟩, ⟨e13, a13⟩, ⟨e14, a14⟩, hcar⟩ := hG
  have r := h.r ho (by omega) (by omega) (by omega) (by omega)
  refine ⟨h.O ho, ⟨by rw [r]; exact e7, h.Ar a7⟩, ⟨by rw [r]; exact e8, h.Ar a8⟩, ⟨by rw [r]; exact e9, h.Ar a9⟩, ⟨by rw [r]; exact e10, h.Ar a10⟩, ⟨by rw [r]; exact e11, h.Ar a11⟩, ⟨by rw [r]; exact e12, h.Ar a12⟩, ⟨by rw [r]; exact e13, h.Ar a13⟩, ⟨by rw [r]; exact e14, h.Ar a14⟩, fun c hc => ?_⟩
  obtain ⟨x1, x2, x3, x4⟩ := hcar c hc
  exact ⟨by rw [h.ra a7 (by omega) (by omega) (by omega) (by omega)]; exact x1, h.O x2, by rw [h.r x2 (by omega) (by omega) (by omega) (by omega)]; exact x3, h.Ar x4⟩
theorem GS.RO (h : GS G G') (hM : RO G) : RO G' := by
  obtain ⟨ho, x0, x6, x7, x8, x9, x10, x11, x12, x13, x14, x15⟩ := hM
  have r := h.r ho (by omega) (by omega) (by omega) (by omega)
  exact ⟨h.O ho, ⟨by rw [r]; exact x0.1, h.Ar x0.2⟩, ⟨by rw [r]; exact x6.1, h.Ar x6.2⟩, ⟨by rw [r]; exact x7.1, h.Ar x7.2⟩, ⟨by rw [r]; exact x8.1, h.Ar x8.2⟩, ⟨by rw [r]; exact x9.1, h.Ar x9.2⟩, ⟨by rw [r]; exact x10.1, h.Ar x10.2⟩, ⟨by rw [r]; exact x11.1, h.Ar x11.2⟩, ⟨by rw [r]; exact x12.1, h.Ar x12.2⟩, ⟨by rw [r]; exact x13.1, h.Ar x13.2⟩, ⟨by rw [r]; exact x14.1, h.Ar x14.2⟩, ⟨by rw [r]; exact x15.1, h.Ar x15.2⟩⟩
theorem XG.gs (h : XG G) (g : GS G G') : XG G' := by
  obtain ⟨⟨o1, r0, r1, r2, r3, r4, r5, r6⟩, hR, ⟨oK, k0, k1, k3⟩, ⟨i20, hs⟩, g30, g63, g96, g129, ⟨i14, e0, e1⟩, i15, hn⟩ := h
  have r := g.r o1 (by omega) (by omega) (by omega) (by omega)
  have rK := g.r oK (by omega) (by omega) (by omega) (by omega)
  have r20 := g.ra i20 (by omega) (by omega) (by omega) (by omega)
  have r14 := g.ra i14 (by omega) (by omega) (by omega) (by omega)
  refine ⟨⟨g.O o1, by rw [r]; exact r0, by rw [r]; exact r1, by rw [r]; exact r2, by rw [r]; exact r3, by rw [r]; exact r4, by rw [r]; exact r5, by rw [r]; exact r6⟩, g.RO hR, ⟨g.O oK, ⟨by rw [rK]; exact k0.1, g.Ar k0.2⟩, ⟨by rw [rK]; exact k1.1, g.Ar k1.2⟩, ⟨by rw [rK]; exact k3.1, g.Ar k3.2⟩⟩, ⟨g.Ar i20, fun s h4 => ?_⟩, g.RG g30 (by omega), g.RG g63 (by omega), g.RG g96 (by omega), g.RG g129 (by omega), ⟨g.Ar i14, by rw [r14]; exact e0, by rw [r14]; exact e1⟩, g.Ar i15, Nat.le_trans hn g.1⟩
  obtain ⟨x1, x2, x3, x4⟩ := hs s h4
  exact ⟨by rw [r20]; exact x1, g.O x2, by rw [g.r x2 (by omega) (by omega) (by omega) (by omega)]; exact x3, g.Ar x4⟩
theorem MO.gs (h : MO G 170) (g : GS G G') : MO G' 170 := by
  have r := g.r h.1 (by omega) (by omega) (by omega) (by omega)
  obtain ⟨ho, e0, a0, e1, a1, e2, a2, e4, a4, e5, a5, e6, a6, e7, a7, e8, a8, e9, a9, e13, a13, e14, a14, e15, a15, e18, a18, e19, a19⟩ := h
  exact ⟨g.O ho, by rw [r]; exact e0, g.Ar a0, by rw [r]; exact e1, g.Ar a1, by rw [r]; exact e2, g.Ar a2, by rw [r]; exact e4, g.Ar a4, by rw [r]; exact e5, g.Ar a5, by rw [r]; exact e6, g.Ar a6, by rw [r]; exact e7, g.Ar a7, by rw [r]; exact e8, g.Ar a8, by rw [r]; exact e9, g.Ar a9, by rw [r]; exact e13, g.Ar a13, by rw [r]; exact e14, g.Ar a14, by rw [r]; exact e15, g.Ar a15, by rw [r]; exact e18, g.Ar a18, by rw [r]; exact e19, g.Ar a19⟩
theorem HB.gs {h : Int} (g : GS G G') (hn : HN H) (hb : HB G d H R h) : HB G' d H R h := by
  obtain ⟨N, C, hO, hr⟩ := hb
  obtain ⟨⟨ho, h0, hN, hC⟩, ⟨e1, a1⟩, ⟨e2, a2⟩, ⟨e3, a3⟩, ⟨e4, a4⟩, ⟨e5, a5⟩, ⟨e6, a6⟩, ⟨e7, a7⟩, ⟨e8, a8⟩⟩ := hO
  unfold HN at hn
  have r := g.r ho (by omega) (by omega) (by omega) (by omega)
  exact ⟨N, C, ⟨⟨g.O ho, h0, hN, hC⟩, ⟨by rw [r]; exact e1, g.Ar a1⟩, ⟨by rw [r]; exact e2, g.Ar a2⟩, ⟨by rw [r]; exact e3, g.Ar a3⟩, ⟨by rw [r]; exact e4, g.Ar a4⟩, ⟨by rw [r]; exact e5, g.Ar a5⟩, ⟨by rw [r]; exact e6, g.Ar a6⟩, ⟨by rw [r]; exact e7, g.Ar a7⟩, ⟨by rw [r]; exact e8, g.Ar a8⟩⟩, hr⟩
/-- habits, when their cells and texts stay -/
theorem HQ.mv (h : HQ G d A R) (g : GS G G') (gr : ∀ h : Nat, h < 3 → G'.2.2 (A + 2) (h : Int) = G.2.2 (A + 2) (h : Int)) (hV : ∀ h, 0 ≤ h → h ≤ 2 → VH R h) (ht : ∀ j, 34 ≤ j → j < 340 → R' j = R j) (hd : ∀ a, ((21 ≤ a ∧ a ≤ 29) ∨ (185 ≤ a ∧ a ≤ G.1)) → d' a = d a) : HQ G' d' A R' := by
  intro q hq
  obtain ⟨hn, hb⟩ := h q hq
  rw [gr q hq]
  refine ⟨hn, (HB.gs g hn hb).cg (by omega) (by omega) (hV _ (by omega) (by omega)) ht (fun i hi => hd _ ?_)⟩
  obtain ⟨N, C, hO, -⟩ := hb
  have := hO.2.2.2.2.2.2.2.2.2.2.1
  unfold HN at hn
  omega
theorem GH.gs {j : Nat} (h : GH G G' A B j) (hA : A = 30 ∨ A = 63 ∨ A = 96 ∨ A = 129) : GS G G' := ⟨by rw [h.1]; exact Nat.le_refl _, fun a _ _ => ⟨by rw [h.2.1], fun h1 h2 h3 h4 => h.2.2.1 a (by omega)⟩⟩
/-- what the class shows, when only here and scratch has changed -/
theorem CI.mv (C : CI G d R S tp T im I) (W : WI R S tp im I) (g : GS G G') (g32 : G'.2.2 32 = G.2.2 32) (g98 : G'.2.2 98 = G.2.2 98) (g131 : G'.2.2 131 = G.2.2 131) (hV : CV d' 30 R') (ht : ∀ j, 34 ≤ j → j < 340 → R' j = R j) (hd : ∀ a, (a = 10 ∨ a = 3 ∨ (21 ≤ a ∧ a ≤ 29) ∨ (96 ≤ a ∧ a ≤ 169) ∨ (185 ≤ a ∧ a ≤ G.1)) → d' a = d a) (h21 : d' 9 1 = d 9 1) : CI G' d' R' S tp T im I := by
  obtain ⟨cV, cH, cS, cT, cI⟩ := C
  obtain ⟨wR, -, -, -, wI⟩ := W
  refine ⟨hV, cH.mv g (fun h _ => by rw [g32]) wR.2.2.2.2.2.2.2.1 ht (fun a ha => hd a (by omega)), fun s hs => ?_, ⟨by rw [h21]; exact cT.1, fun i i1 i2 => by rw [hd 10 (by omega)]; exact cT.2 i i1 i2⟩, fun n hn => ?_⟩
  · rw [hd (162 + 2 * s) (by omega), hd (163 + 2 * s) (by omega)]; exact cS s hs
  · rw [hd 3 (by omega)]
    refine ⟨(cI n hn).1, fun hi => ?_⟩
    obtain ⟨iV, iH⟩ := (cI n hn).2 hi
    have wn := ((wI n hn).2 hi).1
    refine ⟨iV.cd wn.2.2.1.2 (fun a a1 a2 => hd a (by omega)), iH.mv g (fun h _ => ?_) wn.2.2.2.2.2.2.2.1 (fun _ _ _ => rfl) (fun a ha => hd a (by omega))⟩
    rcases (show n = 0 ∨ n = 1 by omega) with rfl | rfl
    · rw [g98]
    · rw [g131]
theorem CI.cm (C : CI G d R S tp T im I) (W : WI R S tp im I) (hm : CM d d' 30) (hV : CV d' 30 R') (ht : ∀ j, 34 ≤ j → j < 340 → R' j = R j) : CI G d' R' S tp T im I := C.mv W GS.rf rfl rfl rfl hV ht (fun a ha => hm a (by omega)) (by rw [hm 9 (by omega)])
end GS1
section CL1
variable {E : EE} {k : Nat} {G : HG} {d : HD} {K : PQ} {R T im : Int → Int} {S : SS} {tp : Int} {I : Int → Int → Int}
theorem C_within {v lo hi : Int} (hK : K (some (kI (if lo ≤ v ∧ v ≤ hi then 1 else 0))) G d) : AM E mX6_within k 0 0 [kI v, kI lo, kI hi] G d K := by
  refine AM.of rfl (Nat.le_of_ble_eq_true rfl) ?_
  refine A_iload_n dX6_within_0 rfl rfl ?_
  refine A_iload_n dX6_within_1 rfl rfl ?_
  refine A_icmp_lt (tgt := 14) dX6_within_2 (by decide) (fun c_2 => ?_) (fun c_2 => ?_)
  · rw [if_neg (by omega)] at hK
    refine A_iconst dX6_within_14 ⟨by decide, by decide⟩ ?_
    refine A_zret dX6_within_15 rfl (by first | exact Or.inl rfl | exact Or.inr rfl | assumption | omega) ?_
    exact hK
  · refine A_iload_n dX6_within_5 rfl rfl ?_
    refine A_iload_n dX6_within_6 rfl rfl ?_
    refine A_icmp_gt (tgt := 14) dX6_within_7 (by decide) (fun c_7 => ?_) (fun c_7 => ?_)
    · rw [if_neg (by omega)] at hK
      refine A_iconst dX6_within_14 ⟨by decide, by decide⟩ ?_
      refine A_zret dX6_within_15 rfl (by first | exact Or.inl rfl | exact Or.inr rfl | assumption | omega) ?_
      exact hK
    · rw [if_pos (by omega)] at hK
      refine A_iconst dX6_within_10 ⟨by decide, by decide⟩ ?_
      refine A_goto (tgt := 15) dX6_within_11 (by decide) ?_
      refine A_zret dX6_within_15 rfl (by first | exact Or.inl rfl | exact Or.inr rfl | assumption | omega) ?_
      exact hK
theorem C_isPace {v : Int} (hK : K (some (kI (if 0 ≤ v ∧ v ≤ 9 then 1 else 0))) G d) : AM E mX6_isPace (k + 1) 0 0 [kI v] G d K := by
  have hb : (if 0 ≤ v ∧ v ≤ 9 then (1 : Int) else 0) = 0 ∨ (if 0 ≤ v ∧ v ≤ 9 then (1 : Int) else 0) = 1 := by split <;> simp
  refine AM.of rfl (Nat.le_of_ble_eq_true rfl) ?_
  refine A_iload_n dX6_isPace_0 rfl rfl ?_
  refine A_iconst dX6_isPace_1 ⟨by decide, by decide⟩ ?_
  refine A_bipush dX6_isPace_2 ⟨by decide, by decide⟩ rfl ?_
  refine A_ins3 dX6_isPace_4 ms_X6_59 (Nat.le_of_ble_eq_true rfl) ?_
  refine C_within ?_
  refine A_zret dX6_isPace_7 rfl (by first | exact Or.inl rfl | exact Or.inr rfl | assumption | omega) ?_
  exact hK
theorem C_isSheetC {v : Int} (hK : K (some (kI (if 0 ≤ v ∧ v ≤ 3 then 1 else 0))) G d) : AM E mX6_isSheet (k + 1) 0 0 [kI v] G d K := by
  have hb : (if 0 ≤ v ∧ v ≤ 3 then (1 : Int) else 0) = 0 ∨ (if 0 ≤ v ∧ v ≤ 3 then (1 : Int) else 0) = 1 := by split <;> simp
  refine AM.of rfl (Nat.le_of_ble_eq_true rfl) ?_
  refine A_iload_n dX6_isSheet_0 rfl rfl ?_
  refine A_iconst dX6_isSheet_1 ⟨by decide, by decide⟩ ?_
  refine A_iconst dX6_isSheet_2 ⟨by decide, by decide⟩ ?_
  refine A_ins3 dX6_isSheet_3 ms_X6_59 (Nat.le_of_ble_eq_true rfl) ?_
  refine C_within ?_
  refine A_zret dX6_isSheet_6 rfl (by first | exact Or.inl rfl | exact Or.inr rfl | assumption | omega) ?_
  exact hK
theorem C_isCell {v : Int} (X : XG G) (C : CI G d R S tp T im I) (W : WI R S tp im I) (hK : K (some (kI (if 0 ≤ v ∧ v ≤ R 0 - 1 then 1 else 0))) G d) : AM E mX6_isCell (k + 1) 0 0 [kR 1, kI v] G d K := by
  obtain ⟨⟨o1, r0, r1, -⟩, -, -, -, g30, -⟩ := id X
  have ho := g30.1
  have v0 := C.1.1.1
  have w0 := W.1.1
  have hb : (if 0 ≤ v ∧ v ≤ R 0 - 1 then (1 : Int) else 0) = 0 ∨ (if 0 ≤ v ∧ v ≤ R 0 - 1 then (1 : Int) else 0) = 1 := by split <;> simp
  refine AM.of rfl (Nat.le_of_ble_eq_true rfl) ?_
  refine A_iload_n dX6_isCell_0 rfl rfl ?_
  refine A_iconst dX6_isCell_1 ⟨by decide, by decide⟩ ?_
  refine A_aload_n dX6_isCell_2 rfl rfl ?_
  refine A_getR (fi := 1) dX6_isCell_3 fg_X6_47 rfl rfl (by assumption) (by assumption) ?_
  refine A_get (fi := 0) dX6_isCell_6 fg_X6_76 rfl rfl (by assumption) ?_
  rw [v0]
  refine A_iconst dX6_isCell_9 ⟨by decide, by decide⟩ ?_
  refine A_isub_ok dX6_isCell_10 (by omega) (by omega) ?_
  refine A_ins3 dX6_isCell_11 ms_X6_59 (Nat.le_of_ble_eq_true rfl) ?_
  refine C_within ?_
  refine A_zret dX6_isCell_14 rfl (by first | exact Or.inl rfl | exact Or.inr rfl | assumption | omega) ?_
  exact hK
theorem C_isCar6 {v : Int} (X : XG G) (C : CI G d R S tp T im I) (W : WI R S tp im I) (hK : K (some (kI (if 0 ≤ v ∧ v ≤ R 2 - 1 then 1 else 0))) G d) : AM E mX6_isCar (k + 1) 0 0 [kR 1, kI v] G d K := by
  obtain ⟨⟨o1, r0, r1, -⟩, -, -, -, g30, -⟩ := id X
  have ho := g30.1
  have v4 := C.1.1.2.2.2.2.1
  have w2 := W.1.2.2.1
  have hb : (if 0 ≤ v ∧ v ≤ R 2 - 1 then (1 : Int) else 0) = 0 ∨ (if 0 ≤ v ∧ v ≤ R 2 - 1 then (1 : Int) else 0) = 1 := by split <;> simp
  refine AM.of rfl (Nat.le_of_ble_eq_true rfl) ?_
  refine A_iload_n dX6_isCar_0 rfl rfl ?_
  refine A_iconst dX6_isCar_1 ⟨by decide, by decide⟩ ?_
  refine A_aload_n dX6_isCar_2 rfl rfl ?_
  refine A_getR (fi := 1) dX6_isCar_3 fg_X6_47 rfl rfl (by assumption) (by assumption) ?_
  refine A_get (fi := 4) dX6_isCar_6 fg_X6_67 rfl rfl (by assumption) ?_
  rw [v4]
  refine A_iconst dX6_isCar_9 ⟨by decide, by decide⟩ ?_
  refine A_isub_ok dX6_isCar_10 (by omega) (by omega) ?_
  refine A_ins3 dX6_isCar_11 ms_X6_59 (Nat.le_of_ble_eq_true rfl) ?_
  refine C_within ?_
  refine A_zret dX6_isCar_14 rfl (by first | exact Or.inl rfl | exact Or.inr rfl | assumption | omega) ?_
  exact hK
end CL1
