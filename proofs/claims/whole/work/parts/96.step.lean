/-! both sides together -/
def MI' (d : HD) (R : Int → Int) (S : SS) (tp : Int) (T im : Int → Int) (I : Int → Int → Int) : Prop := PZ d 170 0 R ∧ SZ d 170 S ∧ TZ d 170 tp T ∧ ∀ n : Nat, n < 2 → d 172 n = im n ∧ (im n ≠ 0 → PZ d 170 (3 + n) (I n))
def JS (G : HG) (d : HD) : Prop := ∃ (R : Int → Int) (S : SS) (tp : Int) (T im : Int → Int) (I : Int → Int → Int), CI G d R S tp T im I ∧ MI' d R S tp T im I ∧ WI R S tp im I
section ST
variable {G : HG} {d d1 d2 : HD} {R R' T im : Int → Int} {S S' : SS} {tp : Int} {I : Int → Int → Int}
theorem CI.mo (C : CI G d1 R S tp T im I) (W : WI R S tp im I) (e : ∀ a, (a < 170 ∨ 184 < a) → d2 a = d1 a) : CI G d2 R S tp T im I := C.mv W GS.rf rfl rfl rfl (C.1.cd W.1.2.2.1.2 (fun a a1 a2 => e a (by omega))) (fun _ _ _ => rfl) (fun a ha => e a (by omega)) (by rw [e 9 (by omega)])
theorem PZ.fm {r : Int} (h : PZ d 170 r R) (f : FM d d1) : PZ d1 170 r R := fun k k1 k2 => by rw [f 171 (by omega) (by omega)]; exact h k k1 k2
theorem MI'.fm (h : MI' d R S tp T im I) (f : FM d d1) : MI' d1 R S tp T im I := by
  obtain ⟨hz, hs, ht, hi⟩ := h
  refine ⟨hz.fm f, fun s s1 s2 => ?_, ⟨by rw [f 170 (by omega) (by omega)]; exact ht.1, fun i i1 i2 => by rw [f 173 (by omega) (by omega)]; exact ht.2 i i1 i2⟩, fun n hn => ⟨by rw [f 172 (by omega) (by omega)]; exact (hi n hn).1, fun h => ((hi n hn).2 h).fm f⟩⟩
  rw [f 175 (by omega) (by omega), f 176 (by omega) (by omega), f 174 (by omega) (by omega)]
  exact hs s s1 s2
/-- only the pictures' ring 0 and scratch -/
theorem MI'.z (h : MI' d1 R S tp T im I) (e : ∀ a, 172 ≤ a → a ≤ 176 → d2 a = d1 a) (e3 : d2 170 3 = d1 170 3) (ez : ∀ j, 640 * 3 ≤ j → d2 171 j = d1 171 j) (hz : PZ d2 170 0 R') : MI' d2 R' S tp T im I := by
  obtain ⟨-, hs, ht, hi⟩ := h
  refine ⟨hz, fun s s1 s2 => ?_, ⟨by rw [e3]; exact ht.1, fun i i1 i2 => by rw [e 173 (by omega) (by omega)]; exact ht.2 i i1 i2⟩, fun n hn => ⟨by rw [e 172 (by omega) (by omega)]; exact (hi n hn).1, fun h k k1 k2 => ?_⟩⟩
  · rw [e 175 (by omega) (by omega), e 176 (by omega) (by omega), e 174 (by omega) (by omega)]
    exact hs s s1 s2
  · rw [ez _ (by omega)]; exact (hi n hn).2 h k k1 k2
theorem MI'.mc (h : MI' d1 R S tp T im I) (m : MC d1 d2 170 0) (hz : PZ d2 170 0 R') : MI' d2 R' S tp T im I := h.z (fun a a1 a2 => m.1 a (by omega)) m.2.1 (fun j hj => m.2.2 j (by omega)) hz
theorem MI'.mf (h : MI' d1 R S tp T im I) (m : MF d1 d2 170) : MI' d2 R S tp T im I := h.z (fun a a1 a2 => m.1 a (by omega)) m.2.1 (fun j hj => m.2.2 j (by omega)) (m.PZ (by omega) h.1)
theorem MI'.mk (h : MI' d1 R S tp T im I) (m : MK d1 d2 170) : MI' d2 R S tp T im I := h.mc m.MC (m.PZ h.1)
theorem MI'.mz (h : MI' d1 R S tp T im I) (m : MZ d1 d2 170) (hs : SZ d2 170 S') : MI' d2 R S' tp T im I := by
  obtain ⟨hz, -, ht, hi⟩ := h
  have e : ∀ a, 171 ≤ a → a ≤ 173 → d2 a = d1 a := fun a a1 a2 => m.1 a (by omega)
  refine ⟨fun k k1 k2 => by rw [e 171 (by omega) (by omega)]; exact hz k k1 k2, hs, ⟨by rw [m.2]; exact ht.1, fun i i1 i2 => by rw [e 173 (by omega) (by omega)]; exact ht.2 i i1 i2⟩, fun n hn => ⟨by rw [e 172 (by omega) (by omega)]; exact (hi n hn).1, fun h k k1 k2 => by rw [e 171 (by omega) (by omega)]; exact (hi n hn).2 h k k1 k2⟩⟩
theorem MI'.mt {tp' : Int} {T' : Int → Int} (h : MI' d1 R S tp T im I) (m : MT d1 d2 170) (ht : TZ d2 170 tp' T') : MI' d2 R S tp' T' im I := by
  obtain ⟨hz, hs, -, hi⟩ := h
  refine ⟨fun k k1 k2 => by rw [m 171 (by omega)]; exact hz k k1 k2, fun s s1 s2 => ?_, ht, fun n hn => ⟨by rw [m 172 (by omega)]; exact (hi n hn).1, fun h k k1 k2 => by rw [m 171 (by omega)]; exact (hi n hn).2 h k k1 k2⟩⟩
  rw [m 175 (by omega), m 176 (by omega), m 174 (by omega)]
  exact hs s s1 s2
theorem MI'.mh {tp' : Int} (h : MI' d1 R S tp T im I) (m : MH d1 d2 170) (h3 : d2 170 3 = tp') (hle : tp' ≤ tp) (hz : PZ d2 170 0 R') : MI' d2 R' S tp' T im I := by
  obtain ⟨-, hs, ht, hi⟩ := h
  refine ⟨hz, fun s s1 s2 => ?_, ⟨h3, fun i i1 i2 => by rw [m.1 173 (by omega)]; exact ht.2 i i1 (by omega)⟩, fun n hn => ⟨by rw [m.1 172 (by omega)]; exact (hi n hn).1, fun h k k1 k2 => by rw [m.2 _ (by omega)]; exact (hi n hn).2 h k k1 k2⟩⟩
  rw [m.1 175 (by omega), m.1 176 (by omega), m.1 174 (by omega)]
  exact hs s s1 s2
theorem cpR_o {to fr : Int} {a : Nat} (h : a ≠ 171) : cpR d 170 to fr 640 a = d a := by
  funext i
  unfold cpR
  rw [if_neg (fun z => h z.1)]
theorem MI'.imm {n : Nat} (h : MI' d1 R S tp T im I) (hn : n < 2) : MI' (kU (cpR d1 170 (3 + n) 0 640) 172 n 1) R S tp T (fU im n 1) (fun q => if q = n then R else I q) := by
  obtain ⟨hz, hs, ht, hi⟩ := h
  have e : ∀ a, a ≠ 171 → a ≠ 172 → kU (cpR d1 170 (3 + n) 0 640) 172 n 1 a = d1 a := fun a a1 a2 => by rw [kU_ne a2]; exact cpR_o a1
  have ez : kU (cpR d1 170 (3 + n) 0 640) 172 n 1 171 = cpR d1 170 (3 + n) 0 640 171 := kU_ne (by decide)
  refine ⟨fun k k1 k2 => by rw [ez]; exact cpR_ne (m := 170) (by omega) hz k k1 k2, fun s s1 s2 => ?_, ⟨by rw [e 170 (by decide) (by decide)]; exact ht.1, fun i i1 i2 => by rw [e 173 (by decide) (by decide)]; exact ht.2 i i1 i2⟩, fun q hq => ?_⟩
  · rw [e 175 (by decide) (by decide), e 176 (by decide) (by decide), e 174 (by decide) (by decide)]
    exact hs s s1 s2
  · by_cases z : q = n
    · subst z
      rw [kU_s, fU_s]
      refine ⟨rfl, fun _ k k1 k2 => ?_⟩
      show _ = (if (q : Int) = q then R else I q) k
      rw [if_pos rfl, ez]
      exact cpR_to (m := 170) (fr := 0) hz k k1 k2
    · rw [kU_f (by omega), fU_n (by omega), cpR_o (by decide)]
      refine ⟨(hi q hq).1, fun h k k1 k2 => ?_⟩
      show _ = (if (q : Int) = n then R else I q) k
      rw [if_neg (by omega), ez]
      exact cpR_ne (m := 170) (r := 3 + (q : Int)) (by omega) ((hi q hq).2 h) k k1 k2
theorem MI'.rs {n : Nat} (h : MI' d1 R S tp T im I) (hn : n < 2) (hi0 : im n ≠ 0) : MI' (cpR d1 170 0 (3 + n) 640) (I n) S tp T im I := by
  obtain ⟨hz, hs, ht, hi⟩ := h
  have e : ∀ a, a ≠ 171 → cpR d1 170 0 (3 + n) 640 a = d1 a := fun a a1 => cpR_o a1
  refine ⟨cpR_to (m := 170) ((hi n hn).2 hi0), fun s s1 s2 => ?_, ⟨by rw [e 170 (by decide)]; exact ht.1, fun i i1 i2 => by rw [e 173 (by decide)]; exact ht.2 i i1 i2⟩, fun q hq => ⟨by rw [e 172 (by decide)]; exact (hi q hq).1, fun h => cpR_ne (m := 170) (by omega) ((hi q hq).2 h)⟩⟩
  rw [e 175 (by decide), e 176 (by decide), e 174 (by decide)]
  exact hs s s1 s2
end ST
section SW
variable {R R' T im : Int → Int} {S S' : SS} {tp : Int} {I : Int → Int → Int}
theorem WI.r (W : WI R S tp im I) (h : WR R' (R 3)) (e : R' 3 = R 3) : WI R' S tp im I := ⟨by rw [e]; exact h, by rw [e]; exact W.2.1, W.2.2⟩
theorem WI.ring {what v : Int} (W : WI R S tp im I) : WI (ringR R what v) S tp im I := by
  obtain ⟨h0, h1, h2, h3, wc, wb, wp, wv, wd⟩ := id W.1
  have b5 := wb.1
  have b6 := wp.1
  unfold ringR
  split
  · exact W
  · rename_i z
    split
    · exact W
    · rename_i y
      rcases (show what = 0 ∨ what = 1 by omega) with rfl | rfl
      · exact W.r (W.1.r0 (by omega) (by omega) (by omega) (by omega)) (fU_n (by omega))
      · exact W.r (W.1.r1 (by omega)) (fU_n (by omega))
theorem putR_3 {lane cell pace : Int} (h : 0 ≤ R 2) : putR R lane cell pace 3 = R 3 := by
  unfold putR
  rw [fU_n (by omega), fU_n (by omega), fU_n (by omega), fU_n (by omega)]
  unfold zrR
  rw [if_neg (by omega)]
theorem WI.car {lane cell pace : Int} (W : WI R S tp im I) : WI (carS R lane cell pace).2 S tp im I := by
  have w2 := W.1.2.2.1
  have w3 := W.1.2.2.2.1
  unfold carS
  by_cases z : ¬ (0 ≤ lane ∧ lane ≤ 1 ∧ 0 ≤ cell ∧ cell < R 0 ∧ 0 ≤ pace ∧ pace ≤ 9)
  · rw [if_pos z]; exact W
  · rw [if_neg z]
    by_cases y : 0 ≤ caF R lane cell (R 2).toNat
    · rw [if_pos y]; exact W
    · rw [if_neg y]
      by_cases x : R 2 = 12
      · rw [if_pos x]; exact W
      · rw [if_neg x]
        refine W.r (W.1.put (by omega) (by omega) (by omega) (by omega) w3.1 (fun c c1 c2 => ?_)) (putR_3 w2.1)
        have := caF_n (R := R) (lane := lane) (cell := cell) (R 2).toNat (by omega) c.toNat (by omega)
        rw [toN c1] at this
        exact this
theorem WI.evenly {n pace : Int} (W : WI R S tp im I) : WI (evenS R n pace).2 S tp im I := by
  have w3 := W.1.2.2.2.1
  unfold evenS
  by_cases z : ¬ (1 ≤ n ∧ n ≤ 12 ∧ n ≤ R 0 ∧ 0 ≤ pace ∧ pace ≤ 9)
  · rw [if_pos z]; exact W
  · rw [if_neg z]
    exact W.r (WR.ev W.1 w3.1 (by omega) (by omega) (by omega) (by omega) n.toNat (by omega)).1 (evF_lo (by omega) n.toNat 3 (by omega) (by omega) (by omega) (by omega))
theorem WI.set {car what v : Int} (W : WI R S tp im I) : WI (setS R car what v).2 S tp im I := by
  unfold setS
  by_cases z : ¬ (0 ≤ car ∧ car < R 2 ∧ (what = 0 ∧ 0 ≤ v ∧ v ≤ 2 ∨ what = 1 ∧ 0 ≤ v ∧ v ≤ 3))
  · rw [if_pos z]; exact W
  · rw [if_neg z]
    rcases (show what = 0 ∨ what = 1 by omega) with rfl | rfl
    · exact W.r (W.1.w1 (by omega) (by omega) (Or.inr (Or.inl ⟨by omega, by omega, by omega⟩))) (fU_n (by omega))
    · exact W.r (W.1.w1 (by omega) (by omega) (Or.inr (Or.inr (Or.inl ⟨by omega, by omega, by omega⟩)))) (fU_n (by omega))
theorem WI.tap {car : Int} (W : WI R S tp im I) : WI (tapS R car).2 S tp im I := by
  unfold tapS
  by_cases z : ¬ (0 ≤ car ∧ car < R 2)
  · rw [if_pos z]; exact W
  · rw [if_neg z]
    exact W.r (W.1.w1 (by omega) (by omega) (Or.inr (Or.inr (Or.inr ⟨rfl, Or.inr rfl⟩)))) (fU_n (by omega))
theorem WI.board {a b limit : Int} (W : WI R S tp im I) : WI (boardS R a b limit).2 S tp im I := by
  obtain ⟨h0, h1, h2, h3, wc, wb, wp, wv, wd⟩ := id W.1
  have b5 := wb.1
  have b52 := wb.2.1
  unfold boardS
  by_cases z : ¬ (0 ≤ a ∧ a < R 0 ∧ 0 ≤ b ∧ b < R 0 ∧ 0 ≤ limit ∧ limit ≤ 9)
  · rw [if_pos z]; exact W
  · rw [if_neg z]
    by_cases y : R 5 = 4
    · rw [if_pos y]; exact W
    · rw [if_neg y]
      dsimp only
      exact W.r (W.1.brd (by omega) (by omega) (by omega) (by omega)) (by rw [fU_n (by omega), fU_n (by omega), fU_n (by omega), fU_n (by omega)])
theorem WI.loop {cell : Int} (W : WI R S tp im I) : WI (loopS R cell).2 S tp im I := by
  obtain ⟨h0, h1, h2, h3, wc, wb, wp, wv, wd⟩ := id W.1
  have b6 := wp.1
  have b62 := wp.2.1
  unfold loopS
  by_cases z : ¬ (0 ≤ cell ∧ cell < R 0)
  · rw [if_pos z]; exact W
  · rw [if_neg z]
    by_cases y : R 6 = 4
    · rw [if_pos y]; exact W
    · rw [if_neg y]
      dsimp only
      exact W.r (W.1.lop h3.1 (by omega) (by omega)) (by rw [fU_n (by omega), fU_n (by omega), fU_n (by omega), fU_n (by omega)])
theorem WI.ticks {n : Int} (W : WI R S tp im I) : WI (ticksS R n).2 S tp im I := by
  have w3 := W.1.2.2.2.1
  unfold ticksS
  by_cases z : ¬ (1 ≤ n ∧ n ≤ 200)
  · rw [if_pos z]; exact W
  · rw [if_neg z]
    by_cases y : 99999 < R 3 + n
    · rw [if_pos y]; exact W
    · rw [if_neg y]
      have e := tkN_3 W.1 w3.1 n.toNat
      have w := tkN_W W.1 w3.1 n.toNat
      dsimp only
      exact ⟨by rw [e]; exact w, by rw [e]; omega, W.2.2⟩
theorem WI.habit {h : Int} (W : WI R S tp im I) : WI (habS R tp T h).2.2 S (habS R tp T h).2.1 im I ∧ (habS R tp T h).2.1 ≤ tp := by
  obtain ⟨wR, w9, wS, wt, wI⟩ := id W
  unfold habS
  by_cases z : ¬ (0 ≤ h ∧ h ≤ 2)
  · rw [if_pos z]; exact ⟨W, Int.le_refl _⟩
  · rw [if_neg z]
    by_cases y : (csP T tp).1 < 0
    · rw [if_pos y]; exact ⟨⟨wR, w9, wS, ⟨by show (0 : Int) ≤ 0; omega, by show (0 : Int) ≤ 100; omega⟩, wI⟩, wt.1⟩
    · rw [if_neg y]
      have e : habR R h tp T (csP T tp).1 3 = R 3 := habR_o (by omega) (by omega) wt.2 (by omega)
      dsimp only
      exact ⟨⟨by rw [e]; exact wR.hab (by omega) (by omega) wt.1 wt.2 (by omega), by rw [e]; exact w9, wS, ⟨by show (0 : Int) ≤ 0; omega, by show (0 : Int) ≤ 100; omega⟩, wI⟩, wt.1⟩
theorem WI.type {w n : Int} (W : WI R S tp im I) : WI R S (typS tp T w n).2.1 im I := by
  obtain ⟨wR, w9, wS, wt, wI⟩ := id W
  unfold typS
  split
  · exact W
  · rename_i z
    split
    · exact W
    · split
      · exact W
      · rename_i y
        exact ⟨wR, w9, wS, ⟨by show 0 ≤ tp + n; omega, by show tp + n ≤ 100; omega⟩, wI⟩
theorem WI.paces {s lane i : Int} (W : WI R S tp im I) : WI (pacS R S s lane i).2 S tp im I := by
  have w2 := W.1.2.2.1
  unfold pacS
  by_cases z : ¬ (0 ≤ s ∧ s ≤ 3 ∧ 1 ≤ lane ∧ lane ≤ 2)
  · rw [if_pos z]; exact W
  · rw [if_neg z]
    by_cases y : rowA S s lane i (R 2) < 0
    · rw [if_pos y]; exact W
    · rw [if_neg y]
      by_cases x : pokF S s i (R 2).toNat = false
      · rw [if_pos x]; exact W
      · rw [if_neg x]
        have ok : pokF S s i (R 2).toNat = true := by cases h : pokF S s i (R 2).toNat <;> simp_all
        exact W.r (WR.pc (N := (R 2).toNat) W.1 (by omega) (pokF_k _ ok) _ (Nat.le_refl _)) (pcF_lo _ 3 (by omega))
theorem WI.taps {s i : Int} (W : WI R S tp im I) : WI (tpsS R S s i).2 S tp im I := by
  have w2 := W.1.2.2.1
  unfold tpsS
  by_cases z : ¬ (0 ≤ s ∧ s ≤ 3)
  · rw [if_pos z]; exact W
  · rw [if_neg z]
    by_cases y : rowA S s 0 i (R 2) < 0
    · rw [if_pos y]; exact W
    · rw [if_neg y]
      have ok := rowA_ok y
      have ws := W.2.2.1 s (by omega) (by omega)
      exact W.r (WR.tps (N := (R 2).toNat) W.1 (by omega) (fun k hk => ws.2.2.2.2 ok.1 _ (by omega) (by omega)) _ (Nat.le_refl _)) (tpF_lo _ 3 (by omega))
theorem WI.s (W : WI R S tp im I) (h : WS S') : WI R S' tp im I := ⟨W.1, W.2.1, h, W.2.2.2⟩
theorem WI.sheet {s lane n : Int} (W : WI R S tp im I) : WI R (sheetS S s lane n).2 tp im I := by
  have ws := W.2.2.1
  unfold sheetS
  by_cases z : ¬ (0 ≤ s ∧ s ≤ 3 ∧ 0 ≤ lane ∧ lane ≤ 2 ∧ n ≤ 36)
  · rw [if_pos z]; exact W
  · rw [if_neg z]
    by_cases y : n < 0
    · rw [if_pos y]; exact W
    · rw [if_neg y]
      refine W.s (fun t t1 t2 => ?_)
      obtain ⟨a1, a2, a3, a4, a5⟩ := ws t t1 t2
      show -1 ≤ fU S.1 s lane t ∧ fU S.1 s lane t ≤ 2 ∧ 0 ≤ fU S.2.1 s n t ∧ fU S.2.1 s n t ≤ 36 ∧ (fU S.1 s lane t = 0 → ∀ i, 0 ≤ i → i < 36 → (if t = s then 0 else S.2.2 t i) = 0 ∨ (if t = s then 0 else S.2.2 t i) = 1)
      by_cases q : t = s
      · subst q
        rw [fU_s, fU_s]
        exact ⟨by omega, by omega, by omega, by omega, fun _ i _ _ => by rw [if_pos rfl]; exact Or.inl rfl⟩
      · rw [fU_n q, fU_n q]
        exact ⟨a1, a2, a3, a4, fun h i i1 i2 => by rw [if_neg q]; exact a5 h i i1 i2⟩
theorem WI.drop {s : Int} (W : WI R S tp im I) : WI R (dropS S s).2 tp im I := by
  have ws := W.2.2.1
  unfold dropS
  by_cases z : ¬ (0 ≤ s ∧ s ≤ 3)
  · rw [if_pos z]; exact W
  · rw [if_neg z]
    by_cases y : S.1 s < 0
    · rw [if_pos y]; exact W
    · rw [if_neg y]
      refine W.s (fun t t1 t2 => ?_)
      obtain ⟨a1, a2, a3, a4, a5⟩ := ws t t1 t2
      show -1 ≤ fU S.1 s (-1) t ∧ fU S.1 s (-1) t ≤ 2 ∧ 0 ≤ S.2.1 t ∧ S.2.1 t ≤ 36 ∧ (fU S.1 s (-1) t = 0 → ∀ i, 0 ≤ i → i < 36 → S.2.2 t i = 0 ∨ S.2.2 t i = 1)
      by_cases q : t = s
      · subst q
        rw [fU_s]
        exact ⟨by omega, by omega, a3, a4, fun h => by omega⟩
      · rw [fU_n q]
        exact ⟨a1, a2, a3, a4, a5⟩
theorem WI.item {s lane i v : Int} (W : WI R S tp im I) : WI R (itemS S s lane i v).2 tp im I := by
  have ws := W.2.2.1
  unfold itemS
  by_cases z : ¬ (0 ≤ s ∧ s ≤ 3 ∧ 0 ≤ lane ∧ lane ≤ 2)
  · rw [if_pos z]; exact W
  · rw [if_neg z]
    by_cases y : rowA S s lane i 1 < 0
    · rw [if_pos y]; exact W
    · rw [if_neg y]
      have ok := rowA_ok y
      refine W.s (fun t t1 t2 => ?_)
      obtain ⟨a1, a2, a3, a4, a5⟩ := ws t t1 t2
      refine ⟨a1, a2, a3, a4, fun h q q1 q2 => ?_⟩
      show (if t = s ∧ q = i then (if lane = 0 then (if v = 0 then 0 else 1) else if lane = 1 then kByte v else v) else S.2.2 t q) = 0 ∨ (if t = s ∧ q = i then (if lane = 0 then (if v = 0 then 0 else 1) else if lane = 1 then kByte v else v) else S.2.2 t q) = 1
      have h' : S.1 t = 0 := h
      by_cases x : t = s ∧ q = i
      · rw [if_pos x, if_pos (by rw [← ok.1, ← x.1]; exact h')]
        split <;> simp
      · rw [if_neg x]; exact a5 h q q1 q2
theorem WI.copy {a i b j n : Int} (W : WI R S tp im I) : WI R (copyS S a i b j n).2 tp im I := by
  have ws := W.2.2.1
  unfold copyS
  by_cases z : ¬ (0 ≤ a ∧ a ≤ 3 ∧ 0 ≤ b ∧ b ≤ 3)
  · rw [if_pos z]; exact W
  · rw [if_neg z]
    by_cases y : S.1 a < 0 ∨ S.1 b < 0
    · rw [if_pos y]; exact W
    · rw [if_neg y]
      by_cases x : S.1 a ≠ S.1 b
      · rw [if_pos x]; exact W
      · rw [if_neg x]
        by_cases u : rowA S a (S.1 a) i n < 0 ∨ rowA S b (S.1 b) j n < 0
        · rw [if_pos u]; exact W
        · rw [if_neg u]
          have oka := rowA_ok (fun h => u (Or.inl h))
          have wa := ws a (by omega) (by omega)
          refine W.s (fun t t1 t2 => ?_)
          obtain ⟨a1, a2, a3, a4, a5⟩ := ws t t1 t2
          refine ⟨a1, a2, a3, a4, fun h q q1 q2 => ?_⟩
          have h' : S.1 t = 0 := h
          show (if t = b ∧ j ≤ q ∧ q < j + n then S.2.2 a (i + (q - j)) else S.2.2 t q) = 0 ∨ (if t = b ∧ j ≤ q ∧ q < j + n then S.2.2 a (i + (q - j)) else S.2.2 t q) = 1
          by_cases v : t = b ∧ j ≤ q ∧ q < j + n
          · rw [if_pos v]
            have hb : S.1 b = 0 := by rw [← v.1]; exact h'
            exact wa.2.2.2.2 (by omega) _ (by omega) (by omega)
          · rw [if_neg v]; exact a5 h q q1 q2
theorem WI.image {n : Nat} (W : WI R S tp im I) (hn : n < 2) : WI R S tp (fU im n 1) (fun q => if q = n then R else I q) := by
  obtain ⟨wR, w9, wS, wt, wI⟩ := id W
  refine ⟨wR, w9, wS, wt, fun q hq => ?_⟩
  by_cases z : q = n
  · subst z
    rw [fU_s]
    refine ⟨Or.inr rfl, fun _ => ?_⟩
    show WR (if (q : Int) = q then R else I q) ((if (q : Int) = q then R else I q) 3) ∧ (if (q : Int) = q then R else I q) 3 ≤ 99999
    rw [if_pos rfl]
    exact ⟨wR, w9⟩
  · rw [fU_n (by omega)]
    refine ⟨(wI q hq).1, fun h => ?_⟩
    show WR (if (q : Int) = n then R else I q) ((if (q : Int) = n then R else I q) 3) ∧ (if (q : Int) = n then R else I q) 3 ≤ 99999
    rw [if_neg (by omega)]
    exact (wI q hq).2 h
theorem WI.restore {n : Nat} (W : WI R S tp im I) (hn : n < 2) (hi : im n ≠ 0) : WI (I n) S tp im I := ⟨((W.2.2.2.2 n hn).2 hi).1, ((W.2.2.2.2 n hn).2 hi).2, W.2.2⟩
end SW
