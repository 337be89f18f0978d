/-! the law's entry -/
theorem kNestF_in : ∀ q ∈ kNestF, Cond.fieldLinkNest q.1 q.2.1 q.2.2.1 q.2.2.2.1 q.2.2.2.2.1 q.2.2.2.2.2 ∈ tables_1 := by decide +kernel
theorem kNestM_in : ∀ q ∈ kNestM, Cond.methodLinkNest q.1 q.2.1 q.2.2.1 q.2.2.2 ∈ tables_1 := by decide +kernel
theorem kAO_0 : Cond.arrayOver (.object RX0) ∈ tables_1 := tb_1 (List.mem_of_getElem? (i := 173) rfl)
theorem kAO_1 : Cond.arrayOver (.object RX1) ∈ tables_1 := tb_1 (List.mem_of_getElem? (i := 175) rfl)
theorem kAO_4 : Cond.arrayOver (.object RX4) ∈ tables_1 := tb_1 (List.mem_of_getElem? (i := 22) rfl)
theorem kAO_5 : Cond.arrayOver (.object RX5) ∈ tables_1 := tb_1 (List.mem_of_getElem? (i := 47) rfl)
theorem kCas : Cond.castable "[I" "java/lang/Cloneable" ∈ tables_1 := tb_1 (List.mem_of_getElem? (i := 130) rfl)
theorem kArrC {s : State} {A : Array Value} {ty : FieldType} (h : (Cond.arrayClass ty).before A s = true) (hn : ∀ C, ty ≠ .object C) : ∃ c, ArrOfT s c ty ∧ va_RA s c ty := by
  obtain ⟨c, k, comp, a1, a2, a3⟩ := Cond.arrayClass_spec h
  refine ⟨c, fun n z => ⟨fun k h => (by cases h), k, a2, comp, a3⟩, ?_⟩
  cases ty with
  | object C => exact absurd rfl (hn C)
  | _ => exact a1
theorem kArrO {s : State} {A : Array Value} {C : String} (h : (Cond.arrayOver (.object C)).before A s = true) : ∃ c, ArrOfT s c (.object C) ∧ va_RA s c (.object C) := by
  obtain ⟨comp, c, k, a1, -, a2, a3, a4⟩ := Cond.arrayOver_spec h
  exact ⟨c, fun n z => ⟨fun k h => (by cases h), k, a2, comp, a3⟩, k, comp, a2, a3, a1, a4⟩
theorem kStart {s : State} {A : Array Value} (l : Launch) (B : Nat) (hts : ∀ w ∈ lw_tbl, w.before A s = true) : ∃ (D : va_G) (dA : Nat → ClassId), kK (l, D, dA, B) s := by
  have hg : ∀ w ∈ gT, w.before A s = true := fun w hw => hts w (List.mem_filter.mp hw).1
  have ht : ∀ w ∈ tables_1, w.before A s = true := fun w hw => hts w (List.mem_append_right _ hw)
  obtain ⟨c0, i0, n0⟩ := u_known (C := RX0) (T := TX0) (N := 16) (n := 16) hg kCl_0.2.1 (hg _ in_X0)
  obtain ⟨c1, i1, n1⟩ := u_known (C := RX1) (T := TX1) (N := 9) (n := 9) hg kCl_1.2.1 (hg _ in_X1)
  obtain ⟨c2, i2, n2⟩ := u_known (C := RX2) (T := TX2) (N := 4) (n := 4) hg kCl_2.2.1 (hg _ in_X2)
  obtain ⟨c3, i3, n3⟩ := u_known (C := RX3) (T := TX3) (N := 16) (n := 16) hg kCl_3.2.1 (hg _ in_X3)
  obtain ⟨c4, i4, n4⟩ := u_known (C := RX4) (T := TX4) (N := 15) (n := 15) hg kCl_4.2.1 (hg _ in_X4)
  obtain ⟨c5, i5, n5⟩ := u_known (C := RX5) (T := TX5) (N := 3) (n := 3) hg kCl_5.2.1 (hg _ in_X5)
  obtain ⟨c6, i6, n6⟩ := u_known (C := RX6) (T := TX6) (N := 7) (n := 7) hg kCl_6.2.1 (hg _ in_X6)
  obtain ⟨c7, i7, n7⟩ := u_known (C := RX7) (T := TX7) (N := 21) (n := 21) hg kCl_7.2.1 (hg _ in_X7)
  obtain ⟨a8, h8⟩ := kArrC (hg _ ac_int) (fun _ h => by cases h)
  obtain ⟨a9, h9⟩ := kArrC (hg _ ac_boolean) (fun _ h => by cases h)
  obtain ⟨a10, h10⟩ := kArrO (ht _ kAO_0)
  obtain ⟨a11, h11⟩ := kArrO (ht _ kAO_1)
  obtain ⟨a12, h12⟩ := kArrO (ht _ kAO_4)
  obtain ⟨a13, h13⟩ := kArrO (ht _ kAO_5)
  refine ⟨(fun k => if k = 0 then c0 else if k = 1 then c1 else if k = 2 then c2 else if k = 3 then c3 else if k = 4 then c4 else if k = 5 then c5 else if k = 6 then c6 else c7, fun k => if k = 0 then i0 else if k = 1 then i1 else if k = 2 then i2 else if k = 3 then i3 else if k = 4 then i4 else if k = 5 then i5 else if k = 6 then i6 else i7), fun k => if k = 8 then a8 else if k = 9 then a9 else if k = 10 then a10 else if k = 11 then a11 else if k = 12 then a12 else a13, ⟨fun k q hq => ?_, fun k q hq => ?_⟩, ⟨fun q hq => va_Nw.of rfl (ht _ (kNestF_in q hq)), fun q hq => va_Nw.of rfl (ht _ (kNestM_in q hq))⟩, ⟨va_AO.of (ht _ kAO_0), va_AO.of (ht _ kAO_1), va_AO.of (ht _ kAO_4), va_AO.of (ht _ kAO_5)⟩, va_Nw.of rfl (ht _ kCas)⟩
  · match k, hq with
    | 0, hq => cases hq; exact n0
    | 1, hq => cases hq; exact n1
    | 2, hq => cases hq; exact n2
    | 3, hq => cases hq; exact n3
    | 4, hq => cases hq; exact n4
    | 5, hq => cases hq; exact n5
    | 6, hq => cases hq; exact n6
    | 7, hq => cases hq; exact n7
    | k + 8, hq => simp [vwCl] at hq
  · match k, hq with
    | 0, hq => cases hq; exact h8
    | 1, hq => cases hq; exact h9
    | 2, hq => cases hq; exact h10
    | 3, hq => cases hq; exact h11
    | 4, hq => cases hq; exact h12
    | 5, hq => cases hq; exact h13
    | k + 6, hq => simp [kTys] at hq
theorem whole_start {p : Program} {e : Env} {s : State} {m : MethodId} {below : List Frame} {meth : Method} {c : Code} (l : Launch) {b L : Nat} {xs : Nat → Int32} (hL : L ≤ 3072) (C0 : lw_At p s m meth c b L xs) : W p l e room_1 s m #[Value.ref b] below meth c s.heap [] 0 0 (lw_Z below #[Value.ref b] s) (entryFrame m ([Value.ref b] : List Value).toArray 4) := by
  obtain ⟨hx, hb, hr, hml, hown, hts, hX, hbl, hlocks, hgv⟩ := id C0
  obtain ⟨D, dA, hK⟩ := kStart l (s.heap.size - 1) hts
  have hl := lv_entry ([.ref b]) (n := 4) (Nat.le_of_ble_eq_true rfl)
  rw [lg_entry_eq]
  generalize (lg_sl ([.ref b]) ++ List.replicate (4 - (lg_sl ([.ref b])).length) Slot.unset).toArray = ls at hl ⊢
  have hl : lv_has ls 4 [(0, .ref b)] := hl
  have h0 := hl.2.2 (0, Value.ref b) List.mem_cons_self
  refine Lbegin (E := (l, D, dA, s.heap.size - 1)) (b := b) (N0 := L) (xs := xs) (G := (0, fun _ => (0, 0), fun _ _ => 0)) (d := fun _ _ => 0) hL rfl p e s m below meth c s.heap [] 0 0 ls ⟨hx, hb, hr, hml, hown, fun w hw => hts w (List.mem_filter.mp hw).1, hlocks, hK⟩ ⟨hX, hbl, by show s.heap.size = s.heap.size - 1 + 1; omega⟩ ⟨fun a a1 a2 => absurd (show a ≤ 0 from a2) (by omega), by show s.heap.size = s.heap.size - 1 + 1 + 0; omega, fun _ _ => (show kN 0 from ⟨by decide, by decide⟩)⟩ va_S.rf ⟨hl.1, hl.2.1, fun i v h => ?_⟩ h0 rfl (fun v h => by cases h) (by omega) (by omega)
  match i, h with
  | 0, h => cases h
  | 1, h => cases h
  | 2, h => cases h
  | 3, h => cases h
  | i + 4, h => simp at h
