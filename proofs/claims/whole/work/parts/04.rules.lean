section RU
variable {E : EE} {mi : MI} {k bc bs pc : Nat} {L : List (Option AV)} {S : List AV} {G : HG} {d : HD} {Q : PQ}
theorem kv1 {v : AV} {S : List AV} (h : kVN v) (hv : ∀ x ∈ S, kVN x) : ∀ x ∈ v :: S, kVN x := List.forall_mem_cons.mpr ⟨h, hv⟩
theorem kvh {v : AV} {S : List AV} (hv : ∀ x ∈ v :: S, kVN x) : kVN v := hv _ List.mem_cons_self
theorem kvt {v : AV} {S : List AV} (hv : ∀ x ∈ v :: S, kVN x) : ∀ x ∈ S, kVN x := fun x h => hv x (List.mem_cons_of_mem _ h)
theorem AW.eqL {L' : List (Option AV)} (e : L = L') (h : AW E mi k bc bs pc L' S G d Q) : AW E mi k bc bs pc L S G d Q := e ▸ h
theorem AW.eqS {S' : List AV} (e : S = S') (h : AW E mi k bc bs pc L S' G d Q) : AW E mi k bc bs pc L S G d Q := e ▸ h
theorem AW.eqd {d' : HD} (e : d = d') (h : AW E mi k bc bs pc L S G d' Q) : AW E mi k bc bs pc L S G d Q := e ▸ h
/-- ints that a frame holds are in range -/
theorem AW.nm {x : Int} (i : Nat) (hl : L[i]? = some (some (kI x))) (h : kN x → AW E mi k bc bs pc L S G d Q) : AW E mi k bc bs pc L S G d Q := by
  intro p e s m args below meth c H locs cells slots mc ms ls C hH hS hB hL hn hv h1 h2
  exact h (hL.2.2 i _ hl).2 p e s m args below meth c H locs cells slots mc ms ls C hH hS hB hL hn hv h1 h2
theorem AW.nmS {x : Int} (h : kN x → AW E mi k bc bs pc L (kI x :: S) G d Q) : AW E mi k bc bs pc L (kI x :: S) G d Q := by
  intro p e s m args below meth c H locs cells slots mc ms ls C hH hS hB hL hn hv h1 h2
  exact h (kvh hv) p e s m args below meth c H locs cells slots mc ms ls C hH hS hB hL hn hv h1 h2
theorem AW.nmd (h : (∀ a i, kN (d a i)) → AW E mi k bc bs pc L S G d Q) : AW E mi k bc bs pc L S G d Q := by
  intro p e s m args below meth c H locs cells slots mc ms ls C hH hS hB hL hn hv h1 h2
  exact h hH.2.2 p e s m args below meth c H locs cells slots mc ms ls C hH hS hB hL hn hv h1 h2
/-- fewer budgets asked -/
theorem AW.more {bc' bs' : Nat} (hc : bc' ≤ bc) (hs : bs' ≤ bs) (h : AW E mi k bc' bs' pc L S G d Q) : AW E mi k bc bs pc L S G d Q := by
  intro p e s m args below meth c H locs cells slots mc ms ls C hH hS hB hL hn hv h1 h2
  exact h p e s m args below meth c H locs cells slots mc ms ls C hH hS hB hL hn hv (by omega) (by omega)
/-- a place that no longer matters -/
def kForget (L L' : List (Option AV)) : Prop := L.length = L'.length ∧ ∀ (i : Nat) (v : AV), L'[i]? = some (some v) → L[i]? = some (some v)
theorem AW.fgt {L' : List (Option AV)} (hf : kForget L L') (h : AW E mi k bc bs pc L' S G d Q) : AW E mi k bc bs pc L S G d Q := by
  intro p e s m args below meth c H locs cells slots mc ms ls C hH hS hB hL hn hv h1 h2
  exact h p e s m args below meth c H locs cells slots mc ms ls C hH hS hB ⟨hL.1.trans hf.1, hL.2.1, fun i v hi => hL.2.2 i v (hf.2 i v hi)⟩ (hf.1 ▸ hn) hv h1 h2
theorem kF0 : kForget [] [] := ⟨rfl, fun i v h => by simp at h⟩
theorem kFk {o : Option AV} {L L' : List (Option AV)} (h : kForget L L') : kForget (o :: L) (o :: L') := ⟨by simp [h.1], fun i v hi => by
  cases i with
  | zero => simpa using hi
  | succ j => simp only [List.getElem?_cons_succ] at hi ⊢; exact h.2 j v hi⟩
theorem kFn {o : Option AV} {L L' : List (Option AV)} (h : kForget L L') : kForget (o :: L) (none :: L') := ⟨by simp [h.1], fun i v hi => by
  cases i with
  | zero => simp at hi
  | succ j => simp only [List.getElem?_cons_succ] at hi ⊢; exact h.2 j v hi⟩
/-! locals -/
def kFull (B : Nat) (L : List (Option AV)) : List (Nat × Value) := (List.range L.length).filterMap fun j => (L[j]?.join).map fun v => (j, toV B v)
theorem kFull_mem {B : Nat} {L : List (Option AV)} {j : Nat} {v : AV} (h : L[j]? = some (some v)) : (j, toV B v) ∈ kFull B L := by
  refine List.mem_filterMap.mpr ⟨j, List.mem_range.mpr (List.getElem?_eq_some_iff.mp h).1, ?_⟩
  simp [h]
theorem kFull_has {B : Nat} {L : List (Option AV)} {ls : Array Slot} (h : kLo B L ls) : lv_has ls L.length (kFull B L) := by
  refine ⟨h.1, h.2.1, fun q hq => ?_⟩
  obtain ⟨j, -, hj⟩ := List.mem_filterMap.mp hq
  cases hx : L[j]? with
  | none => simp [hx] at hj
  | some o =>
    cases o with
    | none => simp [hx] at hj
    | some v =>
      simp [hx] at hj
      subst hj
      exact (h.2.2 j v hx).1
def kNoJ (L : List (Option AV)) (i : Nat) : Bool := match i with
  | 0 => true
  | j + 1 => match L[j]? with
    | some (some (.inr (.inl _))) => false
    | _ => true
theorem kFull_back {B : Nat} {L : List (Option AV)} {ls' : Array Slot} {i : Nat} {v : AV} {lv : List (Nat × Value)} (hlv : ∀ q ∈ kFull B L, q ∈ lv) (h0 : ∀ (j : Nat) (w : AV), L[j]? = some (some w) → kVN w) (hn : kNoJ L i = true) (hi : i < L.length) (hv : kVN v) (h : lv_has ls' L.length ((i, toV B v) :: lv.filter (fun q => !(q.1 == i) && !(q.1 + 1 == i && q.2.category == 2)))) : kLo B (L.set i (some v)) ls' := by
  refine ⟨by rw [h.1]; simp, h.2.1, fun j w hj => ?_⟩
  by_cases hji : j = i
  · subst hji
    rw [List.getElem?_set_self hi] at hj
    cases hj
    exact ⟨h.2.2 _ List.mem_cons_self, hv⟩
  · rw [List.getElem?_set_ne (fun q => hji q.symm)] at hj
    refine ⟨h.2.2 (j, toV B w) (List.mem_cons_of_mem _ (List.mem_filter.mpr ⟨hlv _ (kFull_mem hj), ?_⟩)), h0 j w hj⟩
    have h1 : (j == i) = false := by simp [hji]
    simp only [h1, Bool.not_false, Bool.true_and, Bool.not_eq_true']
    by_cases hk : j + 1 = i
    · subst hk
      simp only [kNoJ, hj] at hn
      rcases w with x | x | a
      · simp [toV_cat]
      · simp at hn
      · simp [toV_cat]
    · simp [hk]

theorem A_iload_n {n : Fin 4} {i : Nat} {x : Int} (hd : decode mi.2.1 pc = .ok (.iload_n n, 1)) (hi : (n : Nat) = i) (hl : L[i]? = some (some (kI x))) (K : AW E mi k bc bs (pc + 1) L (kI x :: S) G d Q) : AW E mi k bc bs pc L S G d Q := by
  intro p e s m args below meth c H locs cells slots mc ms ls C hH hS hB hL hn hv h1 h2
  exact lv_iload_n C.1 C.2.1 hd hi (hL.2.2 i _ hl).1 (K p e s m args below meth c H locs cells slots mc ms ls C hH hS hB hL hn (kv1 (hL.2.2 i _ hl).2 hv) h1 h2)

theorem A_iload {i : Nat} {x : Int} (hd : decode mi.2.1 pc = .ok (.iload i, 2)) (hl : L[i]? = some (some (kI x))) (K : AW E mi k bc bs (pc + 2) L (kI x :: S) G d Q) : AW E mi k bc bs pc L S G d Q := by
  intro p e s m args below meth c H locs cells slots mc ms ls C hH hS hB hL hn hv h1 h2
  exact lv_iload C.1 C.2.1 hd (hL.2.2 i _ hl).1 (K p e s m args below meth c H locs cells slots mc ms ls C hH hS hB hL hn (kv1 (hL.2.2 i _ hl).2 hv) h1 h2)

theorem A_lload_n {n : Fin 4} {i : Nat} {x : Int} (hd : decode mi.2.1 pc = .ok (.lload_n n, 1)) (hi : (n : Nat) = i) (hl : L[i]? = some (some (kJ x))) (K : AW E mi k bc bs (pc + 1) L (kJ x :: S) G d Q) : AW E mi k bc bs pc L S G d Q := by
  intro p e s m args below meth c H locs cells slots mc ms ls C hH hS hB hL hn hv h1 h2
  exact lv_lload_n C.1 C.2.1 hd hi (hL.2.2 i _ hl).1 (K p e s m args below meth c H locs cells slots mc ms ls C hH hS hB hL hn (kv1 (hL.2.2 i _ hl).2 hv) h1 h2)

theorem A_lload {i : Nat} {x : Int} (hd : decode mi.2.1 pc = .ok (.lload i, 2)) (hl : L[i]? = some (some (kJ x))) (K : AW E mi k bc bs (pc + 2) L (kJ x :: S) G d Q) : AW E mi k bc bs pc L S G d Q := by
  intro p e s m args below meth c H locs cells slots mc ms ls C hH hS hB hL hn hv h1 h2
  exact lv_lload C.1 C.2.1 hd (hL.2.2 i _ hl).1 (K p e s m args below meth c H locs cells slots mc ms ls C hH hS hB hL hn (kv1 (hL.2.2 i _ hl).2 hv) h1 h2)

theorem A_aload_n {n : Fin 4} {i : Nat} {x : Nat} (hd : decode mi.2.1 pc = .ok (.aload_n n, 1)) (hi : (n : Nat) = i) (hl : L[i]? = some (some (kR x))) (K : AW E mi k bc bs (pc + 1) L (kR x :: S) G d Q) : AW E mi k bc bs pc L S G d Q := by
  intro p e s m args below meth c H locs cells slots mc ms ls C hH hS hB hL hn hv h1 h2
  have K' := (K p e s m args below meth c H locs cells slots mc ms ls C hH hS hB hL hn (kv1 (hL.2.2 i _ hl).2 hv) h1 h2)
  have hl' := (hL.2.2 i _ hl).1
  by_cases h : x = 0
  · subst h
    exact lv_aload_nN C.1 C.2.1 hd hi hl' K'
  · have e : toV E.2.2.2 (kR x) = .ref (E.2.2.2 + x) := toV_r (by omega)
    rw [List.map_cons, e] at K'
    rw [e] at hl'
    exact lv_aload_n C.1 C.2.1 hd hi hl' K'

theorem A_aload {i : Nat} {x : Nat} (hd : decode mi.2.1 pc = .ok (.aload i, 2)) (hl : L[i]? = some (some (kR x))) (K : AW E mi k bc bs (pc + 2) L (kR x :: S) G d Q) : AW E mi k bc bs pc L S G d Q := by
  intro p e s m args below meth c H locs cells slots mc ms ls C hH hS hB hL hn hv h1 h2
  have K' := (K p e s m args below meth c H locs cells slots mc ms ls C hH hS hB hL hn (kv1 (hL.2.2 i _ hl).2 hv) h1 h2)
  have hl' := (hL.2.2 i _ hl).1
  by_cases h : x = 0
  · subst h
    exact lv_aloadN C.1 C.2.1 hd hl' K'
  · have e : toV E.2.2.2 (kR x) = .ref (E.2.2.2 + x) := toV_r (by omega)
    rw [List.map_cons, e] at K'
    rw [e] at hl'
    exact lv_aload C.1 C.2.1 hd hl' K'

theorem A_istore_n {n : Fin 4} {i : Nat} {x : Int} (hd : decode mi.2.1 pc = .ok (.istore_n n, 1)) (hi : (n : Nat) = i) (hlt : i < L.length) (hj : kNoJ L i = true) (K : AW E mi k bc bs (pc + 1) (L.set i (some (kI x))) S G d Q) : AW E mi k bc bs pc L (kI x :: S) G d Q := by
  intro p e s m args below meth c H locs cells slots mc ms ls C hH hS hB hL hn hv h1 h2
  refine lv_istore_n C.1 C.2.1 hd hi (kFull_has hL) hlt rfl (fun ls' h' => ?_)
  exact K p e s m args below meth c H locs cells slots mc ms ls' C hH hS hB (kFull_back (v := kI x) (fun q h => h) (fun j w h => (hL.2.2 j w h).2) hj hlt (kvh hv) h') (by rw [List.length_set]; exact hn) (kvt hv) h1 h2

theorem A_astore_n {n : Fin 4} {i : Nat} {x : Nat} (hd : decode mi.2.1 pc = .ok (.astore_n n, 1)) (hi : (n : Nat) = i) (hlt : i < L.length) (hj : kNoJ L i = true) (hx : 1 ≤ x) (K : AW E mi k bc bs (pc + 1) (L.set i (some (kR x))) S G d Q) : AW E mi k bc bs pc L (kR x :: S) G d Q := by
  intro p e s m args below meth c H locs cells slots mc ms ls C hH hS hB hL hn hv h1 h2
  have eV : toV E.2.2.2 (kR x) = .ref (E.2.2.2 + x) := toV_r hx
  rw [List.map_cons, eV]
  refine lv_astore_n C.1 C.2.1 hd hi (kFull_has hL) hlt rfl (fun ls' h' => ?_)
  rw [← eV] at h'
  exact K p e s m args below meth c H locs cells slots mc ms ls' C hH hS hB (kFull_back (v := kR x) (fun q h => h) (fun j w h => (hL.2.2 j w h).2) hj hlt (kvh hv) h') (by rw [List.length_set]; exact hn) (kvt hv) h1 h2

theorem A_istore {i : Nat} {x : Int} (hd : decode mi.2.1 pc = .ok (.istore i, 2)) (hlt : i < L.length) (hj : kNoJ L i = true) (K : AW E mi k bc bs (pc + 2) (L.set i (some (kI x))) S G d Q) : AW E mi k bc bs pc L (kI x :: S) G d Q := by
  intro p e s m args below meth c H locs cells slots mc ms ls C hH hS hB hL hn hv h1 h2
  refine lv_istore C.1 C.2.1 hd (kFull_has hL) hlt rfl (fun ls' h' => ?_)
  exact K p e s m args below meth c H locs cells slots mc ms ls' C hH hS hB (kFull_back (v := kI x) (fun q h => h) (fun j w h => (hL.2.2 j w h).2) hj hlt (kvh hv) h') (by rw [List.length_set]; exact hn) (kvt hv) h1 h2

theorem A_astore {i : Nat} {x : Nat} (hd : decode mi.2.1 pc = .ok (.astore i, 2)) (hlt : i < L.length) (hj : kNoJ L i = true) (hx : 1 ≤ x) (K : AW E mi k bc bs (pc + 2) (L.set i (some (kR x))) S G d Q) : AW E mi k bc bs pc L (kR x :: S) G d Q := by
  intro p e s m args below meth c H locs cells slots mc ms ls C hH hS hB hL hn hv h1 h2
  have eV : toV E.2.2.2 (kR x) = .ref (E.2.2.2 + x) := toV_r hx
  rw [List.map_cons, eV]
  refine lv_astore C.1 C.2.1 hd (kFull_has hL) hlt rfl (fun ls' h' => ?_)
  rw [← eV] at h'
  exact K p e s m args below meth c H locs cells slots mc ms ls' C hH hS hB (kFull_back (v := kR x) (fun q h => h) (fun j w h => (hL.2.2 j w h).2) hj hlt (kvh hv) h') (by rw [List.length_set]; exact hn) (kvt hv) h1 h2

theorem A_iinc {i : Nat} {n x : Int} (hd : decode mi.2.1 pc = .ok (.iinc i n, 3)) (hl : L[i]? = some (some (kI x))) (hj : kNoJ L i = true) (K : AW E mi k bc bs (pc + 3) (L.set i (some (kI (kw (x + n))))) S G d Q) : AW E mi k bc bs pc L S G d Q := by
  intro p e s m args below meth c H locs cells slots mc ms ls C hH hS hB hL hn hv h1 h2
  have hlt := (List.getElem?_eq_some_iff.mp hl).1
  have hf := kFull_has hL
  have hf' : lv_has ls L.length ((i, Value.int (Int32.ofInt x)) :: kFull E.2.2.2 L) := ⟨hf.1, hf.2.1, List.forall_mem_cons.mpr ⟨(hL.2.2 i _ hl).1, hf.2.2⟩⟩
  refine lv_iinc (k := 0) (v := Int32.ofInt (kw (x + n))) C.1 C.2.1 hd hf' rfl (by rw [kw_of, Int32.ofInt_add]) hlt rfl (fun ls' h' => ?_)
  exact K p e s m args below meth c H locs cells slots mc ms ls' C hH hS hB (kFull_back (v := kI (kw (x + n))) (fun q h => List.mem_cons_of_mem _ h) (fun j w h => (hL.2.2 j w h).2) hj hlt (kw_N _) h') (by rw [List.length_set]; exact hn) hv h1 h2

theorem A_iconst {n : Int} (hd : decode mi.2.1 pc = .ok (.iconst n, 1)) (hN : kN n) (K : AW E mi k bc bs (pc + 1) L (kI n :: S) G d Q) : AW E mi k bc bs pc L S G d Q := by
  intro p e s m args below meth c H locs cells slots mc ms ls C hH hS hB hL hn hv h1 h2
  exact lv_iconst C.1 C.2.1 hd rfl (K p e s m args below meth c H locs cells slots mc ms ls C hH hS hB hL hn (kv1 hN hv) h1 h2)

theorem A_bipush {n : Int} (hd : decode mi.2.1 pc = .ok (.bipush n, 2)) (hN : kN n) (he : (Int8.ofInt n).toInt32 = Int32.ofInt n) (K : AW E mi k bc bs (pc + 2) L (kI n :: S) G d Q) : AW E mi k bc bs pc L S G d Q := by
  intro p e s m args below meth c H locs cells slots mc ms ls C hH hS hB hL hn hv h1 h2
  exact lv_bipush C.1 C.2.1 hd he (K p e s m args below meth c H locs cells slots mc ms ls C hH hS hB hL hn (kv1 hN hv) h1 h2)

theorem A_sipush {n : Int} (hd : decode mi.2.1 pc = .ok (.sipush n, 3)) (hN : kN n) (he : (Int16.ofInt n).toInt32 = Int32.ofInt n) (K : AW E mi k bc bs (pc + 3) L (kI n :: S) G d Q) : AW E mi k bc bs pc L S G d Q := by
  intro p e s m args below meth c H locs cells slots mc ms ls C hH hS hB hL hn hv h1 h2
  exact lv_sipush C.1 C.2.1 hd he (K p e s m args below meth c H locs cells slots mc ms ls C hH hS hB hL hn (kv1 hN hv) h1 h2)

theorem A_lconst {n : Fin 2} {x : Int} (hd : decode mi.2.1 pc = .ok (.lconst n, 1)) (hN : kNJ x) (he : Int64.ofNat (n : Nat) = Int64.ofInt x) (K : AW E mi k bc bs (pc + 1) L (kJ x :: S) G d Q) : AW E mi k bc bs pc L S G d Q := by
  intro p e s m args below meth c H locs cells slots mc ms ls C hH hS hB hL hn hv h1 h2
  exact lv_lconst C.1 C.2.1 hd he (K p e s m args below meth c H locs cells slots mc ms ls C hH hS hB hL hn (kv1 hN hv) h1 h2)

theorem A_ldc {i : Nat} {x : Int} {v : Int32} (hd : decode mi.2.1 pc = .ok (.ldc i, 2)) (hw : Cond.constant mi.1.cls i v ∈ gT) (he : v = Int32.ofInt x) (hN : kN x) (K : AW E mi k bc bs (pc + 2) L (kI x :: S) G d Q) : AW E mi k bc bs pc L S G d Q := by
  intro p e s m args below meth c H locs cells slots mc ms ls C hH hS hB hL hn hv h1 h2
  subst he
  exact lv_ldc C.1 C.2.1 C.2.2.2.2.1 (C.2.2.2.2.2.1 _ hw) hd (K p e s m args below meth c H locs cells slots mc ms ls C hH hS hB hL hn (kv1 hN hv) h1 h2)

theorem A_ldcw {i : Nat} {x : Int} {v : Int32} (hd : decode mi.2.1 pc = .ok (.ldc_w i, 3)) (hw : Cond.constant mi.1.cls i v ∈ gT) (he : v = Int32.ofInt x) (hN : kN x) (K : AW E mi k bc bs (pc + 3) L (kI x :: S) G d Q) : AW E mi k bc bs pc L S G d Q := by
  intro p e s m args below meth c H locs cells slots mc ms ls C hH hS hB hL hn hv h1 h2
  subst he
  exact lv_ldcw C.1 C.2.1 C.2.2.2.2.1 (C.2.2.2.2.2.1 _ hw) hd (K p e s m args below meth c H locs cells slots mc ms ls C hH hS hB hL hn (kv1 hN hv) h1 h2)

theorem A_ldc2 {i : Nat} {x : Int} {v : Int64} (hd : decode mi.2.1 pc = .ok (.ldc2_w i, 3)) (hw : Cond.constantLong mi.1.cls i v ∈ gT) (he : v = Int64.ofInt x) (hN : kNJ x) (K : AW E mi k bc bs (pc + 3) L (kJ x :: S) G d Q) : AW E mi k bc bs pc L S G d Q := by
  intro p e s m args below meth c H locs cells slots mc ms ls C hH hS hB hL hn hv h1 h2
  subst he
  exact lv_ldc2 C.1 C.2.1 C.2.2.2.2.1 (C.2.2.2.2.2.1 _ hw) hd (K p e s m args below meth c H locs cells slots mc ms ls C hH hS hB hL hn (kv1 hN hv) h1 h2)

theorem A_iadd {x y : Int} (hd : decode mi.2.1 pc = .ok (.iadd, 1)) (K : AW E mi k bc bs (pc + 1) L (kI (kw (x + y)) :: S) G d Q) : AW E mi k bc bs pc L (kI y :: kI x :: S) G d Q := by
  intro p e s m args below meth c H locs cells slots mc ms ls C hH hS hB hL hn hv h1 h2
  have K' := (K p e s m args below meth c H locs cells slots mc ms ls C hH hS hB hL hn (kv1 (kw_N _) (kvt (kvt hv))) h1 h2)
  rw [List.map_cons, toV_i, kw_of, Int32.ofInt_add] at K'
  exact lv_iadd C.1 C.2.1 hd K'

theorem A_isub {x y : Int} (hd : decode mi.2.1 pc = .ok (.isub, 1)) (K : AW E mi k bc bs (pc + 1) L (kI (kw (x - y)) :: S) G d Q) : AW E mi k bc bs pc L (kI y :: kI x :: S) G d Q := by
  intro p e s m args below meth c H locs cells slots mc ms ls C hH hS hB hL hn hv h1 h2
  have K' := (K p e s m args below meth c H locs cells slots mc ms ls C hH hS hB hL hn (kv1 (kw_N _) (kvt (kvt hv))) h1 h2)
  rw [List.map_cons, toV_i, kw_of, Int32.ofInt_sub] at K'
  exact lv_isub C.1 C.2.1 hd K'

theorem A_imul {x y : Int} (hd : decode mi.2.1 pc = .ok (.imul, 1)) (K : AW E mi k bc bs (pc + 1) L (kI (kw (x * y)) :: S) G d Q) : AW E mi k bc bs pc L (kI y :: kI x :: S) G d Q := by
  intro p e s m args below meth c H locs cells slots mc ms ls C hH hS hB hL hn hv h1 h2
  have K' := (K p e s m args below meth c H locs cells slots mc ms ls C hH hS hB hL hn (kv1 (kw_N _) (kvt (kvt hv))) h1 h2)
  rw [List.map_cons, toV_i, kw_of, Int32.ofInt_mul] at K'
  exact lv_imul C.1 C.2.1 hd K'

theorem A_ineg {x : Int} (hd : decode mi.2.1 pc = .ok (.ineg, 1)) (K : AW E mi k bc bs (pc + 1) L (kI (kw (-x)) :: S) G d Q) : AW E mi k bc bs pc L (kI x :: S) G d Q := by
  intro p e s m args below meth c H locs cells slots mc ms ls C hH hS hB hL hn hv h1 h2
  have K' := (K p e s m args below meth c H locs cells slots mc ms ls C hH hS hB hL hn (kv1 (kw_N _) (kvt hv)) h1 h2)
  rw [List.map_cons, toV_i, kw_of, Int32.ofInt_neg] at K'
  exact lv_ineg C.1 C.2.1 hd K'

def kDiv (x y : Int) : Int := (Int32.ofInt x / Int32.ofInt y).toInt
def kRem (x y : Int) : Int := (Int32.ofInt x - Int32.ofInt x / Int32.ofInt y * Int32.ofInt y).toInt
def kAnd (x y : Int) : Int := (Int32.ofInt x &&& Int32.ofInt y).toInt
def kXor (x y : Int) : Int := (Int32.ofInt x ^^^ Int32.ofInt y).toInt
def kShl (x y : Int) : Int := (Int32.ofInt x <<< (Int32.ofInt y &&& 31)).toInt
def kShr (x y : Int) : Int := (Int32.ofInt x >>> (Int32.ofInt y &&& 31)).toInt
def kUshr (x y : Int) : Int := ((Int32.ofInt x).toUInt32 >>> ((Int32.ofInt y).toUInt32 &&& Int32.toUInt32 31)).toInt32.toInt
def kByte (x : Int) : Int := (Int32.ofInt x).toInt8.toInt32.toInt
def kL2i (x : Int) : Int := (Int64.ofInt x).toInt32.toInt
def kLand (x y : Int) : Int := (Int64.ofInt x &&& Int64.ofInt y).toInt
def kLadd (x y : Int) : Int := (Int64.ofInt x + Int64.ofInt y).toInt
def kLor (x y : Int) : Int := (Int64.ofInt x ||| Int64.ofInt y).toInt
def kLushr (x y : Int) : Int := ((Int64.ofInt x).toUInt64 >>> ((Int32.ofInt y).toInt64.toUInt64 &&& Int64.toUInt64 63)).toInt64.toInt
def kLshr (x y : Int) : Int := (Int64.ofInt x >>> ((Int32.ofInt y).toInt64 &&& 63)).toInt
def kLshl (x y : Int) : Int := (Int64.ofInt x <<< ((Int32.ofInt y).toInt64 &&& 63)).toInt

theorem A_idiv {x y : Int} (hd : decode mi.2.1 pc = .ok (.idiv, 1)) (hy : y ≠ 0) (K : AW E mi k bc bs (pc + 1) L (kI (kDiv x y) :: S) G d Q) : AW E mi k bc bs pc L (kI y :: kI x :: S) G d Q := by
  intro p e s m args below meth c H locs cells slots mc ms ls C hH hS hB hL hn hv h1 h2
  have K' := (K p e s m args below meth c H locs cells slots mc ms ls C hH hS hB hL hn (kv1 (kT_N _) (kvt (kvt hv))) h1 h2)
  rw [List.map_cons, toV_i, kDiv, Int32.ofInt_toInt] at K'
  refine lv_idiv C.1 C.2.1 hd (fun q => hy ?_) K'
  exact (kT_eq (kvh hv) (⟨by omega, by omega⟩ : kN 0)).mp q

theorem A_irem {x y : Int} (hd : decode mi.2.1 pc = .ok (.irem, 1)) (hy : y ≠ 0) (K : AW E mi k bc bs (pc + 1) L (kI (kRem x y) :: S) G d Q) : AW E mi k bc bs pc L (kI y :: kI x :: S) G d Q := by
  intro p e s m args below meth c H locs cells slots mc ms ls C hH hS hB hL hn hv h1 h2
  have K' := (K p e s m args below meth c H locs cells slots mc ms ls C hH hS hB hL hn (kv1 (kT_N _) (kvt (kvt hv))) h1 h2)
  rw [List.map_cons, toV_i, kRem, Int32.ofInt_toInt] at K'
  refine lv_irem C.1 C.2.1 hd (fun q => hy ?_) K'
  exact (kT_eq (kvh hv) (⟨by omega, by omega⟩ : kN 0)).mp q

theorem A_iand {x y : Int} (hd : decode mi.2.1 pc = .ok (.iand, 1)) (K : AW E mi k bc bs (pc + 1) L (kI (kAnd x y) :: S) G d Q) : AW E mi k bc bs pc L (kI y :: kI x :: S) G d Q := by
  intro p e s m args below meth c H locs cells slots mc ms ls C hH hS hB hL hn hv h1 h2
  have K' := (K p e s m args below meth c H locs cells slots mc ms ls C hH hS hB hL hn (kv1 (kT_N _) (kvt (kvt hv))) h1 h2)
  rw [List.map_cons, toV_i, kAnd, Int32.ofInt_toInt] at K'
  exact lv_iand C.1 C.2.1 hd K'

theorem A_ixor {x y : Int} (hd : decode mi.2.1 pc = .ok (.ixor, 1)) (K : AW E mi k bc bs (pc + 1) L (kI (kXor x y) :: S) G d Q) : AW E mi k bc bs pc L (kI y :: kI x :: S) G d Q := by
  intro p e s m args below meth c H locs cells slots mc ms ls C hH hS hB hL hn hv h1 h2
  have K' := (K p e s m args below meth c H locs cells slots mc ms ls C hH hS hB hL hn (kv1 (kT_N _) (kvt (kvt hv))) h1 h2)
  rw [List.map_cons, toV_i, kXor, Int32.ofInt_toInt] at K'
  exact lv_ixor C.1 C.2.1 hd K'

theorem A_ishl {x y : Int} (hd : decode mi.2.1 pc = .ok (.ishl, 1)) (K : AW E mi k bc bs (pc + 1) L (kI (kShl x y) :: S) G d Q) : AW E mi k bc bs pc L (kI y :: kI x :: S) G d Q := by
  intro p e s m args below meth c H locs cells slots mc ms ls C hH hS hB hL hn hv h1 h2
  have K' := (K p e s m args below meth c H locs cells slots mc ms ls C hH hS hB hL hn (kv1 (kT_N _) (kvt (kvt hv))) h1 h2)
  rw [List.map_cons, toV_i, kShl, Int32.ofInt_toInt] at K'
  exact lv_ishl C.1 C.2.1 hd K'

theorem A_ishr {x y : Int} (hd : decode mi.2.1 pc = .ok (.ishr, 1)) (K : AW E mi k bc bs (pc + 1) L (kI (kShr x y) :: S) G d Q) : AW E mi k bc bs pc L (kI y :: kI x :: S) G d Q := by
  intro p e s m args below meth c H locs cells slots mc ms ls C hH hS hB hL hn hv h1 h2
  have K' := (K p e s m args below meth c H locs cells slots mc ms ls C hH hS hB hL hn (kv1 (kT_N _) (kvt (kvt hv))) h1 h2)
  rw [List.map_cons, toV_i, kShr, Int32.ofInt_toInt] at K'
  exact lv_ishr C.1 C.2.1 hd K'

theorem A_iushr {x y : Int} (hd : decode mi.2.1 pc = .ok (.iushr, 1)) (K : AW E mi k bc bs (pc + 1) L (kI (kUshr x y) :: S) G d Q) : AW E mi k bc bs pc L (kI y :: kI x :: S) G d Q := by
  intro p e s m args below meth c H locs cells slots mc ms ls C hH hS hB hL hn hv h1 h2
  have K' := (K p e s m args below meth c H locs cells slots mc ms ls C hH hS hB hL hn (kv1 (kT_N _) (kvt (kvt hv))) h1 h2)
  rw [List.map_cons, toV_i, kUshr, Int32.ofInt_toInt] at K'
  exact lv_iushr C.1 C.2.1 hd rfl K'

theorem A_i2b {x : Int} (hd : decode mi.2.1 pc = .ok (.i2b, 1)) (K : AW E mi k bc bs (pc + 1) L (kI (kByte x) :: S) G d Q) : AW E mi k bc bs pc L (kI x :: S) G d Q := by
  intro p e s m args below meth c H locs cells slots mc ms ls C hH hS hB hL hn hv h1 h2
  have K' := (K p e s m args below meth c H locs cells slots mc ms ls C hH hS hB hL hn (kv1 (kT_N _) (kvt hv)) h1 h2)
  rw [List.map_cons, toV_i, kByte, Int32.ofInt_toInt] at K'
  exact lv_i2b C.1 C.2.1 hd rfl K'

theorem A_i2l {x : Int} (hd : decode mi.2.1 pc = .ok (.i2l, 1)) (K : AW E mi k bc bs (pc + 1) L (kJ x :: S) G d Q) : AW E mi k bc bs pc L (kI x :: S) G d Q := by
  intro p e s m args below meth c H locs cells slots mc ms ls C hH hS hB hL hn hv h1 h2
  have hx : kN x := kvh hv
  have K' := (K p e s m args below meth c H locs cells slots mc ms ls C hH hS hB hL hn (kv1 (v := kJ x) (kN_J hx) (kvt hv)) h1 h2)
  refine lv_i2l C.1 C.2.1 hd ?_ K'
  rw [← Int64.toInt_inj, Int32.toInt_toInt64, kT hx, kTJ (kN_J hx)]

theorem A_l2i {x : Int} (hd : decode mi.2.1 pc = .ok (.l2i, 1)) (K : AW E mi k bc bs (pc + 1) L (kI (kL2i x) :: S) G d Q) : AW E mi k bc bs pc L (kJ x :: S) G d Q := by
  intro p e s m args below meth c H locs cells slots mc ms ls C hH hS hB hL hn hv h1 h2
  have K' := (K p e s m args below meth c H locs cells slots mc ms ls C hH hS hB hL hn (kv1 (kT_N _) (kvt hv)) h1 h2)
  rw [List.map_cons, toV_i, kL2i, Int32.ofInt_toInt] at K'
  exact lv_l2i C.1 C.2.1 hd rfl K'

theorem A_land {x y : Int} (hd : decode mi.2.1 pc = .ok (.land, 1)) (K : AW E mi k bc bs (pc + 1) L (kJ (kLand x y) :: S) G d Q) : AW E mi k bc bs pc L (kJ y :: kJ x :: S) G d Q := by
  intro p e s m args below meth c H locs cells slots mc ms ls C hH hS hB hL hn hv h1 h2
  have K' := (K p e s m args below meth c H locs cells slots mc ms ls C hH hS hB hL hn (kv1 (kT_NJ _) (kvt (kvt hv))) h1 h2)
  rw [List.map_cons, toV_j, kLand, Int64.ofInt_toInt] at K'
  exact lv_land C.1 C.2.1 hd K'

theorem A_ladd {x y : Int} (hd : decode mi.2.1 pc = .ok (.ladd, 1)) (K : AW E mi k bc bs (pc + 1) L (kJ (kLadd x y) :: S) G d Q) : AW E mi k bc bs pc L (kJ y :: kJ x :: S) G d Q := by
  intro p e s m args below meth c H locs cells slots mc ms ls C hH hS hB hL hn hv h1 h2
  have K' := (K p e s m args below meth c H locs cells slots mc ms ls C hH hS hB hL hn (kv1 (kT_NJ _) (kvt (kvt hv))) h1 h2)
  rw [List.map_cons, toV_j, kLadd, Int64.ofInt_toInt] at K'
  exact lv_ladd C.1 C.2.1 hd K'

theorem A_lor {x y : Int} (hd : decode mi.2.1 pc = .ok (.lor, 1)) (K : AW E mi k bc bs (pc + 1) L (kJ (kLor x y) :: S) G d Q) : AW E mi k bc bs pc L (kJ y :: kJ x :: S) G d Q := by
  intro p e s m args below meth c H locs cells slots mc ms ls C hH hS hB hL hn hv h1 h2
  have K' := (K p e s m args below meth c H locs cells slots mc ms ls C hH hS hB hL hn (kv1 (kT_NJ _) (kvt (kvt hv))) h1 h2)
  rw [List.map_cons, toV_j, kLor, Int64.ofInt_toInt] at K'
  exact lv_lor C.1 C.2.1 hd K'

theorem A_lushr {x y : Int} (hd : decode mi.2.1 pc = .ok (.lushr, 1)) (K : AW E mi k bc bs (pc + 1) L (kJ (kLushr x y) :: S) G d Q) : AW E mi k bc bs pc L (kI y :: kJ x :: S) G d Q := by
  intro p e s m args below meth c H locs cells slots mc ms ls C hH hS hB hL hn hv h1 h2
  have K' := (K p e s m args below meth c H locs cells slots mc ms ls C hH hS hB hL hn (kv1 (kT_NJ _) (kvt (kvt hv))) h1 h2)
  rw [List.map_cons, toV_j, kLushr, Int64.ofInt_toInt] at K'
  exact lv_lushr C.1 C.2.1 hd rfl K'

theorem A_lshr {x y : Int} (hd : decode mi.2.1 pc = .ok (.lshr, 1)) (K : AW E mi k bc bs (pc + 1) L (kJ (kLshr x y) :: S) G d Q) : AW E mi k bc bs pc L (kI y :: kJ x :: S) G d Q := by
  intro p e s m args below meth c H locs cells slots mc ms ls C hH hS hB hL hn hv h1 h2
  have K' := (K p e s m args below meth c H locs cells slots mc ms ls C hH hS hB hL hn (kv1 (kT_NJ _) (kvt (kvt hv))) h1 h2)
  rw [List.map_cons, toV_j, kLshr, Int64.ofInt_toInt] at K'
  exact lv_lshr C.1 C.2.1 hd rfl K'

theorem A_lshl {x y : Int} (hd : decode mi.2.1 pc = .ok (.lshl, 1)) (K : AW E mi k bc bs (pc + 1) L (kJ (kLshl x y) :: S) G d Q) : AW E mi k bc bs pc L (kI y :: kJ x :: S) G d Q := by
  intro p e s m args below meth c H locs cells slots mc ms ls C hH hS hB hL hn hv h1 h2
  have K' := (K p e s m args below meth c H locs cells slots mc ms ls C hH hS hB hL hn (kv1 (kT_NJ _) (kvt (kvt hv))) h1 h2)
  rw [List.map_cons, toV_j, kLshl, Int64.ofInt_toInt] at K'
  exact lv_lshl C.1 C.2.1 hd rfl K'

theorem A_lcmp {x y : Int} (hd : decode mi.2.1 pc = .ok (.lcmp, 1)) (K : AW E mi k bc bs (pc + 1) L (kI (if x < y then -1 else if x = y then 0 else 1) :: S) G d Q) : AW E mi k bc bs pc L (kJ y :: kJ x :: S) G d Q := by
  intro p e s m args below meth c H locs cells slots mc ms ls C hH hS hB hL hn hv h1 h2
  have hy : kNJ y := kvh hv
  have hx : kNJ x := kvh (kvt hv)
  have hN : kN (if x < y then -1 else if x = y then 0 else 1) := by
    split
    · exact ⟨by omega, by omega⟩
    · split <;> exact ⟨by omega, by omega⟩
  have K' := (K p e s m args below meth c H locs cells slots mc ms ls C hH hS hB hL hn (kv1 hN (kvt (kvt hv))) h1 h2)
  have e : lg_cmp (Int64.ofInt x) (Int64.ofInt y) = Int32.ofInt (if x < y then -1 else if x = y then 0 else 1) := by
    have a1 : (Int64.ofInt y < Int64.ofInt x) ↔ y < x := by rw [Int64.lt_iff_toInt_lt, kTJ hx, kTJ hy]
    have a2 : Int64.ofInt x = Int64.ofInt y ↔ x = y := by rw [← Int64.toInt_inj, kTJ hx, kTJ hy]
    rcases Int.lt_trichotomy x y with h | h | h
    · have b1 : ¬ y < x := by omega
      have b2 : ¬ x = y := by omega
      simp only [lg_cmp, a1, a2, b1, b2, h, if_true, if_false]
      try rfl
    · subst h
      simp [lg_cmp]
    · have b1 : ¬ x < y := by omega
      have b2 : ¬ x = y := by omega
      simp only [lg_cmp, a1, a2, b1, b2, h, if_true, if_false]
      try rfl
  rw [List.map_cons, toV_i, ← e] at K'
  exact W.lcmp C.1 C.2.1 hd K'

theorem A_dup {v : AV} (hd : decode mi.2.1 pc = .ok (.dup, 1)) (hc : ∀ B, (toV B v).category = 1) (K : AW E mi k bc bs (pc + 1) L (v :: v :: S) G d Q) : AW E mi k bc bs pc L (v :: S) G d Q := by
  intro p e s m args below meth c H locs cells slots mc ms ls C hH hS hB hL hn hv h1 h2
  exact lv_dup C.1 C.2.1 hd (hc _) (K p e s m args below meth c H locs cells slots mc ms ls C hH hS hB hL hn (kv1 (kvh hv) hv) h1 h2)

theorem A_pop {v : AV} (hd : decode mi.2.1 pc = .ok (.pop, 1)) (hc : ∀ B, (toV B v).category = 1) (K : AW E mi k bc bs (pc + 1) L S G d Q) : AW E mi k bc bs pc L (v :: S) G d Q := by
  intro p e s m args below meth c H locs cells slots mc ms ls C hH hS hB hL hn hv h1 h2
  exact lv_pop C.1 C.2.1 hd (hc _) (K p e s m args below meth c H locs cells slots mc ms ls C hH hS hB hL hn (kvt hv) h1 h2)

theorem A_dup_x1 {u v : AV} (hd : decode mi.2.1 pc = .ok (.dup_x1, 1)) (hc : ∀ B, (toV B u).category = 1) (hc2 : ∀ B, (toV B v).category = 1) (K : AW E mi k bc bs (pc + 1) L (u :: v :: u :: S) G d Q) : AW E mi k bc bs pc L (u :: v :: S) G d Q := by
  intro p e s m args below meth c H locs cells slots mc ms ls C hH hS hB hL hn hv h1 h2
  exact lv_dup_x1 C.1 C.2.1 hd (hc _) (hc2 _) (K p e s m args below meth c H locs cells slots mc ms ls C hH hS hB hL hn (kv1 (kvh hv) (kv1 (kvh (kvt hv)) (kv1 (kvh hv) (kvt (kvt hv))))) h1 h2)

theorem A_dup2 {u v : AV} (hd : decode mi.2.1 pc = .ok (.dup2, 1)) (hc : ∀ B, (toV B u).category = 1) (hc2 : ∀ B, (toV B v).category = 1) (K : AW E mi k bc bs (pc + 1) L (u :: v :: u :: v :: S) G d Q) : AW E mi k bc bs pc L (u :: v :: S) G d Q := by
  intro p e s m args below meth c H locs cells slots mc ms ls C hH hS hB hL hn hv h1 h2
  exact lv_dup2_11 C.1 C.2.1 hd (hc _) (hc2 _) (K p e s m args below meth c H locs cells slots mc ms ls C hH hS hB hL hn (kv1 (kvh hv) (kv1 (kvh (kvt hv)) hv)) h1 h2)

theorem A_icmp_eq {x y off : Int} {tgt : Nat} (hd : decode mi.2.1 pc = .ok (.if_icmp .eq off, 3)) (ht : (pc : Int) + off = (tgt : Int)) (kt : x = y → AW E mi k bc bs tgt L S G d Q) (kf : x ≠ y → AW E mi k bc bs (pc + 3) L S G d Q) : AW E mi k bc bs pc L (kI y :: kI x :: S) G d Q := by
  intro p e s m args below meth c H locs cells slots mc ms ls C hH hS hB hL hn hv h1 h2
  have hx : kN x := (kvh (kvt hv))
  have hy : kN y := (kvh hv)
  have eL := kT_lt hx hy
  have eG := kT_lt hy hx
  have eE := kT_eq hx hy
  have eT : tgt < 2 ^ 64 ∨ True := Or.inr trivial
  refine lv_icmp_eq C.1 C.2.1 hd ht (fun q => kt ?_ p e s m args below meth c H locs cells slots mc ms ls C hH hS hB hL hn (kvt (kvt hv)) h1 h2) (fun q => kf ?_ p e s m args below meth c H locs cells slots mc ms ls C hH hS hB hL hn (kvt (kvt hv)) h1 h2)
  · first | exact eE.mp q | exact fun r => q (eE.mpr r) | exact eL.mp q | exact eG.mp q | exact Int.not_lt.mp (fun r => (Int32.not_lt.mpr q) (eL.mpr r)) | exact Int.not_lt.mp (fun r => (Int32.not_lt.mpr q) (eG.mpr r)) | exact Int.not_lt.mp (fun r => q (eL.mpr r)) | exact Int.not_lt.mp (fun r => q (eG.mpr r))
  · first | exact eE.mp q | exact fun r => q (eE.mpr r) | exact eE.mp (Classical.not_not.mp q) | exact eL.mp q | exact eG.mp q | exact Int.not_lt.mp (fun r => q (eL.mpr r)) | exact Int.not_lt.mp (fun r => q (eG.mpr r)) | exact eL.mp (Int32.not_le.mp q) | exact eG.mp (Int32.not_le.mp q) | exact Int.not_lt.mp (fun r => (Int32.not_lt.mpr q) (eL.mpr r)) | exact Int.not_lt.mp (fun r => (Int32.not_lt.mpr q) (eG.mpr r))

theorem A_if_eq {x off : Int} {tgt : Nat} (hd : decode mi.2.1 pc = .ok (.ifCond .eq off, 3)) (ht : (pc : Int) + off = (tgt : Int)) (kt : x = 0 → AW E mi k bc bs tgt L S G d Q) (kf : x ≠ 0 → AW E mi k bc bs (pc + 3) L S G d Q) : AW E mi k bc bs pc L (kI x :: S) G d Q := by
  intro p e s m args below meth c H locs cells slots mc ms ls C hH hS hB hL hn hv h1 h2
  have hx : kN x := (kvh hv)
  have hy : kN 0 := (⟨by omega, by omega⟩ : kN 0)
  have eL := kT_lt hx hy
  have eG := kT_lt hy hx
  have eE := kT_eq hx hy
  have eT : tgt < 2 ^ 64 ∨ True := Or.inr trivial
  refine lv_if_eq C.1 C.2.1 hd ht (fun q => kt ?_ p e s m args below meth c H locs cells slots mc ms ls C hH hS hB hL hn (kvt hv) h1 h2) (fun q => kf ?_ p e s m args below meth c H locs cells slots mc ms ls C hH hS hB hL hn (kvt hv) h1 h2)
  · first | exact eE.mp q | exact fun r => q (eE.mpr r) | exact eL.mp q | exact eG.mp q | exact Int.not_lt.mp (fun r => (Int32.not_lt.mpr q) (eL.mpr r)) | exact Int.not_lt.mp (fun r => (Int32.not_lt.mpr q) (eG.mpr r)) | exact Int.not_lt.mp (fun r => q (eL.mpr r)) | exact Int.not_lt.mp (fun r => q (eG.mpr r))
  · first | exact eE.mp q | exact fun r => q (eE.mpr r) | exact eE.mp (Classical.not_not.mp q) | exact eL.mp q | exact eG.mp q | exact Int.not_lt.mp (fun r => q (eL.mpr r)) | exact Int.not_lt.mp (fun r => q (eG.mpr r)) | exact eL.mp (Int32.not_le.mp q) | exact eG.mp (Int32.not_le.mp q) | exact Int.not_lt.mp (fun r => (Int32.not_lt.mpr q) (eL.mpr r)) | exact Int.not_lt.mp (fun r => (Int32.not_lt.mpr q) (eG.mpr r))

theorem A_icmp_ne {x y off : Int} {tgt : Nat} (hd : decode mi.2.1 pc = .ok (.if_icmp .ne off, 3)) (ht : (pc : Int) + off = (tgt : Int)) (kt : x ≠ y → AW E mi k bc bs tgt L S G d Q) (kf : x = y → AW E mi k bc bs (pc + 3) L S G d Q) : AW E mi k bc bs pc L (kI y :: kI x :: S) G d Q := by
  intro p e s m args below meth c H locs cells slots mc ms ls C hH hS hB hL hn hv h1 h2
  have hx : kN x := (kvh (kvt hv))
  have hy : kN y := (kvh hv)
  have eL := kT_lt hx hy
  have eG := kT_lt hy hx
  have eE := kT_eq hx hy
  have eT : tgt < 2 ^ 64 ∨ True := Or.inr trivial
  refine lv_icmp_ne C.1 C.2.1 hd ht (fun q => kt ?_ p e s m args below meth c H locs cells slots mc ms ls C hH hS hB hL hn (kvt (kvt hv)) h1 h2) (fun q => kf ?_ p e s m args below meth c H locs cells slots mc ms ls C hH hS hB hL hn (kvt (kvt hv)) h1 h2)
  · first | exact eE.mp q | exact fun r => q (eE.mpr r) | exact eL.mp q | exact eG.mp q | exact Int.not_lt.mp (fun r => (Int32.not_lt.mpr q) (eL.mpr r)) | exact Int.not_lt.mp (fun r => (Int32.not_lt.mpr q) (eG.mpr r)) | exact Int.not_lt.mp (fun r => q (eL.mpr r)) | exact Int.not_lt.mp (fun r => q (eG.mpr r))
  · first | exact eE.mp q | exact fun r => q (eE.mpr r) | exact eE.mp (Classical.not_not.mp q) | exact eL.mp q | exact eG.mp q | exact Int.not_lt.mp (fun r => q (eL.mpr r)) | exact Int.not_lt.mp (fun r => q (eG.mpr r)) | exact eL.mp (Int32.not_le.mp q) | exact eG.mp (Int32.not_le.mp q) | exact Int.not_lt.mp (fun r => (Int32.not_lt.mpr q) (eL.mpr r)) | exact Int.not_lt.mp (fun r => (Int32.not_lt.mpr q) (eG.mpr r))

theorem A_if_ne {x off : Int} {tgt : Nat} (hd : decode mi.2.1 pc = .ok (.ifCond .ne off, 3)) (ht : (pc : Int) + off = (tgt : Int)) (kt : x ≠ 0 → AW E mi k bc bs tgt L S G d Q) (kf : x = 0 → AW E mi k bc bs (pc + 3) L S G d Q) : AW E mi k bc bs pc L (kI x :: S) G d Q := by
  intro p e s m args below meth c H locs cells slots mc ms ls C hH hS hB hL hn hv h1 h2
  have hx : kN x := (kvh hv)
  have hy : kN 0 := (⟨by omega, by omega⟩ : kN 0)
  have eL := kT_lt hx hy
  have eG := kT_lt hy hx
  have eE := kT_eq hx hy
  have eT : tgt < 2 ^ 64 ∨ True := Or.inr trivial
  refine lv_if_ne C.1 C.2.1 hd ht (fun q => kt ?_ p e s m args below meth c H locs cells slots mc ms ls C hH hS hB hL hn (kvt hv) h1 h2) (fun q => kf ?_ p e s m args below meth c H locs cells slots mc ms ls C hH hS hB hL hn (kvt hv) h1 h2)
  · first | exact eE.mp q | exact fun r => q (eE.mpr r) | exact eL.mp q | exact eG.mp q | exact Int.not_lt.mp (fun r => (Int32.not_lt.mpr q) (eL.mpr r)) | exact Int.not_lt.mp (fun r => (Int32.not_lt.mpr q) (eG.mpr r)) | exact Int.not_lt.mp (fun r => q (eL.mpr r)) | exact Int.not_lt.mp (fun r => q (eG.mpr r))
  · first | exact eE.mp q | exact fun r => q (eE.mpr r) | exact eE.mp (Classical.not_not.mp q) | exact eL.mp q | exact eG.mp q | exact Int.not_lt.mp (fun r => q (eL.mpr r)) | exact Int.not_lt.mp (fun r => q (eG.mpr r)) | exact eL.mp (Int32.not_le.mp q) | exact eG.mp (Int32.not_le.mp q) | exact Int.not_lt.mp (fun r => (Int32.not_lt.mpr q) (eL.mpr r)) | exact Int.not_lt.mp (fun r => (Int32.not_lt.mpr q) (eG.mpr r))

theorem A_icmp_lt {x y off : Int} {tgt : Nat} (hd : decode mi.2.1 pc = .ok (.if_icmp .lt off, 3)) (ht : (pc : Int) + off = (tgt : Int)) (kt : x < y → AW E mi k bc bs tgt L S G d Q) (kf : y ≤ x → AW E mi k bc bs (pc + 3) L S G d Q) : AW E mi k bc bs pc L (kI y :: kI x :: S) G d Q := by
  intro p e s m args below meth c H locs cells slots mc ms ls C hH hS hB hL hn hv h1 h2
  have hx : kN x := (kvh (kvt hv))
  have hy : kN y := (kvh hv)
  have eL := kT_lt hx hy
  have eG := kT_lt hy hx
  have eE := kT_eq hx hy
  have eT : tgt < 2 ^ 64 ∨ True := Or.inr trivial
  refine lv_icmp_lt C.1 C.2.1 hd ht (fun q => kt ?_ p e s m args below meth c H locs cells slots mc ms ls C hH hS hB hL hn (kvt (kvt hv)) h1 h2) (fun q => kf ?_ p e s m args below meth c H locs cells slots mc ms ls C hH hS hB hL hn (kvt (kvt hv)) h1 h2)
  · first | exact eE.mp q | exact fun r => q (eE.mpr r) | exact eL.mp q | exact eG.mp q | exact Int.not_lt.mp (fun r => (Int32.not_lt.mpr q) (eL.mpr r)) | exact Int.not_lt.mp (fun r => (Int32.not_lt.mpr q) (eG.mpr r)) | exact Int.not_lt.mp (fun r => q (eL.mpr r)) | exact Int.not_lt.mp (fun r => q (eG.mpr r))
  · first | exact eE.mp q | exact fun r => q (eE.mpr r) | exact eE.mp (Classical.not_not.mp q) | exact eL.mp q | exact eG.mp q | exact Int.not_lt.mp (fun r => q (eL.mpr r)) | exact Int.not_lt.mp (fun r => q (eG.mpr r)) | exact eL.mp (Int32.not_le.mp q) | exact eG.mp (Int32.not_le.mp q) | exact Int.not_lt.mp (fun r => (Int32.not_lt.mpr q) (eL.mpr r)) | exact Int.not_lt.mp (fun r => (Int32.not_lt.mpr q) (eG.mpr r))

theorem A_if_lt {x off : Int} {tgt : Nat} (hd : decode mi.2.1 pc = .ok (.ifCond .lt off, 3)) (ht : (pc : Int) + off = (tgt : Int)) (kt : x < 0 → AW E mi k bc bs tgt L S G d Q) (kf : 0 ≤ x → AW E mi k bc bs (pc + 3) L S G d Q) : AW E mi k bc bs pc L (kI x :: S) G d Q := by
  intro p e s m args below meth c H locs cells slots mc ms ls C hH hS hB hL hn hv h1 h2
  have hx : kN x := (kvh hv)
  have hy : kN 0 := (⟨by omega, by omega⟩ : kN 0)
  have eL := kT_lt hx hy
  have eG := kT_lt hy hx
  have eE := kT_eq hx hy
  have eT : tgt < 2 ^ 64 ∨ True := Or.inr trivial
  refine lv_if_lt C.1 C.2.1 hd ht (fun q => kt ?_ p e s m args below meth c H locs cells slots mc ms ls C hH hS hB hL hn (kvt hv) h1 h2) (fun q => kf ?_ p e s m args below meth c H locs cells slots mc ms ls C hH hS hB hL hn (kvt hv) h1 h2)
  · first | exact eE.mp q | exact fun r => q (eE.mpr r) | exact eL.mp q | exact eG.mp q | exact Int.not_lt.mp (fun r => (Int32.not_lt.mpr q) (eL.mpr r)) | exact Int.not_lt.mp (fun r => (Int32.not_lt.mpr q) (eG.mpr r)) | exact Int.not_lt.mp (fun r => q (eL.mpr r)) | exact Int.not_lt.mp (fun r => q (eG.mpr r))
  · first | exact eE.mp q | exact fun r => q (eE.mpr r) | exact eE.mp (Classical.not_not.mp q) | exact eL.mp q | exact eG.mp q | exact Int.not_lt.mp (fun r => q (eL.mpr r)) | exact Int.not_lt.mp (fun r => q (eG.mpr r)) | exact eL.mp (Int32.not_le.mp q) | exact eG.mp (Int32.not_le.mp q) | exact Int.not_lt.mp (fun r => (Int32.not_lt.mpr q) (eL.mpr r)) | exact Int.not_lt.mp (fun r => (Int32.not_lt.mpr q) (eG.mpr r))

theorem A_icmp_ge {x y off : Int} {tgt : Nat} (hd : decode mi.2.1 pc = .ok (.if_icmp .ge off, 3)) (ht : (pc : Int) + off = (tgt : Int)) (kt : y ≤ x → AW E mi k bc bs tgt L S G d Q) (kf : x < y → AW E mi k bc bs (pc + 3) L S G d Q) : AW E mi k bc bs pc L (kI y :: kI x :: S) G d Q := by
  intro p e s m args below meth c H locs cells slots mc ms ls C hH hS hB hL hn hv h1 h2
  have hx : kN x := (kvh (kvt hv))
  have hy : kN y := (kvh hv)
  have eL := kT_lt hx hy
  have eG := kT_lt hy hx
  have eE := kT_eq hx hy
  have eT : tgt < 2 ^ 64 ∨ True := Or.inr trivial
  refine lv_icmp_ge C.1 C.2.1 hd ht (fun q => kt ?_ p e s m args below meth c H locs cells slots mc ms ls C hH hS hB hL hn (kvt (kvt hv)) h1 h2) (fun q => kf ?_ p e s m args below meth c H locs cells slots mc ms ls C hH hS hB hL hn (kvt (kvt hv)) h1 h2)
  · first | exact eE.mp q | exact fun r => q (eE.mpr r) | exact eL.mp q | exact eG.mp q | exact Int.not_lt.mp (fun r => (Int32.not_lt.mpr q) (eL.mpr r)) | exact Int.not_lt.mp (fun r => (Int32.not_lt.mpr q) (eG.mpr r)) | exact Int.not_lt.mp (fun r => q (eL.mpr r)) | exact Int.not_lt.mp (fun r => q (eG.mpr r))
  · first | exact eE.mp q | exact fun r => q (eE.mpr r) | exact eE.mp (Classical.not_not.mp q) | exact eL.mp q | exact eG.mp q | exact Int.not_lt.mp (fun r => q (eL.mpr r)) | exact Int.not_lt.mp (fun r => q (eG.mpr r)) | exact eL.mp (Int32.not_le.mp q) | exact eG.mp (Int32.not_le.mp q) | exact Int.not_lt.mp (fun r => (Int32.not_lt.mpr q) (eL.mpr r)) | exact Int.not_lt.mp (fun r => (Int32.not_lt.mpr q) (eG.mpr r))

theorem A_if_ge {x off : Int} {tgt : Nat} (hd : decode mi.2.1 pc = .ok (.ifCond .ge off, 3)) (ht : (pc : Int) + off = (tgt : Int)) (kt : 0 ≤ x → AW E mi k bc bs tgt L S G d Q) (kf : x < 0 → AW E mi k bc bs (pc + 3) L S G d Q) : AW E mi k bc bs pc L (kI x :: S) G d Q := by
  intro p e s m args below meth c H locs cells slots mc ms ls C hH hS hB hL hn hv h1 h2
  have hx : kN x := (kvh hv)
  have hy : kN 0 := (⟨by omega, by omega⟩ : kN 0)
  have eL := kT_lt hx hy
  have eG := kT_lt hy hx
  have eE := kT_eq hx hy
  have eT : tgt < 2 ^ 64 ∨ True := Or.inr trivial
  refine lv_if_ge C.1 C.2.1 hd ht (fun q => kt ?_ p e s m args below meth c H locs cells slots mc ms ls C hH hS hB hL hn (kvt hv) h1 h2) (fun q => kf ?_ p e s m args below meth c H locs cells slots mc ms ls C hH hS hB hL hn (kvt hv) h1 h2)
  · first | exact eE.mp q | exact fun r => q (eE.mpr r) | exact eL.mp q | exact eG.mp q | exact Int.not_lt.mp (fun r => (Int32.not_lt.mpr q) (eL.mpr r)) | exact Int.not_lt.mp (fun r => (Int32.not_lt.mpr q) (eG.mpr r)) | exact Int.not_lt.mp (fun r => q (eL.mpr r)) | exact Int.not_lt.mp (fun r => q (eG.mpr r))
  · first | exact eE.mp q | exact fun r => q (eE.mpr r) | exact eE.mp (Classical.not_not.mp q) | exact eL.mp q | exact eG.mp q | exact Int.not_lt.mp (fun r => q (eL.mpr r)) | exact Int.not_lt.mp (fun r => q (eG.mpr r)) | exact eL.mp (Int32.not_le.mp q) | exact eG.mp (Int32.not_le.mp q) | exact Int.not_lt.mp (fun r => (Int32.not_lt.mpr q) (eL.mpr r)) | exact Int.not_lt.mp (fun r => (Int32.not_lt.mpr q) (eG.mpr r))

theorem A_icmp_gt {x y off : Int} {tgt : Nat} (hd : decode mi.2.1 pc = .ok (.if_icmp .gt off, 3)) (ht : (pc : Int) + off = (tgt : Int)) (kt : y < x → AW E mi k bc bs tgt L S G d Q) (kf : x ≤ y → AW E mi k bc bs (pc + 3) L S G d Q) : AW E mi k bc bs pc L (kI y :: kI x :: S) G d Q := by
  intro p e s m args below meth c H locs cells slots mc ms ls C hH hS hB hL hn hv h1 h2
  have hx : kN x := (kvh (kvt hv))
  have hy : kN y := (kvh hv)
  have eL := kT_lt hx hy
  have eG := kT_lt hy hx
  have eE := kT_eq hx hy
  have eT : tgt < 2 ^ 64 ∨ True := Or.inr trivial
  refine lv_icmp_gt C.1 C.2.1 hd ht (fun q => kt ?_ p e s m args below meth c H locs cells slots mc ms ls C hH hS hB hL hn (kvt (kvt hv)) h1 h2) (fun q => kf ?_ p e s m args below meth c H locs cells slots mc ms ls C hH hS hB hL hn (kvt (kvt hv)) h1 h2)
  · first | exact eE.mp q | exact fun r => q (eE.mpr r) | exact eL.mp q | exact eG.mp q | exact Int.not_lt.mp (fun r => (Int32.not_lt.mpr q) (eL.mpr r)) | exact Int.not_lt.mp (fun r => (Int32.not_lt.mpr q) (eG.mpr r)) | exact Int.not_lt.mp (fun r => q (eL.mpr r)) | exact Int.not_lt.mp (fun r => q (eG.mpr r))
  · first | exact eE.mp q | exact fun r => q (eE.mpr r) | exact eE.mp (Classical.not_not.mp q) | exact eL.mp q | exact eG.mp q | exact Int.not_lt.mp (fun r => q (eL.mpr r)) | exact Int.not_lt.mp (fun r => q (eG.mpr r)) | exact eL.mp (Int32.not_le.mp q) | exact eG.mp (Int32.not_le.mp q) | exact Int.not_lt.mp (fun r => (Int32.not_lt.mpr q) (eL.mpr r)) | exact Int.not_lt.mp (fun r => (Int32.not_lt.mpr q) (eG.mpr r))

theorem A_if_gt {x off : Int} {tgt : Nat} (hd : decode mi.2.1 pc = .ok (.ifCond .gt off, 3)) (ht : (pc : Int) + off = (tgt : Int)) (kt : 0 < x → AW E mi k bc bs tgt L S G d Q) (kf : x ≤ 0 → AW E mi k bc bs (pc + 3) L S G d Q) : AW E mi k bc bs pc L (kI x :: S) G d Q := by
  intro p e s m args below meth c H locs cells slots mc ms ls C hH hS hB hL hn hv h1 h2
  have hx : kN x := (kvh hv)
  have hy : kN 0 := (⟨by omega, by omega⟩ : kN 0)
  have eL := kT_lt hx hy
  have eG := kT_lt hy hx
  have eE := kT_eq hx hy
  have eT : tgt < 2 ^ 64 ∨ True := Or.inr trivial
  refine lv_if_gt C.1 C.2.1 hd ht (fun q => kt ?_ p e s m args below meth c H locs cells slots mc ms ls C hH hS hB hL hn (kvt hv) h1 h2) (fun q => kf ?_ p e s m args below meth c H locs cells slots mc ms ls C hH hS hB hL hn (kvt hv) h1 h2)
  · first | exact eE.mp q | exact fun r => q (eE.mpr r) | exact eL.mp q | exact eG.mp q | exact Int.not_lt.mp (fun r => (Int32.not_lt.mpr q) (eL.mpr r)) | exact Int.not_lt.mp (fun r => (Int32.not_lt.mpr q) (eG.mpr r)) | exact Int.not_lt.mp (fun r => q (eL.mpr r)) | exact Int.not_lt.mp (fun r => q (eG.mpr r))
  · first | exact eE.mp q | exact fun r => q (eE.mpr r) | exact eE.mp (Classical.not_not.mp q) | exact eL.mp q | exact eG.mp q | exact Int.not_lt.mp (fun r => q (eL.mpr r)) | exact Int.not_lt.mp (fun r => q (eG.mpr r)) | exact eL.mp (Int32.not_le.mp q) | exact eG.mp (Int32.not_le.mp q) | exact Int.not_lt.mp (fun r => (Int32.not_lt.mpr q) (eL.mpr r)) | exact Int.not_lt.mp (fun r => (Int32.not_lt.mpr q) (eG.mpr r))

theorem A_icmp_le {x y off : Int} {tgt : Nat} (hd : decode mi.2.1 pc = .ok (.if_icmp .le off, 3)) (ht : (pc : Int) + off = (tgt : Int)) (kt : x ≤ y → AW E mi k bc bs tgt L S G d Q) (kf : y < x → AW E mi k bc bs (pc + 3) L S G d Q) : AW E mi k bc bs pc L (kI y :: kI x :: S) G d Q := by
  intro p e s m args below meth c H locs cells slots mc ms ls C hH hS hB hL hn hv h1 h2
  have hx : kN x := (kvh (kvt hv))
  have hy : kN y := (kvh hv)
  have eL := kT_lt hx hy
  have eG := kT_lt hy hx
  have eE := kT_eq hx hy
  have eT : tgt < 2 ^ 64 ∨ True := Or.inr trivial
  refine lv_icmp_le C.1 C.2.1 hd ht (fun q => kt ?_ p e s m args below meth c H locs cells slots mc ms ls C hH hS hB hL hn (kvt (kvt hv)) h1 h2) (fun q => kf ?_ p e s m args below meth c H locs cells slots mc ms ls C hH hS hB hL hn (kvt (kvt hv)) h1 h2)
  · first | exact eE.mp q | exact fun r => q (eE.mpr r) | exact eL.mp q | exact eG.mp q | exact Int.not_lt.mp (fun r => (Int32.not_lt.mpr q) (eL.mpr r)) | exact Int.not_lt.mp (fun r => (Int32.not_lt.mpr q) (eG.mpr r)) | exact Int.not_lt.mp (fun r => q (eL.mpr r)) | exact Int.not_lt.mp (fun r => q (eG.mpr r))
  · first | exact eE.mp q | exact fun r => q (eE.mpr r) | exact eE.mp (Classical.not_not.mp q) | exact eL.mp q | exact eG.mp q | exact Int.not_lt.mp (fun r => q (eL.mpr r)) | exact Int.not_lt.mp (fun r => q (eG.mpr r)) | exact eL.mp (Int32.not_le.mp q) | exact eG.mp (Int32.not_le.mp q) | exact Int.not_lt.mp (fun r => (Int32.not_lt.mpr q) (eL.mpr r)) | exact Int.not_lt.mp (fun r => (Int32.not_lt.mpr q) (eG.mpr r))

theorem A_if_le {x off : Int} {tgt : Nat} (hd : decode mi.2.1 pc = .ok (.ifCond .le off, 3)) (ht : (pc : Int) + off = (tgt : Int)) (kt : x ≤ 0 → AW E mi k bc bs tgt L S G d Q) (kf : 0 < x → AW E mi k bc bs (pc + 3) L S G d Q) : AW E mi k bc bs pc L (kI x :: S) G d Q := by
  intro p e s m args below meth c H locs cells slots mc ms ls C hH hS hB hL hn hv h1 h2
  have hx : kN x := (kvh hv)
  have hy : kN 0 := (⟨by omega, by omega⟩ : kN 0)
  have eL := kT_lt hx hy
  have eG := kT_lt hy hx
  have eE := kT_eq hx hy
  have eT : tgt < 2 ^ 64 ∨ True := Or.inr trivial
  refine lv_if_le C.1 C.2.1 hd ht (fun q => kt ?_ p e s m args below meth c H locs cells slots mc ms ls C hH hS hB hL hn (kvt hv) h1 h2) (fun q => kf ?_ p e s m args below meth c H locs cells slots mc ms ls C hH hS hB hL hn (kvt hv) h1 h2)
  · first | exact eE.mp q | exact fun r => q (eE.mpr r) | exact eL.mp q | exact eG.mp q | exact Int.not_lt.mp (fun r => (Int32.not_lt.mpr q) (eL.mpr r)) | exact Int.not_lt.mp (fun r => (Int32.not_lt.mpr q) (eG.mpr r)) | exact Int.not_lt.mp (fun r => q (eL.mpr r)) | exact Int.not_lt.mp (fun r => q (eG.mpr r))
  · first | exact eE.mp q | exact fun r => q (eE.mpr r) | exact eE.mp (Classical.not_not.mp q) | exact eL.mp q | exact eG.mp q | exact Int.not_lt.mp (fun r => q (eL.mpr r)) | exact Int.not_lt.mp (fun r => q (eG.mpr r)) | exact eL.mp (Int32.not_le.mp q) | exact eG.mp (Int32.not_le.mp q) | exact Int.not_lt.mp (fun r => (Int32.not_lt.mpr q) (eL.mpr r)) | exact Int.not_lt.mp (fun r => (Int32.not_lt.mpr q) (eG.mpr r))

theorem A_goto {off : Int} {tgt : Nat} (hd : decode mi.2.1 pc = .ok (.goto off, 3)) (ht : (pc : Int) + off = (tgt : Int)) (K : AW E mi k bc bs tgt L S G d Q) : AW E mi k bc bs pc L S G d Q := by
  intro p e s m args below meth c H locs cells slots mc ms ls C hH hS hB hL hn hv h1 h2
  exact lv_goto C.1 C.2.1 hd ht (K p e s m args below meth c H locs cells slots mc ms ls C hH hS hB hL hn hv h1 h2)

theorem kQc_ret {s : State} {args : Array Value} {H : Heap} {locs : List Loc} {r : Option AV} (hq : Q r G d) (hr : ∀ v, r = some v → kVN v) (hH : kH E G d H) (hS : va_S (kA E.2.2.2) s.heap H locs) : ∀ t : State, t.heap = H → s.WarmedH t.vm → kQc E Q args s (.returned (r.map (toV E.2.2.2))) t :=
  fun t ht _ => ⟨r, G, d, rfl, hq, hr, by rw [ht]; exact hH, hS.F ht⟩

theorem A_iret {x : Int} (hd : decode mi.2.1 pc = .ok (.ireturn, 1)) (hr : mi.2.2.2 = some .int) (hq : Q (some (kI x)) G d) : AW E mi k bc bs pc L [kI x] G d Q := by
  intro p e s m args below meth c H locs cells slots mc ms ls C hH hS hB hL hn hv h1 h2
  refine W.widen (k := mc) (n := ms) (by omega) (by omega) ?_
  exact W.iret C.1 C.2.1 (C.2.2.1.trans hr) (kQc_ret (r := some (kI x)) hq (fun v h => by cases h; exact kvh hv) hH hS) hS.2.2 hd (hlocks := C.2.2.2.2.2.2.1)

theorem A_zret {x : Int} (hd : decode mi.2.1 pc = .ok (.ireturn, 1)) (hr : mi.2.2.2 = some .boolean) (hx : x = 0 ∨ x = 1) (hq : Q (some (kI x)) G d) : AW E mi k bc bs pc L [kI x] G d Q := by
  intro p e s m args below meth c H locs cells slots mc ms ls C hH hS hB hL hn hv h1 h2
  refine W.widen (k := mc) (n := ms) (by omega) (by omega) ?_
  exact W.zret C.1 C.2.1 (C.2.2.1.trans hr) (by rcases hx with rfl | rfl <;> rfl) (kQc_ret (r := some (kI x)) hq (fun v h => by cases h; exact kvh hv) hH hS) hS.2.2 hd (hlocks := C.2.2.2.2.2.2.1)

theorem A_vret  (hd : decode mi.2.1 pc = .ok (.return_, 1)) (hr : mi.2.2.2 = none) (hq : Q none G d) : AW E mi k bc bs pc L [] G d Q := by
  intro p e s m args below meth c H locs cells slots mc ms ls C hH hS hB hL hn hv h1 h2
  refine W.widen (k := mc) (n := ms) (by omega) (by omega) ?_
  exact W.vret C.1 C.2.1 (C.2.2.1.trans hr) (kQc_ret (r := none) hq (fun v h => by cases h) hH hS) hS.2.2 hd (hlocks := C.2.2.2.2.2.2.1)

theorem A_aret {a : Nat} {ty : FieldType} (hd : decode mi.2.1 pc = .ok (.areturn, 1)) (hr : mi.2.2.2 = some (.array ty)) (ha : 1 ≤ a) (hq : Q (some (kR a)) G d) : AW E mi k bc bs pc L [kR a] G d Q := by
  intro p e s m args below meth c H locs cells slots mc ms ls C hH hS hB hL hn hv h1 h2
  refine W.widen (k := mc) (n := ms) (by omega) (by omega) ?_
  exact W.aret C.1 C.2.1 (C.2.2.1.trans hr) (Or.inr ⟨_, rfl⟩) (Or.inr ⟨_, toV_r ha⟩) (kQc_ret (r := some (kR a)) hq (fun v h => by cases h; exact kvh hv) hH hS) hS.2.2 hd (hlocks := C.2.2.2.2.2.2.1)

end RU