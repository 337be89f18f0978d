/-! an abstract machine: ints as whole numbers in range, references as numbers of cells made since the law's entry (0: null), a heap as shapes, references, numbers -/
abbrev AV : Type := Int ⊕ Int ⊕ Nat
abbrev kI (x : Int) : AV := .inl x
abbrev kJ (x : Int) : AV := .inr (.inl x)
abbrev kR (a : Nat) : AV := .inr (.inr a)
abbrev HD : Type := Nat → Int → Int
abbrev HG : Type := Nat × (Nat → Nat × Nat) × (Nat → Int → Nat)
abbrev MI : Type := MethodName × ByteArray × Nat × Option FieldType
abbrev EE : Type := Launch × va_G × (Nat → ClassId) × Nat
abbrev PQ : Type := Option AV → HG → HD → Prop
def kw (x : Int) : Int := (Int32.ofInt x).toInt
def kN (x : Int) : Prop := -2147483648 ≤ x ∧ x ≤ 2147483647
def kNJ (x : Int) : Prop := -9223372036854775808 ≤ x ∧ x ≤ 9223372036854775807
theorem kw_id {x : Int} (h1 : -2147483648 ≤ x) (h2 : x ≤ 2147483647) : kw x = x := Int32.toInt_ofInt_of_le (by omega) (by omega)
theorem kw_N (x : Int) : kN (kw x) := by
  have h1 := Int32.le_toInt (Int32.ofInt x)
  have h2 := Int32.toInt_lt (Int32.ofInt x)
  exact ⟨by unfold kw; omega, by unfold kw; omega⟩
theorem kw_of (x : Int) : Int32.ofInt (kw x) = Int32.ofInt x := Int32.ofInt_toInt _
theorem kT {x : Int} (h : kN x) : (Int32.ofInt x).toInt = x := Int32.toInt_ofInt_of_le (by have := h.1; omega) (by have := h.2; omega)
theorem kTJ {x : Int} (h : kNJ x) : (Int64.ofInt x).toInt = x := Int64.toInt_ofInt_of_le (by have := h.1; omega) (by have := h.2; omega)
theorem kT_N (x : Int32) : kN x.toInt := ⟨by have := Int32.le_toInt x; omega, by have := Int32.toInt_lt x; omega⟩
theorem kT_NJ (x : Int64) : kNJ x.toInt := ⟨by have := Int64.le_toInt x; omega, by have := Int64.toInt_lt x; omega⟩
theorem kN_J {x : Int} (h : kN x) : kNJ x := ⟨by have := h.1; omega, by have := h.2; omega⟩
theorem kT_lt {x y : Int} (hx : kN x) (hy : kN y) : Int32.ofInt x < Int32.ofInt y ↔ x < y := by rw [Int32.lt_iff_toInt_lt, kT hx, kT hy]
theorem kT_le {x y : Int} (hx : kN x) (hy : kN y) : Int32.ofInt x ≤ Int32.ofInt y ↔ x ≤ y := by rw [Int32.le_iff_toInt_le, kT hx, kT hy]
theorem kT_eq {x y : Int} (hx : kN x) (hy : kN y) : Int32.ofInt x = Int32.ofInt y ↔ x = y := by
  rw [← Int32.toInt_inj, kT hx, kT hy]
theorem kT_cl {x : Int} (h : kN x) : (Int32.ofInt x).toNatClampNeg = x.toNat := Int32.toNatClampNeg_ofInt_of_le (by have := h.1; omega) (by have := h.2; omega)
theorem kT_in {x : Int} {n : Nat} (h : kN x) (h0 : 0 ≤ x) (h1 : x < n) : vp_in (Int32.ofInt x) n := by
  intro q
  rcases q with q | q
  · have : Int32.ofInt x < Int32.ofInt 0 := q
    rw [kT_lt h ⟨by omega, by omega⟩] at this
    omega
  · rw [kT_cl h] at q
    omega
def kVN : AV → Prop
  | .inl x => kN x
  | .inr (.inl x) => kNJ x
  | .inr (.inr _) => True
def toV (B : Nat) : AV → Value
  | .inl x => .int (Int32.ofInt x)
  | .inr (.inl x) => .long (Int64.ofInt x)
  | .inr (.inr a) => if a = 0 then .null else .ref (B + a)
theorem toV_i (B : Nat) (x : Int) : toV B (kI x) = .int (Int32.ofInt x) := rfl
theorem toV_j (B : Nat) (x : Int) : toV B (kJ x) = .long (Int64.ofInt x) := rfl
theorem toV_r {B a : Nat} (h : 1 ≤ a) : toV B (kR a) = .ref (B + a) := by
  show (if a = 0 then Value.null else .ref (B + a)) = _
  rw [if_neg (by omega)]
theorem toV_cat (B : Nat) (v : AV) : (toV B v).category = (match v with | .inr (.inl _) => 2 | _ => 1) := by
  rcases v with x | x | a
  · rfl
  · rfl
  · show (if a = 0 then Value.null else .ref (B + a)).category = 1
    by_cases h : a = 0
    · rw [if_pos h]; rfl
    · rw [if_neg h]; rfl
/-- the kinds: 0..7 the classes, 8 int[], 9 boolean[], 10.. arrays of references -/
def kNF (k : Nat) : Nat := match k with
  | 0 => 16
  | 1 => 9
  | 2 => 4
  | 3 => 16
  | 4 => 15
  | 5 => 3
  | 6 => 7
  | _ => 21
def kTy (k i : Nat) : FieldType := match k with
  | 0 => tyX0 i
  | 1 => tyX1 i
  | 2 => tyX2 i
  | 3 => tyX3 i
  | 4 => tyX4 i
  | 5 => tyX5 i
  | 6 => tyX6 i
  | _ => tyX7 i
def kIsR : FieldType → Bool
  | .object _ => true
  | .array _ => true
  | _ => false
def kRf (k i : Nat) : Bool := kIsR (kTy k i)
def kFs (B k : Nat) (r : Nat → Nat) (x : Nat → Int) : List Value := (List.range (kNF k)).map fun i => if kRf k i then toV B (kR (r i)) else toV B (kI (x i))
def kCell (dA : Nat → ClassId) (B : Nat) (sh : Nat × Nat) (r : Nat → Nat) (x : Nat → Int) : va_E :=
  if sh.1 < 8 then .inr (sh.1, kFs B sh.1 r x)
  else if sh.1 < 10 then .inl (dA sh.1, sh.2, .inl (fun i => Int32.ofInt (x i)))
  else .inl (dA sh.1, sh.2, .inr (.inr (.inr (.inr (fun i => if r i = 0 then none else some (B + r i))))))
def kA (B : Nat) : Nat → Prop := fun q => B + 1 ≤ q
def kH (E : EE) (G : HG) (d : HD) (H : Heap) : Prop :=
  (∀ a, 1 ≤ a → a ≤ G.1 → va_at E.2.1 vwCl (E.2.2.2 + a, kCell E.2.2.1 E.2.2.2 (G.2.1 a) (fun i => G.2.2 a i) (fun i => d a i)) H) ∧ H.size = E.2.2.2 + 1 + G.1 ∧ ∀ a i, kN (d a i)
def isO (G : HG) (a k : Nat) : Prop := 1 ≤ a ∧ a ≤ G.1 ∧ (G.2.1 a).1 = k
def isA (G : HG) (a k n : Nat) : Prop := 1 ≤ a ∧ a ≤ G.1 ∧ G.2.1 a = (k, n) ∧ n ≤ 1000000
/-- the tables' words that every method may lean on -/
def gT : List Cond := lw_tbl.filter goodWord
theorem gT_good : GoodIn gT gT := fun w h => ⟨h, good_of_word (List.mem_filter.mp h).2⟩
theorem gT_of {w : Cond} (h : w ∈ tables_1) (g : goodWord w = true) : w ∈ gT := List.mem_filter.mpr ⟨List.mem_append_right _ h, g⟩
def kWS (mi : MI) : List Cond := .code mi.1 mi.2.1 mi.2.2.1 mi.2.2.2 :: gT
def kTys (dA : Nat → ClassId) : List (ClassId × FieldType) := [(dA 8, .int), (dA 9, .boolean), (dA 10, .object RX0), (dA 11, .object RX1), (dA 12, .object RX4), (dA 13, .object RX5)]
def kNestF : List (String × Nat × String × String × String × String) := [("KnotRing$Habit", 22, "KnotRing$Reader", "claims", "I", "KnotRing"), ("KnotRing$Habit", 9, "KnotRing$Reader", "clauses", "I", "KnotRing"), ("KnotRing", 161, "KnotRing$Reader", "clauses", "I", "KnotRing"), ("KnotRing$Habit", 18, "KnotRing$Reader", "subject", "[I", "KnotRing"), ("KnotRing$Habit", 32, "KnotRing$Reader", "relation", "[I", "KnotRing"), ("KnotRing$Habit", 36, "KnotRing$Reader", "number", "[I", "KnotRing"), ("KnotRing$Habit", 40, "KnotRing$Reader", "ifSo", "[I", "KnotRing"), ("KnotRing$Habit", 44, "KnotRing$Reader", "ifNot", "[I", "KnotRing"), ("KnotRing$Habit", 48, "KnotRing$Reader", "sign", "[I", "KnotRing"), ("KnotRing$Habit", 52, "KnotRing$Reader", "digit", "[I", "KnotRing"), ("KnotRing$Habit", 56, "KnotRing$Reader", "change", "[I", "KnotRing"), ("KnotRing$Ring", 146, "KnotRing$Car", "would", "Z", "KnotRing")]
def kNestM : List (String × Nat × MethodName × String) := [("KnotRing", 34, ⟨"KnotRing$Reader", "<init>", "()V"⟩, "KnotRing"), ("KnotRing", 21, ⟨"KnotRing$Knots", "<init>", "()V"⟩, "KnotRing"), ("KnotRing$Ring", 64, ⟨"KnotRing$Car", "<init>", "()V"⟩, "KnotRing"), ("KnotRing", 54, ⟨"KnotRing$Sheet", "<init>", "()V"⟩, "KnotRing")]
def kNw (U : State) : Prop := (∀ q ∈ kNestF, va_Nw (.fieldLinkNest q.1 q.2.1 q.2.2.1 q.2.2.2.1 q.2.2.2.2.1 q.2.2.2.2.2) U) ∧ ∀ q ∈ kNestM, va_Nw (.methodLinkNest q.1 q.2.1 q.2.2.1 q.2.2.2) U
def kK (E : EE) (U : State) : Prop := va_K E.2.1 vwCl (kTys E.2.2.1) U ∧ kNw U ∧ (va_AO RX0 U ∧ va_AO RX1 U ∧ va_AO RX4 U ∧ va_AO RX5 U) ∧ va_Nw (.castable "[I" "java/lang/Cloneable") U
theorem kK.moved {E : EE} {s U : State} (hW : s.WarmedH U.vm) (h : kK E s) : kK E U := by
  obtain ⟨h1, ⟨h2, h3⟩, ⟨h4, h5, h6, h7⟩, h8⟩ := h
  refine ⟨va_K.moved hW.alike h1, ⟨fun q hq => va_Nw.warmF hW (h2 q hq), fun q hq => va_Nw.warmM hW (h3 q hq)⟩, ⟨h4.moved hW.alike, h5.moved hW.alike, h6.moved hW.alike, h7.moved hW.alike⟩, ?_⟩
  exact va_Nw.warmC hW h8
theorem kK.same {E : EE} {u U : State} (h : u.vm = U.vm) (hk : kK E u) : kK E U := by
  obtain ⟨h1, ⟨h2, h3⟩, ⟨h4, h5, h6, h7⟩, h8⟩ := hk
  have ha : u.vm.Alike U.vm := by rw [h]; exact Vm.Alike.refl _
  exact ⟨va_K.moved ha h1, ⟨fun q hq => va_Nw.same rfl h (h2 q hq), fun q hq => va_Nw.same rfl h (h3 q hq)⟩, ⟨h4.moved ha, h5.moved ha, h6.moved ha, h7.moved ha⟩, va_Nw.same rfl h h8⟩
def kCx (E : EE) (mi : MI) (p : Program) (s : State) (m : MethodId) (args : Array Value) (meth : Method) (c : Code) : Prop :=
  p.tables.exec = Jvm.exec ∧ c.code = mi.2.1 ∧ meth.sig.returnType = mi.2.2.2 ∧ c.maxLocals = mi.2.2.1 ∧ s.vm.findClass mi.1.cls = some m.cls ∧ (∀ w ∈ gT, w.before args s = true) ∧ meth.locks = false ∧ meth.name = mi.1.name ∧ kK E s
def kLo (B : Nat) (L : List (Option AV)) (ls : Array Slot) : Prop := ls.size = L.length ∧ lv_wf ls ∧ ∀ (i : Nat) (v : AV), L[i]? = some (some v) → ls[i]? = some (.val (toV B v)) ∧ kVN v
def kQc (E : EE) (Q : PQ) : Array Value → State → Outcome → State → Prop := fun _ st oc t =>
  ∃ (r : Option AV) (G : HG) (d : HD), oc = .returned (r.map (toV E.2.2.2)) ∧ Q r G d ∧ (∀ v, r = some v → kVN v) ∧ kH E G d t.heap ∧ va_F (kA E.2.2.2) st t
def kRm (k bc bs : Nat) : Room := { frames := k, cells := bc, slots := bs, locals := 60 * k }
def AW (E : EE) (mi : MI) (k bc bs pc : Nat) (L : List (Option AV)) (S : List AV) (G : HG) (d : HD) (Q : PQ) : Prop :=
  ∀ (p : Program) (e : Env) (s : State) (m : MethodId) (args : Array Value) (below : List Frame) (meth : Method) (c : Code) (H : Heap) (locs : List Loc) (cells slots mc ms : Nat) (ls : Array Slot),
    kCx E mi p s m args meth c → kH E G d H → va_S (kA E.2.2.2) s.heap H locs → E.2.2.2 + 1 ≤ s.heap.size → kLo E.2.2.2 L ls → L.length = mi.2.2.1 → (∀ v ∈ S, kVN v) → cells + bc ≤ mc → slots + bs ≤ ms →
    W p E.1 e (kRm k mc ms) s m args below meth c H locs cells slots (MQ below (kQc E Q) args s mc ms (kA E.2.2.2)) (F0 m pc ls (S.map (toV E.2.2.2)))
def kPc (E : EE) (av : List AV) (G : HG) (d : HD) : Array Value → State → Prop := fun v U => v = (av.map (toV E.2.2.2)).toArray ∧ kH E G d U.heap ∧ kK E U ∧ (∀ x ∈ av, kVN x)
def AM (E : EE) (mi : MI) (k bc bs : Nat) (av : List AV) (G : HG) (d : HD) (Q : PQ) : Prop :=
  Met E.1 mi.1 (kWS mi) (kRm k bc bs) (kPc E av G d) (kQc E Q) bc bs (kA E.2.2.2)
/-! the entry -/
def kSl : List AV → List (Option AV)
  | [] => []
  | .inr (.inl x) :: r => some (kJ x) :: none :: kSl r
  | v :: r => some v :: kSl r
def kEn (av : List AV) (n : Nat) : List (Option AV) := kSl av ++ List.replicate (n - (kSl av).length) none
theorem kSl_len (B : Nat) : ∀ av : List AV, (kSl av).length = (lg_sl (av.map (toV B))).length
  | [] => rfl
  | .inr (.inl x) :: r => by
    have ih := kSl_len B r
    simp [kSl, lg_sl, toV, Value.category] at ih ⊢
    exact ih
  | .inl x :: r => by
    have ih := kSl_len B r
    simp [kSl, lg_sl, toV, Value.category] at ih ⊢
    exact ih
  | .inr (.inr a) :: r => by
    have ih := kSl_len B r
    have hc : (toV B (kR a)).category = 1 := toV_cat B _
    simp only [kSl, lg_sl, List.map_cons, List.flatMap_cons, hc, List.length_cons] at ih ⊢
    simp at ih ⊢
    omega
theorem kSl_at (B : Nat) : ∀ (av : List AV) (j i : Nat) (v : AV), (∀ x ∈ av, kVN x) → (kSl av)[i]? = some (some v) → (j + i, toV B v) ∈ lv_args j (av.map (toV B)) ∧ kVN v
  | [], j, i, v, _, h => by simp [kSl] at h
  | .inr (.inl x) :: r, j, i, v, hv, h => by
    have hc : (toV B (kJ x)).category = 2 := rfl
    match i, h with
    | 0, h =>
      simp [kSl] at h
      subst h
      exact ⟨by simp [lv_args], hv _ List.mem_cons_self⟩
    | 1, h => simp [kSl] at h
    | i + 2, h =>
      have h' : (kSl r)[i]? = some (some v) := by simpa [kSl] using h
      obtain ⟨g1, g2⟩ := kSl_at B r (j + 2) i v (fun x hx => hv x (List.mem_cons_of_mem _ hx)) h'
      refine ⟨?_, g2⟩
      simp only [List.map_cons, lv_args, hc, if_true]
      have e : j + (i + 2) = j + 2 + i := by omega
      rw [e]
      exact List.mem_cons_of_mem _ g1
  | .inl x :: r, j, i, v, hv, h => by
    have hc : ¬ (toV B (kI x)).category = 2 := fun q => by cases q
    match i, h with
    | 0, h =>
      simp [kSl] at h
      subst h
      exact ⟨by simp [lv_args], hv _ List.mem_cons_self⟩
    | i + 1, h =>
      have h' : (kSl r)[i]? = some (some v) := by simpa [kSl] using h
      obtain ⟨g1, g2⟩ := kSl_at B r (j + 1) i v (fun x hx => hv x (List.mem_cons_of_mem _ hx)) h'
      refine ⟨?_, g2⟩
      simp only [List.map_cons, lv_args, if_neg hc]
      have e : j + (i + 1) = j + 1 + i := by omega
      rw [e]
      exact List.mem_cons_of_mem _ g1
  | .inr (.inr a) :: r, j, i, v, hv, h => by
    have hc : ¬ (toV B (kR a)).category = 2 := fun q => by rw [toV_cat] at q; cases q
    match i, h with
    | 0, h =>
      simp [kSl] at h
      subst h
      exact ⟨by simp [lv_args], hv _ List.mem_cons_self⟩
    | i + 1, h =>
      have h' : (kSl r)[i]? = some (some v) := by simpa [kSl] using h
      obtain ⟨g1, g2⟩ := kSl_at B r (j + 1) i v (fun x hx => hv x (List.mem_cons_of_mem _ hx)) h'
      refine ⟨?_, g2⟩
      simp only [List.map_cons, lv_args, if_neg hc]
      have e : j + (i + 1) = j + 1 + i := by omega
      rw [e]
      exact List.mem_cons_of_mem _ g1
theorem kEn_lo (B : Nat) {av : List AV} {n : Nat} (hv : ∀ x ∈ av, kVN x) (h : (kSl av).length ≤ n) : kLo B (kEn av n) ((lg_sl (av.map (toV B)) ++ List.replicate (n - (lg_sl (av.map (toV B))).length) Slot.unset).toArray) := by
  have hl := lv_entry (av.map (toV B)) (n := n) (by rw [← kSl_len]; exact h)
  refine ⟨by rw [hl.1]; simp [kEn]; omega, hl.2.1, fun i v hi => ?_⟩
  unfold kEn at hi
  by_cases hlt : i < (kSl av).length
  · rw [List.getElem?_append_left hlt] at hi
    obtain ⟨g1, g2⟩ := kSl_at B av 0 i v hv hi
    rw [Nat.zero_add] at g1
    exact ⟨hl.2.2 _ g1, g2⟩
  · rw [List.getElem?_append_right (by omega), List.getElem?_replicate] at hi
    split at hi <;> simp at hi
theorem AM.of {E : EE} {mi : MI} {k bc bs : Nat} {av : List AV} {G : HG} {d : HD} {Q : PQ} (hy : plainName mi.1.cls = true) (hn : (kSl av).length ≤ mi.2.2.1) (K : AW E mi k bc bs 0 (kEn av mi.2.2.1) [] G d Q) : AM E mi k bc bs av G d Q := by
  refine Met.ofW (cc := mi.2.1) (maxL := mi.2.2.1) (ret := mi.2.2.2) hy rfl ?_
  intro p e s m args below meth c s₁ Bd hml hv
  obtain ⟨rfl, hH, hK, hvn⟩ := hv
  have hts := atoms_spec (ws := kWS mi) Bd.pre
  rw [lg_entry_eq]
  exact K p e s m _ below meth c s.heap [] 0 0 bc bs _ ⟨Bd.exec, Bd.bytes, Bd.returns, hml, findClass_of_methodNamed Bd.named, fun w hw => hts w (List.mem_cons_of_mem _ hw), Bd.notSynchronized, (name_of_methodNamed Bd.named Bd.method).1, hK⟩ hH va_S.rf (by rw [hH.2.1]; omega) (kEn_lo _ hvn hn) (by simp [kEn]; omega) (fun v h => by cases h) (by omega) (by omega)
