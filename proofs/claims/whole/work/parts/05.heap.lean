section HP
variable {E : EE} {mi : MI} {k bc bs pc : Nat} {L : List (Option AV)} {S : List AV} {G : HG} {d : HD} {Q : PQ}
def kCl (ci : Nat) (C : String) (T : u_T) : Prop := vwCl[ci]? = some (C, T, kNF ci) ∧ (∀ w ∈ u_ws C T (kNF ci), w ∈ gT) ∧ (∀ j, j < kNF ci → parseFieldDescriptor (T j).2.2.1 = some (kTy ci j)) ∧ (∀ a, a < kNF ci → ∀ b, b < kNF ci → a ≠ b → (T a).2.1 ≠ (T b).2.1) ∧ (∀ j, j < kNF ci → (T j).1 = C) ∧ ci < 8
def kFL (own : String) (idx ci f : Nat) (fin : Bool) : Prop := ∃ (C : String) (T : u_T), kCl ci C T ∧ f < kNF ci ∧ (T f).2.2.2 = fin ∧ (fin = true → own = C) ∧ ((Cond.fieldLink own idx C (T f).2.1 (T f).2.2.1 ∈ gT) ∨ (fin = false ∨ fin = true) ∧ (own, idx, C, (T f).2.1, (T f).2.2.1, "KnotRing") ∈ kNestF)
def kFG (own : String) (idx ci f : Nat) : Prop := ∃ (C : String) (T : u_T), kCl ci C T ∧ f < kNF ci ∧ ((Cond.fieldLink own idx C (T f).2.1 (T f).2.2.1 ∈ gT) ∨ (own, idx, C, (T f).2.1, (T f).2.2.1, "KnotRing") ∈ kNestF)
theorem kFs_at {B ci f : Nat} {r : Nat → Nat} {x : Nat → Int} (hf : f < kNF ci) : (kFs B ci r x)[f]? = some (if kRf ci f then toV B (kR (r f)) else toV B (kI (x f))) := by
  simp [kFs, hf]
theorem kFs_len {B ci : Nat} {r : Nat → Nat} {x : Nat → Int} : (kFs B ci r x).length = kNF ci := by simp [kFs]
theorem kAtO {H : Heap} {a ci : Nat} (hH : kH E G d H) (ho : isO G a ci) (h8 : ci < 8) : va_P E.2.1 vwCl [(E.2.2.2 + a, .inr (ci, kFs E.2.2.2 ci (fun i => G.2.2 a i) (fun i => d a i)))] H := by
  intro j q hq
  have h0 := hH.1 a ho.1 ho.2.1
  have e : kCell E.2.2.1 E.2.2.2 (G.2.1 a) (fun i => G.2.2 a i) (fun i => d a i) = .inr (ci, kFs E.2.2.2 ci (fun i => G.2.2 a i) (fun i => d a i)) := by
    unfold kCell
    rw [ho.2.2, if_pos h8]
  rw [e] at h0
  match j, hq with
  | 0, hq => cases hq; exact h0
  | j + 1, hq => simp at hq
theorem kAtI {H : Heap} {a ka n : Nat} (hH : kH E G d H) (ha : isA G a ka n) (h8 : ka = 8 ∨ ka = 9) : va_P E.2.1 vwCl [(E.2.2.2 + a, .inl (E.2.2.1 ka, n, .inl (fun i => Int32.ofInt (d a i))))] H := by
  intro j q hq
  have h0 := hH.1 a ha.1 ha.2.1
  have e : kCell E.2.2.1 E.2.2.2 (G.2.1 a) (fun i => G.2.2 a i) (fun i => d a i) = .inl (E.2.2.1 ka, n, .inl (fun i => Int32.ofInt (d a i))) := by
    unfold kCell
    rw [ha.2.2.1, if_neg (show ¬ ka < 8 by omega), if_pos (show ka < 10 by omega)]
  rw [e] at h0
  match j, hq with
  | 0, hq => cases hq; exact h0
  | j + 1, hq => simp at hq
theorem kAtQ {H : Heap} {a ka n : Nat} (hH : kH E G d H) (ha : isA G a ka n) (h8 : 10 ≤ ka) : va_P E.2.1 vwCl [(E.2.2.2 + a, .inl (E.2.2.1 ka, n, .inr (.inr (.inr (.inr (fun i => if G.2.2 a i = 0 then none else some (E.2.2.2 + G.2.2 a i)))))))] H := by
  intro j q hq
  have h0 := hH.1 a ha.1 ha.2.1
  have e : kCell E.2.2.1 E.2.2.2 (G.2.1 a) (fun i => G.2.2 a i) (fun i => d a i) = .inl (E.2.2.1 ka, n, .inr (.inr (.inr (.inr (fun i => if G.2.2 a i = 0 then none else some (E.2.2.2 + G.2.2 a i)))))) := by
    unfold kCell
    rw [ha.2.2.1, if_neg (show ¬ ka < 8 by omega), if_neg (show ¬ ka < 10 by omega)]
  rw [e] at h0
  match j, hq with
  | 0, hq => cases hq; exact h0
  | j + 1, hq => simp at hq
theorem kH.set {G' : HG} {d' : HD} {H H' : Heap} {a : Nat} (hH : kH E G d H) (hn : G'.1 = G.1) (ho : ∀ b, b ≠ a → G'.2.1 b = G.2.1 b ∧ G'.2.2 b = G.2.2 b ∧ d' b = d b) (hc : va_at E.2.1 vwCl (E.2.2.2 + a, kCell E.2.2.1 E.2.2.2 (G'.2.1 a) (fun i => G'.2.2 a i) (fun i => d' a i)) H') (hz : H'.size = H.size) (hq : ∀ q, q ≠ E.2.2.2 + a → H'[q]? = H[q]?) (hN : ∀ i, kN (d' a i)) : kH E G' d' H' := by
  refine ⟨fun b h1 h2 => ?_, by rw [hz, hn]; exact hH.2.1, fun b i => ?_⟩
  · by_cases h : b = a
    · subst h
      exact hc
    · obtain ⟨e1, e2, e3⟩ := ho b h
      rw [e1, e2, e3]
      exact (hH.1 b h1 (by omega)).kept (hq _ (by show E.2.2.2 + b ≠ _; omega))
  · by_cases h : b = a
    · subst h; exact hN i
    · rw [(ho b h).2.2]; exact hH.2.2 b i
/-! fields -/
def kU (d : HD) (a : Nat) (f : Int) (x : Int) : HD := fun b j => if b = a ∧ j = f then x else d b j
def kUR (G : HG) (a : Nat) (f : Int) (r : Nat) : HG := (G.1, G.2.1, fun b j => if b = a ∧ j = f then r else G.2.2 b j)
theorem A_get0 {a ci f idx : Nat} {fi : Int} (hd : decode mi.2.1 pc = .ok (.getfield idx, 3)) (fl : kFG mi.1.cls idx ci f) (he : (f : Int) = fi) (ho : isO G a ci) (K : AW E mi k bc bs (pc + 3) L ((if kRf ci f then kR (G.2.2 a fi) else kI (d a fi)) :: S) G d Q) : AW E mi k bc bs pc L (kR a :: S) G d Q := by
  intro p e s m args below meth c H locs cells slots mc ms ls C hH hS hB hL hn hv h1 h2
  subst he
  obtain ⟨Cn, T, ⟨hc, hin, hty, hnm, hcl, h8⟩, hf, hlink⟩ := fl
  have hP := kAtO hH ho h8
  have hvn : kVN (if kRf ci f then kR (G.2.2 a f) else kI (d a f)) := by
    split
    · trivial
    · exact hH.2.2 a f
  have K' := K p e s m args below meth c H locs cells slots mc ms ls C hH hS hB hL hn (kv1 hvn (kvt hv)) h1 h2
  have ev : toV E.2.2.2 (if kRf ci f then kR (G.2.2 a f) else kI (d a f)) = (if kRf ci f then toV E.2.2.2 (kR (G.2.2 a f)) else toV E.2.2.2 (kI (d a f))) := by split <;> rfl
  rw [List.map_cons, ev] at K'
  rw [List.map_cons, toV_r ho.1]
  rcases hlink with h | h
  · exact va_get C.1 C.2.1 C.2.2.2.2.2.1 hin C.2.2.2.2.1 C.2.2.2.2.2.2.2.2.1 hP 0 rfl hc f hf (C.2.2.2.2.2.1 _ h) (fun x hx => by rw [hcl f hf] at hx; exact hx) (kFs_at hf) hd K'
  · exact va_getN C.1 C.2.1 C.2.2.2.2.2.1 hin C.2.2.2.2.1 C.2.2.2.2.2.2.2.2.1 hP 0 rfl hc f hf (va_Nw.use rfl (C.2.2.2.2.2.2.2.2.2.1.1 _ h)) (fun x hx => by rw [hcl f hf] at hx; exact hx) (kFs_at hf) hd K'
theorem A_get {a ci f idx : Nat} {fi : Int} (hd : decode mi.2.1 pc = .ok (.getfield idx, 3)) (fl : kFG mi.1.cls idx ci f) (hr : kRf ci f = false) (he : (f : Int) = fi) (ho : isO G a ci) (K : AW E mi k bc bs (pc + 3) L (kI (d a fi) :: S) G d Q) : AW E mi k bc bs pc L (kR a :: S) G d Q :=
  A_get0 hd fl he ho (by rw [hr]; exact K)
theorem A_getR {a ci f idx : Nat} {fi : Int} (hd : decode mi.2.1 pc = .ok (.getfield idx, 3)) (fl : kFG mi.1.cls idx ci f) (hr : kRf ci f = true) (he : (f : Int) = fi) (ho : isO G a ci) {r : Nat} (hg : G.2.2 a fi = r) (K : AW E mi k bc bs (pc + 3) L (kR r :: S) G d Q) : AW E mi k bc bs pc L (kR a :: S) G d Q :=
  A_get0 hd fl he ho (by rw [hr]; subst hg; exact K)
theorem kPutW {a ci f idx : Nat} {fin : Bool} {v : AV} {p : Program} {e : Env} {s : State} {m : MethodId} {args : Array Value} {below : List Frame} {meth : Method} {c : Code} {H : Heap} {locs : List Loc} {cells slots : Nat} {R : Room} {Qm : State → Prop} {ls : Array Slot} {rest : List Value} (hd : decode mi.2.1 pc = .ok (.putfield idx, 3)) (fl : kFL mi.1.cls idx ci f fin) (hfi : fin = false ∨ mi.1.name = "<init>") (ho : isO G a ci)
    (C : kCx E mi p s m args meth c) (hH : kH E G d H) (hnar : narrow (kTy ci f) (toV E.2.2.2 v) = toV E.2.2.2 v) (hfit : fits (kTy ci f) (toV E.2.2.2 v) = true)
    (kk : ∀ (H1 : Heap) (j : Nat), va_at E.2.1 vwCl (E.2.2.2 + a, .inr (ci, (kFs E.2.2.2 ci (fun i => G.2.2 a i) (fun i => d a i)).set f (toV E.2.2.2 v))) H1 → H1.size = H.size → (∀ q, q ≠ E.2.2.2 + a → H1[q]? = H[q]?) → W p E.1 e R s m args below meth c H1 (locs ++ [⟨E.2.2.2 + a, j⟩]) cells slots Qm (F0 m (pc + 3) ls rest)) :
    W p E.1 e R s m args below meth c H locs cells slots Qm (F0 m pc ls (toV E.2.2.2 v :: .ref (E.2.2.2 + a) :: rest)) := by
  obtain ⟨Cn, T, ⟨hc, hin, hty, hnm, hcl, h8⟩, hf, hfin, hown, hlink⟩ := fl
  have hP := kAtO hH ho h8
  obtain ⟨hx, hb, hr, hml, hfcls, hts, hlk, hnam, hK, hNw, -⟩ := C
  have hap := va_apart (own := mi.1.cls) hts hin (kTy ci) hty hnm hK hc
  obtain ⟨r, g1, cell, q1, q2, q3, q4⟩ := hP 0 _ rfl
  have hre : r = (Cn, T, kNF ci) := Option.some.inj (g1.symm.trans hc)
  subst hre
  obtain ⟨hSl, hfc, kC, hkC, hkind⟩ := hK.1 ci _ hc
  obtain ⟨cf, kf, fi, fd, hi, hsl⟩ := hSl f hf
  have hi' : s.fieldFound? Cn (T f).2.1 (T f).2.2.1 = some (cf, kf, fi, fd) := by rw [← hcl f hf]; exact hi
  have hlay := hts _ (hin _ (u_in_lay hf))
  have hst := (u_facts hfc hkC (u_lays hts hin hf) hi).1
  have done : ∀ H1 : Heap, H1[E.2.2.2 + a]? = some (cell.setSlot fd.slot (toV E.2.2.2 v)) → va_at E.2.1 vwCl (E.2.2.2 + a, .inr (ci, (kFs E.2.2.2 ci (fun i => G.2.2 a i) (fun i => d a i)).set f (toV E.2.2.2 v))) H1 := by
    intro H1 e1
    rw [hsl] at e1
    exact ⟨_, hc, t_OB.to (V := updV (vp_V (kFs E.2.2.2 ci (fun i => G.2.2 a i) (fun i => d a i))) f (toV E.2.2.2 v)) ⟨_, e1, q2, q3, t_set q4 hap hf (toV E.2.2.2 v)⟩ (fun j _ => vp_updV_set (by rw [kFs_len]; exact hf) (toV E.2.2.2 v) j)⟩
  have hslt : fd.slot < cell.slots.size := by rw [hsl]; exact k2_hasslot (q4 f hf)
  unfold u_lay at hlay
  cases hfb : fin with
  | false =>
    rw [if_neg (by rw [hfin, hfb]; decide)] at hlay
    have h6 := u_store hfc hkC hkind hlay hi (hty f hf) hnar hfit
    rcases hlink with hl | ⟨-, hl⟩
    · exact W.putK hx hb (f := fd) ⟨hfcls, hts _ hl, ⟨_, _, _, hi'⟩, hst⟩ (by rw [q2]; exact h6) q1 q3 hslt rfl rfl hd fun H' e1 e2 e3 => kk H' _ (done H' e1) e2 e3
    · exact va_WputK hx hb (f := fd) hfcls (va_Nw.use rfl (hNw.1 _ hl)) hi' hst (by rw [q2]; exact h6) q1 q3 hslt rfl rfl hd fun H' e1 e2 e3 => kk H' _ (done H' e1) e2 e3
  | true =>
    have hini : mi.1.name = "<init>" := by
      rcases hfi with h | h
      · rw [hfb] at h; cases h
      · exact h
    have hoc := hown hfb
    rw [if_pos (by rw [hfin, hfb])] at hlay
    have hcf : m.cls = cf := by
      obtain ⟨_, _, c', _, _, _, -, -, hf', -, -, -, hown2, -⟩ := Cond.laysFinal_spec hlay
      have e1 : c' = cf := by have := hi.symm.trans hf'; simp at this; exact this.1.symm
      rw [hcl f hf, ← hoc] at hown2
      rw [← e1]; exact Option.some.inj (hfcls.symm.trans hown2)
    have h6 := u_fits hfc hkC hkind (Or.inr hlay) hi (hty f hf) hnar hfit
    rcases hlink with hl | ⟨-, hl⟩
    · exact W.putFinK hx hb hfcls (hts _ hl) hi' hst hcf (hnam.trans hini) (by rw [q2]; exact h6) q1 q3 hslt rfl rfl hd fun H' e1 e2 e3 => kk H' _ (done H' e1) e2 e3
    · refine va_Wputf hx hb hfcls (va_Nw.use rfl (hNw.1 _ hl)) hi' hst (Or.inr ⟨hcf, hnam.trans hini⟩) q1 (by rw [q3]; exact fun h => by cases h) hslt h6.1 (by rw [q3, q2]; exact h6.2) rfl rfl hd ?_
      have ha : E.2.2.2 + a < H.size := (Array.getElem?_eq_some_iff.mp q1).1
      exact kk _ _ (done _ (by simp [Array.getElem?_setIfInBounds, ha])) (by simp) (fun q hq => by simp [Array.getElem?_setIfInBounds, Ne.symm hq])
theorem kFs_setI {B ci f : Nat} {r : Nat → Nat} {d : HD} {a : Nat} {x : Int} (hr : kRf ci f = false) : (kFs B ci r (fun i => d a i)).set f (toV B (kI x)) = kFs B ci r (fun i => kU d a f x a i) := by
  refine List.ext_getElem? fun j => ?_
  by_cases hj : j < kNF ci
  · by_cases h : j = f
    · subst h
      rw [List.getElem?_set_self (by rw [kFs_len]; exact hj), kFs_at hj, hr]
      simp [kU]
    · rw [List.getElem?_set_ne (fun q => h q.symm), kFs_at hj, kFs_at hj]
      have hjf : ¬ ((j : Int) = (f : Int)) := by omega
      simp [kU, hjf]
  · rw [List.getElem?_eq_none (by rw [List.length_set, kFs_len]; omega), List.getElem?_eq_none (by rw [kFs_len]; omega)]
theorem kFs_setR {B ci f : Nat} {x : Nat → Int} {G : HG} {a rr : Nat} (hr : kRf ci f = true) : (kFs B ci (fun i => G.2.2 a i) x).set f (toV B (kR rr)) = kFs B ci (fun i => (kUR G a f rr).2.2 a i) x := by
  refine List.ext_getElem? fun j => ?_
  by_cases hj : j < kNF ci
  · by_cases h : j = f
    · subst h
      rw [List.getElem?_set_self (by rw [kFs_len]; exact hj), kFs_at hj, hr]
      simp [kUR]
    · rw [List.getElem?_set_ne (fun q => h q.symm), kFs_at hj, kFs_at hj]
      have hjf : ¬ ((j : Int) = (f : Int)) := by omega
      simp [kUR, hjf]
  · rw [List.getElem?_eq_none (by rw [List.length_set, kFs_len]; omega), List.getElem?_eq_none (by rw [kFs_len]; omega)]
theorem kCellO {dA : Nat → ClassId} {B ci : Nat} {sh : Nat × Nat} {r : Nat → Nat} {x : Nat → Int} (h : sh.1 = ci) (h8 : ci < 8) : kCell dA B sh r x = .inr (ci, kFs B ci r x) := by
  unfold kCell
  rw [h, if_pos h8]
theorem kU_N {a : Nat} {f x : Int} (h : ∀ b j, kN (d b j)) (hx : kN x) : ∀ b j, kN (kU d a f x b j) := by
  intro b j
  unfold kU
  split
  · exact hx
  · exact h b j
theorem kU_ne {a : Nat} {f x : Int} {b : Nat} (h : b ≠ a) : kU d a f x b = d b := by
  funext j
  simp [kU, h]
theorem A_put0 {a ci f idx : Nat} {fin : Bool} {x fi : Int} (hd : decode mi.2.1 pc = .ok (.putfield idx, 3)) (fl : kFL mi.1.cls idx ci f fin) (hfi : fin = false ∨ mi.1.name = "<init>") (hr : kRf ci f = false) (hnar : narrow (kTy ci f) (.int (Int32.ofInt x)) = .int (Int32.ofInt x)) (hfit : fits (kTy ci f) (.int (Int32.ofInt x)) = true) (he : (f : Int) = fi) (ho : isO G a ci) (K : AW E mi k bc bs (pc + 3) L S G (kU d a fi x) Q) : AW E mi k bc bs pc L (kI x :: kR a :: S) G d Q := by
  intro p e s m args below meth c H locs cells slots mc ms ls C hH hS hB hL hn hv h1 h2
  subst he
  have h8 : ci < 8 := by obtain ⟨_, _, ⟨_, _, _, _, _, h8⟩, _⟩ := fl; exact h8
  rw [List.map_cons, List.map_cons, toV_r ho.1]
  refine kPutW (v := kI x) hd fl hfi ho C hH hnar hfit fun H1 j hat hz hq => ?_
  rw [kFs_setI hr] at hat
  refine K p e s m args below meth c H1 _ cells slots mc ms ls C (hH.set (a := a) rfl (fun b h => ⟨rfl, rfl, kU_ne h⟩) ?_ hz hq (fun i => kU_N hH.2.2 (kvh hv) a i)) (hS.put hz hq (by unfold kA; have := ho.1; omega)) hB hL hn (kvt (kvt hv)) h1 h2
  rw [kCellO ho.2.2 h8]
  exact hat
theorem A_put {a ci f idx : Nat} {x fi : Int} (hd : decode mi.2.1 pc = .ok (.putfield idx, 3)) (fl : kFL mi.1.cls idx ci f false) (ht : kTy ci f = .int) (he : (f : Int) = fi) (ho : isO G a ci) (K : AW E mi k bc bs (pc + 3) L S G (kU d a fi x) Q) : AW E mi k bc bs pc L (kI x :: kR a :: S) G d Q :=
  A_put0 hd fl (Or.inl rfl) (by unfold kRf; rw [ht]; rfl) (by rw [ht]; rfl) (by rw [ht]; rfl) he ho K
theorem A_putC {a ci f idx : Nat} {fin : Bool} {x fi : Int} (hd : decode mi.2.1 pc = .ok (.putfield idx, 3)) (fl : kFL mi.1.cls idx ci f fin) (hi : mi.1.name = "<init>") (ht : kTy ci f = .int) (he : (f : Int) = fi) (ho : isO G a ci) (K : AW E mi k bc bs (pc + 3) L S G (kU d a fi x) Q) : AW E mi k bc bs pc L (kI x :: kR a :: S) G d Q :=
  A_put0 hd fl (Or.inr hi) (by unfold kRf; rw [ht]; rfl) (by rw [ht]; rfl) (by rw [ht]; rfl) he ho K
theorem A_putZ {a ci f idx : Nat} {x fi : Int} (hd : decode mi.2.1 pc = .ok (.putfield idx, 3)) (fl : kFL mi.1.cls idx ci f false) (ht : kTy ci f = .boolean) (he : (f : Int) = fi) (ho : isO G a ci) (hx : x = 0 ∨ x = 1) (K : AW E mi k bc bs (pc + 3) L S G (kU d a fi x) Q) : AW E mi k bc bs pc L (kI x :: kR a :: S) G d Q :=
  A_put0 hd fl (Or.inl rfl) (by unfold kRf; rw [ht]; rfl) (by rw [ht]; rcases hx with rfl | rfl <;> rfl) (by rw [ht]; rcases hx with rfl | rfl <;> rfl) he ho K
theorem A_putR {a ci f idx r : Nat} {fin : Bool} {fi : Int} (hd : decode mi.2.1 pc = .ok (.putfield idx, 3)) (fl : kFL mi.1.cls idx ci f fin) (hfi : fin = false ∨ mi.1.name = "<init>") (hr : kRf ci f = true) (he : (f : Int) = fi) (ho : isO G a ci) (K : AW E mi k bc bs (pc + 3) L S (kUR G a fi r) d Q) : AW E mi k bc bs pc L (kR r :: kR a :: S) G d Q := by
  intro p e s m args below meth c H locs cells slots mc ms ls C hH hS hB hL hn hv h1 h2
  subst he
  have h8 : ci < 8 := by obtain ⟨_, _, ⟨_, _, _, _, _, h8⟩, _⟩ := fl; exact h8
  have hv2 : toV E.2.2.2 (kR r) = .null ∨ ∃ z, toV E.2.2.2 (kR r) = .ref z := by
    show (if r = 0 then Value.null else .ref _) = _ ∨ ∃ z, (if r = 0 then Value.null else .ref _) = _
    split
    · exact Or.inl rfl
    · exact Or.inr ⟨_, rfl⟩
  have hty : (∃ n, kTy ci f = .object n) ∨ ∃ t, kTy ci f = .array t := by
    unfold kRf at hr
    revert hr
    generalize kTy ci f = ty
    intro hr
    cases ty <;> first | exact Or.inl ⟨_, rfl⟩ | exact Or.inr ⟨_, rfl⟩ | cases hr
  have hnar : narrow (kTy ci f) (toV E.2.2.2 (kR r)) = toV E.2.2.2 (kR r) := by
    rcases hty with ⟨n, h⟩ | ⟨t, h⟩ <;> rw [h] <;> rcases hv2 with g | ⟨z, g⟩ <;> rw [g] <;> rfl
  have hfit : fits (kTy ci f) (toV E.2.2.2 (kR r)) = true := by
    rcases hty with ⟨n, h⟩ | ⟨t, h⟩ <;> rw [h] <;> rcases hv2 with g | ⟨z, g⟩ <;> rw [g] <;> rfl
  rw [List.map_cons, List.map_cons, toV_r ho.1]
  refine kPutW (v := kR r) hd fl hfi ho C hH hnar hfit fun H1 j hat hz hq => ?_
  rw [kFs_setR hr] at hat
  refine K p e s m args below meth c H1 _ cells slots mc ms ls C (hH.set (G' := kUR G a f r) (a := a) rfl (fun b h => ⟨rfl, by funext j; simp [kUR, h], rfl⟩) ?_ hz hq (fun i => hH.2.2 a i)) (hS.put hz hq (by unfold kA; have := ho.1; omega)) hB hL hn (kvt (kvt hv)) h1 h2
  rw [kCellO (show ((kUR G a f r).2.1 a).1 = ci from ho.2.2) h8]
  exact hat
/-! arrays -/
theorem A_iald {a n : Nat} {j : Int} (hd : decode mi.2.1 pc = .ok (.iaload, 1)) (ha : isA G a 8 n) (h0 : 0 ≤ j) (hj : j < n) (K : AW E mi k bc bs (pc + 1) L (kI (d a j) :: S) G d Q) : AW E mi k bc bs pc L (kI j :: kR a :: S) G d Q := by
  intro p e s m args below meth c H locs cells slots mc ms ls C hH hS hB hL hn hv h1 h2
  have hP := kAtI hH ha (Or.inl rfl)
  have hj' : kN j := kvh hv
  have K' := K p e s m args below meth c H locs cells slots mc ms ls C hH hS hB hL hn (kv1 (hH.2.2 _ _) (kvt (kvt hv))) h1 h2
  rw [List.map_cons, List.map_cons, toV_r ha.1]
  refine va_iald C.1 C.2.1 C.2.2.2.2.2.2.2.2.1 hP 0 0 rfl rfl (kT_in hj' h0 hj) hd ?_
  rw [kT_cl hj']
  show W _ _ _ _ _ _ _ _ _ _ _ _ _ _ _ (F0 m _ ls (.int (Int32.ofInt (d a ((j.toNat : Nat) : Int))) :: _))
  rw [Int.toNat_of_nonneg h0]
  exact K'
theorem A_zald {a n : Nat} {j : Int} (hd : decode mi.2.1 pc = .ok (.baload, 1)) (ha : isA G a 9 n) (h0 : 0 ≤ j) (hj : j < n) (K : AW E mi k bc bs (pc + 1) L (kI (d a j) :: S) G d Q) : AW E mi k bc bs pc L (kI j :: kR a :: S) G d Q := by
  intro p e s m args below meth c H locs cells slots mc ms ls C hH hS hB hL hn hv h1 h2
  have hP := kAtI hH ha (Or.inr rfl)
  have hj' : kN j := kvh hv
  have K' := K p e s m args below meth c H locs cells slots mc ms ls C hH hS hB hL hn (kv1 (hH.2.2 _ _) (kvt (kvt hv))) h1 h2
  rw [List.map_cons, List.map_cons, toV_r ha.1]
  refine va_zald C.1 C.2.1 C.2.2.2.2.2.2.2.2.1 hP 0 1 rfl rfl (kT_in hj' h0 hj) hd ?_
  rw [kT_cl hj']
  show W _ _ _ _ _ _ _ _ _ _ _ _ _ _ _ (F0 m _ ls (.int (Int32.ofInt (d a ((j.toNat : Nat) : Int))) :: _))
  rw [Int.toNat_of_nonneg h0]
  exact K'
theorem A_aald {a ka n t : Nat} {Cn : String} {j : Int} (hd : decode mi.2.1 pc = .ok (.aaload, 1)) (ht : ∀ dA : Nat → ClassId, (kTys dA)[t]? = some (dA ka, .object Cn)) (h10 : 10 ≤ ka) (ha : isA G a ka n) (h0 : 0 ≤ j) (hj : j < n) {r : Nat} (hg : G.2.2 a j = r) (K : AW E mi k bc bs (pc + 1) L (kR r :: S) G d Q) : AW E mi k bc bs pc L (kI j :: kR a :: S) G d Q := by
  intro p e s m args below meth c H locs cells slots mc ms ls C hH hS hB hL hn hv h1 h2
  subst hg
  have hP := kAtQ hH ha h10
  have hj' : kN j := kvh hv
  have K' := K p e s m args below meth c H locs cells slots mc ms ls C hH hS hB hL hn (kv1 (v := kR (G.2.2 a j)) trivial (kvt (kvt hv))) h1 h2
  rw [List.map_cons, List.map_cons, toV_r ha.1]
  refine va_aldq C.1 C.2.1 C.2.2.2.2.2.2.2.2.1 hP 0 t rfl (ht _) (kT_in hj' h0 hj) hd ?_
  rw [kT_cl hj']
  have ev : va_rf (if G.2.2 a ((j.toNat : Nat) : Int) = 0 then none else some (E.2.2.2 + G.2.2 a ((j.toNat : Nat) : Int))) = toV E.2.2.2 (kR (G.2.2 a j)) := by
    rw [Int.toNat_of_nonneg h0]
    show _ = (if G.2.2 a j = 0 then Value.null else _)
    split <;> rfl
  show W _ _ _ _ _ _ _ _ _ _ _ _ _ _ _ (F0 m _ ls (va_rf (if G.2.2 a ((j.toNat : Nat) : Int) = 0 then none else some (E.2.2.2 + G.2.2 a ((j.toNat : Nat) : Int))) :: _))
  rw [ev]
  exact K'
theorem A_alen {a ka n t : Nat} {ty : FieldType} (hd : decode mi.2.1 pc = .ok (.arraylength, 1)) (ht : ∀ dA : Nat → ClassId, (kTys dA)[t]? = some (dA ka, ty)) (h8 : ka = 8 ∨ ka = 9) (ha : isA G a ka n) (K : AW E mi k bc bs (pc + 1) L (kI n :: S) G d Q) : AW E mi k bc bs pc L (kR a :: S) G d Q := by
  intro p e s m args below meth c H locs cells slots mc ms ls C hH hS hB hL hn hv h1 h2
  have hP := kAtI hH ha h8
  have hN : kN (n : Int) := ⟨by omega, by have := ha.2.2.2; omega⟩
  have K' := K p e s m args below meth c H locs cells slots mc ms ls C hH hS hB hL hn (kv1 (v := kI n) hN (kvt hv)) h1 h2
  rw [List.map_cons, toV_r ha.1]
  refine va_alen C.1 C.2.1 C.2.2.2.2.2.2.2.2.1 hP 0 t rfl (ht _) (v := Int32.ofInt (n : Int)) ?_ hd K'
  exact (Int32.ofInt_eq_ofNat).symm
theorem kCellI {dA : Nat → ClassId} {B ka n : Nat} {sh : Nat × Nat} {r : Nat → Nat} {x : Nat → Int} (h : sh = (ka, n)) (h8 : ka = 8 ∨ ka = 9) : kCell dA B sh r x = .inl (dA ka, n, .inl (fun i => Int32.ofInt (x i))) := by
  unfold kCell
  rw [h, if_neg (show ¬ ka < 8 by omega), if_pos (show ka < 10 by omega)]
theorem A_iast {a n : Nat} {j x : Int} (hd : decode mi.2.1 pc = .ok (.iastore, 1)) (ha : isA G a 8 n) (h0 : 0 ≤ j) (hj : j < n) (K : AW E mi k bc bs (pc + 1) L S G (kU d a j x) Q) : AW E mi k bc bs pc L (kI x :: kI j :: kR a :: S) G d Q := by
  intro p e s m args below meth c H locs cells slots mc ms ls C hH hS hB hL hn hv h1 h2
  have hP := kAtI hH ha (Or.inl rfl)
  have hj' : kN j := kvh (kvt hv)
  rw [List.map_cons, List.map_cons, List.map_cons, toV_r ha.1]
  have hin := kT_in hj' h0 hj
  refine W.iast C.1 C.2.1 (hP 0 _ rfl) ((C.2.2.2.2.2.2.2.2.1.2 0 _ rfl).1 n (fun i => .int (Int32.ofInt (d a i)))) (fun q => by cases q) (by show ¬ (Int32.ofInt j < 0 ∨ (arrV _ _ _).slots.size ≤ _); rw [arrV_size]; exact hin) rfl rfl hd fun H1 e1 hz hq => ?_
  refine K p e s m args below meth c H1 _ cells slots mc ms ls C (hH.set (a := a) rfl (fun b h => ⟨rfl, rfl, kU_ne h⟩) ?_ hz hq (fun i => kU_N hH.2.2 (kvh hv) a i)) (hS.put hz hq (by unfold kA; have := ha.1; omega)) hB hL hn (kvt (kvt (kvt hv))) h1 h2
  rw [kCellI ha.2.2.1 (Or.inl rfl)]
  show H1[E.2.2.2 + a]? = some (vp_cell _ _)
  rw [e1, vp_cell_i, vp_cell_i, arrV_store, kT_cl hj']
  congr 2
  funext i
  have hji : (i : Int) = j ↔ i = j.toNat := by omega
  by_cases h : i = j.toNat
  · simp [updV, kU, h, Int.toNat_of_nonneg h0]
  · simp [updV, kU, h, hji]
theorem A_zast {a n : Nat} {j x : Int} (hd : decode mi.2.1 pc = .ok (.bastore, 1)) (ha : isA G a 9 n) (h0 : 0 ≤ j) (hj : j < n) (hx : x = 0 ∨ x = 1) (K : AW E mi k bc bs (pc + 1) L S G (kU d a j x) Q) : AW E mi k bc bs pc L (kI x :: kI j :: kR a :: S) G d Q := by
  intro p e s m args below meth c H locs cells slots mc ms ls C hH hS hB hL hn hv h1 h2
  have hP := kAtI hH ha (Or.inr rfl)
  have hj' : kN j := kvh (kvt hv)
  rw [List.map_cons, List.map_cons, List.map_cons, toV_r ha.1]
  have hin := kT_in hj' h0 hj
  have hnar : narrow .boolean (.int (Int32.ofInt x)) = .int (Int32.ofInt x) := by rcases hx with rfl | rfl <;> rfl
  refine W.zast C.1 C.2.1 (hP 0 _ rfl) ((C.2.2.2.2.2.2.2.2.1.2 1 _ rfl).1 n (fun i => .int (Int32.ofInt (d a i)))) (fun q => by cases q) (by show ¬ (Int32.ofInt j < 0 ∨ (arrV _ _ _).slots.size ≤ _); rw [arrV_size]; exact hin) rfl rfl hd fun H1 e1 hz hq => ?_
  refine K p e s m args below meth c H1 _ cells slots mc ms ls C (hH.set (a := a) rfl (fun b h => ⟨rfl, rfl, kU_ne h⟩) ?_ hz hq (fun i => kU_N hH.2.2 (kvh hv) a i)) (hS.put hz hq (by unfold kA; have := ha.1; omega)) hB hL hn (kvt (kvt (kvt hv))) h1 h2
  rw [kCellI ha.2.2.1 (Or.inr rfl)]
  show H1[E.2.2.2 + a]? = some (vp_cell _ _)
  rw [e1, hnar, vp_cell_i, vp_cell_i, arrV_store, kT_cl hj']
  congr 2
  funext i
  have hji : (i : Int) = j ↔ i = j.toNat := by omega
  by_cases h : i = j.toNat
  · simp [updV, kU, h, Int.toNat_of_nonneg h0]
  · simp [updV, kU, h, hji]
theorem kCellQ {dA : Nat → ClassId} {B ka n : Nat} {sh : Nat × Nat} {r : Nat → Nat} {x : Nat → Int} (h : sh = (ka, n)) (h8 : 10 ≤ ka) : kCell dA B sh r x = .inl (dA ka, n, .inr (.inr (.inr (.inr (fun i => if r i = 0 then none else some (B + r i)))))) := by
  unfold kCell
  rw [h, if_neg (show ¬ ka < 8 by omega), if_neg (show ¬ ka < 10 by omega)]
theorem A_aast {a v ka n t ci : Nat} {Cn : String} {T : u_T} {j : Int} (hd : decode mi.2.1 pc = .ok (.aastore, 1)) (ht : ∀ dA : Nat → ClassId, (kTys dA)[t]? = some (dA ka, .object Cn)) (hc : kCl ci Cn T) (h10 : 10 ≤ ka) (ha : isA G a ka n) (hvo : isO G v ci) (h0 : 0 ≤ j) (hj : j < n) (K : AW E mi k bc bs (pc + 1) L S (kUR G a j v) d Q) : AW E mi k bc bs pc L (kR v :: kI j :: kR a :: S) G d Q := by
  intro p e s m args below meth c H locs cells slots mc ms ls C hH hS hB hL hn hv h1 h2
  have hP := kAtQ hH ha h10
  have hPv := kAtO hH hvo hc.2.2.2.2.2
  have hj' : kN j := kvh (kvt hv)
  rw [List.map_cons, List.map_cons, List.map_cons, toV_r ha.1, toV_r hvo.1]
  have hin := kT_in hj' h0 hj
  obtain ⟨hK, -⟩ := C.2.2.2.2.2.2.2.2
  obtain ⟨r', hr', cellV, g1, g2, g3, -⟩ := hPv 0 _ rfl
  have hcls := (hK.1 ci _ hc.1).2
  obtain ⟨kAA, comp, k1, k2, k3, -⟩ := (hK.2 t _ (ht _)).2
  have hcomp : comp = E.2.1.1 ci := Option.some.inj (k3.symm.trans hcls.1)
  subst hcomp
  obtain ⟨kC, hkC, -⟩ := hcls.2
  have hlt : (Int32.ofInt j).toNatClampNeg < n := by rw [kT_cl hj']; omega
  refine W.aast C.1 C.2.1 (hP 0 _ rfl) (fun q h => by cases h) (fun h => by cases h) k1 k2 rfl hkC ⟨fun q => hin (Or.inl q), by show _ < (arrV _ _ _).slots.size; rw [arrV_size]; exact hlt⟩ g1 (fun q h => by rw [g3] at h; cases h) (by rw [g2]; exact hkC) (by rw [g2]; exact va_assign hcls) rfl rfl hd fun H1 e1 hz hq => ?_
  refine K p e s m args below meth c H1 _ cells slots mc ms ls C (hH.set (G' := kUR G a j v) (a := a) rfl (fun b h => ⟨rfl, by funext q; simp [kUR, h], rfl⟩) ?_ hz hq (fun i => hH.2.2 a i)) (hS.put hz hq (by unfold kA; have := ha.1; omega)) hB hL hn (kvt (kvt (kvt hv))) h1 h2
  rw [kCellQ (show (kUR G a j v).2.1 a = (ka, n) from ha.2.2.1) h10]
  show H1[E.2.2.2 + a]? = some (vp_cell _ _)
  rw [e1, vp_cell_q, vp_cell_q, arrV_store, kT_cl hj']
  congr 2
  funext i
  have hv0 : ¬ v = 0 := by have := hvo.1; omega
  have hji : (i : Int) = j ↔ i = j.toNat := by omega
  by_cases h : i = j.toNat
  · simp [updV, kUR, h, va_rf, hv0, Int.toNat_of_nonneg h0]
  · simp [updV, kUR, h, hji]
/-! new cells -/
def kNew (G : HG) (ka n : Nat) : HG := (G.1 + 1, fun a => if a = G.1 + 1 then (ka, n) else G.2.1 a, fun a i => if a = G.1 + 1 then 0 else G.2.2 a i)
def kNewD (G : HG) (d : HD) : HD := fun a i => if a = G.1 + 1 then 0 else d a i
theorem kNewD_N (h : ∀ b j, kN (d b j)) : ∀ b j, kN (kNewD G d b j) := by
  intro b j
  unfold kNewD
  split
  · exact ⟨by omega, by omega⟩
  · exact h b j
theorem kH.push {H H' : Heap} {ka n : Nat} (hH : kH E G d H) (hc : va_at E.2.1 vwCl (E.2.2.2 + (G.1 + 1), kCell E.2.2.1 E.2.2.2 (ka, n) (fun _ => 0) (fun _ => 0)) H') (hz : H'.size = H.size + 1) (hq : ∀ q, q < H.size → H'[q]? = H[q]?) : kH E (kNew G ka n) (kNewD G d) H' := by
  refine ⟨fun b h1 h2 => ?_, by rw [hz, hH.2.1]; show _ = E.2.2.2 + 1 + (G.1 + 1); omega, kNewD_N hH.2.2⟩
  have h2 : b ≤ G.1 + 1 := h2
  by_cases h : b = G.1 + 1
  · subst h
    have e1 : (kNew G ka n).2.1 (G.1 + 1) = (ka, n) := by simp [kNew]
    have e2 : (fun i : Nat => (kNew G ka n).2.2 (G.1 + 1) i) = fun _ => 0 := by funext i; simp [kNew]
    have e3 : (fun i : Nat => kNewD G d (G.1 + 1) i) = fun _ => 0 := by funext i; simp [kNewD]
    rw [e1, e2, e3]
    exact hc
  · have e1 : (kNew G ka n).2.1 b = G.2.1 b := by simp [kNew, h]
    have e2 : (kNew G ka n).2.2 b = G.2.2 b := by funext i; simp [kNew, h]
    have e3 : kNewD G d b = d b := by funext i; simp [kNewD, h]
    rw [e1, e2, e3]
    exact (hH.1 b h1 (by omega)).kept (hq _ (by show E.2.2.2 + b < _; rw [hH.2.1]; omega))
theorem kS_push {A : Nat → Prop} {H0 H H1 : Heap} {locs : List Loc} (hS : va_S A H0 H locs) (hz : H1.size = H.size + 1) (hq : ∀ q, q < H.size → H1[q]? = H[q]?) : va_S A H0 H1 locs :=
  ⟨Nat.le_trans hS.1 (by omega), fun x h1 h2 => (hq x (Nat.lt_of_lt_of_le h1 hS.1)).trans (hS.2.1 x h1 h2), hS.2.2⟩
theorem A_new {ci idx : Nat} {Cn : String} {T : u_T} (hd : decode mi.2.1 pc = .ok (.new idx, 3)) (hc : kCl ci Cn T) (hw1 : Cond.classLink mi.1.cls idx Cn ∈ gT) (hw2 : Cond.instantiable Cn (kNF ci) ∈ gT) (hw3 : Cond.initialized Cn ∈ gT) (hbc : 1 ≤ bc) (hbs : kNF ci ≤ bs) (K : AW E mi k (bc - 1) (bs - kNF ci) (pc + 3) L (kR (G.1 + 1) :: S) (kNew G ci 0) (kNewD G d) Q) : AW E mi k bc bs pc L S G d Q := by
  intro p e s m args below meth c H locs cells slots mc ms ls C hH hS hB hL hn hv h1 h2
  obtain ⟨hc0, hin, hty, hnm, hcl, h8⟩ := hc
  obtain ⟨hx, hb, hr, hml, hfcls, hts, hlk, hnam, hK, hNw, hAO⟩ := id C
  have hKn := hK.1 ci _ hc0
  have hcr : cells + 1 ≤ (kRm k mc ms).cells := by show cells + 1 ≤ mc; omega
  have hsr : slots + kNF ci ≤ (kRm k mc ms).slots := by show slots + kNF ci ≤ ms; omega
  refine W.newcK hx hb hfcls (hts _ hw1) (hts _ hw2) (hts _ hw3) rfl hd hcr hsr hKn.2.1 hH.2.1 fun H1 kC hkC e1 z1 o1 => ?_
  have z1' : H1.size = H.size + 1 := by rw [z1, hH.2.1]
  have o1' : ∀ q, q < H.size → H1[q]? = H[q]? := fun q hq => o1 q (by rw [← hH.2.1]; exact hq)
  have hat : va_at E.2.1 vwCl (E.2.2.2 + (G.1 + 1), kCell E.2.2.1 E.2.2.2 (ci, 0) (fun _ => 0) (fun _ => 0)) H1 := by
    rw [kCellO (ci := ci) rfl h8]
    refine ⟨_, hc0, ?_⟩
    have hbn := (u_born (kTy ci) hts hin hKn hkC e1 hty)
    have ea : E.2.2.2 + 1 + G.1 = E.2.2.2 + (G.1 + 1) := by omega
    rw [ea] at hbn
    refine hbn.to (fun j hj => ?_)
    show defaultValue (kTy ci j) = (kFs _ ci _ _).getD j .null
    rw [List.getD_eq_getElem?_getD, kFs_at hj]
    show defaultValue (kTy ci j) = (if kIsR (kTy ci j) then _ else _)
    have hj2 : (kTy ci j = .int ∨ kTy ci j = .boolean) ∨ (∃ n, kTy ci j = .object n) ∨ ∃ t, kTy ci j = .array t := by
      have key : ∀ c, c < 8 → ∀ j, j < kNF c → ((kTy c j = .int ∨ kTy c j = .boolean) ∨ (kIsR (kTy c j) = true)) := by decide +kernel
      rcases key ci h8 j hj with h | h
      · exact Or.inl h
      · revert h
        generalize kTy ci j = ty
        intro h
        cases ty <;> first | exact Or.inr (Or.inl ⟨_, rfl⟩) | exact Or.inr (Or.inr ⟨_, rfl⟩) | cases h
    rcases hj2 with (h | h) | ⟨n, h⟩ | ⟨t, h⟩ <;> rw [h] <;> rfl
  have K' := K p e s m args below meth c H1 locs (cells + 1) (slots + kNF ci) mc ms ls C (hH.push hat z1' o1') (kS_push hS z1' o1') hB hL hn (kv1 (v := kR (G.1 + 1)) trivial hv) (by omega) (by omega)
  rw [List.map_cons, toV_r (by omega)] at K'
  have ea : E.2.2.2 + 1 + G.1 = E.2.2.2 + (G.1 + 1) := by omega
  rw [ea]
  exact K'
theorem A_newa {ka t : Nat} {at' : ArrayType} {ty : FieldType} {x : Int} (hd : decode mi.2.1 pc = .ok (.newarray at', 2)) (hty : newarray.typeOf at' = ty) (hw : Cond.arrayClass ty ∈ gT) (ht : ∀ dA : Nat → ClassId, (kTys dA)[t]? = some (dA ka, ty)) (h8 : ka = 8 ∧ ty = .int ∨ ka = 9 ∧ ty = .boolean) (h0 : 0 ≤ x) (hx : x ≤ 1000000) (hbc : 1 ≤ bc) (hbs : x.toNat ≤ bs) (K : AW E mi k (bc - 1) (bs - x.toNat) (pc + 2) L (kR (G.1 + 1) :: S) (kNew G ka x.toNat) (kNewD G d) Q) : AW E mi k bc bs pc L (kI x :: S) G d Q := by
  intro p e s m args below meth c H locs cells slots mc ms ls C hH hS hB hL hn hv h1 h2
  obtain ⟨hx', hb, hr, hml, hfcls, hts, hlk, hnam, hK, hNw, hAO⟩ := id C
  have hN : kN x := kvh hv
  have hcr : cells + 1 ≤ (kRm k mc ms).cells := by show cells + 1 ≤ mc; omega
  have hsr : slots + x.toNat ≤ (kRm k mc ms).slots := by show slots + x.toNat ≤ ms; omega
  subst hty
  have hcb : x.toNat * componentBytes (newarray.typeOf at') ≤ 536870912 := by
    have : componentBytes (newarray.typeOf at') ≤ 4 := by rcases h8 with ⟨-, h⟩ | ⟨-, h⟩ <;> rw [h] <;> decide
    have h3 : x.toNat ≤ 1000000 := by omega
    calc x.toNat * componentBytes (newarray.typeOf at') ≤ 1000000 * 4 := Nat.mul_le_mul h3 this
      _ ≤ 536870912 := by omega
  rw [List.map_cons]
  refine va_newaK hx' hb (hts _ hw) rfl hd rfl (fun q => by have : Int32.ofInt x < Int32.ofInt 0 := q; rw [kT_lt hN ⟨by omega, by omega⟩] at this; omega) (kT_cl hN) hcb hcr hsr hH.2.1 fun H1 cA e1 z1 o1 hAr hNm => ?_
  have hcA : cA = E.2.2.1 ka := by
    have hRA := (hK.2 t _ (ht _)).2
    rcases h8 with ⟨-, h⟩ | ⟨-, h⟩ <;> rw [h] at hRA hNm <;> exact Option.some.inj (hNm.symm.trans hRA)
  subst hcA
  have z1' : H1.size = H.size + 1 := by rw [z1, hH.2.1]
  have o1' : ∀ q, q < H.size → H1[q]? = H[q]? := fun q hq => o1 q (by rw [← hH.2.1]; exact hq)
  have ea : E.2.2.2 + 1 + G.1 = E.2.2.2 + (G.1 + 1) := by omega
  have hat : va_at E.2.1 vwCl (E.2.2.2 + (G.1 + 1), kCell E.2.2.1 E.2.2.2 (ka, x.toNat) (fun _ => 0) (fun _ => 0)) H1 := by
    rw [kCellI (ka := ka) rfl (by rcases h8 with ⟨h, -⟩ | ⟨h, -⟩ <;> simp [h])]
    show H1[_]? = some (vp_cell _ _)
    rw [← ea, e1, vp_cell_i]
    rcases h8 with ⟨-, h⟩ | ⟨-, h⟩ <;> rw [h] <;> rfl
  have K' := K p e s m args below meth c H1 locs (cells + 1) (slots + x.toNat) mc ms ls C (hH.push hat z1' o1') (kS_push hS z1' o1') hB hL hn (kv1 (v := kR (G.1 + 1)) trivial (kvt hv)) (by omega) (by omega)
  rw [List.map_cons, toV_r (by omega)] at K'
  rw [ea]
  exact K'
theorem A_newq {ka t idx : Nat} {Cn : String} {x : Int} (hd : decode mi.2.1 pc = .ok (.anewarray idx, 3)) (hw : Cond.classLink mi.1.cls idx Cn ∈ gT) (hao : ∀ U, kK E U → va_AO Cn U) (ht : ∀ dA : Nat → ClassId, (kTys dA)[t]? = some (dA ka, .object Cn)) (h8 : 10 ≤ ka) (h0 : 0 ≤ x) (hx : x ≤ 1000000) (hbc : 1 ≤ bc) (hbs : x.toNat ≤ bs) (K : AW E mi k (bc - 1) (bs - x.toNat) (pc + 3) L (kR (G.1 + 1) :: S) (kNew G ka x.toNat) (kNewD G d) Q) : AW E mi k bc bs pc L (kI x :: S) G d Q := by
  intro p e s m args below meth c H locs cells slots mc ms ls C hH hS hB hL hn hv h1 h2
  have hKK := C.2.2.2.2.2.2.2.2
  obtain ⟨hx', hb, hr, hml, hfcls, hts, hlk, hnam, hK, hNw, hAO⟩ := id C
  have hN : kN x := kvh hv
  have hcr : cells + 1 ≤ (kRm k mc ms).cells := by show cells + 1 ≤ mc; omega
  have hsr : slots + (Int32.ofInt x).toNatClampNeg ≤ (kRm k mc ms).slots := by rw [kT_cl hN]; show slots + x.toNat ≤ ms; omega
  rw [List.map_cons]
  refine W.anew hx' hb hfcls (hts _ hw) (va_AO.use (hao _ hKK)) rfl hd rfl (fun q => by have : Int32.ofInt x < Int32.ofInt 0 := q; rw [kT_lt hN ⟨by omega, by omega⟩] at this; omega) (by rw [kT_cl hN]; omega) hcr hsr fun cA kAA comp f1 f2 f3 f4 => ?_
  have hcA : cA = E.2.2.1 ka := by
    obtain ⟨kB, comp', g1, g2, g3, g4⟩ := (hK.2 t _ (ht _)).2
    exact Option.some.inj (f1.symm.trans g4)
  subst hcA
  rw [kT_cl hN]
  generalize hH1 : H.push ({ cls := E.2.2.1 ka, slots := Array.replicate x.toNat .null, vm := .none } : Cell) = H1
  have z1' : H1.size = H.size + 1 := by rw [← hH1, Array.size_push]
  have e1 : H1[H.size]? = some (arrV (E.2.2.1 ka) x.toNat (fun _ => .null)) := by rw [← hH1, Array.getElem?_push_size, ← arrV_new]
  have o1' : ∀ q : Nat, q < H.size → H1[q]? = H[q]? := fun q hq => by rw [← hH1, Array.getElem?_push, if_neg (Nat.ne_of_lt hq)]
  have ea : H.size = E.2.2.2 + (G.1 + 1) := by rw [hH.2.1]; omega
  have hat : va_at E.2.1 vwCl (E.2.2.2 + (G.1 + 1), kCell E.2.2.1 E.2.2.2 (ka, x.toNat) (fun _ => 0) (fun _ => 0)) H1 := by
    rw [kCellQ (ka := ka) rfl h8]
    show H1[_]? = some (vp_cell _ _)
    rw [← ea, e1, vp_cell_q]
    rfl
  have K' := K p e s m args below meth c H1 locs (cells + 1) (slots + x.toNat) mc ms ls C (hH.push hat z1' o1') (kS_push hS z1' o1') hB hL hn (kv1 (v := kR (G.1 + 1)) trivial (kvt hv)) (by omega) (by omega)
  rw [List.map_cons, toV_r (by omega)] at K'
  rw [ea]
  exact K'
end HP
