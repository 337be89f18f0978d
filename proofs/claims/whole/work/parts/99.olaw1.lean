/-! the law's own frame: the script in local 0 -/
def mL_law : MI := (yL_law, cL_law, 4, some .boolean)
def kCw (E : EE) (p : Program) (s : State) (m : MethodId) (b : Nat) (meth : Method) (c : Code) : Prop :=
  p.tables.exec = Jvm.exec ∧ c.code = cL_law ∧ meth.sig.returnType = some .boolean ∧ c.maxLocals = 4 ∧ s.vm.findClass RL = some m.cls ∧ (∀ w ∈ gT, w.before #[Value.ref b] s = true) ∧ meth.locks = false ∧ kK E s
def BW (E : EE) (b N0 : Nat) (xs : Nat → Int32) (bc bs pc : Nat) (L : List (Option AV)) (S : List AV) (G : HG) (d : HD) : Prop :=
  ∀ (p : Program) (e : Env) (s : State) (m : MethodId) (below : List Frame) (meth : Method) (c : Code) (H : Heap) (locs : List Loc) (cells slots : Nat) (ls : Array Slot),
    kCw E p s m b meth c → (va_X b N0 xs s s.heap ∧ b < s.heap.size ∧ s.heap.size = E.2.2.2 + 1) → kH E G d H → va_S (kA E.2.2.2) s.heap H locs → kLo E.2.2.2 L ls → ls[0]? = some (.val (.ref b)) → L.length = 4 → (∀ v ∈ S, kVN v) → cells + bc ≤ 600000 → slots + bs ≤ 7302250 →
    W p E.1 e room_1 s m #[Value.ref b] below meth c H locs cells slots (lw_Z below #[Value.ref b] s) (F0 m pc ls (S.map (toV E.2.2.2)))
section BR
variable {E : EE} {b N0 : Nat} {xs : Nat → Int32} {bc bs pc : Nat} {L : List (Option AV)} {S : List AV} {G : HG} {d : HD}
theorem BW.more {bc' bs' : Nat} (hc : bc' ≤ bc) (hs : bs' ≤ bs) (h : BW E b N0 xs bc' bs' pc L S G d) : BW E b N0 xs bc bs pc L S G d := by
  intro p e s m below meth c H locs cells slots ls C hz hH hS hL h0 hn hv h1 h2
  exact h p e s m below meth c H locs cells slots ls C hz hH hS hL h0 hn hv (by omega) (by omega)
theorem kB0 {ls' : Array Slot} {i : Nat} {v : Value} {lv : List (Nat × Value)} {n : Nat} (hi : 1 ≤ i) (hm : (0, Value.ref b) ∈ lv) (h : lv_has ls' n ((i, v) :: lv.filter (fun q => !(q.1 == i) && !(q.1 + 1 == i && q.2.category == 2)))) : ls'[0]? = some (.val (.ref b)) := by
  refine h.2.2 (0, Value.ref b) (List.mem_cons_of_mem _ (List.mem_filter.mpr ⟨hm, ?_⟩))
  have h1 : ((0 : Nat) == i) = false := by simp; omega
  have h2 : ((Value.ref b).category == 2) = false := rfl
  simp [h1, h2]
theorem kF0' {ls : Array Slot} (hL : kLo E.2.2.2 L ls) (h0 : ls[0]? = some (.val (.ref b))) : lv_has ls L.length ((0, Value.ref b) :: kFull E.2.2.2 L) := by
  have hf := kFull_has hL
  exact ⟨hf.1, hf.2.1, List.forall_mem_cons.mpr ⟨h0, hf.2.2⟩⟩
theorem B_istore_n {n : Fin 4} {i : Nat} {x : Int} (hd : decode cL_law pc = .ok (.istore_n n, 1)) (hi : (n : Nat) = i) (hlt : i < L.length) (hj : kNoJ L i = true) (hi1 : 1 ≤ i) (K : BW E b N0 xs bc bs (pc + 1) (L.set i (some (kI x))) S G d) : BW E b N0 xs bc bs pc L (kI x :: S) G d := by
  intro p e s m below meth c H locs cells slots ls C hz hH hS hL h0 hn hv h1 h2
  refine lv_istore_n C.1 C.2.1 hd hi (kF0' hL h0) hlt rfl (fun ls' h' => ?_)
  exact K p e s m below meth c H locs cells slots ls' C hz hH hS (kFull_back (v := kI x) (fun q h => List.mem_cons_of_mem _ h) (fun j w h => (hL.2.2 j w h).2) hj hlt (kvh hv) h') (kB0 hi1 List.mem_cons_self h') (by rw [List.length_set]; exact hn) (kvt hv) h1 h2
theorem B_astore_n {n : Fin 4} {i : Nat} {x : Nat} (hd : decode cL_law pc = .ok (.astore_n n, 1)) (hi : (n : Nat) = i) (hlt : i < L.length) (hj : kNoJ L i = true) (hx : 1 ≤ x) (hi1 : 1 ≤ i) (K : BW E b N0 xs bc bs (pc + 1) (L.set i (some (kR x))) S G d) : BW E b N0 xs bc bs pc L (kR x :: S) G d := by
  intro p e s m below meth c H locs cells slots ls C hz hH hS hL h0 hn hv h1 h2
  have eV : toV E.2.2.2 (kR x) = .ref (E.2.2.2 + x) := toV_r hx
  rw [List.map_cons, eV]
  refine lv_astore_n C.1 C.2.1 hd hi (kF0' hL h0) hlt rfl (fun ls' h' => ?_)
  rw [← eV] at h'
  exact K p e s m below meth c H locs cells slots ls' C hz hH hS (kFull_back (v := kR x) (fun q h => List.mem_cons_of_mem _ h) (fun j w h => (hL.2.2 j w h).2) hj hlt (kvh hv) h') (kB0 hi1 List.mem_cons_self h') (by rw [List.length_set]; exact hn) (kvt hv) h1 h2
theorem B_iinc_ok {i : Nat} {n x : Int} (hd : decode cL_law pc = .ok (.iinc i n, 3)) (hl : L[i]? = some (some (kI x))) (hj : kNoJ L i = true) (r1 : -2147483648 ≤ x + n) (r2 : x + n ≤ 2147483647) (hi1 : 1 ≤ i) (K : BW E b N0 xs bc bs (pc + 3) (L.set i (some (kI (x + n)))) S G d) : BW E b N0 xs bc bs pc L S G d := by
  intro p e s m below meth c H locs cells slots ls C hz hH hS hL h0 hn hv h1 h2
  have hlt := (List.getElem?_eq_some_iff.mp hl).1
  have hf := kF0' hL h0
  have hf' : lv_has ls L.length ((i, Value.int (Int32.ofInt x)) :: (0, Value.ref b) :: kFull E.2.2.2 L) := ⟨hf.1, hf.2.1, List.forall_mem_cons.mpr ⟨(hL.2.2 i _ hl).1, hf.2.2⟩⟩
  refine lv_iinc (k := 0) (v := Int32.ofInt (x + n)) C.1 C.2.1 hd hf' rfl (by rw [Int32.ofInt_add]) hlt rfl (fun ls' h' => ?_)
  exact K p e s m below meth c H locs cells slots ls' C hz hH hS (kFull_back (v := kI (x + n)) (fun q h => List.mem_cons_of_mem _ (List.mem_cons_of_mem _ h)) (fun j w h => (hL.2.2 j w h).2) hj hlt ⟨r1, r2⟩ h') (kB0 hi1 (List.mem_cons_of_mem _ List.mem_cons_self) h') (by rw [List.length_set]; exact hn) hv h1 h2
theorem B_slen (hd0 : decode cL_law pc = .ok (.aload_n 0, 1)) (hd : decode cL_law (pc + 1) = .ok (.arraylength, 1)) (hN : N0 ≤ 3072) (K : BW E b N0 xs bc bs (pc + 2) L (kI N0 :: S) G d) : BW E b N0 xs bc bs pc L S G d := by
  intro p e s m below meth c H locs cells slots ls C hz hH hS hL h0 hn hv h1 h2
  refine lv_aload_n C.1 C.2.1 hd0 rfl h0 ?_
  refine va_slen C.1 C.2.1 hz.1 hz.2.1 (by show ¬ E.2.2.2 + 1 ≤ b; have := hz.2.1; have := hz.2.2; omega) hS hd ?_
  exact K p e s m below meth c H locs cells slots ls C hz hH hS hL h0 hn (kv1 (v := kI N0) ⟨by omega, by omega⟩ hv) h1 h2
theorem B_sld {i : Int} (hi : 0 ≤ i) (hiN : i < N0) (hN : N0 ≤ 3072) (hd : decode cL_law pc = .ok (.iaload, 1)) (K : BW E b N0 xs bc bs (pc + 1) L (kI (xs i.toNat).toInt :: S) G d) : ∀ (p : Program) (e : Env) (s : State) (m : MethodId) (below : List Frame) (meth : Method) (c : Code) (H : Heap) (locs : List Loc) (cells slots : Nat) (ls : Array Slot),
    kCw E p s m b meth c → (va_X b N0 xs s s.heap ∧ b < s.heap.size ∧ s.heap.size = E.2.2.2 + 1) → kH E G d H → va_S (kA E.2.2.2) s.heap H locs → kLo E.2.2.2 L ls → ls[0]? = some (.val (.ref b)) → L.length = 4 → (∀ v ∈ S, kVN v) → cells + bc ≤ 600000 → slots + bs ≤ 7302250 →
    W p E.1 e room_1 s m #[Value.ref b] below meth c H locs cells slots (lw_Z below #[Value.ref b] s) (F0 m pc ls (.int (Int32.ofInt i) :: .ref b :: S.map (toV E.2.2.2))) := by
  intro p e s m below meth c H locs cells slots ls C hz hH hS hL h0 hn hv h1 h2
  have hk : kN i := ⟨by omega, by omega⟩
  refine va_sld C.1 C.2.1 hz.1 hz.2.1 (by show ¬ E.2.2.2 + 1 ≤ b; have := hz.2.1; have := hz.2.2; omega) hS (kT_in hk hi hiN) hd ?_
  rw [kT_cl hk]
  have K' := K p e s m below meth c H locs cells slots ls C hz hH hS hL h0 hn (kv1 (v := kI (xs i.toNat).toInt) (kT_N _) hv) h1 h2
  have ev : toV E.2.2.2 (kI (xs i.toNat).toInt) = .int (xs i.toNat) := by show Value.int (Int32.ofInt (xs i.toNat).toInt) = _; rw [Int32.ofInt_toInt]
  rw [List.map_cons, ev] at K'
  exact K'
theorem B_scr0 {i : Int} (hd0 : decode cL_law pc = .ok (.aload_n 0, 1)) (hd1 : decode cL_law (pc + 1) = .ok (.iload_n 3, 1)) (hd : decode cL_law (pc + 2) = .ok (.iaload, 1)) (hl : L[3]? = some (some (kI i))) (hN : N0 ≤ 3072) (hi : 0 ≤ i) (hiN : i < N0) (K : BW E b N0 xs bc bs (pc + 3) L (kI (xs i.toNat).toInt :: S) G d) : BW E b N0 xs bc bs pc L S G d := by
  intro p e s m below meth c H locs cells slots ls C hz hH hS hL h0 hn hv h1 h2
  refine lv_aload_n C.1 C.2.1 hd0 rfl h0 ?_
  refine lv_iload_n C.1 C.2.1 hd1 rfl (hL.2.2 3 _ hl).1 ?_
  exact B_sld hi hiN hN hd K p e s m below meth c H locs cells slots ls C hz hH hS hL h0 hn hv h1 h2
theorem B_scr {i j : Int} (hd0 : decode cL_law pc = .ok (.aload_n 0, 1)) (hd1 : decode cL_law (pc + 1) = .ok (.iload_n 3, 1)) (hd2 : decode cL_law (pc + 2) = .ok (.iconst j, 1)) (hd3 : decode cL_law (pc + 3) = .ok (.iadd, 1)) (hd : decode cL_law (pc + 4) = .ok (.iaload, 1)) (hl : L[3]? = some (some (kI i))) (hN : N0 ≤ 3072) (hi : 0 ≤ i + j) (hiN : i + j < N0) (K : BW E b N0 xs bc bs (pc + 5) L (kI (xs (i + j).toNat).toInt :: S) G d) : BW E b N0 xs bc bs pc L S G d := by
  intro p e s m below meth c H locs cells slots ls C hz hH hS hL h0 hn hv h1 h2
  refine lv_aload_n C.1 C.2.1 hd0 rfl h0 ?_
  refine lv_iload_n C.1 C.2.1 hd1 rfl (hL.2.2 3 _ hl).1 ?_
  refine lv_iconst C.1 C.2.1 hd2 rfl ?_
  refine lv_iadd C.1 C.2.1 hd3 ?_
  rw [← Int32.ofInt_add]
  exact B_sld hi hiN hN hd K p e s m below meth c H locs cells slots ls C hz hH hS hL h0 hn hv h1 h2
theorem B_iload_n {n : Fin 4} {i : Nat} {x : Int} (hd : decode cL_law pc = .ok (.iload_n n, 1)) (hi : (n : Nat) = i) (hl : L[i]? = some (some (kI x))) (K : BW E b N0 xs bc bs (pc + 1) L (kI x :: S) G d) : BW E b N0 xs bc bs pc L S G d := by
  intro p e s m below meth c H locs cells slots ls C hz hH hS hL h0 hn hv h1 h2
  exact lv_iload_n C.1 C.2.1 hd hi (hL.2.2 i _ hl).1 (K p e s m below meth c H locs cells slots ls C hz hH hS hL h0 hn (kv1 (hL.2.2 i _ hl).2 hv) h1 h2)
theorem B_aload_n {n : Fin 4} {i : Nat} {x : Nat} (hd : decode cL_law pc = .ok (.aload_n n, 1)) (hi : (n : Nat) = i) (hl : L[i]? = some (some (kR x))) (K : BW E b N0 xs bc bs (pc + 1) L (kR x :: S) G d) : BW E b N0 xs bc bs pc L S G d := by
  intro p e s m below meth c H locs cells slots ls C hz hH hS hL h0 hn hv h1 h2
  have K' := (K p e s m below meth c H locs cells slots ls C hz hH hS hL h0 hn (kv1 (hL.2.2 i _ hl).2 hv) h1 h2)
  have hl' := (hL.2.2 i _ hl).1
  by_cases h : x = 0
  · subst h
    exact lv_aload_nN C.1 C.2.1 hd hi hl' K'
  · have e : toV E.2.2.2 (kR x) = .ref (E.2.2.2 + x) := toV_r (by omega)
    rw [List.map_cons, e] at K'
    rw [e] at hl'
    exact lv_aload_n C.1 C.2.1 hd hi hl' K'
theorem B_iconst {n : Int} (hd : decode cL_law pc = .ok (.iconst n, 1)) (hN : kN n) (K : BW E b N0 xs bc bs (pc + 1) L (kI n :: S) G d) : BW E b N0 xs bc bs pc L S G d := by
  intro p e s m below meth c H locs cells slots ls C hz hH hS hL h0 hn hv h1 h2
  exact lv_iconst C.1 C.2.1 hd rfl (K p e s m below meth c H locs cells slots ls C hz hH hS hL h0 hn (kv1 hN hv) h1 h2)
theorem B_bipush {n : Int} (hd : decode cL_law pc = .ok (.bipush n, 2)) (hN : kN n) (he : (Int8.ofInt n).toInt32 = Int32.ofInt n) (K : BW E b N0 xs bc bs (pc + 2) L (kI n :: S) G d) : BW E b N0 xs bc bs pc L S G d := by
  intro p e s m below meth c H locs cells slots ls C hz hH hS hL h0 hn hv h1 h2
  exact lv_bipush C.1 C.2.1 hd he (K p e s m below meth c H locs cells slots ls C hz hH hS hL h0 hn (kv1 hN hv) h1 h2)
theorem B_ldc2 {i : Nat} {x : Int} {v : Int64} (hd : decode cL_law pc = .ok (.ldc2_w i, 3)) (hw : Cond.constantLong RL i v ∈ gT) (he : v = Int64.ofInt x) (hN : kNJ x) (K : BW E b N0 xs bc bs (pc + 3) L (kJ x :: S) G d) : BW E b N0 xs bc bs pc L S G d := by
  intro p e s m below meth c H locs cells slots ls C hz hH hS hL h0 hn hv h1 h2
  subst he
  exact lv_ldc2 C.1 C.2.1 C.2.2.2.2.1 (C.2.2.2.2.2.1 _ hw) hd (K p e s m below meth c H locs cells slots ls C hz hH hS hL h0 hn (kv1 hN hv) h1 h2)
theorem B_iadd {x y : Int} (hd : decode cL_law pc = .ok (.iadd, 1)) (K : BW E b N0 xs bc bs (pc + 1) L (kI (kw (x + y)) :: S) G d) : BW E b N0 xs bc bs pc L (kI y :: kI x :: S) G d := by
  intro p e s m below meth c H locs cells slots ls C hz hH hS hL h0 hn hv h1 h2
  have K' := (K p e s m below meth c H locs cells slots ls C hz hH hS hL h0 hn (kv1 (kw_N _) (kvt (kvt hv))) h1 h2)
  rw [List.map_cons, toV_i, kw_of, Int32.ofInt_add] at K'
  exact lv_iadd C.1 C.2.1 hd K'
theorem B_isub {x y : Int} (hd : decode cL_law pc = .ok (.isub, 1)) (K : BW E b N0 xs bc bs (pc + 1) L (kI (kw (x - y)) :: S) G d) : BW E b N0 xs bc bs pc L (kI y :: kI x :: S) G d := by
  intro p e s m below meth c H locs cells slots ls C hz hH hS hL h0 hn hv h1 h2
  have K' := (K p e s m below meth c H locs cells slots ls C hz hH hS hL h0 hn (kv1 (kw_N _) (kvt (kvt hv))) h1 h2)
  rw [List.map_cons, toV_i, kw_of, Int32.ofInt_sub] at K'
  exact lv_isub C.1 C.2.1 hd K'
theorem B_iand {x y : Int} (hd : decode cL_law pc = .ok (.iand, 1)) (K : BW E b N0 xs bc bs (pc + 1) L (kI (kAnd x y) :: S) G d) : BW E b N0 xs bc bs pc L (kI y :: kI x :: S) G d := by
  intro p e s m below meth c H locs cells slots ls C hz hH hS hL h0 hn hv h1 h2
  have K' := (K p e s m below meth c H locs cells slots ls C hz hH hS hL h0 hn (kv1 (kT_N _) (kvt (kvt hv))) h1 h2)
  rw [List.map_cons, toV_i, kAnd, Int32.ofInt_toInt] at K'
  exact lv_iand C.1 C.2.1 hd K'
theorem B_i2l {x : Int} (hd : decode cL_law pc = .ok (.i2l, 1)) (K : BW E b N0 xs bc bs (pc + 1) L (kJ x :: S) G d) : BW E b N0 xs bc bs pc L (kI x :: S) G d := by
  intro p e s m below meth c H locs cells slots ls C hz hH hS hL h0 hn hv h1 h2
  have hx : kN x := kvh hv
  have K' := (K p e s m below meth c H locs cells slots ls C hz hH hS hL h0 hn (kv1 (v := kJ x) (kN_J hx) (kvt hv)) h1 h2)
  refine lv_i2l C.1 C.2.1 hd ?_ K'
  rw [← Int64.toInt_inj, Int32.toInt_toInt64, kT hx, kTJ (kN_J hx)]
theorem B_lshl {x y : Int} (hd : decode cL_law pc = .ok (.lshl, 1)) (K : BW E b N0 xs bc bs (pc + 1) L (kJ (kLshl x y) :: S) G d) : BW E b N0 xs bc bs pc L (kI y :: kJ x :: S) G d := by
  intro p e s m below meth c H locs cells slots ls C hz hH hS hL h0 hn hv h1 h2
  have K' := (K p e s m below meth c H locs cells slots ls C hz hH hS hL h0 hn (kv1 (kT_NJ _) (kvt (kvt hv))) h1 h2)
  rw [List.map_cons, toV_j, kLshl, Int64.ofInt_toInt] at K'
  exact lv_lshl C.1 C.2.1 hd rfl K'
theorem B_land {x y : Int} (hd : decode cL_law pc = .ok (.land, 1)) (K : BW E b N0 xs bc bs (pc + 1) L (kJ (kLand x y) :: S) G d) : BW E b N0 xs bc bs pc L (kJ y :: kJ x :: S) G d := by
  intro p e s m below meth c H locs cells slots ls C hz hH hS hL h0 hn hv h1 h2
  have K' := (K p e s m below meth c H locs cells slots ls C hz hH hS hL h0 hn (kv1 (kT_NJ _) (kvt (kvt hv))) h1 h2)
  rw [List.map_cons, toV_j, kLand, Int64.ofInt_toInt] at K'
  exact lv_land C.1 C.2.1 hd K'
theorem B_lor {x y : Int} (hd : decode cL_law pc = .ok (.lor, 1)) (K : BW E b N0 xs bc bs (pc + 1) L (kJ (kLor x y) :: S) G d) : BW E b N0 xs bc bs pc L (kJ y :: kJ x :: S) G d := by
  intro p e s m below meth c H locs cells slots ls C hz hH hS hL h0 hn hv h1 h2
  have K' := (K p e s m below meth c H locs cells slots ls C hz hH hS hL h0 hn (kv1 (kT_NJ _) (kvt (kvt hv))) h1 h2)
  rw [List.map_cons, toV_j, kLor, Int64.ofInt_toInt] at K'
  exact lv_lor C.1 C.2.1 hd K'
theorem B_dup {v : AV} (hd : decode cL_law pc = .ok (.dup, 1)) (hc : ∀ B, (toV B v).category = 1) (K : BW E b N0 xs bc bs (pc + 1) L (v :: v :: S) G d) : BW E b N0 xs bc bs pc L (v :: S) G d := by
  intro p e s m below meth c H locs cells slots ls C hz hH hS hL h0 hn hv h1 h2
  exact lv_dup C.1 C.2.1 hd (hc _) (K p e s m below meth c H locs cells slots ls C hz hH hS hL h0 hn (kv1 (kvh hv) hv) h1 h2)
theorem B_icmp_eq {x y off : Int} {tgt : Nat} (hd : decode cL_law pc = .ok (.if_icmp .eq off, 3)) (ht : (pc : Int) + off = (tgt : Int)) (kt : x = y → BW E b N0 xs bc bs tgt L S G d) (kf : x ≠ y → BW E b N0 xs bc bs (pc + 3) L S G d) : BW E b N0 xs bc bs pc L (kI y :: kI x :: S) G d := by
  intro p e s m below meth c H locs cells slots ls C hz hH hS hL h0 hn hv h1 h2
  have hx : kN x := (kvh (kvt hv))
  have hy : kN y := (kvh hv)
  have eL := kT_lt hx hy
  have eG := kT_lt hy hx
  have eE := kT_eq hx hy
  have eT : tgt < 2 ^ 64 ∨ True := Or.inr trivial
  refine lv_icmp_eq C.1 C.2.1 hd ht (fun q => kt ?_ p e s m below meth c H locs cells slots ls C hz hH hS hL h0 hn (kvt (kvt hv)) h1 h2) (fun q => kf ?_ p e s m below meth c H locs cells slots ls C hz hH hS hL h0 hn (kvt (kvt hv)) h1 h2)
  · first | exact eE.mp q | exact fun r => q (eE.mpr r) | exact eL.mp q | exact eG.mp q | exact Int.not_lt.mp (fun r => (Int32.not_lt.mpr q) (eL.mpr r)) | exact Int.not_lt.mp (fun r => (Int32.not_lt.mpr q) (eG.mpr r)) | exact Int.not_lt.mp (fun r => q (eL.mpr r)) | exact Int.not_lt.mp (fun r => q (eG.mpr r))
  · first | exact eE.mp q | exact fun r => q (eE.mpr r) | exact eE.mp (Classical.not_not.mp q) | exact eL.mp q | exact eG.mp q | exact Int.not_lt.mp (fun r => q (eL.mpr r)) | exact Int.not_lt.mp (fun r => q (eG.mpr r)) | exact eL.mp (Int32.not_le.mp q) | exact eG.mp (Int32.not_le.mp q) | exact Int.not_lt.mp (fun r => (Int32.not_lt.mpr q) (eL.mpr r)) | exact Int.not_lt.mp (fun r => (Int32.not_lt.mpr q) (eG.mpr r))
theorem B_icmp_gt {x y off : Int} {tgt : Nat} (hd : decode cL_law pc = .ok (.if_icmp .gt off, 3)) (ht : (pc : Int) + off = (tgt : Int)) (kt : y < x → BW E b N0 xs bc bs tgt L S G d) (kf : x ≤ y → BW E b N0 xs bc bs (pc + 3) L S G d) : BW E b N0 xs bc bs pc L (kI y :: kI x :: S) G d := by
  intro p e s m below meth c H locs cells slots ls C hz hH hS hL h0 hn hv h1 h2
  have hx : kN x := (kvh (kvt hv))
  have hy : kN y := (kvh hv)
  have eL := kT_lt hx hy
  have eG := kT_lt hy hx
  have eE := kT_eq hx hy
  have eT : tgt < 2 ^ 64 ∨ True := Or.inr trivial
  refine lv_icmp_gt C.1 C.2.1 hd ht (fun q => kt ?_ p e s m below meth c H locs cells slots ls C hz hH hS hL h0 hn (kvt (kvt hv)) h1 h2) (fun q => kf ?_ p e s m below meth c H locs cells slots ls C hz hH hS hL h0 hn (kvt (kvt hv)) h1 h2)
  · first | exact eE.mp q | exact fun r => q (eE.mpr r) | exact eL.mp q | exact eG.mp q | exact Int.not_lt.mp (fun r => (Int32.not_lt.mpr q) (eL.mpr r)) | exact Int.not_lt.mp (fun r => (Int32.not_lt.mpr q) (eG.mpr r)) | exact Int.not_lt.mp (fun r => q (eL.mpr r)) | exact Int.not_lt.mp (fun r => q (eG.mpr r))
  · first | exact eE.mp q | exact fun r => q (eE.mpr r) | exact eE.mp (Classical.not_not.mp q) | exact eL.mp q | exact eG.mp q | exact Int.not_lt.mp (fun r => q (eL.mpr r)) | exact Int.not_lt.mp (fun r => q (eG.mpr r)) | exact eL.mp (Int32.not_le.mp q) | exact eG.mp (Int32.not_le.mp q) | exact Int.not_lt.mp (fun r => (Int32.not_lt.mpr q) (eL.mpr r)) | exact Int.not_lt.mp (fun r => (Int32.not_lt.mpr q) (eG.mpr r))
theorem B_goto {off : Int} {tgt : Nat} (hd : decode cL_law pc = .ok (.goto off, 3)) (ht : (pc : Int) + off = (tgt : Int)) (K : BW E b N0 xs bc bs tgt L S G d) : BW E b N0 xs bc bs pc L S G d := by
  intro p e s m below meth c H locs cells slots ls C hz hH hS hL h0 hn hv h1 h2
  exact lv_goto C.1 C.2.1 hd ht (K p e s m below meth c H locs cells slots ls C hz hH hS hL h0 hn hv h1 h2)
theorem B_tsO {dflt lo hi x : Int} {offs : Array Int} {len tgt : Nat} (hd : decode cL_law pc = .ok (.tableswitch dflt lo hi offs, len)) (ht : (pc : Int) + dflt = (tgt : Int)) (h : x < lo ∨ hi < x) (K : BW E b N0 xs bc bs tgt L S G d) : BW E b N0 xs bc bs pc L (kI x :: S) G d := by
  intro p e s m below meth c H locs cells slots ls C hz hH hS hL h0 hn hv h1 h2
  exact lv_tableOut C.1 C.2.1 hd (by rw [kT (kvh hv)]; exact h) ht (K p e s m below meth c H locs cells slots ls C hz hH hS hL h0 hn (kvt hv) h1 h2)
theorem B_tsI {dflt lo hi x off : Int} {offs : Array Int} {len tgt : Nat} (hd : decode cL_law pc = .ok (.tableswitch dflt lo hi offs, len)) (hl : lo ≤ x) (hh : x ≤ hi) (ho : offs[(x - lo).toNat]? = some off) (ht : (pc : Int) + off = (tgt : Int)) (K : BW E b N0 xs bc bs tgt L S G d) : BW E b N0 xs bc bs pc L (kI x :: S) G d := by
  intro p e s m below meth c H locs cells slots ls C hz hH hS hL h0 hn hv h1 h2
  exact lv_tableIn C.1 C.2.1 hd (by rw [kT (kvh hv)]; omega) (by rw [kT (kvh hv)]; omega) (by rw [kT (kvh hv)]; exact ho) ht (K p e s m below meth c H locs cells slots ls C hz hH hS hL h0 hn (kvt hv) h1 h2)
theorem B_iadd_ok {x y : Int} (hd : decode cL_law pc = .ok (.iadd, 1)) (h1 : -2147483648 ≤ x + y) (h2 : x + y ≤ 2147483647) (K : BW E b N0 xs bc bs (pc + 1) L (kI (x + y) :: S) G d) : BW E b N0 xs bc bs pc L (kI y :: kI x :: S) G d := B_iadd hd (by rw [kw_id h1 h2]; exact K)
theorem B_isub_ok {x y : Int} (hd : decode cL_law pc = .ok (.isub, 1)) (h1 : -2147483648 ≤ x - y) (h2 : x - y ≤ 2147483647) (K : BW E b N0 xs bc bs (pc + 1) L (kI (x - y) :: S) G d) : BW E b N0 xs bc bs pc L (kI y :: kI x :: S) G d := B_isub hd (by rw [kw_id h1 h2]; exact K)
theorem B_new {ci idx : Nat} {Cn : String} {T : u_T} (hd : decode cL_law pc = .ok (.new idx, 3)) (hc : kCl ci Cn T) (hw1 : Cond.classLink RL idx Cn ∈ gT) (hw2 : Cond.instantiable Cn (kNF ci) ∈ gT) (hw3 : Cond.initialized Cn ∈ gT) (hbc : 1 ≤ bc) (hbs : kNF ci ≤ bs) (K : BW E b N0 xs (bc - 1) (bs - kNF ci) (pc + 3) L (kR (G.1 + 1) :: S) (kNew G ci 0) (kNewD G d)) : BW E b N0 xs bc bs pc L S G d := by
  intro p e s m below meth c H locs cells slots ls C hz hH hS hL h0 hn hv h1 h2
  obtain ⟨hc0, hin, hty, hnm, hcl, h8⟩ := hc
  obtain ⟨hx, hb, hr, hml, hfcls, hts, hlk, hK, hNw, hAO⟩ := id C
  have hKn := hK.1 ci _ hc0
  have hcr : cells + 1 ≤ room_1.cells := by show cells + 1 ≤ 600000; omega
  have hsr : slots + kNF ci ≤ room_1.slots := by show slots + kNF ci ≤ 7302250; omega
  refine W.newcK hx hb hfcls (hts _ hw1) (hts _ hw2) (hts _ hw3) rfl hd hcr hsr hKn.2.1 hH.2.1 fun H1 kC hkC e1 z1 o1 => ?_
  have z1' : H1.size = H.size + 1 := by rw [z1, hH.2.1]
  have o1' : ∀ q, q < H.size → H1[q]? = H[q]? := fun q hq => o1 q (by rw [← hH.2.1]; exact hq)
  have hat : va_at E.2.1 vwCl (E.2.2.2 + (G.1 + 1), kCell E.2.2.1 E.2.2.2 (ci, 0) (fun _ => 0) (fun _ => 0)) H1 := by
    rw [kCellO (ci := ci) rfl h8]
    refine ⟨_, hc0, ?_⟩
    have hbn := (u_born (kTy ci) hts hin hKn hkC e1 hty)
    have ea : E.2.2.2 + 1 + G.1 = E.2.2.2 + (G.1 + 1) := by omega
    rw [ea] at hbn
    refine hbn.to (fun j hj => ?_)
    show defaultValue (kTy ci j) = (kFs _ ci _ _).getD j .null
    rw [List.getD_eq_getElem?_getD, kFs_at hj]
    show defaultValue (kTy ci j) = (if kIsR (kTy ci j) then _ else _)
    have hj2 : (kTy ci j = .int ∨ kTy ci j = .boolean) ∨ (∃ n, kTy ci j = .object n) ∨ ∃ t, kTy ci j = .array t := by
      have key : ∀ c, c < 8 → ∀ j, j < kNF c → ((kTy c j = .int ∨ kTy c j = .boolean) ∨ (kIsR (kTy c j) = true)) := by decide +kernel
      rcases key ci h8 j hj with h | h
      · exact Or.inl h
      · revert h
        generalize kTy ci j = ty
        intro h
        cases ty <;> first | exact Or.inr (Or.inl ⟨_, rfl⟩) | exact Or.inr (Or.inr ⟨_, rfl⟩) | cases h
    rcases hj2 with (h | h) | ⟨n, h⟩ | ⟨t, h⟩ <;> rw [h] <;> rfl
  have K' := K p e s m below meth c H1 locs (cells + 1) (slots + kNF ci) ls C hz (hH.push hat z1' o1') (kS_push hS z1' o1') hL h0 hn (kv1 (v := kR (G.1 + 1)) trivial hv) (by omega) (by omega)
  rw [List.map_cons, toV_r (by omega)] at K'
  have ea : E.2.2.2 + 1 + G.1 = E.2.2.2 + (G.1 + 1) := by omega
  rw [ea]
  exact K'
theorem B_end (hd : decode cL_law pc = .ok (.iconst 1, 1)) (hd2 : decode cL_law (pc + 1) = .ok (.ireturn, 1)) : BW E b N0 xs bc bs pc L [] G d := by
  intro p e s m below meth c H locs cells slots ls C hz hH hS hL h0 hn hv h1 h2
  refine lv_iconst (v := 1) C.1 C.2.1 hd (by decide) ?_
  refine va_forget (fun q hq => ?_) ?_
  · have := hS.2.2 q hq
    have h9 : E.2.2.2 + 1 ≤ q.base := this
    have := hz.2.2
    omega
  refine W.widen (k := 600000) (n := 7302250) (by omega) (by omega) ?_
  exact lw_ret C.1 C.2.1 C.2.2.1 C.2.2.2.2.2.2.1 hd2
end BR
section BC
variable {E : EE} {b N0 : Nat} {xs : Nat → Int32} {mj : MI} {k bc bs pc : Nat} {L : List (Option AV)} {S St : List AV} {G : HG} {d : HD}
theorem kAfterB {p : Program} {e : Env} {s : State} {m : MethodId} {a : Array Value} {below : List Frame} {meth : Method} {c : Code} {H : Heap} {locs : List Loc} {cells slots bc' bs' : Nat} {ls : Array Slot} {st : List Value}
    (hr : CallRun p E.1 e room_1 s m #[Value.ref b] below meth c H locs cells slots bc' bs' (F0 m pc ls st) (S.map (toV E.2.2.2)) (kQc E (fun r G' d' => BW E b N0 xs (bc - bc') (bs - bs') (pc + 3) L (kPush r S) G' d') a) (kA E.2.2.2))
    (C : kCw E p s m b meth c) (hz : va_X b N0 xs s s.heap ∧ b < s.heap.size ∧ s.heap.size = E.2.2.2 + 1) (hS : va_S (kA E.2.2.2) s.heap H locs) (hL : kLo E.2.2.2 L ls) (h0 : ls[0]? = some (.val (.ref b))) (hn : L.length = 4) (hv : ∀ v ∈ S, kVN v) (h1 : cells + bc ≤ 600000) (h2 : slots + bs ≤ 7302250) (hbc : bc' ≤ bc) (hbs : bs' ≤ bs) :
    W p E.1 e room_1 s m #[Value.ref b] below meth c H locs cells slots (lw_Z below #[Value.ref b] s) (F0 m pc ls st) := by
  intro T hT X
  obtain ⟨v, st₀, t, T', Lc, h0', X', hLc, e1, ⟨r, G', d', hoc, hq, hrn, hH', hF⟩, stp⟩ := hr T hT X
  have hvr : v = r.map (toV E.2.2.2) := Outcome.returned.inj hoc
  subst hvr
  have hS' : va_S (kA E.2.2.2) s.heap t.heap (locs ++ Lc) := by
    refine ⟨Nat.le_trans hS.1 (by rw [← h0']; exact hF.1), fun q g1 g2 => ?_, fun q hq' => ?_⟩
    · have g3 := hF.2 q (by rw [h0']; exact Nat.lt_of_lt_of_le g1 hS.1) g2
      rw [g3, h0']
      exact hS.2.1 q g1 g2
    · rcases List.mem_append.mp hq' with g | g
      · exact hS.2.2 q g
      · exact hLc q g
  have hv' : ∀ v ∈ kPush r S, kVN v := by
    cases r with
    | none => exact hv
    | some w => exact kv1 (hrn w rfl) hv
  have K' := hq p e s m below meth c t.heap (locs ++ Lc) (cells + bc') (slots + bs') ls C hz hH' hS' hL h0 hn hv' (by omega) (by omega)
  obtain ⟨t2, a1, b1⟩ := K' T' e1 X'
  have es : (kPush r S).map (toV E.2.2.2) = (r.map (toV E.2.2.2)).toList ++ S.map (toV E.2.2.2) := by
    cases r <;> simp [kPush]
  rw [es] at a1
  exact ⟨t2, stp t2 a1, b1⟩
theorem kB1 {s : State} {args : Array Value} {own : String} {idx n bc' bs' : Nat} (hk : k ≤ 1000) (hts : ∀ w ∈ gT, w.before args s = true) (h : kMB own idx n mj) : CallB room_1 s args own idx mj.1 mj.2.1 mj.2.2.1 mj.2.2.2 (kWS mj) (kRm k bc' bs') bc' bs' n := by
  obtain ⟨g1, g2, g3, g4, g5⟩ := h
  exact callB_of n hts (kWS_good g3) rfl rfl rfl (hts _ g2) (hts _ g1) g4 ⟨by show k + 1 ≤ 2048; omega, by show 8 + (mj.2.2.1 + 11) + 60 * k ≤ 84000; omega⟩
theorem B_inv {idx n bc' bs' ci a : Nat} {T : u_T} (As : List AV) (hk : k ≤ 1000) (hd : decode cL_law pc = .ok (.invokevirtual idx, 3)) (ml : kMV RL idx n mj) (hc : kCl ci mj.1.cls T) (hst : St = As.reverse ++ kR a :: S) (hn : As.length = n) (hcat : (S.map kCat).sum ≤ 8) (hbc : bc' ≤ bc) (hbs : bs' ≤ bs) (ho : isO G a ci)
    (K : AM E mj k bc' bs' (kR a :: As) G d (fun r G' d' => BW E b N0 xs (bc - bc') (bs - bs') (pc + 3) L (kPush r S) G' d')) : BW E b N0 xs bc bs pc L St G d := by
  intro p e s m below meth c H locs cells slots ls C hz hH hS hL h0 hnL hv h1 h2
  obtain ⟨mb, hin, hsel⟩ := ml
  obtain ⟨hx, hb, hr, hml, hfcls, hts, hlk, hK⟩ := id C
  have hP := kAtO hH ho hc.2.2.2.2.2
  subst hst
  have hvA : ∀ v ∈ kR a :: As, kVN v := kv1 trivial (fun v h => hv v (List.mem_append_left _ (List.mem_reverse.mpr h)))
  have hvS : ∀ v ∈ S, kVN v := fun v h => hv v (List.mem_append_right _ (List.mem_cons_of_mem _ h))
  have hpre : PreV s H mj.1.cls (E.2.2.2 + a) (kPc E (kR a :: As) G d) (As.map (toV E.2.2.2)) := ⟨kPc_blind, va_recv hK.1 hP (ci := ci) (q0 := 0) hc.1 rfl, fun U hU hW => ⟨by rw [List.map_cons, toV_r ho.1], by rw [hU]; exact hH, hK.moved hW, hvA⟩⟩
  have hrun := W.runV (cc := cL_law) (nL := 4) (Ts := gT) (own := RL) (e := e) (below := below) (meth := meth) (locs := locs) (cells := cells) (slots := slots) (g := F0 m pc ls ((As.reverse ++ kR a :: S).map (toV E.2.2.2))) (rest := S.map (toV E.2.2.2)) ⟨hx, hb, hml, hfcls, hts⟩ K ⟨kB1 hk hts mb, hts _ hin, hts _ hsel⟩ hpre rfl (by simp [hn]) (by rw [← hnL]; exact hL.1) (by simp [toV_r ho.1]) (by show 2 * 0 + _ ≤ 8; rw [kCat_ok]; omega) hd ⟨by show cells + bc' ≤ 600000; omega, by show slots + bs' ≤ 7302250; omega⟩
  exact kAfterB hrun C hz hS hL h0 hnL hvS h1 h2 hbc hbs
theorem B_ini {idx n bc' bs' a : Nat} (As : List AV) (hk : k ≤ 1000) (hd : decode cL_law pc = .ok (.invokespecial idx, 3)) (ml : kMC RL idx n mj) (hst : St = As.reverse ++ kR a :: S) (hn : As.length = n) (hcat : (S.map kCat).sum ≤ 8) (hbc : bc' ≤ bc) (hbs : bs' ≤ bs) (ho : 1 ≤ a)
    (K : AM E mj k bc' bs' (kR a :: As) G d (fun r G' d' => BW E b N0 xs (bc - bc') (bs - bs') (pc + 3) L (kPush r S) G' d')) : BW E b N0 xs bc bs pc L St G d := by
  intro p e s m below meth c H locs cells slots ls C hz hH hS hL h0 hnL hv h1 h2
  obtain ⟨mb, hin, hini, hno⟩ := ml
  obtain ⟨hx, hb, hr, hml, hfcls, hts, hlk, hK⟩ := id C
  subst hst
  have hvA : ∀ v ∈ kR a :: As, kVN v := kv1 trivial (fun v h => hv v (List.mem_append_left _ (List.mem_reverse.mpr h)))
  have hvS : ∀ v ∈ S, kVN v := fun v h => hv v (List.mem_append_right _ (List.mem_cons_of_mem _ h))
  have hpre : PreS s H (kPc E (kR a :: As) G d) (.ref (E.2.2.2 + a) :: As.map (toV E.2.2.2)) := ⟨kPc_blind, fun U hU hW => ⟨by rw [List.map_cons, toV_r ho], by rw [hU]; exact hH, hK.moved hW, hvA⟩⟩
  have hcb := kB1 (bc' := bc') (bs' := bs') hk hts mb
  rw [hno] at hcb
  have hrun := W.runI (cc := cL_law) (nL := 4) (Ts := gT) (own := RL) (e := e) (below := below) (meth := meth) (locs := locs) (cells := cells) (slots := slots) (g := F0 m pc ls ((As.reverse ++ kR a :: S).map (toV E.2.2.2))) (rest := S.map (toV E.2.2.2)) ⟨hx, hb, hml, hfcls, hts⟩ K ⟨hcb, hini, hts _ hin⟩ hpre rfl (by simp [hn]) (by rw [← hnL]; exact hL.1) (by simp [toV_r ho]) (by show 2 * 0 + _ ≤ 8; rw [kCat_ok]; omega) hd ⟨by show cells + bc' ≤ 600000; omega, by show slots + bs' ≤ 7302250; omega⟩
  exact kAfterB hrun C hz hS hL h0 hnL hvS h1 h2 hbc hbs
end BC
