section CA
variable {E : EE} {mi mj : MI} {k bc bs pc : Nat} {L : List (Option AV)} {S St : List AV} {G : HG} {d : HD} {Q : PQ}
def kCat : AV → Nat
  | .inr (.inl _) => 2
  | _ => 1
theorem kCat_ok {B : Nat} (S : List AV) : ((S.map (toV B)).map fun v => v.category) = S.map kCat := by
  rw [List.map_map]
  refine List.map_congr_left fun v _ => ?_
  show (toV B v).category = kCat v
  rw [toV_cat]
  rcases v with x | x | a <;> rfl
def kPush (r : Option AV) (S : List AV) : List AV := match r with
  | some v => v :: S
  | none => S
theorem kPc_blind {av : List AV} : FrameBlind (kPc E av G d) := fun _ _ _ _ h => ⟨h.1, h.2.1, kK.same rfl h.2.2.1, h.2.2.2⟩
/-- behind a call, by the callee's contract -/
theorem kAfter {p : Program} {e : Env} {s : State} {m : MethodId} {args a : Array Value} {below : List Frame} {meth : Method} {c : Code} {H : Heap} {locs : List Loc} {cells slots mc ms bc' bs' : Nat} {ls : Array Slot} {st : List Value}
    (hr : CallRun p E.1 e (kRm k mc ms) s m args below meth c H locs cells slots bc' bs' (F0 m pc ls st) (S.map (toV E.2.2.2)) (kQc E (fun r G' d' => AW E mi k (bc - bc') (bs - bs') (pc + 3) L (kPush r S) G' d' Q) a) (kA E.2.2.2))
    (C : kCx E mi p s m args meth c) (hS : va_S (kA E.2.2.2) s.heap H locs) (hB : E.2.2.2 + 1 ≤ s.heap.size) (hL : kLo E.2.2.2 L ls) (hn : L.length = mi.2.2.1) (hv : ∀ v ∈ S, kVN v) (h1 : cells + bc ≤ mc) (h2 : slots + bs ≤ ms) (hbc : bc' ≤ bc) (hbs : bs' ≤ bs) :
    W p E.1 e (kRm k mc ms) s m args below meth c H locs cells slots (MQ below (kQc E Q) args s mc ms (kA E.2.2.2)) (F0 m pc ls st) := by
  intro T hT X
  obtain ⟨v, st₀, t, T', Lc, h0, X', hLc, e1, ⟨r, G', d', hoc, hq, hrn, hH', hF⟩, stp⟩ := hr T hT X
  have hvr : v = r.map (toV E.2.2.2) := Outcome.returned.inj hoc
  subst hvr
  have hS' : va_S (kA E.2.2.2) s.heap t.heap (locs ++ Lc) := by
    refine ⟨Nat.le_trans hS.1 (by rw [← h0]; exact hF.1), fun q g1 g2 => ?_, fun q hq' => ?_⟩
    · have g3 := hF.2 q (by rw [h0]; exact Nat.lt_of_lt_of_le g1 hS.1) g2
      rw [g3, h0]
      exact hS.2.1 q g1 g2
    · rcases List.mem_append.mp hq' with g | g
      · exact hS.2.2 q g
      · exact hLc q g
  have hv' : ∀ v ∈ kPush r S, kVN v := by
    cases r with
    | none => exact hv
    | some w => exact kv1 (hrn w rfl) hv
  have K' := hq p e s m args below meth c t.heap (locs ++ Lc) (cells + bc') (slots + bs') mc ms ls C hH' hS' hB hL hn hv' (by omega) (by omega)
  obtain ⟨t2, a1, b1⟩ := K' T' e1 X'
  have es : (kPush r S).map (toV E.2.2.2) = (r.map (toV E.2.2.2)).toList ++ S.map (toV E.2.2.2) := by
    cases r <;> simp [kPush]
  rw [es] at a1
  exact ⟨t2, stp t2 a1, b1⟩
def kMB (own : String) (idx n : Nat) (mj : MI) : Prop := Cond.methodLink own idx mj.1 ∈ gT ∧ Cond.initialized mj.1.cls ∈ gT ∧ Cond.code mj.1 mj.2.1 mj.2.2.1 mj.2.2.2 ∈ gT ∧ (mj.1.cls ≠ "java/lang/invoke/MethodHandle" ∧ mj.1.cls ≠ "java/lang/invoke/VarHandle" ∧ (parseMethodDescriptor mj.1.desc).map (fun d => d.parameters.length) = some n) ∧ mj.2.2.1 ≤ 41
def kMV (own : String) (idx n : Nat) (mj : MI) : Prop := kMB own idx n mj ∧ Cond.instanceMethod mj.1 ∈ gT ∧ Cond.selects mj.1.cls mj.1 mj.1 ∈ gT
def kMS (own : String) (idx n : Nat) (mj : MI) : Prop := kMB own idx n mj ∧ Cond.static mj.1 ∈ gT
def kMC (own : String) (idx n : Nat) (mj : MI) : Prop := kMB own idx n mj ∧ Cond.instanceMethod mj.1 ∈ gT ∧ mj.1.name = "<init>" ∧ mj.2.2.2 = none
def kMN (own : String) (idx n : Nat) (mj : MI) : Prop := (own, idx, mj.1, "KnotRing") ∈ kNestM ∧ Cond.initialized mj.1.cls ∈ gT ∧ Cond.code mj.1 mj.2.1 mj.2.2.1 mj.2.2.2 ∈ gT ∧ (mj.1.cls ≠ "java/lang/invoke/MethodHandle" ∧ mj.1.cls ≠ "java/lang/invoke/VarHandle" ∧ (parseMethodDescriptor mj.1.desc).map (fun d => d.parameters.length) = some n) ∧ mj.2.2.1 ≤ 41 ∧ Cond.instanceMethod mj.1 ∈ gT ∧ mj.1.name = "<init>" ∧ mj.2.2.2 = none
theorem kWS_good (h : Cond.code mj.1 mj.2.1 mj.2.2.1 mj.2.2.2 ∈ gT) : GoodIn gT (kWS mj) := fun w hw => by
  rcases List.mem_cons.mp hw with rfl | hw
  · exact gT_good _ h
  · exact gT_good _ hw
theorem kB_of {s : State} {args : Array Value} {own : String} {idx n bc' bs' mc ms : Nat} (hts : ∀ w ∈ gT, w.before args s = true) (h : kMB own idx n mj) : CallB (kRm (k + 1) mc ms) s args own idx mj.1 mj.2.1 mj.2.2.1 mj.2.2.2 (kWS mj) (kRm k bc' bs') bc' bs' n := by
  obtain ⟨g1, g2, g3, g4, g5⟩ := h
  exact callB_of n hts (kWS_good g3) rfl rfl rfl (hts _ g2) (hts _ g1) g4 ⟨Nat.le_refl _, by show 8 + (mj.2.2.1 + 11) + 60 * k ≤ 60 * (k + 1); omega⟩
theorem A_inv {idx n bc' bs' ci b : Nat} {T : u_T} (As : List AV) (hd : decode mi.2.1 pc = .ok (.invokevirtual idx, 3)) (ml : kMV mi.1.cls idx n mj) (hc : kCl ci mj.1.cls T) (hst : St = As.reverse ++ kR b :: S) (hn : As.length = n) (hcat : (S.map kCat).sum ≤ 8) (hbc : bc' ≤ bc) (hbs : bs' ≤ bs) (ho : isO G b ci)
    (K : AM E mj k bc' bs' (kR b :: As) G d (fun r G' d' => AW E mi (k + 1) (bc - bc') (bs - bs') (pc + 3) L (kPush r S) G' d' Q)) : AW E mi (k + 1) bc bs pc L St G d Q := by
  intro p e s m args below meth c H locs cells slots mc ms ls C hH hS hB hL hnL hv h1 h2
  obtain ⟨mb, hin, hsel⟩ := ml
  obtain ⟨hx, hb, hr, hml, hfcls, hts, hlk, hnam, hK⟩ := id C
  have hP := kAtO hH ho hc.2.2.2.2.2
  subst hst
  have hvA : ∀ v ∈ kR b :: As, kVN v := kv1 trivial (fun v h => hv v (List.mem_append_left _ (List.mem_reverse.mpr h)))
  have hvS : ∀ v ∈ S, kVN v := fun v h => hv v (List.mem_append_right _ (List.mem_cons_of_mem _ h))
  have hpre : PreV s H mj.1.cls (E.2.2.2 + b) (kPc E (kR b :: As) G d) (As.map (toV E.2.2.2)) := ⟨kPc_blind, va_recv hK.1 hP (ci := ci) (q0 := 0) hc.1 rfl, fun U hU hW => ⟨by rw [List.map_cons, toV_r ho.1], by rw [hU]; exact hH, hK.moved hW, hvA⟩⟩
  have hrun := W.runV (cc := mi.2.1) (nL := mi.2.2.1) (Ts := gT) (own := mi.1.cls) (e := e) (below := below) (meth := meth) (locs := locs) (cells := cells) (slots := slots) (g := F0 m pc ls ((As.reverse ++ kR b :: S).map (toV E.2.2.2))) (rest := S.map (toV E.2.2.2)) ⟨hx, hb, hml, hfcls, hts⟩ K ⟨kB_of (mc := mc) (ms := ms) hts mb, hts _ hin, hts _ hsel⟩ hpre rfl (by simp [hn]) (by rw [← hnL]; exact hL.1) (by simp [toV_r ho.1]) (by show 2 * 0 + _ ≤ 8; rw [kCat_ok]; omega) hd ⟨by show cells + bc' ≤ mc; omega, by show slots + bs' ≤ ms; omega⟩
  exact kAfter hrun C hS hB hL hnL hvS h1 h2 hbc hbs
theorem A_ins {idx n bc' bs' : Nat} (As : List AV) (hd : decode mi.2.1 pc = .ok (.invokestatic idx, 3)) (ml : kMS mi.1.cls idx n mj) (hst : St = As.reverse ++ S) (hn : As.length = n) (hcat : (S.map kCat).sum ≤ 8) (hbc : bc' ≤ bc) (hbs : bs' ≤ bs)
    (K : AM E mj k bc' bs' As G d (fun r G' d' => AW E mi (k + 1) (bc - bc') (bs - bs') (pc + 3) L (kPush r S) G' d' Q)) : AW E mi (k + 1) bc bs pc L St G d Q := by
  intro p e s m args below meth c H locs cells slots mc ms ls C hH hS hB hL hnL hv h1 h2
  obtain ⟨mb, hstt⟩ := ml
  obtain ⟨hx, hb, hr, hml, hfcls, hts, hlk, hnam, hK⟩ := id C
  subst hst
  have hvA : ∀ v ∈ As, kVN v := fun v h => hv v (List.mem_append_left _ (List.mem_reverse.mpr h))
  have hvS : ∀ v ∈ S, kVN v := fun v h => hv v (List.mem_append_right _ h)
  have hpre : PreS s H (kPc E As G d) (As.map (toV E.2.2.2)) := ⟨kPc_blind, fun U hU hW => ⟨rfl, by rw [hU]; exact hH, hK.moved hW, hvA⟩⟩
  have hrun := W.runS (cc := mi.2.1) (nL := mi.2.2.1) (Ts := gT) (own := mi.1.cls) (e := e) (below := below) (meth := meth) (locs := locs) (cells := cells) (slots := slots) (g := F0 m pc ls ((As.reverse ++ S).map (toV E.2.2.2))) (rest := S.map (toV E.2.2.2)) ⟨hx, hb, hml, hfcls, hts⟩ K ⟨kB_of (mc := mc) (ms := ms) hts mb, hts _ hstt⟩ hpre rfl (by simp [hn]) (by rw [← hnL]; exact hL.1) (by simp) (by show 2 * 0 + _ ≤ 8; rw [kCat_ok]; omega) hd ⟨by show cells + bc' ≤ mc; omega, by show slots + bs' ≤ ms; omega⟩
  exact kAfter hrun C hS hB hL hnL hvS h1 h2 hbc hbs
theorem A_ini {idx n bc' bs' b : Nat} (As : List AV) (hd : decode mi.2.1 pc = .ok (.invokespecial idx, 3)) (ml : kMC mi.1.cls idx n mj) (hst : St = As.reverse ++ kR b :: S) (hn : As.length = n) (hcat : (S.map kCat).sum ≤ 8) (hbc : bc' ≤ bc) (hbs : bs' ≤ bs) (ho : 1 ≤ b)
    (K : AM E mj k bc' bs' (kR b :: As) G d (fun r G' d' => AW E mi (k + 1) (bc - bc') (bs - bs') (pc + 3) L (kPush r S) G' d' Q)) : AW E mi (k + 1) bc bs pc L St G d Q := by
  intro p e s m args below meth c H locs cells slots mc ms ls C hH hS hB hL hnL hv h1 h2
  obtain ⟨mb, hin, hini, hno⟩ := ml
  obtain ⟨hx, hb, hr, hml, hfcls, hts, hlk, hnam, hK⟩ := id C
  subst hst
  have hvA : ∀ v ∈ kR b :: As, kVN v := kv1 trivial (fun v h => hv v (List.mem_append_left _ (List.mem_reverse.mpr h)))
  have hvS : ∀ v ∈ S, kVN v := fun v h => hv v (List.mem_append_right _ (List.mem_cons_of_mem _ h))
  have hpre : PreS s H (kPc E (kR b :: As) G d) (.ref (E.2.2.2 + b) :: As.map (toV E.2.2.2)) := ⟨kPc_blind, fun U hU hW => ⟨by rw [List.map_cons, toV_r ho], by rw [hU]; exact hH, hK.moved hW, hvA⟩⟩
  have hcb := kB_of (k := k) (bc' := bc') (bs' := bs') (mc := mc) (ms := ms) hts mb
  rw [hno] at hcb
  have hrun := W.runI (cc := mi.2.1) (nL := mi.2.2.1) (Ts := gT) (own := mi.1.cls) (e := e) (below := below) (meth := meth) (locs := locs) (cells := cells) (slots := slots) (g := F0 m pc ls ((As.reverse ++ kR b :: S).map (toV E.2.2.2))) (rest := S.map (toV E.2.2.2)) ⟨hx, hb, hml, hfcls, hts⟩ K ⟨hcb, hini, hts _ hin⟩ hpre rfl (by simp [hn]) (by rw [← hnL]; exact hL.1) (by simp [toV_r ho]) (by show 2 * 0 + _ ≤ 8; rw [kCat_ok]; omega) hd ⟨by show cells + bc' ≤ mc; omega, by show slots + bs' ≤ ms; omega⟩
  exact kAfter hrun C hS hB hL hnL hvS h1 h2 hbc hbs
theorem A_inN {idx n bc' bs' b : Nat} (As : List AV) (hd : decode mi.2.1 pc = .ok (.invokespecial idx, 3)) (ml : kMN mi.1.cls idx n mj) (hst : St = As.reverse ++ kR b :: S) (hn : As.length = n) (hcat : (S.map kCat).sum ≤ 8) (hbc : bc' ≤ bc) (hbs : bs' ≤ bs) (ho : 1 ≤ b)
    (K : AM E mj k bc' bs' (kR b :: As) G d (fun r G' d' => AW E mi (k + 1) (bc - bc') (bs - bs') (pc + 3) L (kPush r S) G' d' Q)) : AW E mi (k + 1) bc bs pc L St G d Q := by
  intro p e s m args below meth c H locs cells slots mc ms ls C hH hS hB hL hnL hv h1 h2
  obtain ⟨hnw, g2, g3, g4, g5, hin, hini, hno⟩ := ml
  obtain ⟨hx, hb, hr, hml, hfcls, hts, hlk, hnam, hK⟩ := id C
  subst hst
  have hvA : ∀ v ∈ kR b :: As, kVN v := kv1 trivial (fun v h => hv v (List.mem_append_left _ (List.mem_reverse.mpr h)))
  have hvS : ∀ v ∈ S, kVN v := fun v h => hv v (List.mem_append_right _ (List.mem_cons_of_mem _ h))
  have hpre : PreS s H (kPc E (kR b :: As) G d) (.ref (E.2.2.2 + b) :: As.map (toV E.2.2.2)) := ⟨kPc_blind, fun U hU hW => ⟨by rw [List.map_cons, toV_r ho], by rw [hU]; exact hH, hK.moved hW, hvA⟩⟩
  have hcb : va_CN (kRm (k + 1) mc ms) s args mi.1.cls idx mj.1 "KnotRing" mj.2.1 mj.2.2.1 mj.2.2.2 (kWS mj) (kRm k bc' bs') bc' bs' n := va_cnB n hts (kWS_good g3) rfl rfl rfl (hK.2.1.2 _ hnw) (hts _ g2) g4 ⟨Nat.le_refl _, by show 8 + (mj.2.2.1 + 11) + 60 * k ≤ 60 * (k + 1); omega⟩
  rw [hno] at hcb
  have hrun := va_runIN (cc := mi.2.1) (nL := mi.2.2.1) (Ts := gT) (own := mi.1.cls) (e := e) (below := below) (meth := meth) (locs := locs) (cells := cells) (slots := slots) (g := F0 m pc ls ((As.reverse ++ kR b :: S).map (toV E.2.2.2))) (rest := S.map (toV E.2.2.2)) ⟨hx, hb, hml, hfcls, hts⟩ K ⟨hcb, hini, hts _ hin⟩ hpre rfl (by simp [hn]) (by rw [← hnL]; exact hL.1) (by simp [toV_r ho]) (by show 2 * 0 + _ ≤ 8; rw [kCat_ok]; omega) hd ⟨by show cells + bc' ≤ mc; omega, by show slots + bs' ≤ ms; omega⟩
  exact kAfter hrun.run C hS hB hL hnL hvS h1 h2 hbc hbs
theorem A_obj {idx b : Nat} (hd : decode mi.2.1 pc = .ok (.invokespecial idx, 3)) (hw1 : Cond.methodLink mi.1.cls idx Lib.objectInit ∈ gT) (hw2 : Cond.instanceMethod Lib.objectInit ∈ gT) (hw3 : Cond.code Lib.objectInit ⟨#[0xb1]⟩ 1 none ∈ gT) (hcat : (S.map kCat).sum ≤ 8) (ho : 1 ≤ b) (K : AW E mi (k + 1) bc bs (pc + 3) L S G d Q) : AW E mi (k + 1) bc bs pc L (kR b :: S) G d Q := by
  intro p e s m args below meth c H locs cells slots mc ms ls C hH hS hB hL hnL hv h1 h2
  obtain ⟨hx, hb, hr, hml, hfcls, hts, hlk, hnam, hK⟩ := id C
  refine W.objInit hx hb hfcls (hts _ hw1) (hts _ hw2) (hts _ hw3) rfl (by rw [hml, ← hnL]; exact hL.1) (a := E.2.2.2 + b) (rest := S.map (toV E.2.2.2)) (by simp [toV_r ho]) hd (by show 1 ≤ k + 1; omega) (by show 2 * 0 + _ + 12 ≤ 60 * (k + 1); rw [kCat_ok]; omega) ?_
  exact K p e s m args below meth c H locs cells slots mc ms ls C hH hS hB hL hnL (kvt hv) h1 h2
theorem A_max {x y : Int} {idx : Nat} (hd : decode mi.2.1 pc = .ok (.invokestatic idx, 3)) (hw1 : Cond.methodLink mi.1.cls idx Lib.Math.max.name ∈ gT) (hw2 : Cond.static Lib.Math.max.name ∈ gT) (hw3 : Cond.initialized "java/lang/Math" ∈ gT) (hw4 : Cond.code Lib.Math.max.name Lib.Math.max.code 2 (some .int) ∈ gT) (hcat : (S.map kCat).sum ≤ 8) (K : AW E mi (k + 1) bc bs (pc + 3) L (kI (max x y) :: S) G d Q) : AW E mi (k + 1) bc bs pc L (kI y :: kI x :: S) G d Q := by
  intro p e s m args below meth c H locs cells slots mc ms ls C hH hS hB hL hnL hv h1 h2
  obtain ⟨hx, hb, hr, hml, hfcls, hts, hlk, hnam, hK⟩ := id C
  have hy' : kN y := kvh hv
  have hx' : kN x := kvh (kvt hv)
  have hm : kVN (kI (max x y)) := by show kN (max x y); rcases Int.le_total x y with h | h; (rw [Int.max_eq_right h]; exact hy'); (rw [Int.max_eq_left h]; exact hx')
  have K' := K p e s m args below meth c H locs cells slots mc ms ls C hH hS hB hL hnL (kv1 hm (kvt (kvt hv))) h1 h2
  refine va_mmax hx hb (by rw [hml, ← hnL]; exact hL.1.symm) hfcls (hts _ hw1) (hts _ hw2) (hts _ hw3) (hts _ hw4) (by show 1 ≤ k + 1; omega) (by show _ + 13 ≤ 60 * (k + 1); rw [kCat_ok]; omega) (by show cells ≤ mc; omega) (by show slots ≤ ms; omega) hd ?_
  have ev : (if Int32.ofInt x < Int32.ofInt y then Int32.ofInt y else Int32.ofInt x) = Int32.ofInt (max x y) := by
    rcases Int.lt_or_le x y with h | h
    · rw [if_pos ((kT_lt hx' hy').mpr h), Int.max_eq_right (by omega)]
    · rw [if_neg (fun q => by have := (kT_lt hx' hy').mp q; omega), Int.max_eq_left h]
  rw [ev]
  exact K'
theorem A_min {x y : Int} {idx : Nat} (hd : decode mi.2.1 pc = .ok (.invokestatic idx, 3)) (hw1 : Cond.methodLink mi.1.cls idx Lib.Math.min.name ∈ gT) (hw2 : Cond.static Lib.Math.min.name ∈ gT) (hw3 : Cond.initialized "java/lang/Math" ∈ gT) (hw4 : Cond.code Lib.Math.min.name Lib.Math.min.code 2 (some .int) ∈ gT) (hcat : (S.map kCat).sum ≤ 8) (K : AW E mi (k + 1) bc bs (pc + 3) L (kI (min x y) :: S) G d Q) : AW E mi (k + 1) bc bs pc L (kI y :: kI x :: S) G d Q := by
  intro p e s m args below meth c H locs cells slots mc ms ls C hH hS hB hL hnL hv h1 h2
  obtain ⟨hx, hb, hr, hml, hfcls, hts, hlk, hnam, hK⟩ := id C
  have hy' : kN y := kvh hv
  have hx' : kN x := kvh (kvt hv)
  have hm : kVN (kI (min x y)) := by show kN (min x y); rcases Int.le_total x y with h | h; (rw [Int.min_eq_left h]; exact hx'); (rw [Int.min_eq_right h]; exact hy')
  have K' := K p e s m args below meth c H locs cells slots mc ms ls C hH hS hB hL hnL (kv1 hm (kvt (kvt hv))) h1 h2
  refine va_mmin hx hb (by rw [hml, ← hnL]; exact hL.1.symm) hfcls (hts _ hw1) (hts _ hw2) (hts _ hw3) (hts _ hw4) (by show 1 ≤ k + 1; omega) (by show _ + 13 ≤ 60 * (k + 1); rw [kCat_ok]; omega) (by show cells ≤ mc; omega) (by show slots ≤ ms; omega) hd ?_
  have ev : (if Int32.ofInt y < Int32.ofInt x then Int32.ofInt y else Int32.ofInt x) = Int32.ofInt (min x y) := by
    rcases Int.lt_or_le y x with h | h
    · rw [if_pos ((kT_lt hy' hx').mpr h), Int.min_eq_right (by omega)]
    · rw [if_neg (fun q => by have := (kT_lt hy' hx').mp q; omega), Int.min_eq_left h]
  rw [ev]
  exact K'
def kCpy (d : HD) (a b : Nat) (sp dp n : Int) : HD := fun c j => if c = b ∧ dp ≤ j ∧ j < dp + n then d a (sp + (j - dp)) else d c j
theorem A_acp {a b n0 n1 idx : Nat} {sp dp n : Int} (hd : decode mi.2.1 pc = .ok (.invokestatic idx, 3)) (hw1 : Cond.methodLink mi.1.cls idx arraycopyName ∈ gT) (hw2 : Cond.native arraycopyName ∈ gT) (hw3 : Cond.static arraycopyName ∈ gT) (hw4 : Cond.initialized "java/lang/System" ∈ gT) (hcat : (S.map kCat).sum ≤ 8)
    (ha : isA G a 8 n0) (hb' : isA G b 8 n1) (hs0 : 0 ≤ sp) (hd0 : 0 ≤ dp) (hn0 : 0 ≤ n) (hsn : sp + n ≤ n0) (hdn : dp + n ≤ n1) (K : AW E mi (k + 1) bc bs (pc + 3) L S G (kCpy d a b sp dp n) Q) : AW E mi (k + 1) bc bs pc L (kI n :: kI dp :: kR b :: kI sp :: kR a :: S) G d Q := by
  intro p e s m args below meth c H locs cells slots mc ms ls C hH hS hB hL hnL hv h1 h2
  obtain ⟨hx, hb, hr, hml, hfcls, hts, hlk, hnam, hK⟩ := id C
  have gn : kN n := kvh hv
  have gd : kN dp := kvh (kvt hv)
  have gs : kN sp := kvh (kvt (kvt (kvt hv)))
  have hPa := kAtI hH ha (Or.inl rfl)
  have hPb := kAtI hH hb' (Or.inl rfl)
  rw [List.map_cons, List.map_cons, List.map_cons, List.map_cons, List.map_cons, toV_r ha.1, toV_r hb'.1]
  have nneg : ∀ {z : Int}, kN z → 0 ≤ z → ¬ Int32.ofInt z < 0 := fun {z} g1 g2 q => by
    have : Int32.ofInt z < Int32.ofInt 0 := q
    rw [kT_lt g1 ⟨by omega, by omega⟩] at this
    omega
  intro T hT X
  have hc0 : H[E.2.2.2 + a]? = some (arrV (E.2.2.1 8) n0 (fun j => .int (Int32.ofInt (d a j)))) := hPa 0 _ rfl
  have hc1 : H[E.2.2.2 + b]? = some (arrV (E.2.2.1 8) n1 (fun j => .int (Int32.ofInt (d b j)))) := hPb 0 _ rfl
  obtain ⟨-, k0, hk0, cm0, hkk0⟩ := (hK.1.2 0 _ rfl).1 n0 (fun j => .int (Int32.ofInt (d a j)))
  obtain ⟨vm', X', step⟩ := X.arraycopy hx hfcls (hts _ hw1) (hts _ hw2) (hts _ hw3) (hts _ hw4) (src := E.2.2.2 + a) (dst := E.2.2.2 + b) (cs := arrV (E.2.2.1 8) n0 (fun j => .int (Int32.ofInt (d a j)))) (cd := arrV (E.2.2.1 8) n1 (fun j => .int (Int32.ofInt (d b j)))) (srcPos := Int32.ofInt sp) (destPos := Int32.ofInt dp) (n := Int32.ofInt n) (by rw [hT]; exact hc0) (by rw [hT]; exact hc1)
    (fun _ h => by cases h) (fun _ h => by cases h) (fun h => by cases h) (fun h => by cases h) hk0 hk0 hkk0 hkk0 rfl (nneg gs hs0) (nneg gd hd0) (nneg gn hn0)
    (by rw [kT gs, kT gn, arrV_size]; omega) (by rw [kT gd, kT gn, arrV_size]; omega)
    (fun vm₁ _ i hi => by
      rw [kT_cl gn] at hi
      have ev : (arrV (E.2.2.1 8) n0 (fun j => .int (Int32.ofInt (d a j)))).slots.getD ((Int32.ofInt sp).toNatClampNeg + i) .null = .int (Int32.ofInt (d a ((Int32.ofInt sp).toNatClampNeg + i))) := by
        rw [Array.getD_eq_getD_getElem?, arrV_read _ _ (by rw [kT_cl gs]; omega)]
        rfl
      rw [ev]
      exact ⟨rfl, trivial⟩)
    (g := F0 m pc ls (.int (Int32.ofInt n) :: .int (Int32.ofInt dp) :: .ref (E.2.2.2 + b) :: .int (Int32.ofInt sp) :: .ref (E.2.2.2 + a) :: S.map (toV E.2.2.2))) rfl (by rw [hml, ← hnL]; exact hL.1) (rest := S.map (toV E.2.2.2)) rfl (by rw [hb]; exact hd) (by show 1 ≤ k + 1; omega) (by
      have e5 : nativeFrameWords "java/lang/System" "arraycopy" 5 + 11 ≤ 52 := by decide +kernel
      show 2 * 0 + _ + _ ≤ 60 * (k + 1)
      rw [kCat_ok]
      omega)
  have e1 : copied (arrV (E.2.2.1 8) n0 (fun j => .int (Int32.ofInt (d a j)))) (arrV (E.2.2.1 8) n1 (fun j => .int (Int32.ofInt (d b j)))) (Int32.ofInt sp) (Int32.ofInt dp) (Int32.ofInt n) = arrV (E.2.2.1 8) n1 (fun j => .int (va_cpy (fun j => Int32.ofInt (d a j)) (fun j => Int32.ofInt (d b j)) (Int32.ofInt sp).toNatClampNeg (Int32.ofInt dp).toNatClampNeg (Int32.ofInt n).toNatClampNeg j)) :=
    va_copied (fun z : Int32 => Value.int z) (E.2.2.1 8) (E.2.2.1 8) (fun j => Int32.ofInt (d a j)) (fun j => Int32.ofInt (d b j)) (by rw [kT_cl gs, kT_cl gn]; omega)
  rw [e1, kT_cl gs, kT_cl gd, kT_cl gn] at X' step
  have hlt : E.2.2.2 + b < H.size := (Array.getElem?_eq_some_iff.mp hc1).1
  generalize hcell : arrV (E.2.2.1 8) n1 (fun j => .int (va_cpy (fun j => Int32.ofInt (d a j)) (fun j => Int32.ofInt (d b j)) sp.toNat dp.toNat n.toNat j)) = cellN at X' step
  have oq : ∀ q : Nat, q ≠ E.2.2.2 + b → (H.setIfInBounds (E.2.2.2 + b) cellN)[q]? = H[q]? := fun q hq => by simp [Array.getElem?_setIfInBounds, Ne.symm hq]
  have hkH : kH E G (kCpy d a b sp dp n) (H.setIfInBounds (E.2.2.2 + b) cellN) := by
    refine hH.set (a := b) rfl (fun z h => ⟨rfl, rfl, by funext j; simp [kCpy, h]⟩) ?_ (by simp) oq (fun i => ?_)
    · rw [kCellI hb'.2.2.1 (Or.inl rfl)]
      show (H.setIfInBounds _ _)[_]? = some (vp_cell _ _)
      rw [vp_cell_i, ← hcell]
      simp only [Array.getElem?_setIfInBounds, hlt, if_true]
      congr 3
      funext j
      have hcd : (dp ≤ (j : Int) ∧ (j : Int) < dp + n) ↔ (dp.toNat ≤ j ∧ j < dp.toNat + n.toNat) := by omega
      simp only [va_cpy, kCpy, true_and]
      by_cases h : dp.toNat ≤ j ∧ j < dp.toNat + n.toNat
      · rw [if_pos h, if_pos (hcd.mpr h), show sp + ((j : Int) - dp) = ((sp.toNat + (j - dp.toNat) : Nat) : Int) by omega]
      · rw [if_neg h, if_neg (fun q => h (hcd.mp q))]
    · unfold kCpy
      split <;> exact hH.2.2 _ _
  have hS' : va_S (kA E.2.2.2) s.heap (H.setIfInBounds (E.2.2.2 + b) cellN) (locs ++ ((arrV (E.2.2.1 8) n0 (fun j => .int (Int32.ofInt (d a j)))).stretch sp.toNat n.toNat).zipIdx.map fun q => ⟨E.2.2.2 + b, dp.toNat + q.2⟩) := by
    refine ⟨by simp; exact hS.1, fun q g1 g2 => ?_, fun q hq => ?_⟩
    · rw [oq q (fun e' => g2 (by rw [e']; unfold kA; have := hb'.1; omega))]
      exact hS.2.1 q g1 g2
    · rcases List.mem_append.mp hq with h | h
      · exact hS.2.2 q h
      · obtain ⟨z, -, hz⟩ := List.mem_map.mp h
        rw [← hz]
        show E.2.2.2 + 1 ≤ E.2.2.2 + b
        have := hb'.1
        omega
  obtain ⟨t, a1, b1⟩ := K p e s m args below meth c _ _ cells slots mc ms ls C hkH hS' hB hL hnL (kvt (kvt (kvt (kvt (kvt hv))))) h1 h2 ((T.setVm vm').setCell (E.2.2.2 + b) cellN) (by rw [← hT]; rfl) X'
  exact ⟨t, step t a1, b1⟩
def kClo (G : HG) (d : HD) (a : Nat) : HD := fun c j => if c = G.1 + 1 then d a j else d c j
theorem A_cln {a n idx : Nat} (hd : decode mi.2.1 pc = .ok (.invokevirtual idx, 3)) (hw1 : Cond.methodLink mi.1.cls idx ⟨"[I", "clone", "()Ljava/lang/Object;"⟩ ∈ gT) (hw2 : Cond.sameMethod "[I" "java/lang/Object" "clone" "()Ljava/lang/Object;" ∈ gT) (hw3 : Cond.native ⟨"java/lang/Object", "clone", "()Ljava/lang/Object;"⟩ ∈ gT) (hw4 : Cond.instanceMethod ⟨"java/lang/Object", "clone", "()Ljava/lang/Object;"⟩ ∈ gT) (hw5 : Cond.selects "[I" ⟨"[I", "clone", "()Ljava/lang/Object;"⟩ ⟨"java/lang/Object", "clone", "()Ljava/lang/Object;"⟩ ∈ gT) (hcat : (S.map kCat).sum ≤ 8) (hbc : 1 ≤ bc) (hbs : n ≤ bs)
    (ha : isA G a 8 n) (K : AW E mi (k + 1) (bc - 1) (bs - n) (pc + 3) L (kR (G.1 + 1) :: S) (kNew G 8 n) (kClo G d a) Q) : AW E mi (k + 1) bc bs pc L (kR a :: S) G d Q := by
  intro p e s m args below meth c H locs cells slots mc ms ls C hH hS hB hL hnL hv h1 h2
  obtain ⟨hx, hb, hr, hml, hfcls, hts, hlk, hnam, hK⟩ := id C
  have hPa := kAtI hH ha (Or.inl rfl)
  rw [List.map_cons, toV_r ha.1]
  have hnm : s.vm.findClass "[I" = some (E.2.2.1 8) := (hK.1.2 0 _ rfl).2
  obtain ⟨c0, t0', f1, f2, f3⟩ := Cond.castable_spec (va_Nw.use (A := args) rfl hK.2.2.2)
  cases hnm.symm.trans f1
  have hc0 : H[E.2.2.2 + a]? = some (arrV (E.2.2.1 8) n (fun j => .int (Int32.ofInt (d a j)))) := hPa 0 _ rfl
  intro T hT X
  obtain ⟨-, kS, hkS, compS, hkindS⟩ := (hK.1.2 0 _ rfl).1 0 (fun _ => .null)
  obtain ⟨-, kB, hkB, comp, hkind⟩ := State.isArrayOf_alike X.warmed.alike ((hK.1.2 0 _ rfl).1 0 (fun _ => .null))
  obtain ⟨vm', X', st⟩ := X.cloneArray hx hfcls (hts _ hw1) (hts _ hw2) (hts _ hw3) (hts _ hw4) (hts _ hw5) (a := E.2.2.2 + a) (cell := arrV (E.2.2.1 8) n (fun j => .int (Int32.ofInt (d a j)))) (by rw [hT]; exact hc0) (fun k h => by cases h) (fun h => by cases h) hnm f2 f3
    (fun i v hvv => by
      have hk' : T.vm.classes[(E.2.2.1 8)]? = some kB := hkB
      have hlt : i < n := by
        have := (Array.getElem?_eq_some_iff.mp hvv).1
        rw [arrV_size] at this
        exact this
      rw [arrV_read _ _ hlt] at hvv
      cases hvv
      show State.fitsSlot T (E.2.2.1 8) _ _ _ = true
      simp [State.fitsSlot, State.slotType?, hk', hkind, fits])
    (g := F0 m pc ls (.ref (E.2.2.2 + a) :: S.map (toV E.2.2.2))) rfl (by rw [hml, ← hnL]; exact hL.1) rfl (by rw [hb]; exact hd) (by show 1 ≤ k + 1; omega) (by show 2 * 0 + _ + 14 ≤ 60 * (k + 1); rw [kCat_ok]; omega) (by show cells + 1 ≤ mc; omega) (by rw [arrV_size]; show slots + n ≤ ms; omega) (hloader := Vm.clonesLoader_of_array hkS hkindS)
  have hcellE : ({ cls := (arrV (E.2.2.1 8) n (fun j => .int (Int32.ofInt (d a j)))).cls, slots := (arrV (E.2.2.1 8) n (fun j => .int (Int32.ofInt (d a j)))).slots } : Cell) = arrV (E.2.2.1 8) n (fun j => .int (Int32.ofInt (d a j))) := rfl
  rw [hcellE, arrV_size] at X'
  generalize hH1 : H.push (arrV (E.2.2.1 8) n (fun j => .int (Int32.ofInt (d a j)))) = H1
  have z1 : H1.size = H.size + 1 := by rw [← hH1, Array.size_push]
  have e1 : H1[H.size]? = some (arrV (E.2.2.1 8) n (fun j => .int (Int32.ofInt (d a j)))) := by rw [← hH1, Array.getElem?_push_size]
  have o1 : ∀ q : Nat, q < H.size → H1[q]? = H[q]? := fun q hq => by rw [← hH1, Array.getElem?_push, if_neg (Nat.ne_of_lt hq)]
  have ea : H.size = E.2.2.2 + (G.1 + 1) := by rw [hH.2.1]; omega
  have hkH : kH E (kNew G 8 n) (kClo G d a) H1 := by
    refine ⟨fun b g1 g2 => ?_, by rw [z1, hH.2.1]; show _ = E.2.2.2 + 1 + (G.1 + 1); omega, fun b i => ?_⟩
    · have g2 : b ≤ G.1 + 1 := g2
      by_cases h : b = G.1 + 1
      · subst h
        rw [kCellI (ka := 8) (n := n) (show (kNew G 8 n).2.1 (G.1 + 1) = (8, n) by simp [kNew]) (Or.inl rfl)]
        show H1[_]? = some (vp_cell _ _)
        rw [← ea, e1, vp_cell_i]
        simp [kClo]
      · have e2 : (kNew G 8 n).2.1 b = G.2.1 b := by simp [kNew, h]
        have e3 : (kNew G 8 n).2.2 b = G.2.2 b := by funext i; simp [kNew, h]
        have e4 : kClo G d a b = d b := by funext i; simp [kClo, h]
        rw [e2, e3, e4]
        exact (hH.1 b g1 (by omega)).kept (o1 _ (by show E.2.2.2 + b < _; rw [hH.2.1]; omega))
    · unfold kClo
      split <;> exact hH.2.2 _ _
  have K' := K p e s m args below meth c H1 locs (cells + 1) (slots + n) mc ms ls C hkH (kS_push hS z1 o1) hB hL hnL (kv1 (v := kR (G.1 + 1)) trivial (kvt hv)) (by omega) (by omega)
  obtain ⟨t, b1, b2⟩ := K' ((T.setVm vm').pushCell (arrV (E.2.2.1 8) n (fun j => .int (Int32.ofInt (d a j))))) (by rw [← hH1, ← hT]; rfl) X'
  refine ⟨t, st t ?_, b2⟩
  rw [hcellE, hT, ea]
  rw [List.map_cons, toV_r (by omega)] at b1
  exact b1
theorem A_cast {a n idx : Nat} (hd : decode mi.2.1 pc = .ok (.checkcast idx, 3)) (hw1 : Cond.classLink mi.1.cls idx "[I" ∈ gT) (ha : isA G a 8 n) (K : AW E mi k bc bs (pc + 3) L (kR a :: S) G d Q) : AW E mi k bc bs pc L (kR a :: S) G d Q := by
  intro p e s m args below meth c H locs cells slots mc ms ls C hH hS hB hL hnL hv h1 h2
  obtain ⟨hx, hb, hr, hml, hfcls, hts, hlk, hnam, hK⟩ := id C
  have hPa := kAtI hH ha (Or.inl rfl)
  have K' := K p e s m args below meth c H locs cells slots mc ms ls C hH hS hB hL hnL hv h1 h2
  rw [List.map_cons, toV_r ha.1] at K' ⊢
  exact va_castA hx hb hfcls (hts _ hw1) hPa 0 rfl (hK.1.2 0 _ rfl).2 hd K'
/-! switches -/
theorem A_tsO {dflt lo hi x : Int} {offs : Array Int} {len tgt : Nat} (hd : decode mi.2.1 pc = .ok (.tableswitch dflt lo hi offs, len)) (ht : (pc : Int) + dflt = (tgt : Int)) (h : x < lo ∨ hi < x) (K : AW E mi k bc bs tgt L S G d Q) : AW E mi k bc bs pc L (kI x :: S) G d Q := by
  intro p e s m args below meth c H locs cells slots mc ms ls C hH hS hB hL hnL hv h1 h2
  exact lv_tableOut C.1 C.2.1 hd (by rw [kT (kvh hv)]; exact h) ht (K p e s m args below meth c H locs cells slots mc ms ls C hH hS hB hL hnL (kvt hv) h1 h2)
theorem A_tsI {dflt lo hi x off : Int} {offs : Array Int} {len tgt : Nat} (hd : decode mi.2.1 pc = .ok (.tableswitch dflt lo hi offs, len)) (hl : lo ≤ x) (hh : x ≤ hi) (ho : offs[(x - lo).toNat]? = some off) (ht : (pc : Int) + off = (tgt : Int)) (K : AW E mi k bc bs tgt L S G d Q) : AW E mi k bc bs pc L (kI x :: S) G d Q := by
  intro p e s m args below meth c H locs cells slots mc ms ls C hH hS hB hL hnL hv h1 h2
  exact lv_tableIn C.1 C.2.1 hd (by rw [kT (kvh hv)]; omega) (by rw [kT (kvh hv)]; omega) (by rw [kT (kvh hv)]; exact ho) ht (K p e s m args below meth c H locs cells slots mc ms ls C hH hS hB hL hnL (kvt hv) h1 h2)
theorem A_lsw {dflt x off : Int} {ps : Array (Int × Int)} {len tgt : Nat} (hd : decode mi.2.1 pc = .ok (.lookupswitch dflt ps, len)) (hp : (ps.toList.zip (ps.toList.drop 1)).all (fun (a, next) => a.1 < next.1) = true) (ho : Op.lookupswitch.offset ps.toList dflt x = off) (ht : (pc : Int) + off = (tgt : Int)) (K : AW E mi k bc bs tgt L S G d Q) : AW E mi k bc bs pc L (kI x :: S) G d Q := by
  intro p e s m args below meth c H locs cells slots mc ms ls C hH hS hB hL hnL hv h1 h2
  exact lv_lookup C.1 C.2.1 hd hp (by rw [kT (kvh hv)]; exact ho) ht (K p e s m args below meth c H locs cells slots mc ms ls C hH hS hB hL hnL (kvt hv) h1 h2)
end CA
