/-! making cells -/
section MK1
variable {G : HG} {d : HD}
theorem nw_O {a k ka n : Nat} (h : isO G a k) : isO (kNew G ka n) a k := by
  obtain ⟨h1, h2, h3⟩ := h
  refine ⟨h1, Nat.le_succ_of_le h2, ?_⟩
  show (if a = G.1 + 1 then (ka, n) else G.2.1 a).1 = k
  rw [if_neg (by omega)]; exact h3
theorem nw_A {a k m ka n : Nat} (h : isA G a k m) : isA (kNew G ka n) a k m := by
  obtain ⟨h1, h2, h3, h4⟩ := h
  refine ⟨h1, Nat.le_succ_of_le h2, ?_, h4⟩
  show (if a = G.1 + 1 then (ka, n) else G.2.1 a) = (k, m)
  rw [if_neg (by omega)]; exact h3
theorem nw_nO {ka : Nat} : isO (kNew G ka 0) (G.1 + 1) ka := ⟨by omega, Nat.le_refl _, by show (if G.1 + 1 = G.1 + 1 then (ka, 0) else _).1 = ka; rw [if_pos rfl]⟩
theorem nw_nA {ka n : Nat} (h : n ≤ 1000000) : isA (kNew G ka n) (G.1 + 1) ka n := ⟨by omega, Nat.le_refl _, by show (if G.1 + 1 = G.1 + 1 then (ka, n) else _) = (ka, n); rw [if_pos rfl], h⟩
theorem nw_s {a ka n : Nat} (h : a ≠ G.1 + 1) : (kNew G ka n).2.1 a = G.2.1 a := by
  show (if a = G.1 + 1 then (ka, n) else G.2.1 a) = _
  rw [if_neg h]
theorem nw_r {a ka n : Nat} (h : a ≠ G.1 + 1) : (kNew G ka n).2.2 a = G.2.2 a := by
  funext i
  show (if a = G.1 + 1 then 0 else G.2.2 a i) = _
  rw [if_neg h]
theorem nw_d {a : Nat} (h : a ≠ G.1 + 1) : kNewD G d a = d a := by
  funext i
  show (if a = G.1 + 1 then 0 else d a i) = _
  rw [if_neg h]
theorem nw_0 {i : Int} : kNewD G d (G.1 + 1) i = 0 := by
  show (if G.1 + 1 = G.1 + 1 then 0 else d (G.1 + 1) i) = 0
  rw [if_pos rfl]
theorem ur_s {a b r : Nat} {i : Int} : (kUR G a i r).2.1 b = G.2.1 b := rfl
theorem ur_r {a b r : Nat} {i : Int} (h : b ≠ a) : (kUR G a i r).2.2 b = G.2.2 b := by
  funext j
  show (if b = a ∧ j = i then r else G.2.2 b j) = _
  rw [if_neg (fun z => h z.1)]
theorem ur_f {a r : Nat} {i j : Int} (h : j ≠ i) : (kUR G a i r).2.2 a j = G.2.2 a j := by
  show (if a = a ∧ j = i then r else G.2.2 a j) = _
  rw [if_neg (fun z => h z.2)]
theorem ur_e {a r : Nat} {i : Int} : (kUR G a i r).2.2 a i = r := by
  show (if a = a ∧ i = i then r else G.2.2 a i) = _
  rw [if_pos ⟨rfl, rfl⟩]
end MK1
section MK2
variable {E : EE} {k : Nat} {G : HG} {d : HD} {K : PQ}
theorem C_copyOf {a n0 : Nat} {x : Int} (ha : isA G a 8 n0) (hx0 : 0 ≤ x) (hx : x ≤ n0) (hK : ∀ d', (∀ b, b ≤ G.1 → d' b = d b) → (∀ j, 0 ≤ j → j < x → d' (G.1 + 1) j = d a j) → K (some (kR (G.1 + 1))) (kNew G 8 x.toNat) d') : AM E mJ7_copyOf_59c91 (k + 1) 1 x.toNat [kR a, kI x] G d K := by
  have n6 := ha.2.2.2
  have h1 := ha.1
  have h2 := ha.2.1
  refine AM.of rfl (Nat.le_of_ble_eq_true rfl) ?_
  refine A_iload_n dJ7_copyOf_59c91_0 rfl rfl ?_
  refine A_aload_n dJ7_copyOf_59c91_1 rfl rfl ?_
  refine A_alen (t := 0) dJ7_copyOf_59c91_2 (fun _ => rfl) (Or.inl rfl) (by assumption) ?_
  refine A_icmp_ne (tgt := 14) dJ7_copyOf_59c91_3 (by decide) (fun c_3 => ?_) (fun c_3 => ?_)
  · have na : isA (kNew G 8 x.toNat) a 8 n0 := nw_A ha
    have nb' : isA (kNew G 8 x.toNat) (G.1 + 1) 8 x.toNat := nw_nA (by omega)
    refine A_iload_n dJ7_copyOf_59c91_14 rfl rfl ?_
    refine A_newa (ka := 8) (t := 0) dJ7_copyOf_59c91_15 rfl ac_int (fun _ => rfl) (Or.inl ⟨rfl, rfl⟩) (by omega) (by omega) (by omega) (by omega) ?_
    refine A_astore_n dJ7_copyOf_59c91_17 rfl (Nat.le_of_ble_eq_true rfl) rfl (by omega) ?_
    refine A_aload_n dJ7_copyOf_59c91_18 rfl rfl ?_
    refine A_iconst dJ7_copyOf_59c91_19 ⟨by decide, by decide⟩ ?_
    refine A_aload_n dJ7_copyOf_59c91_20 rfl rfl ?_
    refine A_iconst dJ7_copyOf_59c91_21 ⟨by decide, by decide⟩ ?_
    refine A_aload_n dJ7_copyOf_59c91_22 rfl rfl ?_
    refine A_alen (t := 0) dJ7_copyOf_59c91_23 (fun _ => rfl) (Or.inl rfl) (by assumption) ?_
    refine A_iload_n dJ7_copyOf_59c91_24 rfl rfl ?_
    refine A_min dJ7_copyOf_59c91_25 lk_J7_304 ow_mins it_J9 ow_minc (Nat.le_of_ble_eq_true rfl) ?_
    rw [show min (n0 : Int) x = x by omega]
    refine A_acp dJ7_copyOf_59c91_28 lk_J7_150 ow_acn ow_acs it_J10 (Nat.le_of_ble_eq_true rfl) na nb' (by omega) (by omega) (by omega) (by omega) (by omega) ?_
    refine A_aload_n dJ7_copyOf_59c91_31 rfl rfl ?_
    refine A_aret dJ7_copyOf_59c91_32 rfl (by omega) ?_
    refine hK _ (fun b hb => ?_) (fun j j1 j2 => ?_)
    · funext j
      show (if b = G.1 + 1 ∧ 0 ≤ j ∧ j < 0 + x then _ else kNewD G d b j) = _
      rw [if_neg (by omega), nw_d (by omega)]
    · show (if G.1 + 1 = G.1 + 1 ∧ 0 ≤ j ∧ j < 0 + x then kNewD G d a (0 + (j - 0)) else _) = _
      rw [if_pos ⟨rfl, by omega, by omega⟩, nw_d (by omega), show 0 + (j - 0) = j by omega]
  · have en : n0 = x.toNat := by omega
    have na : isA (kNew G 8 n0) (G.1 + 1) 8 n0 := nw_nA n6
    refine A_aload_n dJ7_copyOf_59c91_6 rfl rfl ?_
    refine A_cln (n := n0) dJ7_copyOf_59c91_7 lk_J7_316 ow_clm ow_cln ow_cli ow_cls (Nat.le_of_ble_eq_true rfl) (by omega) (by omega) ha ?_
    refine A_cast dJ7_copyOf_59c91_10 cl_J7_317 (by assumption) ?_
    refine A_aret dJ7_copyOf_59c91_13 rfl (by omega) ?_
    rw [en]
    refine hK _ (fun b hb => ?_) (fun j j1 j2 => ?_)
    · funext j
      show (if b = G.1 + 1 then _ else d b j) = _
      rw [if_neg (by omega)]
    · show (if G.1 + 1 = G.1 + 1 then d a j else _) = _
      rw [if_pos rfl]
end MK2
