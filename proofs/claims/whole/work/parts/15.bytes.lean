/-! the bytes of a long, as both sides take them -/
def byB (w k : Int) : Int := (((BitVec.ofInt 64 w).toNat / 2 ^ (8 * k).toNat % 256 : Nat) : Int)
theorem byB_rg (w k : Int) : 0 ≤ byB w k ∧ byB w k < 256 := by
  unfold byB
  have := Nat.mod_lt ((BitVec.ofInt 64 w).toNat / 2 ^ (8 * k).toNat) (show 256 > 0 by decide)
  omega
theorem by_s (B : BitVec 64) (n : Nat) (hn : n ≤ 56) : ((B.sshiftRight n) &&& 255#64).toNat = B.toNat / 2 ^ n % 256 := by
  apply Nat.eq_of_testBit_eq
  intro i
  rw [BitVec.toNat_and, Nat.testBit_and, show (255#64).toNat = 2 ^ 8 - 1 from rfl, Nat.testBit_two_pow_sub_one, show (256 : Nat) = 2 ^ 8 from rfl, Nat.testBit_mod_two_pow, Nat.testBit_div_two_pow, BitVec.testBit_toNat, BitVec.testBit_toNat, BitVec.getLsbD_sshiftRight]
  by_cases h : i < 8
  · have h1 : n + i < 64 := by omega
    have h2 : ¬ (64 ≤ i) := by omega
    simp [h, h1, h2, Nat.add_comm]
  · simp [h]
theorem by_u (B : BitVec 64) (n : Nat) : (((B >>> n).setWidth 32) &&& 255#32).toNat = B.toNat / 2 ^ n % 256 := by
  apply Nat.eq_of_testBit_eq
  intro i
  rw [BitVec.toNat_and, Nat.testBit_and, show (255#32).toNat = 2 ^ 8 - 1 from rfl, Nat.testBit_two_pow_sub_one, show (256 : Nat) = 2 ^ 8 from rfl, Nat.testBit_mod_two_pow, Nat.testBit_div_two_pow, BitVec.testBit_toNat, BitVec.testBit_toNat, BitVec.getLsbD_setWidth, BitVec.getLsbD_ushiftRight]
  by_cases h : i < 8
  · have h1 : i < 32 := by omega
    simp [h, h1, Nat.add_comm]
  · simp [h]
theorem by_i {w : Nat} {B : BitVec w} (h : B.toNat < 256) (hw : 9 ≤ w) : B.toInt = B.toNat := by
  rw [BitVec.toInt_eq_toNat_cond, if_pos]
  have : 2 ^ 9 ≤ 2 ^ w := Nat.pow_le_pow_right (by decide) hw
  omega
theorem byM {w k : Int} (h1 : 0 ≤ k) (h2 : k ≤ 7) : kLand (kLshr w (8 * k)) 255 = byB w k := by
  unfold kLand kLshr byB
  rw [Int64.ofInt_toInt]
  have key : ∀ (n : Nat) (s : Int64), n ≤ 56 → (∀ a : Int64, (a >>> s).toBitVec = a.toBitVec.sshiftRight n) → ((Int64.ofInt w >>> s) &&& Int64.ofInt 255).toInt = ((BitVec.ofInt 64 w).toNat / 2 ^ n % 256 : Nat) := by
    intro n s hn hs
    have e : ((Int64.ofInt w >>> s) &&& Int64.ofInt 255).toBitVec = ((BitVec.ofInt 64 w).sshiftRight n) &&& 255#64 := by
      show (Int64.ofInt w >>> s).toBitVec &&& _ = _
      rw [hs]
      rfl
    have e2 := by_s (BitVec.ofInt 64 w) n hn
    show ((Int64.ofInt w >>> s) &&& Int64.ofInt 255).toBitVec.toInt = _
    rw [e, by_i (by rw [e2]; exact Nat.mod_lt _ (by decide)) (by decide), e2]
  rcases (show k = 0 ∨ k = 1 ∨ k = 2 ∨ k = 3 ∨ k = 4 ∨ k = 5 ∨ k = 6 ∨ k = 7 by omega) with rfl | rfl | rfl | rfl | rfl | rfl | rfl | rfl
  · exact key 0 _ (by decide) (fun a => rfl)
  · exact key 8 _ (by decide) (fun a => rfl)
  · exact key 16 _ (by decide) (fun a => rfl)
  · exact key 24 _ (by decide) (fun a => rfl)
  · exact key 32 _ (by decide) (fun a => rfl)
  · exact key 40 _ (by decide) (fun a => rfl)
  · exact key 48 _ (by decide) (fun a => rfl)
  · exact key 56 _ (by decide) (fun a => rfl)
theorem byC {w k : Int} (h1 : 0 ≤ k) (h2 : k ≤ 7) : kAnd (kL2i (kLushr w (8 * k))) 255 = byB w k := by
  unfold kAnd kL2i kLushr byB
  rw [Int64.ofInt_toInt, Int32.ofInt_toInt]
  have key : ∀ (n : Nat) (s : UInt64), (∀ a : UInt64, (a >>> s).toBitVec = a.toBitVec >>> n) → (((Int64.ofInt w).toUInt64 >>> s).toInt64.toInt32 &&& Int32.ofInt 255).toInt = ((BitVec.ofInt 64 w).toNat / 2 ^ n % 256 : Nat) := by
    intro n s hs
    have e : (((Int64.ofInt w).toUInt64 >>> s).toInt64.toInt32 &&& Int32.ofInt 255).toBitVec = ((BitVec.ofInt 64 w >>> n).setWidth 32) &&& 255#32 := by
      show ((Int64.ofInt w).toUInt64 >>> s).toInt64.toInt32.toBitVec &&& _ = _
      rw [Int64.toBitVec_toInt32, UInt64.toBitVec_toInt64, hs]
      rw [BitVec.signExtend_eq_setWidth_of_le _ (by decide)]
      rfl
    have e2 := by_u (BitVec.ofInt 64 w) n
    show (((Int64.ofInt w).toUInt64 >>> s).toInt64.toInt32 &&& Int32.ofInt 255).toBitVec.toInt = _
    rw [e, by_i (by rw [e2]; exact Nat.mod_lt _ (by decide)) (by decide), e2]
  rcases (show k = 0 ∨ k = 1 ∨ k = 2 ∨ k = 3 ∨ k = 4 ∨ k = 5 ∨ k = 6 ∨ k = 7 by omega) with rfl | rfl | rfl | rfl | rfl | rfl | rfl | rfl
  · exact key 0 _ (fun a => rfl)
  · exact key 8 _ (fun a => rfl)
  · exact key 16 _ (fun a => rfl)
  · exact key 24 _ (fun a => rfl)
  · exact key 32 _ (fun a => rfl)
  · exact key 40 _ (fun a => rfl)
  · exact key 48 _ (fun a => rfl)
  · exact key 56 _ (fun a => rfl)
theorem byL {w k : Int} : kL2i (byB w k) = byB w k := by
  have h := byB_rg w k
  unfold kL2i
  rw [Int64.toInt32_ofInt]
  exact kT ⟨by omega, by omega⟩
