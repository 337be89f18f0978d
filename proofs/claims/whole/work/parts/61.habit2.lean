theorem kXor_m {x : Int} (h : -2147483648 ≤ x) (h2 : x ≤ 2147483647) : kXor x (-1) = -1 - x := by
  have e : (Int32.ofInt x ^^^ Int32.ofInt (-1)) = ~~~ (Int32.ofInt x) := by
    apply Int32.toBitVec_inj.mp
    show (Int32.ofInt x).toBitVec ^^^ (Int32.ofInt (-1)).toBitVec = ~~~ (Int32.ofInt x).toBitVec
    rw [show (Int32.ofInt (-1)).toBitVec = BitVec.allOnes 32 by decide, BitVec.xor_allOnes]
  unfold kXor
  rw [e, Int32.toInt_not, kT ⟨h, h2⟩, Int.bmod_eq_of_le (by omega) (by omega)]
  omega
section H2
variable {E : EE} {k H N C : Nat} {G : HG} {d : HD} {K : PQ}
theorem C_clauseFor {g dd oo v : Int} (hH : HO G d H N C) (hK : K (some (kI (chA d H N g dd oo v))) G d) : AM E mX1_clauseFor (k + 1) 0 0 [kR H, kI g, kI dd, kI oo, kI v] G d K := by
  obtain ⟨⟨ho, h0, hN, hC⟩, ⟨e1, a1⟩, ⟨e2, a2⟩, ⟨e3, a3⟩, ⟨e4, a4⟩, ⟨e5, a5⟩, -⟩ := id hH
  unfold chA at hK
  generalize hr : chF d H N g dd oo v N 0 = res at *
  have fin : ∀ q6 q7 : Option AV, AW E mX1_clauseFor (k + 1) 0 0 141 [some (kR H), some (kI g), some (kI dd), some (kI oo), some (kI v), some (kI res), q6, q7] [] G d K := by
    intro q6 q7
    refine AW.nm 5 rfl (fun n8 => ?_)
    refine A_iload dX1_clauseFor_141 rfl ?_
    refine A_if_ge (tgt := 153) dX1_clauseFor_143 (by decide) (fun c_143 => ?_) (fun c_143 => ?_)
    · rw [if_neg (by omega)] at hK
      refine A_bipush dX1_clauseFor_153 ⟨by decide, by decide⟩ rfl ?_
      refine A_iret dX1_clauseFor_155 rfl ?_
      exact hK
    · rw [if_pos (by omega)] at hK
      refine A_iload dX1_clauseFor_146 rfl ?_
      refine A_iconst dX1_clauseFor_148 ⟨by decide, by decide⟩ ?_
      refine A_ixor dX1_clauseFor_149 ?_
      rw [kXor_m n8.1 n8.2]
      refine A_goto (tgt := 155) dX1_clauseFor_150 (by decide) ?_
      refine A_iret dX1_clauseFor_155 rfl ?_
      exact hK
  have loop : ∀ (f j : Nat) (x : Int), j + f = N → chF d H N g dd oo v f x = res → ∀ q7 : Option AV, AW E mX1_clauseFor (k + 1) 0 0 6 [some (kR H), some (kI g), some (kI dd), some (kI oo), some (kI v), some (kI x), some (kI j), q7] [] G d K := by
    intro f
    induction f with
    | zero =>
      intro j x hj he q7
      simp only [chF] at he
      subst he
      refine A_iload dX1_clauseFor_6 rfl ?_
      refine A_aload_n dX1_clauseFor_8 rfl rfl ?_
      refine A_getR (fi := 1) dX1_clauseFor_9 fg_X1_31 rfl rfl (by assumption) (by assumption) ?_
      refine A_alen (t := 0) dX1_clauseFor_12 (fun _ => rfl) (Or.inl rfl) (by assumption) ?_
      refine A_icmp_ge (tgt := 141) dX1_clauseFor_13 (by decide) (fun c_13 => ?_) (fun c_13 => absurd c_13 (by omega))
      exact fin _ _
    | succ f ih =>
      intro j x hj he q7
      simp only [chF] at he
      refine A_iload dX1_clauseFor_6 rfl ?_
      refine A_aload_n dX1_clauseFor_8 rfl rfl ?_
      refine A_getR (fi := 1) dX1_clauseFor_9 fg_X1_31 rfl rfl (by assumption) (by assumption) ?_
      refine A_alen (t := 0) dX1_clauseFor_12 (fun _ => rfl) (Or.inl rfl) (by assumption) ?_
      refine A_icmp_ge (tgt := 141) dX1_clauseFor_13 (by decide) (fun c_13 => absurd c_13 (by omega)) (fun c_13 => ?_)
      refine A_iload dX1_clauseFor_16 rfl ?_
      refine A_if_lt (tgt := 141) dX1_clauseFor_18 (by decide) (fun c_18 => ?_) (fun c_18 => ?_)
      · skip
        rw [if_neg (by omega)] at he
        subst he
        exact fin _ _
      · refine A_iload dX1_clauseFor_21 rfl ?_
        refine A_aload_n dX1_clauseFor_23 rfl rfl ?_
        refine A_getR (fi := 1) dX1_clauseFor_24 fg_X1_31 rfl rfl (by assumption) (by assumption) ?_
        refine A_alen (t := 0) dX1_clauseFor_27 (fun _ => rfl) (Or.inl rfl) (by assumption) ?_
        refine A_icmp_ge (tgt := 141) dX1_clauseFor_28 (by decide) (fun c_28 => ?_) (fun c_28 => ?_)
        · skip
          rw [if_neg (by omega)] at he
          subst he
          exact fin _ _
        · rw [if_pos (by omega)] at he
          have go : ∀ y : Int, y = vlS (d (H + 1) x) g dd oo v → AW E mX1_clauseFor (k + 1) 0 0 94 [some (kR H), some (kI g), some (kI dd), some (kI oo), some (kI v), some (kI x), some (kI j), some (kI y)] [] G d K := by
            intro y hy
            rw [← hy] at he
            refine A_iload dX1_clauseFor_94 rfl ?_
            refine A_aload_n dX1_clauseFor_96 rfl rfl ?_
            refine A_getR (fi := 2) dX1_clauseFor_97 fg_X1_35 rfl rfl (by assumption) (by assumption) ?_
            refine A_iload dX1_clauseFor_100 rfl ?_
            refine A_iald dX1_clauseFor_102 (by assumption) (by omega) (by omega) ?_
            refine A_aload_n dX1_clauseFor_103 rfl rfl ?_
            refine A_getR (fi := 3) dX1_clauseFor_104 fg_X1_39 rfl rfl (by assumption) (by assumption) ?_
            refine A_iload dX1_clauseFor_107 rfl ?_
            refine A_iald dX1_clauseFor_109 (by assumption) (by omega) (by omega) ?_
            refine A_ins3 dX1_clauseFor_110 ms_X1_60 (Nat.le_of_ble_eq_true rfl) ?_
            refine C_isSo ?_
            refine A_if_eq (tgt := 126) dX1_clauseFor_113 (by decide) (fun c_113 => ?_) (fun c_113 => ?_)
            · rw [if_neg (by omega)] at he
              refine A_aload_n dX1_clauseFor_126 rfl rfl ?_
              refine A_getR (fi := 5) dX1_clauseFor_127 fg_X1_47 rfl rfl (by assumption) (by assumption) ?_
              refine A_iload dX1_clauseFor_130 rfl ?_
              refine A_iald dX1_clauseFor_132 (by assumption) (by omega) (by omega) ?_
              refine A_istore dX1_clauseFor_133 (Nat.le_of_ble_eq_true rfl) rfl ?_
              refine A_iinc_ok dX1_clauseFor_135 rfl rfl (by omega) (by omega) ?_
              refine A_goto (tgt := 6) dX1_clauseFor_138 (by decide) ?_
              exact ih (j + 1) _ (by omega) he _
            · rw [if_pos c_113] at he
              refine A_aload_n dX1_clauseFor_116 rfl rfl ?_
              refine A_getR (fi := 4) dX1_clauseFor_117 fg_X1_43 rfl rfl (by assumption) (by assumption) ?_
              refine A_iload dX1_clauseFor_120 rfl ?_
              refine A_iald dX1_clauseFor_122 (by assumption) (by omega) (by omega) ?_
              refine A_goto (tgt := 133) dX1_clauseFor_123 (by decide) ?_
              refine A_istore dX1_clauseFor_133 (Nat.le_of_ble_eq_true rfl) rfl ?_
              refine A_iinc_ok dX1_clauseFor_135 rfl rfl (by omega) (by omega) ?_
              refine A_goto (tgt := 6) dX1_clauseFor_138 (by decide) ?_
              exact ih (j + 1) _ (by omega) he _
          refine A_iload dX1_clauseFor_31 rfl ?_
          refine A_istore dX1_clauseFor_33 (Nat.le_of_ble_eq_true rfl) rfl ?_
          refine A_aload_n dX1_clauseFor_35 rfl rfl ?_
          refine A_getR (fi := 1) dX1_clauseFor_36 fg_X1_31 rfl rfl (by assumption) (by assumption) ?_
          refine A_iload dX1_clauseFor_39 rfl ?_
          refine A_iald dX1_clauseFor_41 (by assumption) (by omega) (by omega) ?_
          -- switch at 42: .lookupswitch 52 #[(100, 40), (103, 34), (111, 46)]
          by_cases q1 : d (H + 1) x = 100
          · refine A_lsw (tgt := 82) (off := 40) dX1_clauseFor_42 rfl (by rw [q1]; rfl) (by decide) ?_
            refine A_iload_n dX1_clauseFor_82 rfl rfl ?_
            refine A_istore dX1_clauseFor_83 (Nat.le_of_ble_eq_true rfl) rfl ?_
            refine A_goto (tgt := 94) dX1_clauseFor_85 (by decide) ?_
            exact go _ (by unfold vlS; rw [q1]; rfl)
          · by_cases q2 : d (H + 1) x = 103
            · refine A_lsw (tgt := 76) (off := 34) dX1_clauseFor_42 rfl (by rw [q2]; rfl) (by decide) ?_
              refine A_iload_n dX1_clauseFor_76 rfl rfl ?_
              refine A_istore dX1_clauseFor_77 (Nat.le_of_ble_eq_true rfl) rfl ?_
              refine A_goto (tgt := 94) dX1_clauseFor_79 (by decide) ?_
              exact go _ (by unfold vlS; rw [q2]; rfl)
            · by_cases q3 : d (H + 1) x = 111
              · refine A_lsw (tgt := 88) (off := 46) dX1_clauseFor_42 rfl (by rw [q3]; rfl) (by decide) ?_
                refine A_iload_n dX1_clauseFor_88 rfl rfl ?_
                refine A_istore dX1_clauseFor_89 (Nat.le_of_ble_eq_true rfl) rfl ?_
                refine A_goto (tgt := 94) dX1_clauseFor_91 (by decide) ?_
                exact go _ (by unfold vlS; rw [q3]; rfl)
              · refine A_lsw (tgt := 94) (off := 52) dX1_clauseFor_42 rfl (by
                  simp only [Op.lookupswitch.offset]
                  rw [if_neg (fun z => q1 z.symm), if_neg (fun z => q2 z.symm), if_neg (fun z => q3 z.symm)]) (by decide) ?_
                exact go _ (by unfold vlS; rw [if_neg q2, if_neg q1, if_neg q3])
  refine AM.of rfl (Nat.le_of_ble_eq_true rfl) ?_
  refine A_iconst dX1_clauseFor_0 ⟨by decide, by decide⟩ ?_
  refine A_istore dX1_clauseFor_1 (Nat.le_of_ble_eq_true rfl) rfl ?_
  refine A_iconst dX1_clauseFor_3 ⟨by decide, by decide⟩ ?_
  refine A_istore dX1_clauseFor_4 (Nat.le_of_ble_eq_true rfl) rfl ?_
  exact loop N 0 0 (by omega) hr none
end H2
