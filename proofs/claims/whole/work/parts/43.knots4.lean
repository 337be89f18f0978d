theorem ct_eq {p q : Int → Prop} [DecidablePred p] [DecidablePred q] : ∀ n : Nat, (∀ j : Nat, j < n → p j → q j) → ctF p n = ctF q n → ∀ j : Nat, j < n → q j → p j
  | 0, _, _, j, hj, _ => by omega
  | n + 1, h, he, j, hj, hq => by
    have hl := ct_le n (fun j hj => h j (by omega))
    have hn := h n (by omega)
    simp only [ctF] at he
    by_cases z : p n
    · rw [if_pos z, if_pos (hn z)] at he
      by_cases y : j = n
      · subst y; exact z
      · exact ct_eq n (fun j hj => h j (by omega)) (by omega) j (by omega) hq
    · rw [if_neg z] at he
      by_cases w : q n
      · rw [if_pos w] at he; omega
      · rw [if_neg w] at he
        by_cases y : j = n
        · subst y; exact absurd hq w
        · exact ct_eq n (fun j hj => h j (by omega)) (by omega) j (by omega) hq
theorem KS_cg {R : Int → Int} {P Q : Int → Prop} {n : Nat} {h s : Int → Int} (H : KS R P n h s) (e : ∀ x, Q x ↔ P x) : KS R Q n h s := ⟨fun i hi => ⟨(e _).mpr (H.1 i hi).1, (H.1 i hi).2⟩, H.2.1, fun c hc => H.2.2 c ((e c).mp hc)⟩
section K4
variable {E : EE} {k m : Nat} {G : HG} {d : HD} {K : PQ} {R : Int → Int}
theorem C_findKnots {r : Int} (hM : MO G m) (hR : PZ d m r R) (h1 : 0 ≤ r) (h2 : r ≤ 4) (hW : WG R) (hD : ND R) (hl : ∀ c, 0 ≤ c → c < R 2 → cfR R c 1 = 0 ∨ cfR R c 1 = 1) (hK : ∀ (d' : HD) (n : Nat), MK d d' m → d' m 20 = n → KS R (knP R) n (d' (m + 13)) (d' (m + 14)) → K none G d') : AM E mX7_findKnots (k + 3) 0 0 [kR m, kI r] G d K := by
  obtain ⟨ho, e0, a0, e1, a1, -⟩ := id hM
  obtain ⟨w1, w2, w3, w4, w5⟩ := id hW
  obtain ⟨N, hN⟩ : ∃ N : Nat, R 2 = N := ⟨(R 2).toNat, by omega⟩
  have eN : (R 2).toNat = N := by omega
  have lanes : ∀ (f l : Nat), l + f = 2 → ∀ (d' : HD) (n : Nat), MK d d' m → d' m 20 = n → KS R (fun x => knP R x ∧ cfR R x 1 < l) n (d' (m + 13)) (d' (m + 14)) → ∀ q3 q4 q5 q6 q7 q8 : Option AV, AW E mX7_findKnots (k + 3) 0 0 7 [some (kR m), some (kI r), some (kI l), q3, q4, q5, q6, q7, q8] [] G d' K := by
    intro f
    induction f with
    | zero =>
      intro l hl2 d' n hc h20 H q3 q4 q5 q6 q7 q8
      refine A_iload_n dX7_findKnots_7 rfl rfl ?_
      refine A_iconst dX7_findKnots_8 ⟨by decide, by decide⟩ ?_
      refine A_icmp_ge (tgt := 233) dX7_findKnots_9 (by decide) (fun c_9 => ?_) (fun c_9 => absurd c_9 (by omega))
      refine A_vret dX7_findKnots_233 rfl ?_
      refine hK d' n hc h20 (KS_cg H (fun x => ⟨fun z => ⟨z, ?_⟩, fun z => z.1⟩))
      have := hl x z.1.1 z.1.2
      omega
    | succ f ihl =>
      intro l hl2 d' n hc h20 H q3 q4 q5 q6 q7 q8
      generalize hA : ctF (fun c => cfR R c 1 = l) N = A
      generalize hS : ctF (fun c => cfR R c 1 = l ∧ cfR R c 2 < 2) N = S
      have rA := ct_rg (fun c => cfR R c 1 = l) N
      have rS := ct_rg (fun c => cfR R c 1 = l ∧ cfR R c 2 < 2) N
      rw [hA] at rA
      rw [hS] at rS
      have SA : S ≤ A := by rw [← hA, ← hS]; exact ct_le N (fun j hj z => z.1)
      have lcA : ∀ x : Int, cfR R x 1 = l → lc R x = A := fun x hx => by unfold lc; rw [eN, hx]; exact hA
      have ends : ∀ (d2 : HD) (n2 : Nat), MK d d2 m → d2 m 20 = n2 → KS R (fun x => knP R x ∧ cfR R x 1 < ((l + 1 : Nat) : Int)) n2 (d2 (m + 13)) (d2 (m + 14)) → ∀ q3 q4 q5 q6 q7 q8 : Option AV, AW E mX7_findKnots (k + 3) 0 0 227 [some (kR m), some (kI r), some (kI l), q3, q4, q5, q6, q7, q8] [] G d2 K := by
        intro d2 n2 g1 g2 g3 q3 q4 q5 q6 q7 q8
        refine A_iinc_ok dX7_findKnots_227 rfl rfl (by omega) (by omega) ?_
        refine A_goto (tgt := 7) dX7_findKnots_230 (by decide) ?_
        exact ihl (l + 1) (by omega) d2 n2 g1 g2 g3 _ _ _ _ _ _
      -- each car of a lane in which not all are slow
      have each : S < A → ∀ (f i : Nat), i + f = N → ∀ (d2 : HD) (n2 : Nat), MK d d2 m → d2 m 20 = n2 → KS R (fun x => knP R x ∧ (cfR R x 1 < l ∨ (cfR R x 1 = l ∧ x < i))) n2 (d2 (m + 13)) (d2 (m + 14)) → ∀ (q5 : Int) (q7 q8 : Option AV), AW E mX7_findKnots (k + 3) 0 0 109 [some (kR m), some (kI r), some (kI l), some (kI A), some (kI S), some (kI q5), some (kI i), q7, q8] [] G d2 K := by
        intro hSA f
        induction f with
        | zero =>
          intro i hi d2 n2 g1 g2 g3 q5 q7 q8
          have z2 := (g1.PZ hR) 2 (by omega) (by omega)
          rw [hN] at z2
          refine A_iload dX7_findKnots_109 rfl ?_
          refine A_aload_n dX7_findKnots_111 rfl rfl ?_
          refine A_getR (fi := 0) dX7_findKnots_112 fg_X7_7 rfl rfl (by assumption) (by assumption) ?_
          refine A_sipush dX7_findKnots_115 ⟨by decide, by decide⟩ rfl ?_
          refine A_iload_n dX7_findKnots_118 rfl rfl ?_
          refine A_imul_ok dX7_findKnots_119 (by omega) (by omega) ?_
          refine A_iconst dX7_findKnots_120 ⟨by decide, by decide⟩ ?_
          refine A_iadd_ok dX7_findKnots_121 (by omega) (by omega) ?_
          refine A_iald dX7_findKnots_122 (by assumption) (by omega) (by omega) ?_
          refine A_icmp_ge (tgt := 227) dX7_findKnots_123 (by decide) (fun c_123 => ?_) (fun c_123 => absurd c_123 (by omega))
          refine ends d2 n2 g1 g2 (KS_cg g3 (fun x => ⟨fun z => ⟨z.1, ?_⟩, fun z => ⟨z.1, ?_⟩⟩)) _ _ _ _ _ _
          · have := z.1.1; have := z.2; omega
          · have := z.2; omega
        | succ f ih =>
          intro i hi d2 n2 g1 g2 g3 q5 q7 q8
          have hz := g1.PZ hR
          have z2 := hz 2 (by omega) (by omega)
          rw [hN] at z2
          have i0 : (0 : Int) ≤ i := by omega
          have i2 : (i : Int) < R 2 := by omega
          have next := ih (i + 1) (by omega)
          have skip : ¬ (knP R i ∧ cfR R i 1 = l) → ∀ (q5 : Int) (q7 q8 : Option AV), AW E mX7_findKnots (k + 3) 0 0 221 [some (kR m), some (kI r), some (kI l), some (kI A), some (kI S), some (kI q5), some (kI i), q7, q8] [] G d2 K := by
            intro hno q5 q7 q8
            refine A_iinc_ok dX7_findKnots_221 rfl rfl (by omega) (by omega) ?_
            refine A_goto (tgt := 109) dX7_findKnots_224 (by decide) ?_
            refine next d2 n2 g1 g2 (KS_cg g3 (fun x => ⟨fun z => ⟨z.1, ?_⟩, fun z => ⟨z.1, ?_⟩⟩)) _ _ _
            · rcases z.2 with y | y
              · exact Or.inl y
              · by_cases q : x = i
                · subst q; exact absurd ⟨z.1, y.1⟩ hno
                · exact Or.inr ⟨y.1, by omega⟩
            · rcases z.2 with y | y
              · exact Or.inl y
              · exact Or.inr ⟨y.1, by omega⟩
          have hR := hz
          refine A_iload dX7_findKnots_109 rfl ?_
          refine A_aload_n dX7_findKnots_111 rfl rfl ?_
          refine A_getR (fi := 0) dX7_findKnots_112 fg_X7_7 rfl rfl (by assumption) (by assumption) ?_
          refine A_sipush dX7_findKnots_115 ⟨by decide, by decide⟩ rfl ?_
          refine A_iload_n dX7_findKnots_118 rfl rfl ?_
          refine A_imul_ok dX7_findKnots_119 (by omega) (by omega) ?_
          refine A_iconst dX7_findKnots_120 ⟨by decide, by decide⟩ ?_
          refine A_iadd_ok dX7_findKnots_121 (by omega) (by omega) ?_
          refine A_iald dX7_findKnots_122 (by assumption) (by omega) (by omega) ?_
          refine A_icmp_ge (tgt := 227) dX7_findKnots_123 (by decide) (fun c_123 => absurd c_123 (by omega)) (fun c_123 => ?_)
          refine A_iload dX7_findKnots_126 rfl ?_
          refine A_iload_n dX7_findKnots_128 rfl rfl ?_
          refine A_icmp_ge (tgt := 227) dX7_findKnots_129 (by decide) (fun c_129 => absurd c_129 (by omega)) (fun c_129 => ?_)
          refine A_aload_n dX7_findKnots_132 rfl rfl ?_
          refine A_iload_n dX7_findKnots_133 rfl rfl ?_
          refine A_iload dX7_findKnots_134 rfl ?_
          refine A_iconst dX7_findKnots_136 ⟨by decide, by decide⟩ ?_
          refine A_inv3 dX7_findKnots_137 mv_X7_57 kCl_7 (Nat.le_of_ble_eq_true rfl) (by assumption) ?_
          refine C_of hM hR (by omega) (by omega) (by omega) (by omega) (by omega) (by omega) ?_
          refine A_iload_n dX7_findKnots_140 rfl rfl ?_
          refine A_icmp_ne (tgt := 221) dX7_findKnots_141 (by decide) (fun c_141 => ?_) (fun c_141 => ?_)
          · skip
            exact skip (fun z => c_141 z.2) _ _ _
          · refine A_aload_n dX7_findKnots_144 rfl rfl ?_
            refine A_iload_n dX7_findKnots_145 rfl rfl ?_
            refine A_iload dX7_findKnots_146 rfl ?_
            refine A_inv2 dX7_findKnots_148 mv_X7_206 kCl_7 (Nat.le_of_ble_eq_true rfl) (by assumption) ?_
            refine C_isSlow hM hR h1 h2 (by omega) (by omega) ?_
            refine A_if_eq (tgt := 221) dX7_findKnots_151 (by decide) (fun c_151 => ?_) (fun c_151 => ?_)
            · replace c_151 := i01e c_151
              exact skip (fun z => c_151 z.1.2.1.1) _ _ _
            · replace c_151 := i01n c_151
              have ra := ah_rg hW i0 i2
              refine A_aload_n dX7_findKnots_154 rfl rfl ?_
              refine A_iload_n dX7_findKnots_155 rfl rfl ?_
              refine A_aload_n dX7_findKnots_156 rfl rfl ?_
              refine A_iload_n dX7_findKnots_157 rfl rfl ?_
              refine A_iload dX7_findKnots_158 rfl ?_
              refine A_inv2 dX7_findKnots_160 mv_X7_64 kCl_7 (Nat.le_of_ble_eq_true rfl) (by assumption) ?_
              refine C_ahead hM hR h1 h2 hW i0 i2 ?_
              refine A_inv2 dX7_findKnots_163 mv_X7_206 kCl_7 (Nat.le_of_ble_eq_true rfl) (by assumption) ?_
              refine C_isSlow hM hR h1 h2 (by omega) (by omega) ?_
              refine A_if_ne (tgt := 221) dX7_findKnots_166 (by decide) (fun c_166 => ?_) (fun c_166 => ?_)
              · replace c_166 := i01n c_166
                refine skip (fun z => ?_) _ _ _
                rcases z.1.2.1.2 with y | y
                · omega
                · have : S = A := by
                    rw [← hA, ← hS]
                    exact ct_cg N (fun j hj => ⟨fun w => w.1, fun w => ⟨w, (y j (by omega) (by omega) (by rw [w, z.2])).2⟩⟩)
                  omega
              · replace c_166 := i01e c_166
                have walk : ∀ (f : Nat) (x : Int), 0 ≤ x → x < R 2 → cfR R x 1 = cfR R i 1 → cfR R x 2 < 2 → cn R i x + f = R 2 → wkF R i f x (cn R i x + 1) = szS R i → AW E mX7_findKnots (k + 3) 0 0 181 [some (kR m), some (kI r), some (kI l), some (kI A), some (kI S), some (kI q5), some (kI i), some (kI (cn R i x + 1)), some (kI (bhS R x))] [] G d2 K := by
                  intro f
                  induction f with
                  | zero =>
                    intro x x1 x2 xl xs xf xw
                    have a := cn_lt x1 x2 xl
                    have b := lcn_le (R := R) (k := i) w3
                    omega
                  | succ f ihw =>
                    intro x x1 x2 xl xs xf xw
                    obtain ⟨b1, b2, b3⟩ := bh_sp hW hD x1 x2
                    have cl := cn_lt x1 x2 xl
                    have cl2 := lcn_le (R := R) (k := i) w3
                    have cn0 := (ct_rg (fun c => cfR R c 1 = cfR R i 1 ∧ DD R i c < DD R i x) (R 2).toNat).1
                    have cn0' : 0 ≤ cn R i x := cn0
                    simp only [wkF] at xw
                    refine A_aload_n dX7_findKnots_181 rfl rfl ?_
                    refine A_iload_n dX7_findKnots_182 rfl rfl ?_
                    refine A_iload dX7_findKnots_183 rfl ?_
                    refine A_inv2 dX7_findKnots_185 mv_X7_206 kCl_7 (Nat.le_of_ble_eq_true rfl) (by assumption) ?_
                    refine C_isSlow hM hR h1 h2 (by omega) (by omega) ?_
                    refine A_if_eq (tgt := 206) dX7_findKnots_188 (by decide) (fun c_188 => ?_) (fun c_188 => ?_)
                    · replace c_188 := i01e c_188
                      rw [if_neg (fun z => c_188 z.2)] at xw
                      refine A_iload dX7_findKnots_206 rfl ?_
                      refine A_iconst dX7_findKnots_208 ⟨by decide, by decide⟩ ?_
                      refine A_icmp_le (tgt := 221) dX7_findKnots_209 (by decide) (fun c_209 => ?_) (fun c_209 => ?_)
                      · skip
                        refine skip (fun z => ?_) _ _ _
                        have := z.1.2.2
                        omega
                      · have kn : knP R i := ⟨⟨i0, i2⟩, ⟨c_151, Or.inl (by omega)⟩, by omega⟩
                        refine A_aload_n dX7_findKnots_212 rfl rfl ?_
                        refine A_iload_n dX7_findKnots_213 rfl rfl ?_
                        refine A_iload dX7_findKnots_214 rfl ?_
                        refine A_iload dX7_findKnots_216 rfl ?_
                        refine A_inv3 dX7_findKnots_218 mv_X7_209 kCl_7 (Nat.le_of_ble_eq_true rfl) (by assumption) ?_
                        refine C_addKnot hM hR h1 h2 hW hD hl g2 g3 (Q := fun x => knP R x ∧ (cfR R x 1 < l ∨ (cfR R x 1 = l ∧ x < ((i + 1 : Nat) : Int)))) (fun x hx => hx.1.1) i0 i2 (fun z => ?_) (fun x => ?_) xw (fun d3 u1 u2 u3 => ?_)
                        · have := z.2; omega
                        · constructor
                          · intro z
                            by_cases q : x = i
                            · exact Or.inr q
                            · exact Or.inl ⟨z.1, by have := z.2; omega⟩
                          · intro z
                            rcases z with z | z
                            · exact ⟨z.1, by have := z.2; omega⟩
                            · rw [z]; exact ⟨kn, Or.inr ⟨c_141, by omega⟩⟩
                        · refine A_iinc_ok dX7_findKnots_221 rfl rfl (by omega) (by omega) ?_
                          refine A_goto (tgt := 109) dX7_findKnots_224 (by decide) ?_
                          exact next d3 (n2 + 1) (g1.tr u1) u2 u3 _ _ _
                    · replace c_188 := i01n c_188
                      have bne : bhS R x ≠ i := fun z => by
                        rw [z] at b3
                        rw [b3] at c_166
                        exact c_166 xs
                      rw [if_pos ⟨bne, c_188⟩] at xw
                      have e := cn_s hW hD i0 i2 x1 x2 xl bne
                      have hw := ihw (bhS R x) b1.1 b1.2 (by rw [b2, xl]) c_188 (by omega) (by rw [e]; exact xw)
                      refine A_iinc_ok dX7_findKnots_191 rfl rfl (by omega) (by omega) ?_
                      refine A_aload_n dX7_findKnots_194 rfl rfl ?_
                      refine A_iload_n dX7_findKnots_195 rfl rfl ?_
                      refine A_iload dX7_findKnots_196 rfl ?_
                      refine A_inv2 dX7_findKnots_198 mv_X7_212 kCl_7 (Nat.le_of_ble_eq_true rfl) (by assumption) ?_
                      refine C_behind hM hR h1 h2 hW b1.1 b1.2 ?_
                      refine A_istore dX7_findKnots_201 (Nat.le_of_ble_eq_true rfl) rfl ?_
                      refine A_goto (tgt := 181) dX7_findKnots_203 (by decide) ?_
                      rw [e] at hw
                      exact hw
                have c0 := cn_0 hW i0 i2
                have st := walk (R 2).toNat i i0 i2 rfl c_151 (by omega) (by rw [c0]; rfl)
                rw [c0] at st
                refine A_iconst dX7_findKnots_169 ⟨by decide, by decide⟩ ?_
                refine A_istore dX7_findKnots_170 (Nat.le_of_ble_eq_true rfl) rfl ?_
                refine A_aload_n dX7_findKnots_172 rfl rfl ?_
                refine A_iload_n dX7_findKnots_173 rfl rfl ?_
                refine A_iload dX7_findKnots_174 rfl ?_
                refine A_inv2 dX7_findKnots_176 mv_X7_212 kCl_7 (Nat.le_of_ble_eq_true rfl) (by assumption) ?_
                refine C_behind hM hR h1 h2 hW i0 i2 ?_
                refine A_istore dX7_findKnots_179 (Nat.le_of_ble_eq_true rfl) rfl ?_
                exact st
      -- all cars of the lane
      have tell : ∀ (least : Int), ((least = -1 ∧ ∀ c : Nat, c < N → cfR R c 1 ≠ l) ∨ (0 ≤ least ∧ least < N ∧ cfR R least 1 = l ∧ ∀ c : Nat, (c : Int) < least → cfR R c 1 ≠ l)) → ∀ q7 q8 : Option AV, AW E mX7_findKnots (k + 3) 0 0 87 [some (kR m), some (kI r), some (kI l), some (kI A), some (kI S), some (kI least), some (kI (-1)), q7, q8] [] G d' K := by
        intro least hle q7 q8
        have hz := hc.PZ hR
        have z2 := hz 2 (by omega) (by omega)
        rw [hN] at z2
        have out : S = A → ∀ (d2 : HD) (n2 : Nat), MK d d2 m → d2 m 20 = n2 → KS R (fun x => knP R x ∧ cfR R x 1 < ((l + 1 : Nat) : Int)) n2 (d2 (m + 13)) (d2 (m + 14)) → AW E mX7_findKnots (k + 3) 0 0 106 [some (kR m), some (kI r), some (kI l), some (kI A), some (kI S), some (kI least), some (kI (-1)), q7, q8] [] G d2 K := by
          intro hSA d2 n2 g1 g2 g3
          have z2 := (g1.PZ hR) 2 (by omega) (by omega)
          rw [hN] at z2
          refine A_iconst dX7_findKnots_106 ⟨by decide, by decide⟩ ?_
          refine A_istore dX7_findKnots_107 (Nat.le_of_ble_eq_true rfl) rfl ?_
          refine A_iload dX7_findKnots_109 rfl ?_
          refine A_aload_n dX7_findKnots_111 rfl rfl ?_
          refine A_getR (fi := 0) dX7_findKnots_112 fg_X7_7 rfl rfl (by assumption) (by assumption) ?_
          refine A_sipush dX7_findKnots_115 ⟨by decide, by decide⟩ rfl ?_
          refine A_iload_n dX7_findKnots_118 rfl rfl ?_
          refine A_imul_ok dX7_findKnots_119 (by omega) (by omega) ?_
          refine A_iconst dX7_findKnots_120 ⟨by decide, by decide⟩ ?_
          refine A_iadd_ok dX7_findKnots_121 (by omega) (by omega) ?_
          refine A_iald dX7_findKnots_122 (by assumption) (by omega) (by omega) ?_
          refine A_icmp_ge (tgt := 227) dX7_findKnots_123 (by decide) (fun c_123 => ?_) (fun c_123 => ?_)
          · skip
            exact ends d2 n2 g1 g2 g3 _ _ _ _ _ _
          · refine A_iload dX7_findKnots_126 rfl ?_
            refine A_iload_n dX7_findKnots_128 rfl rfl ?_
            refine A_icmp_ge (tgt := 227) dX7_findKnots_129 (by decide) (fun c_129 => ?_) (fun c_129 => absurd c_129 (by omega))
            exact ends d2 n2 g1 g2 g3 _ _ _ _ _ _
        have alls : S = A → ∀ c, 0 ≤ c → c < R 2 → cfR R c 1 = l → cfR R c 2 < 2 := fun h c c1 c2 cl => by
          have := ct_eq (p := fun c => cfR R c 1 = l ∧ cfR R c 2 < 2) (q := fun c => cfR R c 1 = l) N (fun j hj z => z.1) (by rw [hA, hS]; exact h) c.toNat (by omega) (by rw [toN c1]; exact cl)
          rw [toN c1] at this
          exact this.2
        refine A_iload dX7_findKnots_87 rfl ?_
        refine A_iload_n dX7_findKnots_89 rfl rfl ?_
        refine A_icmp_ne (tgt := 106) dX7_findKnots_90 (by decide) (fun c_90 => ?_) (fun c_90 => ?_)
        · refine A_iconst dX7_findKnots_106 ⟨by decide, by decide⟩ ?_
          refine A_istore dX7_findKnots_107 (Nat.le_of_ble_eq_true rfl) rfl ?_
          exact each (by omega) N 0 (by omega) d' n hc h20 (KS_cg H (fun x => ⟨fun z => ⟨z.1, by have := z.1.1; have := z.2; omega⟩, fun z => ⟨z.1, Or.inl z.2⟩⟩)) _ _ _
        · refine A_iload_n dX7_findKnots_93 rfl rfl ?_
          refine A_iconst dX7_findKnots_94 ⟨by decide, by decide⟩ ?_
          refine A_icmp_le (tgt := 106) dX7_findKnots_95 (by decide) (fun c_95 => ?_) (fun c_95 => ?_)
          · skip
            refine out c_90 d' n hc h20 (KS_cg H (fun x => ⟨fun z => ⟨z.1, ?_⟩, fun z => ⟨z.1, by have := z.2; omega⟩⟩))
            by_cases q : cfR R x 1 = l
            · have := sz_all hW hD z.1.1.1 z.1.1.2 (fun c c1 c2 cl => alls c_90 c c1 c2 (by rw [cl, q]))
              have := lcA x q
              have := z.1.2.2
              omega
            · have := z.2; omega
          · rcases hle with ⟨y1, y2⟩ | ⟨y1, y2, y3, y4⟩
            · exfalso
              have : A = 0 := by
                rw [← hA]
                have e : ∀ M : Nat, M ≤ N → ctF (fun c => cfR R c 1 = l) M = 0 := fun M => by
                  induction M with
                  | zero => exact fun _ => rfl
                  | succ M ih =>
                    intro hM2
                    simp only [ctF]
                    rw [ih (by omega), if_neg (y2 M (by omega))]
                    rfl
                exact e N (Nat.le_refl _)
              omega
            · have sz := sz_all hW hD y1 (by omega) (fun c c1 c2 cl => alls c_90 c c1 c2 (by rw [cl, y3]))
              have la := lcA least y3
              have le2 : ∀ e : Int, 0 ≤ e → cfR R e 1 = l → least ≤ e := fun e e1 el => by
                by_cases q : e < least
                · exact absurd (by rw [toN e1]; exact el) (y4 e.toNat (by omega))
                · omega
              have kn : knP R least := ⟨⟨y1, by omega⟩, ⟨alls c_90 least y1 (by omega) y3, Or.inr (fun e e1 e2 el => ⟨le2 e e1 (by rw [el, y3]), alls c_90 e e1 e2 (by rw [el, y3])⟩)⟩, by omega⟩
              refine A_aload_n dX7_findKnots_98 rfl rfl ?_
              refine A_iload_n dX7_findKnots_99 rfl rfl ?_
              refine A_iload dX7_findKnots_100 rfl ?_
              refine A_iload_n dX7_findKnots_102 rfl rfl ?_
              refine A_inv3 dX7_findKnots_103 mv_X7_209 kCl_7 (Nat.le_of_ble_eq_true rfl) (by assumption) ?_
              refine C_addKnot hM hz h1 h2 hW hD hl h20 H (Q := fun x => knP R x ∧ cfR R x 1 < ((l + 1 : Nat) : Int)) (fun x hx => hx.1.1) y1 (by omega) (fun z => ?_) (fun x => ?_) (by omega) (fun d3 u1 u2 u3 => ?_)
              · have := z.2; omega
              · constructor
                · intro z
                  by_cases q : cfR R x 1 = l
                  · refine Or.inr ?_
                    have lx := le2 x z.1.1.1 q
                    rcases z.1.2.1.2 with v | v
                    · have ra := ah_rg hW z.1.1.1 z.1.1.2
                      have := alls c_90 _ ra.1 ra.2.1 (by rw [ra.2.2, q])
                      omega
                    · have := (v least y1 (by omega) (by rw [y3, q])).1
                      omega
                  · exact Or.inl ⟨z.1, by have := z.2; omega⟩
                · intro z
                  rcases z with z | z
                  · exact ⟨z.1, by have := z.2; omega⟩
                  · rw [z]; exact ⟨kn, by omega⟩
              · skip
                exact out c_90 d3 (n + 1) (hc.tr u1) u2 u3
      have down : ∀ (j : Nat), j ≤ N → ∀ least : Int, ((least = -1 ∧ ∀ c : Nat, j ≤ c → c < N → cfR R c 1 ≠ l) ∨ ((j : Int) ≤ least ∧ least < N ∧ cfR R least 1 = l ∧ ∀ c : Nat, j ≤ c → (c : Int) < least → cfR R c 1 ≠ l)) → ∀ q7 q8 : Option AV, AW E mX7_findKnots (k + 3) 0 0 36 [some (kR m), some (kI r), some (kI l), some (kI (A - ctF (fun c => cfR R c 1 = l) j)), some (kI (S - ctF (fun c => cfR R c 1 = l ∧ cfR R c 2 < 2) j)), some (kI least), some (kI ((j : Int) - 1)), q7, q8] [] G d' K := by
        intro j
        induction j with
        | zero =>
          intro hj least hle q7 q8
          simp only [ctF]
          rw [show A - 0 = A by omega, show S - 0 = S by omega, show ((0 : Nat) : Int) - 1 = -1 by omega]
          have t := tell least (by
            rcases hle with y | y
            · exact Or.inl ⟨y.1, fun c hc => y.2 c (by omega) hc⟩
            · exact Or.inr ⟨by omega, y.2.1, y.2.2.1, fun c hc => y.2.2.2 c (by omega) hc⟩) q7 q8
          refine A_iload dX7_findKnots_36 rfl ?_
          refine A_if_lt (tgt := 87) dX7_findKnots_38 (by decide) (fun c_38 => ?_) (fun c_38 => absurd c_38 (by omega))
          exact t
        | succ j ih =>
          intro hj least hle q7 q8
          have hz := hc.PZ hR
          have z2 := hz 2 (by omega) (by omega)
          rw [hN] at z2
          have hR := hz
          have ihj := ih (by omega)
          have r1 := ct_rg (fun c => cfR R c 1 = l) j
          have r2 := ct_rg (fun c => cfR R c 1 = l ∧ cfR R c 2 < 2) j
          rw [show ((j + 1 : Nat) : Int) - 1 = j by omega]
          have e1 : ctF (fun c => cfR R c 1 = l) (j + 1) = ctF (fun c => cfR R c 1 = l) j + if cfR R j 1 = l then 1 else 0 := rfl
          have e2 : ctF (fun c => cfR R c 1 = l ∧ cfR R c 2 < 2) (j + 1) = ctF (fun c => cfR R c 1 = l ∧ cfR R c 2 < 2) j + if cfR R j 1 = l ∧ cfR R j 2 < 2 then 1 else 0 := rfl
          have m1 : ctF (fun c => cfR R c 1 = l) (j + 1) ≤ A := by
            rw [← hA]
            have : ∀ M : Nat, j + 1 ≤ M → ctF (fun c => cfR R c 1 = l) (j + 1) ≤ ctF (fun c => cfR R c 1 = l) M := fun M => by
              induction M with
              | zero => intro h; omega
              | succ M ih =>
                intro h
                by_cases q : j = M
                · subst q; exact Int.le_refl _
                · have := ih (by omega)
                  rw [show ctF (fun c => cfR R c 1 = l) (M + 1) = ctF (fun c => cfR R c 1 = l) M + if cfR R M 1 = l then 1 else 0 from rfl]
                  split <;> omega
            exact this N hj
          have m2 : ctF (fun c => cfR R c 1 = l ∧ cfR R c 2 < 2) (j + 1) ≤ S := by
            rw [← hS]
            have : ∀ M : Nat, j + 1 ≤ M → ctF (fun c => cfR R c 1 = l ∧ cfR R c 2 < 2) (j + 1) ≤ ctF (fun c => cfR R c 1 = l ∧ cfR R c 2 < 2) M := fun M => by
              induction M with
              | zero => intro h; omega
              | succ M ih =>
                intro h
                by_cases q : j = M
                · subst q; exact Int.le_refl _
                · have := ih (by omega)
                  rw [show ctF (fun c => cfR R c 1 = l ∧ cfR R c 2 < 2) (M + 1) = ctF (fun c => cfR R c 1 = l ∧ cfR R c 2 < 2) M + if cfR R M 1 = l ∧ cfR R M 2 < 2 then 1 else 0 from rfl]
                  split <;> omega
            exact this N hj
          generalize ctF (fun c => cfR R c 1 = l) (j + 1) = X1 at *
          generalize ctF (fun c => cfR R c 1 = l ∧ cfR R c 2 < 2) (j + 1) = X2 at *
          generalize ctF (fun c => cfR R c 1 = l) j = Y1 at *
          generalize ctF (fun c => cfR R c 1 = l ∧ cfR R c 2 < 2) j = Y2 at *
          refine A_iload dX7_findKnots_36 rfl ?_
          refine A_if_lt (tgt := 87) dX7_findKnots_38 (by decide) (fun c_38 => absurd c_38 (by omega)) (fun c_38 => ?_)
          refine A_aload_n dX7_findKnots_41 rfl rfl ?_
          refine A_iload_n dX7_findKnots_42 rfl rfl ?_
          refine A_iload dX7_findKnots_43 rfl ?_
          refine A_iconst dX7_findKnots_45 ⟨by decide, by decide⟩ ?_
          refine A_inv3 dX7_findKnots_46 mv_X7_57 kCl_7 (Nat.le_of_ble_eq_true rfl) (by assumption) ?_
          refine C_of hM hR (by omega) (by omega) (by omega) (by omega) (by omega) (by omega) ?_
          refine A_iload_n dX7_findKnots_49 rfl rfl ?_
          refine A_icmp_ne (tgt := 81) dX7_findKnots_50 (by decide) (fun c_50 => ?_) (fun c_50 => ?_)
          · rw [if_neg c_50] at e1
            rw [if_neg (fun z => c_50 z.1)] at e2
            refine A_iinc_ok dX7_findKnots_81 rfl rfl (by omega) (by omega) ?_
            refine A_goto (tgt := 36) dX7_findKnots_84 (by decide) ?_
            have t := ihj least (by
              rcases hle with y | y
              · refine Or.inl ⟨y.1, fun c c1 c2 => ?_⟩
                by_cases q : c = j
                · subst q; exact c_50
                · exact y.2 c (by omega) c2
              · refine Or.inr ⟨by omega, y.2.1, y.2.2.1, fun c c1 c2 => ?_⟩
                by_cases q : c = j
                · subst q; exact c_50
                · exact y.2.2.2 c (by omega) c2) q7 q8
            rw [show (j : Int) + -1 = (j : Int) - 1 by omega, show X1 = Y1 by omega, show X2 = Y2 by omega]
            exact t
          · have t := ihj j (Or.inr ⟨by omega, by omega, c_50, fun c c1 c2 => by omega⟩) q7 q8
            rw [if_pos c_50] at e1
            refine A_iinc_ok dX7_findKnots_53 rfl rfl (by omega) (by omega) ?_
            refine A_aload_n dX7_findKnots_56 rfl rfl ?_
            refine A_iload_n dX7_findKnots_57 rfl rfl ?_
            refine A_iload dX7_findKnots_58 rfl ?_
            refine A_inv2 dX7_findKnots_60 mv_X7_206 kCl_7 (Nat.le_of_ble_eq_true rfl) (by assumption) ?_
            refine C_isSlow hM hR h1 h2 (by omega) (by omega) ?_
            refine A_if_eq (tgt := 73) dX7_findKnots_63 (by decide) (fun c_63 => ?_) (fun c_63 => ?_)
            · replace c_63 := i01e c_63
              rw [if_neg (fun z => c_63 z.2)] at e2
              refine A_iload dX7_findKnots_73 rfl ?_
              refine A_istore dX7_findKnots_75 (Nat.le_of_ble_eq_true rfl) rfl ?_
              refine A_iload dX7_findKnots_77 rfl ?_
              refine A_istore dX7_findKnots_79 (Nat.le_of_ble_eq_true rfl) rfl ?_
              refine A_iinc_ok dX7_findKnots_81 rfl rfl (by omega) (by omega) ?_
              refine A_goto (tgt := 36) dX7_findKnots_84 (by decide) ?_
              rw [show (j : Int) + -1 = (j : Int) - 1 by omega, show A - X1 + 1 = A - Y1 by omega, show X2 = Y2 by omega]
              exact t
            · replace c_63 := i01n c_63
              rw [if_pos ⟨c_50, c_63⟩] at e2
              refine A_iload dX7_findKnots_66 rfl ?_
              refine A_iconst dX7_findKnots_68 ⟨by decide, by decide⟩ ?_
              refine A_iadd_ok dX7_findKnots_69 (by omega) (by omega) ?_
              refine A_goto (tgt := 75) dX7_findKnots_70 (by decide) ?_
              refine A_istore dX7_findKnots_75 (Nat.le_of_ble_eq_true rfl) rfl ?_
              refine A_iload dX7_findKnots_77 rfl ?_
              refine A_istore dX7_findKnots_79 (Nat.le_of_ble_eq_true rfl) rfl ?_
              refine A_iinc_ok dX7_findKnots_81 rfl rfl (by omega) (by omega) ?_
              refine A_goto (tgt := 36) dX7_findKnots_84 (by decide) ?_
              rw [show (j : Int) + -1 = (j : Int) - 1 by omega, show A - X1 + 1 = A - Y1 by omega, show S - X2 + 1 = S - Y2 by omega]
              exact t
      have z2 := (hc.PZ hR) 2 (by omega) (by omega)
      rw [hN] at z2
      have t := down N (Nat.le_refl _) (-1) (Or.inl ⟨rfl, fun c c1 c2 => by omega⟩) q7 q8
      rw [hA, hS, show A - A = 0 by omega, show S - S = 0 by omega] at t
      refine A_iload_n dX7_findKnots_7 rfl rfl ?_
      refine A_iconst dX7_findKnots_8 ⟨by decide, by decide⟩ ?_
      refine A_icmp_ge (tgt := 233) dX7_findKnots_9 (by decide) (fun c_9 => absurd c_9 (by omega)) (fun c_9 => ?_)
      refine A_iconst dX7_findKnots_12 ⟨by decide, by decide⟩ ?_
      refine A_istore_n dX7_findKnots_13 rfl (Nat.le_of_ble_eq_true rfl) rfl ?_
      refine A_iconst dX7_findKnots_14 ⟨by decide, by decide⟩ ?_
      refine A_istore dX7_findKnots_15 (Nat.le_of_ble_eq_true rfl) rfl ?_
      refine A_iconst dX7_findKnots_17 ⟨by decide, by decide⟩ ?_
      refine A_istore dX7_findKnots_18 (Nat.le_of_ble_eq_true rfl) rfl ?_
      refine A_aload_n dX7_findKnots_20 rfl rfl ?_
      refine A_getR (fi := 0) dX7_findKnots_21 fg_X7_7 rfl rfl (by assumption) (by assumption) ?_
      refine A_sipush dX7_findKnots_24 ⟨by decide, by decide⟩ rfl ?_
      refine A_iload_n dX7_findKnots_27 rfl rfl ?_
      refine A_imul_ok dX7_findKnots_28 (by omega) (by omega) ?_
      refine A_iconst dX7_findKnots_29 ⟨by decide, by decide⟩ ?_
      refine A_iadd_ok dX7_findKnots_30 (by omega) (by omega) ?_
      refine A_iald dX7_findKnots_31 (by assumption) (by omega) (by omega) ?_
      refine A_iconst dX7_findKnots_32 ⟨by decide, by decide⟩ ?_
      refine A_isub_ok dX7_findKnots_33 (by omega) (by omega) ?_
      refine A_istore dX7_findKnots_34 (Nat.le_of_ble_eq_true rfl) rfl ?_
      rw [z2]
      exact t
  refine AM.of rfl (Nat.le_of_ble_eq_true rfl) ?_
  refine A_aload_n dX7_findKnots_0 rfl rfl ?_
  refine A_iconst dX7_findKnots_1 ⟨by decide, by decide⟩ ?_
  refine A_put (fi := 20) dX7_findKnots_2 fp_X7_203 rfl rfl (by assumption) ?_
  refine A_iconst dX7_findKnots_5 ⟨by decide, by decide⟩ ?_
  refine A_istore_n dX7_findKnots_6 rfl (Nat.le_of_ble_eq_true rfl) rfl ?_
  refine lanes 2 0 rfl _ 0 (MK.f MK.rf) kU_s ?_ none none none none none none
  refine ⟨fun i hi => by omega, fun i j _ hj => by omega, fun c hc => ?_⟩
  have := hl c hc.1.1.1 hc.1.1.2
  have := hc.2
  omega
end K4
