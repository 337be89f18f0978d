theorem MC.dec {d d1 d' : HD} {m : Nat} {r : Int} (h : MC d d1 m r) (h1 : ∀ a, a ≠ m → a ≠ m + 8 → a ≠ m + 9 → ¬ (m + 10 ≤ a ∧ a ≤ m + 12) → d' a = d1 a) (h2 : ∀ i, i ≠ 11 → i ≠ 12 → i ≠ 16 → i ≠ 17 → d' m i = d1 m i) : MC d d' m r := by
  refine h.tr ⟨fun a ha => h1 a (by omega) (by omega) (by omega) (by omega), h2 3 (by omega) (by omega) (by omega) (by omega), fun j _ => ?_⟩
  rw [h1 (m + 1) (by omega) (by omega) (by omega) (by omega)]
section T8
variable {R : Int → Int} {B : Int}
theorem goF_WG {w : Int → Int} (hW : WG R) (h6 : 0 ≤ R 6) (h62 : R 6 ≤ 4) (k : Nat) (v : Int) : WG (fU (goF R w k) (340 + 24 * k + 2) v) := by
  obtain ⟨w1, w2, w3, w4, w5⟩ := hW
  have e0 : fU (goF R w k) (340 + 24 * k + 2) v 0 = R 0 := by rw [fU_n (by omega)]; exact goF_at k 0 (by omega) h6 h62
  have e2 : fU (goF R w k) (340 + 24 * k + 2) v 2 = R 2 := by rw [fU_n (by omega)]; exact goF_at k 2 (by omega) h6 h62
  refine ⟨by omega, by omega, by omega, by omega, fun c c1 c2 => ?_⟩
  rw [e0]
  have e : cfR (fU (goF R w k) (340 + 24 * k + 2) v) c 0 = cfR (goF R w k) c 0 := by unfold cfR; rw [fU_n (by omega)]
  rw [e]
  have g := goF_c (w := w) h6 h62 k c c1
  by_cases q : (k : Int) ≤ c
  · rw [g.1 q 0 (by omega) (by omega)]; exact w5 c c1 (by omega)
  · rw [(g.2 (by omega)).1]
    exact ⟨Int.emod_nonneg _ (by omega), Int.emod_lt_of_pos _ (by omega)⟩
theorem goF_WL {w : Int → Int} (h2 : R 2 ≤ 12) (hP : WP R B) (hB : B ≤ 200000) (hw : ∀ c, 0 ≤ c → c < R 2 → 0 ≤ w c ∧ w c ≤ 9) (k : Nat) (hk : (k : Int) ≤ R 2) (v : Int) : WL (fU (goF R w k) (340 + 24 * k + 2) v) := by
  obtain ⟨p1, p2, p3⟩ := hP
  have e : ∀ j, j < 22 → fU (goF R w k) (340 + 24 * k + 2) v j = R j := fun j hj => by rw [fU_n (by omega)]; exact goF_at k j (by omega) p1 p2
  refine ⟨by rw [e 6 (by omega)]; exact p1, by rw [e 6 (by omega)]; exact p2, fun b b1 b2 => ?_⟩
  rw [e 6 (by omega)] at b2
  rw [e 0 (by omega), fU_n (by omega), fU_n (by omega), fU_n (by omega), goF_at k (22 + 3 * b) (by omega) p1 p2]
  have gl := goF_l p1 p2 hw k b.toNat hk (by omega)
  rw [show ((b.toNat : Nat) : Int) = b by omega] at gl
  have := p3 b b1 b2
  exact ⟨this.1, by omega, by omega, by omega⟩
end T8
section T9
variable {E : EE} {k m : Nat} {G : HG} {d : HD} {K : PQ} {R : Int → Int}
theorem C_tick {r B : Int} (hM : MO G m) (hR : PZ d m r R) (h1 : 0 ≤ r) (h2 : r ≤ 4) (hW : WR R B) (hB : 0 ≤ B) (hB2 : B ≤ 200000) (hK : ∀ d', MC d d' m r → PZ d' m r (tickR R) → K none G d') : AM E mX7_tick (k + 7) 0 0 [kR m, kI r] G d K := by
  obtain ⟨ho, e0, a0, e1, a1, e2, a2, e4, a4, e5, a5, e6, a6, e7, a7, e8, a8, e9, a9, -⟩ := id hM
  obtain ⟨w0, w1, w2, w3, wc, wb, wp, wv, wd⟩ := id hW
  obtain ⟨N, hN⟩ : ∃ N : Nat, R 2 = N := ⟨(R 2).toNat, by omega⟩
  have eN : (R 2).toNat = N := by omega
  have W1 := tk1_W hW
  obtain ⟨W2, W2c, W2d⟩ := tk2_W hW
  have t1 : ∀ j, j < 340 → tk1 R j = R j := fun j hj => ntF_at _ j (by omega)
  have t2 : ∀ j, j < 340 → tk2 R j = R j := fun j hj => tk2_at (by omega)
  have tw : ∀ c, 0 ≤ c → c < R 2 → 0 ≤ tkW R c ∧ tkW R c ≤ 9 := fun c c1 c2 => ⟨(tkW_rg hW c1 c2).1, (tkW_rg hW c1 c2).2.1⟩
  have q1 : 0 ≤ tk2 R 6 := by rw [t2 6 (by omega)]; exact wp.1
  have q2 : tk2 R 6 ≤ 4 := by rw [t2 6 (by omega)]; exact wp.2.1
  have s5 : ∀ (n j : Nat), N - j < n → j ≤ N → ∀ d', MC d d' m r → PZ d' m r (goF (tk2 R) (tkW R) j) → (∀ c : Int, 0 ≤ c → c < N → d' (m + 8) c = tkW R c) → AW E mX7_tick (k + 7) 0 0 145 [some (kR m), some (kI r), some (kI N), some (kI j)] [] G d' K := by
    intro n
    induction n with
    | zero => intro j h; omega
    | succ n ih =>
      intro j hj hjN d' hc' hz hw
      refine A_iload_n dX7_tick_145 rfl rfl ?_
      refine A_iload_n dX7_tick_146 rfl rfl ?_
      refine A_icmp_ge (tgt := 179) dX7_tick_147 (by decide) (fun c_147 => ?_) (fun c_147 => ?_)
      · have : j = N := by omega
        subst this
        have z3 := hz 3 (by omega) (by omega)
        have et : goF (tk2 R) (tkW R) j = tk3 R := by unfold tk3; rw [eN]
        rw [et] at z3 hz
        have f2 : tk3 R 2 = R 2 := by
          rw [← et, goF_at j 2 (by omega) q1 q2]; exact t2 2 (by omega)
        have hz' := hz.u (i := 640 * r + 3) (q := 3) (v := tk3 R 3 + 1) rfl
        have f3 : tk3 R 3 = R 3 := by
          rw [← et, goF_at j 3 (by omega) q1 q2]; exact t2 3 (by omega)
        rw [f3] at z3
        refine A_aload_n dX7_tick_179 rfl rfl ?_
        refine A_getR (fi := 0) dX7_tick_180 fg_X7_7 rfl rfl (by assumption) (by assumption) ?_
        refine A_sipush dX7_tick_183 ⟨by decide, by decide⟩ rfl ?_
        refine A_iload_n dX7_tick_186 rfl rfl ?_
        refine A_imul_ok dX7_tick_187 (by omega) (by omega) ?_
        refine A_iconst dX7_tick_188 ⟨by decide, by decide⟩ ?_
        refine A_iadd_ok dX7_tick_189 (by omega) (by omega) ?_
        refine A_dup2 dX7_tick_190 (fun B => toV_cat B _) (fun B => toV_cat B _) ?_
        refine A_iald dX7_tick_191 (by assumption) (by omega) (by omega) ?_
        refine A_iconst dX7_tick_192 ⟨by decide, by decide⟩ ?_
        refine A_iadd_ok dX7_tick_193 (by omega) (by omega) ?_
        refine A_iast dX7_tick_194 (by assumption) (by omega) (by omega) ?_
        refine A_aload_n dX7_tick_195 rfl rfl ?_
        refine A_iload_n dX7_tick_196 rfl rfl ?_
        refine A_inv1 dX7_tick_197 mv_X7_190 kCl_7 (Nat.le_of_ble_eq_true rfl) (by assumption) ?_
        rw [z3, ← f3]
        refine C_noteFirst hM hz' h1 h2 (by rw [fU_n (by omega), f2]; omega) (by rw [fU_n (by omega), f2]; omega) (fun d2 m2 p2 => ?_)
        refine A_vret dX7_tick_200 rfl ?_
        exact hK _ ((hc'.z (by omega) (by omega)).tr m2.MC) p2
      · have hz' := hz.u (i := 640 * r + 340 + 24 * j + 2) (q := 340 + 24 * j + 2) (v := tkW R j) (by omega)
        have twj := tw j (by omega) (by omega)
        have gj := (goF_c (R := tk2 R) (w := tkW R) q1 q2 j j (by omega)).1 (by omega) 5 (by omega) (by omega)
        have c5 : cfR (tk2 R) j 5 = cfR R j 5 := by unfold cfR; exact tk2_at (by omega)
        have wj := (wc j (by omega) (by omega)).2.2.2.2.2.1
        have h5 : cfR (fU (goF (tk2 R) (tkW R) j) (340 + 24 * j + 2) (tkW R j)) j 5 = cfR R j 5 := by
          rw [← c5, ← gj]
          unfold cfR
          rw [fU_n (by omega)]
        have h2' : cfR (fU (goF (tk2 R) (tkW R) j) (340 + 24 * j + 2) (tkW R j)) j 2 = tkW R j := by
          unfold cfR; rw [fU_s]
        have hL : WL (fU (goF (tk2 R) (tkW R) j) (340 + 24 * j + 2) (tkW R j)) := by
          refine goF_WL (B := B) (by rw [t2 2 (by omega)]; omega) ?_ hB2 (fun c c1 c2 => tw c c1 (by rw [t2 2 (by omega)] at c2; exact c2)) j (by rw [t2 2 (by omega)]; omega) _
          obtain ⟨p1, p2, p3⟩ := wp
          refine ⟨q1, q2, fun b b1 b2 => ?_⟩
          rw [t2 6 (by omega)] at b2
          rw [t2 0 (by omega), t2 _ (by omega), t2 _ (by omega), t2 _ (by omega)]
          exact p3 b b1 b2
        refine A_aload_n dX7_tick_150 rfl rfl ?_
        refine A_getR (fi := 0) dX7_tick_151 fg_X7_7 rfl rfl (by assumption) (by assumption) ?_
        refine A_iload_n dX7_tick_154 rfl rfl ?_
        refine A_iload_n dX7_tick_155 rfl rfl ?_
        refine A_iconst dX7_tick_156 ⟨by decide, by decide⟩ ?_
        refine A_ins3 dX7_tick_157 ms_X7_74 (Nat.le_of_ble_eq_true rfl) ?_
        refine C_at (by omega) (by omega) (by omega) (by omega) (by omega) (by omega) ?_
        refine A_aload_n dX7_tick_160 rfl rfl ?_
        refine A_getR (fi := 8) dX7_tick_161 fg_X7_32 rfl rfl (by assumption) (by assumption) ?_
        refine A_iload_n dX7_tick_164 rfl rfl ?_
        refine A_iald dX7_tick_165 (by assumption) (by omega) (by omega) ?_
        rw [hw j (by omega) (by omega)]
        refine A_iast dX7_tick_166 (by assumption) (by omega) (by omega) ?_
        refine A_aload_n dX7_tick_167 rfl rfl ?_
        refine A_iload_n dX7_tick_168 rfl rfl ?_
        refine A_iload_n dX7_tick_169 rfl rfl ?_
        refine A_inv2 dX7_tick_170 mv_X7_187 kCl_7 (Nat.le_of_ble_eq_true rfl) (by assumption) ?_
        refine C_goOn hM hz' h1 h2 (goF_WG W2 q1 q2 j _) hL (by omega) (by rw [fU_n (by omega), goF_at j 2 (by omega) q1 q2, t2 2 (by omega)]; omega) (by rw [h2']; exact twj.1) (by rw [h2']; exact twj.2) (by rw [h5]; exact wj.1) (by rw [h5]; omega) (fun d2 m2 p2 => ?_)
        refine A_iinc_ok dX7_tick_173 rfl rfl (by omega) (by omega) ?_
        refine A_goto (tgt := 145) dX7_tick_176 (by decide) ?_
        refine ih (j + 1) (by omega) (by omega) d2 ((hc'.z (by omega) (by omega)).tr m2.MC) p2 (fun c c1 c2 => ?_)
        rw [m2.1 (m + 8) (by omega), kU_ne (by omega)]
        exact hw c c1 c2
  have s4 : ∀ (n j : Nat), N - j < n → j ≤ N → ∀ d', MC d d' m r → PZ d' m r (tk2 R) → (∀ c : Int, 0 ≤ c → c < j → d' (m + 8) c = tkW R c) → (∀ c : Int, (j : Int) ≤ c → c < N → d' (m + 8) c = (decS (tk1 R) c).2.1) → AW E mX7_tick (k + 7) 0 0 120 [some (kR m), some (kI r), some (kI N), some (kI j)] [] G d' K := by
    intro n
    induction n with
    | zero => intro j h; omega
    | succ n ih =>
      intro j hj hjN d' hc' hz hw hv
      refine A_iload_n dX7_tick_120 rfl rfl ?_
      refine A_iload_n dX7_tick_121 rfl rfl ?_
      refine A_icmp_ge (tgt := 143) dX7_tick_122 (by decide) (fun c_122 => ?_) (fun c_122 => ?_)
      · have : j = N := by omega
        subst this
        refine A_iconst dX7_tick_143 ⟨by decide, by decide⟩ ?_
        refine A_istore_n dX7_tick_144 rfl (Nat.le_of_ble_eq_true rfl) rfl ?_
        exact s5 (j + 1) 0 (by omega) (by omega) d' hc' hz hw
      · refine A_aload_n dX7_tick_125 rfl rfl ?_
        refine A_getR (fi := 8) dX7_tick_126 fg_X7_32 rfl rfl (by assumption) (by assumption) ?_
        refine A_iload_n dX7_tick_129 rfl rfl ?_
        refine A_aload_n dX7_tick_130 rfl rfl ?_
        refine A_iload_n dX7_tick_131 rfl rfl ?_
        refine A_iload_n dX7_tick_132 rfl rfl ?_
        refine A_inv2 dX7_tick_133 mv_X7_184 kCl_7 (Nat.le_of_ble_eq_true rfl) (by assumption) ?_
        refine C_limited hM hz h1 h2 W2 (tk2_B hW) (by rw [t2 1 (by omega)]; exact w1.1) (by rw [t2 1 (by omega)]; exact w1.2) (by omega) (by rw [t2 2 (by omega)]; omega) (hv j (by omega) (by omega)) ?_
        refine A_iast dX7_tick_136 (by assumption) (by omega) (by omega) ?_
        refine A_iinc_ok dX7_tick_137 rfl rfl (by omega) (by omega) ?_
        refine A_goto (tgt := 120) dX7_tick_140 (by decide) ?_
        refine ih (j + 1) (by omega) (by omega) _ (hc'.s (by omega) (by omega)) (hz.ne (by omega)) (fun c c1 c2 => ?_) (fun c c1 c2 => ?_)
        · unfold kU
          by_cases q : c = j
          · rw [if_pos ⟨rfl, q⟩, q]; rfl
          · rw [if_neg (by omega)]; exact hw c c1 (by omega)
        · unfold kU
          rw [if_neg (by omega)]
          exact hv c (by omega) c2
  have s3 : ∀ (n j : Nat), N - j < n → j ≤ N → ∀ d', MC d d' m r → PZ d' m r (lcF (tk1 R) (fun c => (decS (tk1 R) c).2.2) j) → (∀ c : Int, 0 ≤ c → c < N → d' (m + 8) c = (decS (tk1 R) c).2.1 ∧ d' (m + 9) c = (decS (tk1 R) c).2.2) → AW E mX7_tick (k + 7) 0 0 53 [some (kR m), some (kI r), some (kI N), some (kI j)] [] G d' K := by
    intro n
    induction n with
    | zero => intro j h; omega
    | succ n ih =>
      intro j hj hjN d' hc' hz hv
      refine A_iload_n dX7_tick_53 rfl rfl ?_
      refine A_iload_n dX7_tick_54 rfl rfl ?_
      refine A_icmp_ge (tgt := 118) dX7_tick_55 (by decide) (fun c_55 => ?_) (fun c_55 => ?_)
      · have : j = N := by omega
        subst this
        refine A_iconst dX7_tick_118 ⟨by decide, by decide⟩ ?_
        refine A_istore_n dX7_tick_119 rfl (Nat.le_of_ble_eq_true rfl) rfl ?_
        refine s4 (j + 1) 0 (by omega) (by omega) d' hc' ?_ (fun c c1 c2 => by omega) (fun c c1 c2 => (hv c (by omega) c2).1)
        unfold tk2
        rw [eN]
        exact hz
      · obtain ⟨l1, l2, l3⟩ := lcF_w (wo := fun c => (decS (tk1 R) c).2.2) W1 j (by rw [t1 2 (by omega)]; omega)
        have vj := hv j (by omega) (by omega)
        have next := ih (j + 1) (by omega) (by omega)
        have l6 := l2 j (by omega) (by rw [t1 2 (by omega)]; omega)
        have f2 : lcF (tk1 R) (fun c => (decS (tk1 R) c).2.2) j 2 = R 2 := by rw [lcF_at j 2 (by omega)]; exact t1 2 (by omega)
        refine A_aload_n dX7_tick_58 rfl rfl ?_
        refine A_getR (fi := 9) dX7_tick_59 fg_X7_35 rfl rfl (by assumption) (by assumption) ?_
        refine A_iload_n dX7_tick_62 rfl rfl ?_
        refine A_zald dX7_tick_63 (by assumption) (by omega) (by omega) ?_
        refine A_if_eq (tgt := 112) dX7_tick_64 (by decide) (fun c_64 => ?_) (fun c_64 => ?_)
        · rw [vj.2] at c_64
          refine A_iinc_ok dX7_tick_112 rfl rfl (by omega) (by omega) ?_
          refine A_goto (tgt := 53) dX7_tick_115 (by decide) ?_
          refine next d' hc' ?_ hv
          simp only [lcF]
          rw [if_neg (fun z => z.1 c_64)]
          exact hz
        · rw [vj.2] at c_64
          refine A_aload_n dX7_tick_67 rfl rfl ?_
          refine A_iload_n dX7_tick_68 rfl rfl ?_
          refine A_iload_n dX7_tick_69 rfl rfl ?_
          refine A_inv2 dX7_tick_70 mv_X7_180 kCl_7 (Nat.le_of_ble_eq_true rfl) (by assumption) ?_
          refine C_hasRoom hM hz h1 h2 l1 (by omega) (by rw [f2]; omega) ?_
          refine A_if_eq (tgt := 112) dX7_tick_73 (by decide) (fun c_73 => ?_) (fun c_73 => ?_)
          · refine A_iinc_ok dX7_tick_112 rfl rfl (by omega) (by omega) ?_
            refine A_goto (tgt := 53) dX7_tick_115 (by decide) ?_
            refine next d' hc' ?_ hv
            simp only [lcF]
            rw [if_neg (fun z => z.2 c_73)]
            exact hz
          · have z6 := hz (340 + 24 * j + 6) (by omega) (by omega)
            have hz1 := hz.u (i := 640 * r + 340 + 24 * j + 1) (q := 340 + 24 * j + 1) (v := 1 - cfR (lcF (tk1 R) (fun c => (decS (tk1 R) c).2.2) j) j 1) (by omega)
            have hz2 := hz1.u (i := 640 * r + 340 + 24 * j + 6) (q := 340 + 24 * j + 6) (v := cfR (lcF (tk1 R) (fun c => (decS (tk1 R) c).2.2) j) j 6 + 1) (by omega)
            have v6 : ∀ w, kU d' (m + 1) (640 * r + 340 + 24 * j + 1) w (m + 1) (640 * r + 340 + 24 * j + 6) = cfR (lcF (tk1 R) (fun c => (decS (tk1 R) c).2.2) j) j 6 := fun w => by
              unfold kU
              rw [if_neg (by omega), show 640 * r + 340 + 24 * (j : Int) + 6 = 640 * r + (340 + 24 * j + 6) by omega, z6]
              rfl
            have hR := hz
            refine A_aload_n dX7_tick_76 rfl rfl ?_
            refine A_getR (fi := 0) dX7_tick_77 fg_X7_7 rfl rfl (by assumption) (by assumption) ?_
            refine A_iload_n dX7_tick_80 rfl rfl ?_
            refine A_iload_n dX7_tick_81 rfl rfl ?_
            refine A_iconst dX7_tick_82 ⟨by decide, by decide⟩ ?_
            refine A_ins3 dX7_tick_83 ms_X7_74 (Nat.le_of_ble_eq_true rfl) ?_
            refine C_at (by omega) (by omega) (by omega) (by omega) (by omega) (by omega) ?_
            refine A_iconst dX7_tick_86 ⟨by decide, by decide⟩ ?_
            refine A_aload_n dX7_tick_87 rfl rfl ?_
            refine A_iload_n dX7_tick_88 rfl rfl ?_
            refine A_iload_n dX7_tick_89 rfl rfl ?_
            refine A_iconst dX7_tick_90 ⟨by decide, by decide⟩ ?_
            refine A_inv3 dX7_tick_91 mv_X7_57 kCl_7 (Nat.le_of_ble_eq_true rfl) (by assumption) ?_
            refine C_of hM hR (by omega) (by omega) (by omega) (by omega) (by omega) (by omega) ?_
            refine A_isub_ok dX7_tick_94 (by omega) (by omega) ?_
            refine A_iast dX7_tick_95 (by assumption) (by omega) (by omega) ?_
            refine A_aload_n dX7_tick_96 rfl rfl ?_
            refine A_getR (fi := 0) dX7_tick_97 fg_X7_7 rfl rfl (by assumption) (by assumption) ?_
            refine A_iload_n dX7_tick_100 rfl rfl ?_
            refine A_iload_n dX7_tick_101 rfl rfl ?_
            refine A_bipush dX7_tick_102 ⟨by decide, by decide⟩ rfl ?_
            refine A_ins3 dX7_tick_104 ms_X7_74 (Nat.le_of_ble_eq_true rfl) ?_
            refine C_at (by omega) (by omega) (by omega) (by omega) (by omega) (by omega) ?_
            refine A_dup2 dX7_tick_107 (fun B => toV_cat B _) (fun B => toV_cat B _) ?_
            refine A_iald dX7_tick_108 (by assumption) (by omega) (by omega) ?_
            rw [v6]
            refine A_iconst dX7_tick_109 ⟨by decide, by decide⟩ ?_
            refine A_iadd_ok dX7_tick_110 (by omega) (by omega) ?_
            refine A_iast dX7_tick_111 (by assumption) (by omega) (by omega) ?_
            refine A_iinc_ok dX7_tick_112 rfl rfl (by omega) (by omega) ?_
            refine A_goto (tgt := 53) dX7_tick_115 (by decide) ?_
            refine next _ ((hc'.z (by omega) (by omega)).z (by omega) (by omega)) ?_ (fun c c1 c2 => by rw [kU_ne (by omega), kU_ne (by omega), kU_ne (by omega), kU_ne (by omega)]; exact hv c c1 c2)
            simp only [lcF]
            rw [if_pos ⟨c_64, c_73⟩]
            exact hz2
  have s2 : ∀ (n j : Nat), N - j < n → j ≤ N → ∀ d', MC d d' m r → PZ d' m r (tk1 R) → (∀ c : Int, 0 ≤ c → c < j → d' (m + 8) c = (decS (tk1 R) c).2.1 ∧ d' (m + 9) c = (decS (tk1 R) c).2.2) → AW E mX7_tick (k + 7) 0 0 34 [some (kR m), some (kI r), some (kI N), some (kI j)] [] G d' K := by
    intro n
    induction n with
    | zero => intro j h; omega
    | succ n ih =>
      intro j hj hjN d' hc' hz hv
      refine A_iload_n dX7_tick_34 rfl rfl ?_
      refine A_iload_n dX7_tick_35 rfl rfl ?_
      refine A_icmp_ge (tgt := 51) dX7_tick_36 (by decide) (fun c_36 => ?_) (fun c_36 => ?_)
      · have : j = N := by omega
        subst this
        refine A_iconst dX7_tick_51 ⟨by decide, by decide⟩ ?_
        refine A_istore_n dX7_tick_52 rfl (Nat.le_of_ble_eq_true rfl) rfl ?_
        exact s3 (j + 1) 0 (by omega) (by omega) d' hc' hz hv
      · obtain ⟨y1, y2, y3, y4, y5, y6, y7, y8, y9⟩ := W1.2.2.2.2.1 j (by omega) (by rw [t1 2 (by omega)]; omega)
        have n8 := ((ntF_n hW.G (R 2).toNat j (by omega) (by omega) (by omega)).2 (by omega)).1
        have n8' : cfR (tk1 R) j 8 = cfR R j 8 + 1 := n8
        have wj := (wc j (by omega) (by omega)).2.2.2.2.2.2.2.2
        refine A_aload_n dX7_tick_39 rfl rfl ?_
        refine A_iload_n dX7_tick_40 rfl rfl ?_
        refine A_iload_n dX7_tick_41 rfl rfl ?_
        refine A_inv2 dX7_tick_42 mv_X7_177 kCl_7 (Nat.le_of_ble_eq_true rfl) (by assumption) ?_
        refine C_decide hM hz h1 h2 (by omega) (by omega) y4.1 y4.2 y5.1 y5.2 (by omega) y3.1 y3.2 (W1.2.2.2.2.2.2.2.1 _ y4.1 y4.2) (fun d2 g1 g2 g3 g4 => ?_) (dec_rg hW (by omega) (by omega)).2
        refine A_iinc_ok dX7_tick_45 rfl rfl (by omega) (by omega) ?_
        refine A_goto (tgt := 34) dX7_tick_48 (by decide) ?_
        refine ih (j + 1) (by omega) (by omega) d2 (hc'.dec g1 g2) (fun i i1 i2 => by rw [g1 (m + 1) (by omega) (by omega) (by omega) (by omega)]; exact hz i i1 i2) (fun c c1 c2 => ?_)
        rw [g3, g4]
        by_cases q : c = j
        · subst q
          rw [fU_s, fU_s]
          exact ⟨rfl, rfl⟩
        · rw [fU_n q, fU_n q]
          exact hv c c1 (by omega)
  have s1 : ∀ (n j : Nat), N - j < n → j ≤ N → ∀ d', MR d d' m r → PZ d' m r (ntF R j) → AW E mX7_tick (k + 7) 0 0 15 [some (kR m), some (kI r), some (kI N), some (kI j)] [] G d' K := by
    intro n
    induction n with
    | zero => intro j h; omega
    | succ n ih =>
      intro j hj hjN d' hc' hz
      refine A_iload_n dX7_tick_15 rfl rfl ?_
      refine A_iload_n dX7_tick_16 rfl rfl ?_
      refine A_icmp_ge (tgt := 32) dX7_tick_17 (by decide) (fun c_17 => ?_) (fun c_17 => ?_)
      · have : j = N := by omega
        subst this
        refine A_iconst dX7_tick_32 ⟨by decide, by decide⟩ ?_
        refine A_istore_n dX7_tick_33 rfl (Nat.le_of_ble_eq_true rfl) rfl ?_
        refine s2 (j + 1) 0 (by omega) (by omega) d' hc'.MC ?_ (fun c c1 c2 => by omega)
        unfold tk1
        rw [eN]
        exact hz
      · have g := ntF_g (R := R) j
        have n8 := (ntF_n hW.G j j (by omega) (by omega) (by omega)).1 (by omega) 8 (by omega) (by omega)
        have wj := (wc j (by omega) (by omega)).2.2.2.2.2.2.2.2
        refine A_aload_n dX7_tick_20 rfl rfl ?_
        refine A_iload_n dX7_tick_21 rfl rfl ?_
        refine A_iload_n dX7_tick_22 rfl rfl ?_
        refine A_inv2 dX7_tick_23 mv_X7_173 kCl_7 (Nat.le_of_ble_eq_true rfl) (by assumption) ?_
        refine C_note hM hz h1 h2 (WG_g g hW.G) (fun c c1 c2 => by rw [g.2.1] at c2; rw [(g.2.2 c c1 c2).2.2]; exact (wc c c1 c2).2.2.1) (by omega) (by rw [g.2.1]; omega) (by rw [n8]; exact wj.1) (by rw [n8]; omega) (fun d2 m2 p2 => ?_)
        refine A_iinc_ok dX7_tick_26 rfl rfl (by omega) (by omega) ?_
        refine A_goto (tgt := 15) dX7_tick_29 (by decide) ?_
        exact ih (j + 1) (by omega) (by omega) d2 (hc'.tr m2) p2
  have z2 := hR 2 (by omega) (by omega)
  rw [hN] at z2
  refine AM.of rfl (Nat.le_of_ble_eq_true rfl) ?_
  refine A_aload_n dX7_tick_0 rfl rfl ?_
  refine A_getR (fi := 0) dX7_tick_1 fg_X7_7 rfl rfl (by assumption) (by assumption) ?_
  refine A_sipush dX7_tick_4 ⟨by decide, by decide⟩ rfl ?_
  refine A_iload_n dX7_tick_7 rfl rfl ?_
  refine A_imul_ok dX7_tick_8 (by omega) (by omega) ?_
  refine A_iconst dX7_tick_9 ⟨by decide, by decide⟩ ?_
  refine A_iadd_ok dX7_tick_10 (by omega) (by omega) ?_
  refine A_iald dX7_tick_11 (by assumption) (by omega) (by omega) ?_
  refine A_istore_n dX7_tick_12 rfl (Nat.le_of_ble_eq_true rfl) rfl ?_
  refine A_iconst dX7_tick_13 ⟨by decide, by decide⟩ ?_
  refine A_istore_n dX7_tick_14 rfl (Nat.le_of_ble_eq_true rfl) rfl ?_
  rw [z2]
  exact s1 (N + 1) 0 (by omega) (by omega) d MR.rf hR
end T9
