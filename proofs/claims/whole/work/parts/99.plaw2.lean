/-! the law's cases -/
def LV (i : Int) : List (Option AV) := [none, some (kR 1), some (kR 170), some (kI i)]
def LG (G : HG) (d : HD) : Prop := XG G ∧ MO G 170 ∧ 184 ≤ G.1 ∧ JS G d
theorem WR.wg {R : Int → Int} {B : Int} (h : WR R B) : WG R := ⟨h.1.1, h.1.2, h.2.2.1.1, h.2.2.1.2, fun c c1 c2 => (h.2.2.2.2.1 c c1 c2).1⟩
theorem KS_same {R : Int → Int} {B : Int} {n n' : Nat} {h s h' s' : Int → Int} (W : WR R B) (H : KS R (knP R) n h s) (H' : KS R (knP R) n' h' s') : n = n' ∧ ∀ i : Nat, i < n → h i = h' i ∧ s i = s' i := KS_u H H' (fun a b ha hb e => key_inj W.2.2.2.2.2.2.2.2 (fun c c1 c2 => (W.2.2.2.2.1 c c1 c2).2.1) ha.1.1 ha.1.2 hb.1.1 hb.1.2 e)
theorem suF_cg {s s' : Int → Int} : ∀ n : Nat, (∀ i : Nat, i < n → s i = s' i) → suF s n = suF s' n
  | 0, _ => rfl
  | n + 1, h => by
    have e := suF_cg n (fun i hi => h i (by omega))
    have e2 := h n (by omega)
    simp only [suF, e, e2]
theorem countA_6 {R s : Int → Int} {n : Nat} {what : Int} {n' : Nat} {s' : Int → Int} (h : ¬ (what = 6 ∨ what = 7)) : countA R n s what = countA R n' s' what := by
  unfold countA
  rw [if_neg (show ¬ what = 6 by omega), if_neg (show ¬ what = 7 by omega), if_neg (show ¬ what = 6 by omega), if_neg (show ¬ what = 7 by omega)]
section LC
variable {E : EE} {b N0 : Nat} {xs : Nat → Int32} {bc bs : Nat} {G : HG} {d : HD} {i : Int}
theorem Lc_ring (hN : N0 ≤ 3072) (hi : 0 ≤ i) (hi6 : i + 6 ≤ N0) (hG : LG G d) (hbc : 9 ≤ bc) (hbs : 527 ≤ bs) (K : ∀ (G' : HG) (d' : HD), LG G' d' → BW E b N0 xs (bc - 9) (bs - 527) 1131 (LV i) [] G' d') : BW E b N0 xs bc bs 164 (LV i) [] G d := by
  obtain ⟨X, hM, hg, R, S, tp, T, im, I, C, hI, W⟩ := hG
  have hO1 := X.1.1
  have hO7 := hM.1
  obtain ⟨w0, w1, w2, w3, wc, wb, wp, wv, wd⟩ := id W.1
  have b5 := wb.1
  have b52 := wb.2.1
  have b6 := wp.1
  have b62 := wp.2.1
  have w9 := W.2.1
  have wt := W.2.2.2.1
  unfold LV
  refine B_aload_n dL_law_164 rfl rfl ?_
  refine B_scr dL_law_165 dL_law_166 dL_law_167 dL_law_168 dL_law_169 rfl hN (by omega) (by omega) ?_
  refine B_scr dL_law_170 dL_law_171 dL_law_172 dL_law_173 dL_law_174 rfl hN (by omega) (by omega) ?_
  refine B_inv (k := 40) (bc' := 0) (bs' := 0) [_, _] (Nat.le_of_ble_eq_true rfl) dL_law_175 mv_L_13 kCl_6 rfl rfl (Nat.le_of_ble_eq_true rfl) (by omega) (by omega) (by assumption) ?_
  refine M_ring X C W (fun d1 f1 C1 => ?_)
  have hI1 := hI.fm f1
  refine B_aload_n dL_law_178 rfl rfl ?_
  refine B_scr dL_law_179 dL_law_180 dL_law_181 dL_law_182 dL_law_183 rfl hN (by omega) (by omega) ?_
  refine B_scr dL_law_184 dL_law_185 dL_law_186 dL_law_187 dL_law_188 rfl hN (by omega) (by omega) ?_
  refine B_inv (k := 40) (bc' := 0) (bs' := 0) [_, _] (Nat.le_of_ble_eq_true rfl) dL_law_189 mv_L_17 kCl_7 rfl rfl (Nat.le_of_ble_eq_true rfl) (by omega) (by omega) (by assumption) ?_
  refine C_ring hM hI1.1  (fun d2 m2 z2 => ?_)
  refine B_icmp_eq (tgt := 1131) dL_law_192 (by decide) (fun c_192 => ?_) (fun c_192 => absurd c_192 (by omega))
  exact (K G _ ⟨X, hM, by omega, _, _, _, _, _, _, C1.mo W.ring (fun a ha => m2.1 a (by omega)), hI1.mc m2 z2, W.ring⟩).more (by omega) (by omega)
theorem Lc_car (hN : N0 ≤ 3072) (hi : 0 ≤ i) (hi6 : i + 6 ≤ N0) (hG : LG G d) (hbc : 9 ≤ bc) (hbs : 527 ≤ bs) (K : ∀ (G' : HG) (d' : HD), LG G' d' → BW E b N0 xs (bc - 9) (bs - 527) 1131 (LV i) [] G' d') : BW E b N0 xs bc bs 197 (LV i) [] G d := by
  obtain ⟨X, hM, hg, R, S, tp, T, im, I, C, hI, W⟩ := hG
  have hO1 := X.1.1
  have hO7 := hM.1
  obtain ⟨w0, w1, w2, w3, wc, wb, wp, wv, wd⟩ := id W.1
  have b5 := wb.1
  have b52 := wb.2.1
  have b6 := wp.1
  have b62 := wp.2.1
  have w9 := W.2.1
  have wt := W.2.2.2.1
  unfold LV
  refine B_aload_n dL_law_197 rfl rfl ?_
  refine B_scr dL_law_198 dL_law_199 dL_law_200 dL_law_201 dL_law_202 rfl hN (by omega) (by omega) ?_
  refine B_scr dL_law_203 dL_law_204 dL_law_205 dL_law_206 dL_law_207 rfl hN (by omega) (by omega) ?_
  refine B_scr dL_law_208 dL_law_209 dL_law_210 dL_law_211 dL_law_212 rfl hN (by omega) (by omega) ?_
  refine B_inv (k := 40) (bc' := 0) (bs' := 0) [_, _, _] (Nat.le_of_ble_eq_true rfl) dL_law_213 mv_L_18 kCl_6 rfl rfl (Nat.le_of_ble_eq_true rfl) (by omega) (by omega) (by assumption) ?_
  refine M_car X C W (fun d1 f1 C1 => ?_)
  have hI1 := hI.fm f1
  refine B_aload_n dL_law_216 rfl rfl ?_
  refine B_scr dL_law_217 dL_law_218 dL_law_219 dL_law_220 dL_law_221 rfl hN (by omega) (by omega) ?_
  refine B_scr dL_law_222 dL_law_223 dL_law_224 dL_law_225 dL_law_226 rfl hN (by omega) (by omega) ?_
  refine B_scr dL_law_227 dL_law_228 dL_law_229 dL_law_230 dL_law_231 rfl hN (by omega) (by omega) ?_
  refine B_inv (k := 40) (bc' := 0) (bs' := 0) [_, _, _] (Nat.le_of_ble_eq_true rfl) dL_law_232 mv_L_22 kCl_7 rfl rfl (Nat.le_of_ble_eq_true rfl) (by omega) (by omega) (by assumption) ?_
  refine C_car hM hI1.1 w0.1 w0.2 w2.1 w2.2 (fun d2 m2 z2 => ?_)
  refine B_icmp_eq (tgt := 1131) dL_law_235 (by decide) (fun c_235 => ?_) (fun c_235 => absurd c_235 (by omega))
  exact (K G _ ⟨X, hM, by omega, _, _, _, _, _, _, C1.mo W.car (fun a ha => m2.1 a (by omega)), hI1.mc m2 z2, W.car⟩).more (by omega) (by omega)
theorem Lc_evenly (hN : N0 ≤ 3072) (hi : 0 ≤ i) (hi6 : i + 6 ≤ N0) (hG : LG G d) (hbc : 9 ≤ bc) (hbs : 527 ≤ bs) (K : ∀ (G' : HG) (d' : HD), LG G' d' → BW E b N0 xs (bc - 9) (bs - 527) 1131 (LV i) [] G' d') : BW E b N0 xs bc bs 240 (LV i) [] G d := by
  obtain ⟨X, hM, hg, R, S, tp, T, im, I, C, hI, W⟩ := hG
  have hO1 := X.1.1
  have hO7 := hM.1
  obtain ⟨w0, w1, w2, w3, wc, wb, wp, wv, wd⟩ := id W.1
  have b5 := wb.1
  have b52 := wb.2.1
  have b6 := wp.1
  have b62 := wp.2.1
  have w9 := W.2.1
  have wt := W.2.2.2.1
  unfold LV
  refine B_aload_n dL_law_240 rfl rfl ?_
  refine B_scr dL_law_241 dL_law_242 dL_law_243 dL_law_244 dL_law_245 rfl hN (by omega) (by omega) ?_
  refine B_scr dL_law_246 dL_law_247 dL_law_248 dL_law_249 dL_law_250 rfl hN (by omega) (by omega) ?_
  refine B_inv (k := 40) (bc' := 0) (bs' := 0) [_, _] (Nat.le_of_ble_eq_true rfl) dL_law_251 mv_L_23 kCl_6 rfl rfl (Nat.le_of_ble_eq_true rfl) (by omega) (by omega) (by assumption) ?_
  refine M_evenly X C W (fun d1 f1 C1 => ?_)
  have hI1 := hI.fm f1
  refine B_aload_n dL_law_254 rfl rfl ?_
  refine B_scr dL_law_255 dL_law_256 dL_law_257 dL_law_258 dL_law_259 rfl hN (by omega) (by omega) ?_
  refine B_scr dL_law_260 dL_law_261 dL_law_262 dL_law_263 dL_law_264 rfl hN (by omega) (by omega) ?_
  refine B_inv (k := 40) (bc' := 0) (bs' := 0) [_, _] (Nat.le_of_ble_eq_true rfl) dL_law_265 mv_L_26 kCl_7 rfl rfl (Nat.le_of_ble_eq_true rfl) (by omega) (by omega) (by assumption) ?_
  refine C_evenly hM hI1.1 w0.1 w0.2 (fun d2 m2 z2 => ?_)
  refine B_icmp_eq (tgt := 1131) dL_law_268 (by decide) (fun c_268 => ?_) (fun c_268 => absurd c_268 (by omega))
  exact (K G _ ⟨X, hM, by omega, _, _, _, _, _, _, C1.mo W.evenly (fun a ha => m2.1 a (by omega)), hI1.mc m2 z2, W.evenly⟩).more (by omega) (by omega)
theorem Lc_set (hN : N0 ≤ 3072) (hi : 0 ≤ i) (hi6 : i + 6 ≤ N0) (hG : LG G d) (hbc : 9 ≤ bc) (hbs : 527 ≤ bs) (K : ∀ (G' : HG) (d' : HD), LG G' d' → BW E b N0 xs (bc - 9) (bs - 527) 1131 (LV i) [] G' d') : BW E b N0 xs bc bs 273 (LV i) [] G d := by
  obtain ⟨X, hM, hg, R, S, tp, T, im, I, C, hI, W⟩ := hG
  have hO1 := X.1.1
  have hO7 := hM.1
  obtain ⟨w0, w1, w2, w3, wc, wb, wp, wv, wd⟩ := id W.1
  have b5 := wb.1
  have b52 := wb.2.1
  have b6 := wp.1
  have b62 := wp.2.1
  have w9 := W.2.1
  have wt := W.2.2.2.1
  unfold LV
  refine B_aload_n dL_law_273 rfl rfl ?_
  refine B_scr dL_law_274 dL_law_275 dL_law_276 dL_law_277 dL_law_278 rfl hN (by omega) (by omega) ?_
  refine B_scr dL_law_279 dL_law_280 dL_law_281 dL_law_282 dL_law_283 rfl hN (by omega) (by omega) ?_
  refine B_scr dL_law_284 dL_law_285 dL_law_286 dL_law_287 dL_law_288 rfl hN (by omega) (by omega) ?_
  refine B_inv (k := 40) (bc' := 0) (bs' := 0) [_, _, _] (Nat.le_of_ble_eq_true rfl) dL_law_289 mv_L_27 kCl_6 rfl rfl (Nat.le_of_ble_eq_true rfl) (by omega) (by omega) (by assumption) ?_
  refine M_set X C W (fun d1 f1 C1 => ?_)
  have hI1 := hI.fm f1
  refine B_aload_n dL_law_292 rfl rfl ?_
  refine B_scr dL_law_293 dL_law_294 dL_law_295 dL_law_296 dL_law_297 rfl hN (by omega) (by omega) ?_
  refine B_scr dL_law_298 dL_law_299 dL_law_300 dL_law_301 dL_law_302 rfl hN (by omega) (by omega) ?_
  refine B_scr dL_law_303 dL_law_304 dL_law_305 dL_law_306 dL_law_307 rfl hN (by omega) (by omega) ?_
  refine B_inv (k := 40) (bc' := 0) (bs' := 0) [_, _, _] (Nat.le_of_ble_eq_true rfl) dL_law_308 mv_L_30 kCl_7 rfl rfl (Nat.le_of_ble_eq_true rfl) (by omega) (by omega) (by assumption) ?_
  refine C_set hM hI1.1 w2.1 w2.2 (fun d2 m2 z2 => ?_)
  refine B_icmp_eq (tgt := 1131) dL_law_311 (by decide) (fun c_311 => ?_) (fun c_311 => absurd c_311 (by omega))
  exact (K G _ ⟨X, hM, by omega, _, _, _, _, _, _, C1.mo W.set (fun a ha => m2.1 a (by omega)), hI1.mc m2 z2, W.set⟩).more (by omega) (by omega)
theorem Lc_board (hN : N0 ≤ 3072) (hi : 0 ≤ i) (hi6 : i + 6 ≤ N0) (hG : LG G d) (hbc : 9 ≤ bc) (hbs : 527 ≤ bs) (K : ∀ (G' : HG) (d' : HD), LG G' d' → BW E b N0 xs (bc - 9) (bs - 527) 1131 (LV i) [] G' d') : BW E b N0 xs bc bs 458 (LV i) [] G d := by
  obtain ⟨X, hM, hg, R, S, tp, T, im, I, C, hI, W⟩ := hG
  have hO1 := X.1.1
  have hO7 := hM.1
  obtain ⟨w0, w1, w2, w3, wc, wb, wp, wv, wd⟩ := id W.1
  have b5 := wb.1
  have b52 := wb.2.1
  have b6 := wp.1
  have b62 := wp.2.1
  have w9 := W.2.1
  have wt := W.2.2.2.1
  unfold LV
  refine B_aload_n dL_law_458 rfl rfl ?_
  refine B_scr dL_law_459 dL_law_460 dL_law_461 dL_law_462 dL_law_463 rfl hN (by omega) (by omega) ?_
  refine B_scr dL_law_464 dL_law_465 dL_law_466 dL_law_467 dL_law_468 rfl hN (by omega) (by omega) ?_
  refine B_scr dL_law_469 dL_law_470 dL_law_471 dL_law_472 dL_law_473 rfl hN (by omega) (by omega) ?_
  refine B_inv (k := 40) (bc' := 0) (bs' := 0) [_, _, _] (Nat.le_of_ble_eq_true rfl) dL_law_474 mv_L_51 kCl_6 rfl rfl (Nat.le_of_ble_eq_true rfl) (by omega) (by omega) (by assumption) ?_
  refine M_board X C W (fun d1 f1 C1 => ?_)
  have hI1 := hI.fm f1
  refine B_aload_n dL_law_477 rfl rfl ?_
  refine B_scr dL_law_478 dL_law_479 dL_law_480 dL_law_481 dL_law_482 rfl hN (by omega) (by omega) ?_
  refine B_scr dL_law_483 dL_law_484 dL_law_485 dL_law_486 dL_law_487 rfl hN (by omega) (by omega) ?_
  refine B_scr dL_law_488 dL_law_489 dL_law_490 dL_law_491 dL_law_492 rfl hN (by omega) (by omega) ?_
  refine B_inv (k := 40) (bc' := 0) (bs' := 0) [_, _, _] (Nat.le_of_ble_eq_true rfl) dL_law_493 mv_L_54 kCl_7 rfl rfl (Nat.le_of_ble_eq_true rfl) (by omega) (by omega) (by assumption) ?_
  refine C_board hM hI1.1 w0.1 w0.2 b5 b52 (fun d2 m2 z2 => ?_)
  refine B_icmp_eq (tgt := 1131) dL_law_496 (by decide) (fun c_496 => ?_) (fun c_496 => absurd c_496 (by omega))
  exact (K G _ ⟨X, hM, by omega, _, _, _, _, _, _, C1.mo W.board (fun a ha => m2.1 a (by omega)), hI1.mc m2 z2, W.board⟩).more (by omega) (by omega)
theorem Lc_loop (hN : N0 ≤ 3072) (hi : 0 ≤ i) (hi6 : i + 6 ≤ N0) (hG : LG G d) (hbc : 9 ≤ bc) (hbs : 527 ≤ bs) (K : ∀ (G' : HG) (d' : HD), LG G' d' → BW E b N0 xs (bc - 9) (bs - 527) 1131 (LV i) [] G' d') : BW E b N0 xs bc bs 501 (LV i) [] G d := by
  obtain ⟨X, hM, hg, R, S, tp, T, im, I, C, hI, W⟩ := hG
  have hO1 := X.1.1
  have hO7 := hM.1
  obtain ⟨w0, w1, w2, w3, wc, wb, wp, wv, wd⟩ := id W.1
  have b5 := wb.1
  have b52 := wb.2.1
  have b6 := wp.1
  have b62 := wp.2.1
  have w9 := W.2.1
  have wt := W.2.2.2.1
  unfold LV
  refine B_aload_n dL_law_501 rfl rfl ?_
  refine B_scr dL_law_502 dL_law_503 dL_law_504 dL_law_505 dL_law_506 rfl hN (by omega) (by omega) ?_
  refine B_inv (k := 40) (bc' := 0) (bs' := 0) [_] (Nat.le_of_ble_eq_true rfl) dL_law_507 mv_L_55 kCl_6 rfl rfl (Nat.le_of_ble_eq_true rfl) (by omega) (by omega) (by assumption) ?_
  refine M_loop X C W (fun d1 f1 C1 => ?_)
  have hI1 := hI.fm f1
  refine B_aload_n dL_law_510 rfl rfl ?_
  refine B_scr dL_law_511 dL_law_512 dL_law_513 dL_law_514 dL_law_515 rfl hN (by omega) (by omega) ?_
  refine B_inv (k := 40) (bc' := 0) (bs' := 0) [_] (Nat.le_of_ble_eq_true rfl) dL_law_516 mv_L_58 kCl_7 rfl rfl (Nat.le_of_ble_eq_true rfl) (by omega) (by omega) (by assumption) ?_
  refine C_loop hM hI1.1 w0.1 w0.2 b6 b62 (fun d2 m2 z2 => ?_)
  refine B_icmp_eq (tgt := 1131) dL_law_519 (by decide) (fun c_519 => ?_) (fun c_519 => absurd c_519 (by omega))
  exact (K G _ ⟨X, hM, by omega, _, _, _, _, _, _, C1.mo W.loop (fun a ha => m2.1 a (by omega)), hI1.mc m2 z2, W.loop⟩).more (by omega) (by omega)
theorem Lc_tap (hN : N0 ≤ 3072) (hi : 0 ≤ i) (hi6 : i + 6 ≤ N0) (hG : LG G d) (hbc : 9 ≤ bc) (hbs : 527 ≤ bs) (K : ∀ (G' : HG) (d' : HD), LG G' d' → BW E b N0 xs (bc - 9) (bs - 527) 1131 (LV i) [] G' d') : BW E b N0 xs bc bs 557 (LV i) [] G d := by
  obtain ⟨X, hM, hg, R, S, tp, T, im, I, C, hI, W⟩ := hG
  have hO1 := X.1.1
  have hO7 := hM.1
  obtain ⟨w0, w1, w2, w3, wc, wb, wp, wv, wd⟩ := id W.1
  have b5 := wb.1
  have b52 := wb.2.1
  have b6 := wp.1
  have b62 := wp.2.1
  have w9 := W.2.1
  have wt := W.2.2.2.1
  unfold LV
  refine B_aload_n dL_law_557 rfl rfl ?_
  refine B_scr dL_law_558 dL_law_559 dL_law_560 dL_law_561 dL_law_562 rfl hN (by omega) (by omega) ?_
  refine B_inv (k := 40) (bc' := 0) (bs' := 0) [_] (Nat.le_of_ble_eq_true rfl) dL_law_563 mv_L_63 kCl_6 rfl rfl (Nat.le_of_ble_eq_true rfl) (by omega) (by omega) (by assumption) ?_
  refine M_tap X C W (fun d1 f1 C1 => ?_)
  have hI1 := hI.fm f1
  refine B_aload_n dL_law_566 rfl rfl ?_
  refine B_scr dL_law_567 dL_law_568 dL_law_569 dL_law_570 dL_law_571 rfl hN (by omega) (by omega) ?_
  refine B_inv (k := 40) (bc' := 0) (bs' := 0) [_] (Nat.le_of_ble_eq_true rfl) dL_law_572 mv_L_66 kCl_7 rfl rfl (Nat.le_of_ble_eq_true rfl) (by omega) (by omega) (by assumption) ?_
  refine C_tap hM hI1.1 w2.1 w2.2 (fun d2 m2 z2 => ?_)
  refine B_icmp_eq (tgt := 1131) dL_law_575 (by decide) (fun c_575 => ?_) (fun c_575 => absurd c_575 (by omega))
  exact (K G _ ⟨X, hM, by omega, _, _, _, _, _, _, C1.mo W.tap (fun a ha => m2.1 a (by omega)), hI1.mc m2 z2, W.tap⟩).more (by omega) (by omega)
theorem Lc_ticks (hN : N0 ≤ 3072) (hi : 0 ≤ i) (hi6 : i + 6 ≤ N0) (hG : LG G d) (hbc : 9 ≤ bc) (hbs : 527 ≤ bs) (K : ∀ (G' : HG) (d' : HD), LG G' d' → BW E b N0 xs (bc - 9) (bs - 527) 1131 (LV i) [] G' d') : BW E b N0 xs bc bs 580 (LV i) [] G d := by
  obtain ⟨X, hM, hg, R, S, tp, T, im, I, C, hI, W⟩ := hG
  have hO1 := X.1.1
  have hO7 := hM.1
  obtain ⟨w0, w1, w2, w3, wc, wb, wp, wv, wd⟩ := id W.1
  have b5 := wb.1
  have b52 := wb.2.1
  have b6 := wp.1
  have b62 := wp.2.1
  have w9 := W.2.1
  have wt := W.2.2.2.1
  unfold LV
  refine B_aload_n dL_law_580 rfl rfl ?_
  refine B_scr dL_law_581 dL_law_582 dL_law_583 dL_law_584 dL_law_585 rfl hN (by omega) (by omega) ?_
  refine B_inv (k := 40) (bc' := 0) (bs' := 0) [_] (Nat.le_of_ble_eq_true rfl) dL_law_586 mv_L_67 kCl_6 rfl rfl (Nat.le_of_ble_eq_true rfl) (by omega) (by omega) (by assumption) ?_
  refine M_ticks X C W (fun d1 f1 C1 => ?_)
  have hI1 := hI.fm f1
  refine B_aload_n dL_law_589 rfl rfl ?_
  refine B_scr dL_law_590 dL_law_591 dL_law_592 dL_law_593 dL_law_594 rfl hN (by omega) (by omega) ?_
  refine B_inv (k := 40) (bc' := 0) (bs' := 0) [_] (Nat.le_of_ble_eq_true rfl) dL_law_595 mv_L_70 kCl_7 rfl rfl (Nat.le_of_ble_eq_true rfl) (by omega) (by omega) (by assumption) ?_
  refine C_ticks hM hI1.1 W.1 w3.1 (by omega) (fun d2 m2 z2 => ?_)
  refine B_icmp_eq (tgt := 1131) dL_law_598 (by decide) (fun c_598 => ?_) (fun c_598 => absurd c_598 (by omega))
  exact (K G _ ⟨X, hM, by omega, _, _, _, _, _, _, C1.mo W.ticks (fun a ha => m2.1 a (by omega)), hI1.mc m2 z2, W.ticks⟩).more (by omega) (by omega)
theorem Lc_paces (hN : N0 ≤ 3072) (hi : 0 ≤ i) (hi6 : i + 6 ≤ N0) (hG : LG G d) (hbc : 9 ≤ bc) (hbs : 527 ≤ bs) (K : ∀ (G' : HG) (d' : HD), LG G' d' → BW E b N0 xs (bc - 9) (bs - 527) 1131 (LV i) [] G' d') : BW E b N0 xs bc bs 873 (LV i) [] G d := by
  obtain ⟨X, hM, hg, R, S, tp, T, im, I, C, hI, W⟩ := hG
  have hO1 := X.1.1
  have hO7 := hM.1
  obtain ⟨w0, w1, w2, w3, wc, wb, wp, wv, wd⟩ := id W.1
  have b5 := wb.1
  have b52 := wb.2.1
  have b6 := wp.1
  have b62 := wp.2.1
  have w9 := W.2.1
  have wt := W.2.2.2.1
  unfold LV
  refine B_aload_n dL_law_873 rfl rfl ?_
  refine B_scr dL_law_874 dL_law_875 dL_law_876 dL_law_877 dL_law_878 rfl hN (by omega) (by omega) ?_
  refine B_scr dL_law_879 dL_law_880 dL_law_881 dL_law_882 dL_law_883 rfl hN (by omega) (by omega) ?_
  refine B_scr dL_law_884 dL_law_885 dL_law_886 dL_law_887 dL_law_888 rfl hN (by omega) (by omega) ?_
  refine B_inv (k := 40) (bc' := 0) (bs' := 0) [_, _, _] (Nat.le_of_ble_eq_true rfl) dL_law_889 mv_L_112 kCl_6 rfl rfl (Nat.le_of_ble_eq_true rfl) (by omega) (by omega) (by assumption) ?_
  refine M_paces X C W (fun d1 f1 C1 => ?_)
  have hI1 := hI.fm f1
  refine B_aload_n dL_law_892 rfl rfl ?_
  refine B_scr dL_law_893 dL_law_894 dL_law_895 dL_law_896 dL_law_897 rfl hN (by omega) (by omega) ?_
  refine B_scr dL_law_898 dL_law_899 dL_law_900 dL_law_901 dL_law_902 rfl hN (by omega) (by omega) ?_
  refine B_scr dL_law_903 dL_law_904 dL_law_905 dL_law_906 dL_law_907 rfl hN (by omega) (by omega) ?_
  refine B_inv (k := 40) (bc' := 0) (bs' := 0) [_, _, _] (Nat.le_of_ble_eq_true rfl) dL_law_908 mv_L_115 kCl_7 rfl rfl (Nat.le_of_ble_eq_true rfl) (by omega) (by omega) (by assumption) ?_
  refine C_paces hM hI1.1 hI1.2.1 W.2.2.1 w2.1 w2.2 (fun d2 m2 z2 => ?_)
  refine B_icmp_eq (tgt := 1131) dL_law_911 (by decide) (fun c_911 => ?_) (fun c_911 => absurd c_911 (by omega))
  exact (K G _ ⟨X, hM, by omega, _, _, _, _, _, _, C1.mo W.paces (fun a ha => m2.1 a (by omega)), hI1.mc m2 z2, W.paces⟩).more (by omega) (by omega)
theorem Lc_taps (hN : N0 ≤ 3072) (hi : 0 ≤ i) (hi6 : i + 6 ≤ N0) (hG : LG G d) (hbc : 9 ≤ bc) (hbs : 527 ≤ bs) (K : ∀ (G' : HG) (d' : HD), LG G' d' → BW E b N0 xs (bc - 9) (bs - 527) 1131 (LV i) [] G' d') : BW E b N0 xs bc bs 916 (LV i) [] G d := by
  obtain ⟨X, hM, hg, R, S, tp, T, im, I, C, hI, W⟩ := hG
  have hO1 := X.1.1
  have hO7 := hM.1
  obtain ⟨w0, w1, w2, w3, wc, wb, wp, wv, wd⟩ := id W.1
  have b5 := wb.1
  have b52 := wb.2.1
  have b6 := wp.1
  have b62 := wp.2.1
  have w9 := W.2.1
  have wt := W.2.2.2.1
  unfold LV
  refine B_aload_n dL_law_916 rfl rfl ?_
  refine B_scr dL_law_917 dL_law_918 dL_law_919 dL_law_920 dL_law_921 rfl hN (by omega) (by omega) ?_
  refine B_scr dL_law_922 dL_law_923 dL_law_924 dL_law_925 dL_law_926 rfl hN (by omega) (by omega) ?_
  refine B_inv (k := 40) (bc' := 0) (bs' := 0) [_, _] (Nat.le_of_ble_eq_true rfl) dL_law_927 mv_L_116 kCl_6 rfl rfl (Nat.le_of_ble_eq_true rfl) (by omega) (by omega) (by assumption) ?_
  refine M_taps X C W (fun d1 f1 C1 => ?_)
  have hI1 := hI.fm f1
  refine B_aload_n dL_law_930 rfl rfl ?_
  refine B_scr dL_law_931 dL_law_932 dL_law_933 dL_law_934 dL_law_935 rfl hN (by omega) (by omega) ?_
  refine B_scr dL_law_936 dL_law_937 dL_law_938 dL_law_939 dL_law_940 rfl hN (by omega) (by omega) ?_
  refine B_inv (k := 40) (bc' := 0) (bs' := 0) [_, _] (Nat.le_of_ble_eq_true rfl) dL_law_941 mv_L_119 kCl_7 rfl rfl (Nat.le_of_ble_eq_true rfl) (by omega) (by omega) (by assumption) ?_
  refine C_taps hM hI1.1 hI1.2.1 W.2.2.1 w2.1 w2.2 (fun d2 m2 z2 => ?_)
  refine B_icmp_eq (tgt := 1131) dL_law_944 (by decide) (fun c_944 => ?_) (fun c_944 => absurd c_944 (by omega))
  exact (K G _ ⟨X, hM, by omega, _, _, _, _, _, _, C1.mo W.taps (fun a ha => m2.1 a (by omega)), hI1.mc m2 z2, W.taps⟩).more (by omega) (by omega)
theorem Lc_type (hN : N0 ≤ 3072) (hi : 0 ≤ i) (hi6 : i + 6 ≤ N0) (hG : LG G d) (hbc : 9 ≤ bc) (hbs : 527 ≤ bs) (K : ∀ (G' : HG) (d' : HD), LG G' d' → BW E b N0 xs (bc - 9) (bs - 527) 1131 (LV i) [] G' d') : BW E b N0 xs bc bs 349 (LV i) [] G d := by
  obtain ⟨X, hM, hg, R, S, tp, T, im, I, C, hI, W⟩ := hG
  have hO1 := X.1.1
  have hO7 := hM.1
  obtain ⟨w0, w1, w2, w3, wc, wb, wp, wv, wd⟩ := id W.1
  have b5 := wb.1
  have b52 := wb.2.1
  have b6 := wp.1
  have b62 := wp.2.1
  have w9 := W.2.1
  have wt := W.2.2.2.1
  unfold LV
  refine B_aload_n dL_law_349 rfl rfl ?_
  refine B_scr dL_law_350 dL_law_351 dL_law_352 dL_law_353 dL_law_354 rfl hN (by omega) (by omega) ?_
  refine B_i2l dL_law_355 ?_
  refine B_bipush dL_law_356 ⟨by decide, by decide⟩ rfl ?_
  refine B_lshl dL_law_358 ?_
  refine B_scr dL_law_359 dL_law_360 dL_law_361 dL_law_362 dL_law_363 rfl hN (by omega) (by omega) ?_
  refine B_i2l dL_law_364 ?_
  refine B_ldc2 (x := 4294967295) dL_law_365 cs_L_35 rfl ⟨by decide, by decide⟩ ?_
  refine B_land dL_law_368 ?_
  refine B_lor dL_law_369 ?_
  refine B_scr dL_law_370 dL_law_371 dL_law_372 dL_law_373 dL_law_374 rfl hN (by omega) (by omega) ?_
  refine B_inv (k := 40) (bc' := 0) (bs' := 0) [_, _] (Nat.le_of_ble_eq_true rfl) dL_law_375 mv_L_37 kCl_6 rfl rfl (Nat.le_of_ble_eq_true rfl) (by omega) (by omega) (by assumption) ?_
  refine M_type X C W (fun d1 f1 C1 => ?_)
  have hI1 := hI.fm f1
  refine B_aload_n dL_law_378 rfl rfl ?_
  refine B_scr dL_law_379 dL_law_380 dL_law_381 dL_law_382 dL_law_383 rfl hN (by omega) (by omega) ?_
  refine B_i2l dL_law_384 ?_
  refine B_bipush dL_law_385 ⟨by decide, by decide⟩ rfl ?_
  refine B_lshl dL_law_387 ?_
  refine B_scr dL_law_388 dL_law_389 dL_law_390 dL_law_391 dL_law_392 rfl hN (by omega) (by omega) ?_
  refine B_i2l dL_law_393 ?_
  refine B_ldc2 (x := 4294967295) dL_law_394 cs_L_35 rfl ⟨by decide, by decide⟩ ?_
  refine B_land dL_law_397 ?_
  refine B_lor dL_law_398 ?_
  refine B_scr dL_law_399 dL_law_400 dL_law_401 dL_law_402 dL_law_403 rfl hN (by omega) (by omega) ?_
  refine B_inv (k := 40) (bc' := 0) (bs' := 0) [_, _] (Nat.le_of_ble_eq_true rfl) dL_law_404 mv_L_41 kCl_7 rfl rfl (Nat.le_of_ble_eq_true rfl) (by omega) (by omega) (by assumption) ?_
  refine C_type hM hI1.2.2.1 wt.1 wt.2 (fun d2 m2 z2 => ?_)
  refine B_icmp_eq (tgt := 1131) dL_law_407 (by decide) (fun c_407 => ?_) (fun c_407 => absurd c_407 (by omega))
  exact (K G _ ⟨X, hM, by omega, _, _, _, _, _, _, C1.mo W.type (fun a ha => m2 a (by omega)), hI1.mt m2 z2, W.type⟩).more (by omega) (by omega)
theorem Lc_habit (hN : N0 ≤ 3072) (hi : 0 ≤ i) (hi6 : i + 6 ≤ N0) (hG : LG G d) (hbc : 9 ≤ bc) (hbs : 527 ≤ bs) (K : ∀ (G' : HG) (d' : HD), LG G' d' → BW E b N0 xs (bc - 9) (bs - 527) 1131 (LV i) [] G' d') : BW E b N0 xs bc bs 412 (LV i) [] G d := by
  obtain ⟨X, hM, hg, R, S, tp, T, im, I, C, hI, W⟩ := hG
  have hO1 := X.1.1
  have hO7 := hM.1
  obtain ⟨w0, w1, w2, w3, wc, wb, wp, wv, wd⟩ := id W.1
  have b5 := wb.1
  have b52 := wb.2.1
  have b6 := wp.1
  have b62 := wp.2.1
  have w9 := W.2.1
  have wt := W.2.2.2.1
  unfold LV
  refine B_aload_n dL_law_412 rfl rfl ?_
  refine B_scr dL_law_413 dL_law_414 dL_law_415 dL_law_416 dL_law_417 rfl hN (by omega) (by omega) ?_
  refine B_inv (k := 40) (bc' := 9) (bs' := 527) [_] (Nat.le_of_ble_eq_true rfl) dL_law_418 mv_L_42 kCl_6 rfl rfl (Nat.le_of_ble_eq_true rfl) (by omega) (by omega) (by assumption) ?_
  refine M_habit X hg C W (fun G1 d1 g1 n1 f1 C1 => ?_)
  have hI1 := hI.fm f1
  have X1 := X.gs g1
  have hM1 := hM.gs g1
  have hg1 := g1.1
  replace hO7 := hM1.1
  refine B_aload_n dL_law_421 rfl rfl ?_
  refine B_scr dL_law_422 dL_law_423 dL_law_424 dL_law_425 dL_law_426 rfl hN (by omega) (by omega) ?_
  refine B_inv (k := 40) (bc' := 0) (bs' := 0) [_] (Nat.le_of_ble_eq_true rfl) dL_law_427 mv_L_46 kCl_7 rfl rfl (Nat.le_of_ble_eq_true rfl) (by omega) (by omega) (by assumption) ?_
  refine C_habit hM1 hI1.1 hI1.2.2.1 wt.1 wt.2 (fun d2 m2 z3 z2 => ?_)
  refine B_icmp_eq (tgt := 1131) dL_law_430 (by decide) (fun c_430 => ?_) (fun c_430 => absurd c_430 (by omega))
  exact (K G1 _ ⟨X1, hM1, by omega, _, _, _, _, _, _, C1.mo W.habit.1 (fun a ha => m2.1 a (by omega)), hI1.mh m2 z3 W.habit.2 z2, W.habit.1⟩).more (by omega) (by omega)
theorem Lc_told (hN : N0 ≤ 3072) (hi : 0 ≤ i) (hi6 : i + 6 ≤ N0) (hG : LG G d) (hbc : 9 ≤ bc) (hbs : 527 ≤ bs) (K : ∀ (G' : HG) (d' : HD), LG G' d' → BW E b N0 xs (bc - 9) (bs - 527) 1131 (LV i) [] G' d') : BW E b N0 xs bc bs 316 (LV i) [] G d := by
  obtain ⟨X, hM, hg, R, S, tp, T, im, I, C, hI, W⟩ := hG
  have hO1 := X.1.1
  have hO7 := hM.1
  obtain ⟨w0, w1, w2, w3, wc, wb, wp, wv, wd⟩ := id W.1
  have b5 := wb.1
  have b52 := wb.2.1
  have b6 := wp.1
  have b62 := wp.2.1
  have w9 := W.2.1
  have wt := W.2.2.2.1
  unfold LV
  refine B_aload_n dL_law_316 rfl rfl ?_
  refine B_scr dL_law_317 dL_law_318 dL_law_319 dL_law_320 dL_law_321 rfl hN (by omega) (by omega) ?_
  refine B_scr dL_law_322 dL_law_323 dL_law_324 dL_law_325 dL_law_326 rfl hN (by omega) (by omega) ?_
  refine B_inv (k := 40) (bc' := 0) (bs' := 0) [_, _] (Nat.le_of_ble_eq_true rfl) dL_law_327 mv_L_31 kCl_6 rfl rfl (Nat.le_of_ble_eq_true rfl) (by omega) (by omega) (by assumption) ?_
  refine M_told X C W (fun d1 f1 C1 => ?_)
  have hI1 := hI.fm f1
  refine B_aload_n dL_law_330 rfl rfl ?_
  refine B_scr dL_law_331 dL_law_332 dL_law_333 dL_law_334 dL_law_335 rfl hN (by omega) (by omega) ?_
  refine B_scr dL_law_336 dL_law_337 dL_law_338 dL_law_339 dL_law_340 rfl hN (by omega) (by omega) ?_
  refine B_inv (k := 40) (bc' := 0) (bs' := 0) [_, _] (Nat.le_of_ble_eq_true rfl) dL_law_341 mv_L_34 kCl_7 rfl rfl (Nat.le_of_ble_eq_true rfl) (by omega) (by omega) (by assumption) ?_
  refine C_told hM hI1.1 W.1.wg ?_
  refine B_icmp_eq (tgt := 1131) dL_law_344 (by decide) (fun c_344 => ?_) (fun c_344 => absurd c_344 (by omega))
  exact (K G _ ⟨X, hM, by omega, _, _, _, _, _, _, C1, hI1, W⟩).more (by omega) (by omega)
theorem Lc_holds (hN : N0 ≤ 3072) (hi : 0 ≤ i) (hi6 : i + 6 ≤ N0) (hG : LG G d) (hbc : 9 ≤ bc) (hbs : 527 ≤ bs) (K : ∀ (G' : HG) (d' : HD), LG G' d' → BW E b N0 xs (bc - 9) (bs - 527) 1131 (LV i) [] G' d') : BW E b N0 xs bc bs 435 (LV i) [] G d := by
  obtain ⟨X, hM, hg, R, S, tp, T, im, I, C, hI, W⟩ := hG
  have hO1 := X.1.1
  have hO7 := hM.1
  obtain ⟨w0, w1, w2, w3, wc, wb, wp, wv, wd⟩ := id W.1
  have b5 := wb.1
  have b52 := wb.2.1
  have b6 := wp.1
  have b62 := wp.2.1
  have w9 := W.2.1
  have wt := W.2.2.2.1
  unfold LV
  refine B_aload_n dL_law_435 rfl rfl ?_
  refine B_scr dL_law_436 dL_law_437 dL_law_438 dL_law_439 dL_law_440 rfl hN (by omega) (by omega) ?_
  refine B_inv (k := 40) (bc' := 0) (bs' := 0) [_] (Nat.le_of_ble_eq_true rfl) dL_law_441 mv_L_47 kCl_6 rfl rfl (Nat.le_of_ble_eq_true rfl) (by omega) (by omega) (by assumption) ?_
  refine M_holds X C W (fun d1 f1 C1 => ?_)
  have hI1 := hI.fm f1
  refine B_aload_n dL_law_444 rfl rfl ?_
  refine B_scr dL_law_445 dL_law_446 dL_law_447 dL_law_448 dL_law_449 rfl hN (by omega) (by omega) ?_
  refine B_inv (k := 40) (bc' := 0) (bs' := 0) [_] (Nat.le_of_ble_eq_true rfl) dL_law_450 mv_L_50 kCl_7 rfl rfl (Nat.le_of_ble_eq_true rfl) (by omega) (by omega) (by assumption) ?_
  refine C_holds hM hI1.1 W.1 (fun d2 m2 z2 => ?_)
  refine B_icmp_eq (tgt := 1131) dL_law_453 (by decide) (fun c_453 => ?_) (fun c_453 => absurd c_453 (by omega))
  exact (K G _ ⟨X, hM, by omega, _, _, _, _, _, _, C1.mo W (fun a ha => m2.1 a (by omega)), hI1.mc m2 z2, W⟩).more (by omega) (by omega)
theorem Lc_looped (hN : N0 ≤ 3072) (hi : 0 ≤ i) (hi6 : i + 6 ≤ N0) (hG : LG G d) (hbc : 9 ≤ bc) (hbs : 527 ≤ bs) (K : ∀ (G' : HG) (d' : HD), LG G' d' → BW E b N0 xs (bc - 9) (bs - 527) 1131 (LV i) [] G' d') : BW E b N0 xs bc bs 524 (LV i) [] G d := by
  obtain ⟨X, hM, hg, R, S, tp, T, im, I, C, hI, W⟩ := hG
  have hO1 := X.1.1
  have hO7 := hM.1
  obtain ⟨w0, w1, w2, w3, wc, wb, wp, wv, wd⟩ := id W.1
  have b5 := wb.1
  have b52 := wb.2.1
  have b6 := wp.1
  have b62 := wp.2.1
  have w9 := W.2.1
  have wt := W.2.2.2.1
  unfold LV
  refine B_aload_n dL_law_524 rfl rfl ?_
  refine B_scr dL_law_525 dL_law_526 dL_law_527 dL_law_528 dL_law_529 rfl hN (by omega) (by omega) ?_
  refine B_scr dL_law_530 dL_law_531 dL_law_532 dL_law_533 dL_law_534 rfl hN (by omega) (by omega) ?_
  refine B_inv (k := 40) (bc' := 0) (bs' := 0) [_, _] (Nat.le_of_ble_eq_true rfl) dL_law_535 mv_L_59 kCl_6 rfl rfl (Nat.le_of_ble_eq_true rfl) (by omega) (by omega) (by assumption) ?_
  refine M_looped X C W ?_
  refine B_aload_n dL_law_538 rfl rfl ?_
  refine B_scr dL_law_539 dL_law_540 dL_law_541 dL_law_542 dL_law_543 rfl hN (by omega) (by omega) ?_
  refine B_scr dL_law_544 dL_law_545 dL_law_546 dL_law_547 dL_law_548 rfl hN (by omega) (by omega) ?_
  refine B_inv (k := 40) (bc' := 0) (bs' := 0) [_, _] (Nat.le_of_ble_eq_true rfl) dL_law_549 mv_L_62 kCl_7 rfl rfl (Nat.le_of_ble_eq_true rfl) (by omega) (by omega) (by assumption) ?_
  refine C_looped hM hI.1 b6 b62 ?_
  refine B_icmp_eq (tgt := 1131) dL_law_552 (by decide) (fun c_552 => ?_) (fun c_552 => absurd c_552 (by omega))
  exact (K G _ ⟨X, hM, by omega, _, _, _, _, _, _, C, hI, W⟩).more (by omega) (by omega)
theorem Lc_first (hN : N0 ≤ 3072) (hi : 0 ≤ i) (hi6 : i + 6 ≤ N0) (hG : LG G d) (hbc : 9 ≤ bc) (hbs : 527 ≤ bs) (K : ∀ (G' : HG) (d' : HD), LG G' d' → BW E b N0 xs (bc - 9) (bs - 527) 1131 (LV i) [] G' d') : BW E b N0 xs bc bs 659 (LV i) [] G d := by
  obtain ⟨X, hM, hg, R, S, tp, T, im, I, C, hI, W⟩ := hG
  have hO1 := X.1.1
  have hO7 := hM.1
  obtain ⟨w0, w1, w2, w3, wc, wb, wp, wv, wd⟩ := id W.1
  have b5 := wb.1
  have b52 := wb.2.1
  have b6 := wp.1
  have b62 := wp.2.1
  have w9 := W.2.1
  have wt := W.2.2.2.1
  unfold LV
  refine B_aload_n dL_law_659 rfl rfl ?_
  refine B_inv (k := 40) (bc' := 0) (bs' := 0) [] (Nat.le_of_ble_eq_true rfl) dL_law_660 mv_L_79 kCl_6 rfl rfl (Nat.le_of_ble_eq_true rfl) (by omega) (by omega) (by assumption) ?_
  refine M_first X C ?_
  refine B_aload_n dL_law_663 rfl rfl ?_
  refine B_inv (k := 40) (bc' := 0) (bs' := 0) [] (Nat.le_of_ble_eq_true rfl) dL_law_664 mv_L_83 kCl_7 rfl rfl (Nat.le_of_ble_eq_true rfl) (by omega) (by omega) (by assumption) ?_
  refine C_first hM hI.1 ?_
  refine B_icmp_eq (tgt := 1131) dL_law_667 (by decide) (fun c_667 => ?_) (fun c_667 => absurd c_667 (by omega))
  exact (K G _ ⟨X, hM, by omega, _, _, _, _, _, _, C, hI, W⟩).more (by omega) (by omega)
theorem Lc_count (hN : N0 ≤ 3072) (hi : 0 ≤ i) (hi6 : i + 6 ≤ N0) (hG : LG G d) (hbc : 9 ≤ bc) (hbs : 527 ≤ bs) (K : ∀ (G' : HG) (d' : HD), LG G' d' → BW E b N0 xs (bc - 9) (bs - 527) 1131 (LV i) [] G' d') : BW E b N0 xs bc bs 603 (LV i) [] G d := by
  obtain ⟨X, hM, hg, R, S, tp, T, im, I, C, hI, W⟩ := hG
  have hO1 := X.1.1
  have hO7 := hM.1
  obtain ⟨w0, w1, w2, w3, wc, wb, wp, wv, wd⟩ := id W.1
  have b5 := wb.1
  have b52 := wb.2.1
  have b6 := wp.1
  have b62 := wp.2.1
  have w9 := W.2.1
  have wt := W.2.2.2.1
  unfold LV
  refine B_aload_n dL_law_603 rfl rfl ?_
  refine B_scr dL_law_604 dL_law_605 dL_law_606 dL_law_607 dL_law_608 rfl hN (by omega) (by omega) ?_
  refine B_inv (k := 40) (bc' := 0) (bs' := 0) [_] (Nat.le_of_ble_eq_true rfl) dL_law_609 mv_L_71 kCl_6 rfl rfl (Nat.le_of_ble_eq_true rfl) (by omega) (by omega) (by assumption) ?_
  refine M_count X C W (fun d1 n1 h1 s1 f1 C1 k1 => ?_)
  have hI1 := hI.fm f1
  refine B_aload_n dL_law_612 rfl rfl ?_
  refine B_scr dL_law_613 dL_law_614 dL_law_615 dL_law_616 dL_law_617 rfl hN (by omega) (by omega) ?_
  refine B_inv (k := 40) (bc' := 0) (bs' := 0) [_] (Nat.le_of_ble_eq_true rfl) dL_law_618 mv_L_74 kCl_7 rfl rfl (Nat.le_of_ble_eq_true rfl) (by omega) (by omega) (by assumption) ?_
  refine C_count hM hI1.1 W.1 (fun hr => ?_) (fun hr d2 n2 h2 s2 m2 k2 => ?_)
  · have e : countA R n1 s1 (xs (i + 1).toNat).toInt = -1 := by unfold countA; rw [if_pos hr]
    rw [e]
    refine B_icmp_eq (tgt := 1131) dL_law_621 (by decide) (fun c_621 => ?_) (fun c_621 => absurd c_621 (by omega))
    exact (K G _ ⟨X, hM, by omega, _, _, _, _, _, _, C1, hI1, W⟩).more (by omega) (by omega)
  · have e : countA R n1 s1 (xs (i + 1).toNat).toInt = countA R n2 s2 (xs (i + 1).toNat).toInt := by
      by_cases h67 : (xs (i + 1).toNat).toInt = 6 ∨ (xs (i + 1).toNat).toInt = 7
      · obtain ⟨e1, e2⟩ := KS_same W.1 (k1 h67) k2
        subst e1
        unfold countA
        rw [suF_cg n1 (fun i hi => (e2 i hi).2)]
      · exact countA_6 h67
    rw [e]
    refine B_icmp_eq (tgt := 1131) dL_law_621 (by decide) (fun c_621 => ?_) (fun c_621 => absurd c_621 (by omega))
    exact (K G _ ⟨X, hM, by omega, _, _, _, _, _, _, C1.mo W (fun a ha => m2.1 a (by omega) (by omega) (by omega)), hI1.mk m2, W⟩).more (by omega) (by omega)
theorem Lc_knot (hN : N0 ≤ 3072) (hi : 0 ≤ i) (hi6 : i + 6 ≤ N0) (hG : LG G d) (hbc : 9 ≤ bc) (hbs : 527 ≤ bs) (K : ∀ (G' : HG) (d' : HD), LG G' d' → BW E b N0 xs (bc - 9) (bs - 527) 1131 (LV i) [] G' d') : BW E b N0 xs bc bs 626 (LV i) [] G d := by
  obtain ⟨X, hM, hg, R, S, tp, T, im, I, C, hI, W⟩ := hG
  have hO1 := X.1.1
  have hO7 := hM.1
  obtain ⟨w0, w1, w2, w3, wc, wb, wp, wv, wd⟩ := id W.1
  have b5 := wb.1
  have b52 := wb.2.1
  have b6 := wp.1
  have b62 := wp.2.1
  have w9 := W.2.1
  have wt := W.2.2.2.1
  unfold LV
  refine B_aload_n dL_law_626 rfl rfl ?_
  refine B_scr dL_law_627 dL_law_628 dL_law_629 dL_law_630 dL_law_631 rfl hN (by omega) (by omega) ?_
  refine B_scr dL_law_632 dL_law_633 dL_law_634 dL_law_635 dL_law_636 rfl hN (by omega) (by omega) ?_
  refine B_inv (k := 40) (bc' := 0) (bs' := 0) [_, _] (Nat.le_of_ble_eq_true rfl) dL_law_637 mv_L_75 kCl_6 rfl rfl (Nat.le_of_ble_eq_true rfl) (by omega) (by omega) (by assumption) ?_
  by_cases hr : ((xs (i + 1).toNat).toInt < 0 ∨ ¬ (0 ≤ (xs (i + 2).toNat).toInt ∧ (xs (i + 2).toNat).toInt ≤ 1))
  · refine M_knot X C W (fun _ => ?_) (fun h => absurd hr h)
    refine B_aload_n dL_law_640 rfl rfl ?_
    refine B_scr dL_law_641 dL_law_642 dL_law_643 dL_law_644 dL_law_645 rfl hN (by omega) (by omega) ?_
    refine B_scr dL_law_646 dL_law_647 dL_law_648 dL_law_649 dL_law_650 rfl hN (by omega) (by omega) ?_
    refine B_inv (k := 40) (bc' := 0) (bs' := 0) [_, _] (Nat.le_of_ble_eq_true rfl) dL_law_651 mv_L_78 kCl_7 rfl rfl (Nat.le_of_ble_eq_true rfl) (by omega) (by omega) (by assumption) ?_
    refine C_knot hM hI.1 W.1 (fun _ => ?_) (fun h => absurd hr h)
    refine B_icmp_eq (tgt := 1131) dL_law_654 (by decide) (fun c_654 => ?_) (fun c_654 => absurd c_654 (by omega))
    exact (K G _ ⟨X, hM, by omega, _, _, _, _, _, _, C, hI, W⟩).more (by omega) (by omega)
  · refine M_knot X C W (fun h => absurd h hr) (fun _ d1 n1 h1 s1 f1 C1 k1 => ?_)
    have hI1 := hI.fm f1
    refine B_aload_n dL_law_640 rfl rfl ?_
    refine B_scr dL_law_641 dL_law_642 dL_law_643 dL_law_644 dL_law_645 rfl hN (by omega) (by omega) ?_
    refine B_scr dL_law_646 dL_law_647 dL_law_648 dL_law_649 dL_law_650 rfl hN (by omega) (by omega) ?_
    refine B_inv (k := 40) (bc' := 0) (bs' := 0) [_, _] (Nat.le_of_ble_eq_true rfl) dL_law_651 mv_L_78 kCl_7 rfl rfl (Nat.le_of_ble_eq_true rfl) (by omega) (by omega) (by assumption) ?_
    refine C_knot hM hI1.1 W.1 (fun h => absurd h hr) (fun _ d2 n2 h2 s2 m2 k2 => ?_)
    have e : knotA n1 h1 s1 (xs (i + 1).toNat).toInt (xs (i + 2).toNat).toInt = knotA n2 h2 s2 (xs (i + 1).toNat).toInt (xs (i + 2).toNat).toInt := by
      obtain ⟨e1, e2⟩ := KS_same W.1 k1 k2
      subst e1
      unfold knotA
      rw [if_neg hr, if_neg hr]
      by_cases z : (n1 : Int) ≤ (xs (i + 1).toNat).toInt
      · rw [if_pos z, if_pos z]
      · rw [if_neg z, if_neg z]
        have e3 := e2 (xs (i + 1).toNat).toInt.toNat (by omega)
        rw [toN (by omega)] at e3
        rw [e3.1, e3.2]
    rw [e]
    refine B_icmp_eq (tgt := 1131) dL_law_654 (by decide) (fun c_654 => ?_) (fun c_654 => absurd c_654 (by omega))
    exact (K G _ ⟨X, hM, by omega, _, _, _, _, _, _, C1.mo W (fun a ha => m2.1 a (by omega) (by omega) (by omega)), hI1.mk m2, W⟩).more (by omega) (by omega)
theorem Lc_cost (hN : N0 ≤ 3072) (hi : 0 ≤ i) (hi6 : i + 6 ≤ N0) (hG : LG G d) (hbc : 9 ≤ bc) (hbs : 527 ≤ bs) (K : ∀ (G' : HG) (d' : HD), LG G' d' → BW E b N0 xs (bc - 9) (bs - 527) 1131 (LV i) [] G' d') : BW E b N0 xs bc bs 672 (LV i) [] G d := by
  obtain ⟨X, hM, hg, R, S, tp, T, im, I, C, hI, W⟩ := hG
  have hO1 := X.1.1
  have hO7 := hM.1
  obtain ⟨w0, w1, w2, w3, wc, wb, wp, wv, wd⟩ := id W.1
  have b5 := wb.1
  have b52 := wb.2.1
  have b6 := wp.1
  have b62 := wp.2.1
  have w9 := W.2.1
  have wt := W.2.2.2.1
  unfold LV
  refine B_aload_n dL_law_672 rfl rfl ?_
  refine B_scr dL_law_673 dL_law_674 dL_law_675 dL_law_676 dL_law_677 rfl hN (by omega) (by omega) ?_
  refine B_scr dL_law_678 dL_law_679 dL_law_680 dL_law_681 dL_law_682 rfl hN (by omega) (by omega) ?_
  refine B_scr dL_law_683 dL_law_684 dL_law_685 dL_law_686 dL_law_687 rfl hN (by omega) (by omega) ?_
  refine B_inv (k := 40) (bc' := 0) (bs' := 0) [_, _, _] (Nat.le_of_ble_eq_true rfl) dL_law_688 mv_L_84 kCl_6 rfl rfl (Nat.le_of_ble_eq_true rfl) (by omega) (by omega) (by assumption) ?_
  refine M_cost X C W (fun G1 d1 g1 n1 f1 C1 => ?_)
  have hI1 := hI.fm f1
  have X1 := X.gs g1
  have hM1 := hM.gs g1
  replace hO7 := hM1.1
  refine B_aload_n dL_law_691 rfl rfl ?_
  refine B_scr dL_law_692 dL_law_693 dL_law_694 dL_law_695 dL_law_696 rfl hN (by omega) (by omega) ?_
  refine B_scr dL_law_697 dL_law_698 dL_law_699 dL_law_700 dL_law_701 rfl hN (by omega) (by omega) ?_
  refine B_scr dL_law_702 dL_law_703 dL_law_704 dL_law_705 dL_law_706 rfl hN (by omega) (by omega) ?_
  refine B_inv (k := 40) (bc' := 0) (bs' := 0) [_, _, _] (Nat.le_of_ble_eq_true rfl) dL_law_707 mv_L_87 kCl_7 rfl rfl (Nat.le_of_ble_eq_true rfl) (by omega) (by omega) (by assumption) ?_
  refine C_cost hM1 hI1.1 W.1 w3.1 (by omega) (fun d2 m2 => ?_)
  refine B_icmp_eq (tgt := 1131) dL_law_710 (by decide) (fun c_710 => ?_) (fun c_710 => absurd c_710 (by omega))
  exact (K G1 _ ⟨X1, hM1, by omega, _, _, _, _, _, _, C1.mo W (fun a ha => m2.1 a (by omega)), hI1.mf m2, W⟩).more (by omega) (by omega)
theorem Lc_after (hN : N0 ≤ 3072) (hi : 0 ≤ i) (hi6 : i + 6 ≤ N0) (hG : LG G d) (hbc : 9 ≤ bc) (hbs : 527 ≤ bs) (K : ∀ (G' : HG) (d' : HD), LG G' d' → BW E b N0 xs (bc - 9) (bs - 527) 1131 (LV i) [] G' d') : BW E b N0 xs bc bs 715 (LV i) [] G d := by
  obtain ⟨X, hM, hg, R, S, tp, T, im, I, C, hI, W⟩ := hG
  have hO1 := X.1.1
  have hO7 := hM.1
  obtain ⟨w0, w1, w2, w3, wc, wb, wp, wv, wd⟩ := id W.1
  have b5 := wb.1
  have b52 := wb.2.1
  have b6 := wp.1
  have b62 := wp.2.1
  have w9 := W.2.1
  have wt := W.2.2.2.1
  unfold LV
  refine B_aload_n dL_law_715 rfl rfl ?_
  refine B_scr dL_law_716 dL_law_717 dL_law_718 dL_law_719 dL_law_720 rfl hN (by omega) (by omega) ?_
  refine B_scr dL_law_721 dL_law_722 dL_law_723 dL_law_724 dL_law_725 rfl hN (by omega) (by omega) ?_
  refine B_inv (k := 40) (bc' := 0) (bs' := 0) [_, _] (Nat.le_of_ble_eq_true rfl) dL_law_726 mv_L_88 kCl_6 rfl rfl (Nat.le_of_ble_eq_true rfl) (by omega) (by omega) (by assumption) ?_
  refine M_after X C W (fun G1 d1 g1 n1 f1 C1 => ?_)
  have hI1 := hI.fm f1
  have X1 := X.gs g1
  have hM1 := hM.gs g1
  replace hO7 := hM1.1
  refine B_aload_n dL_law_729 rfl rfl ?_
  refine B_scr dL_law_730 dL_law_731 dL_law_732 dL_law_733 dL_law_734 rfl hN (by omega) (by omega) ?_
  refine B_scr dL_law_735 dL_law_736 dL_law_737 dL_law_738 dL_law_739 rfl hN (by omega) (by omega) ?_
  refine B_inv (k := 40) (bc' := 0) (bs' := 0) [_, _] (Nat.le_of_ble_eq_true rfl) dL_law_740 mv_L_91 kCl_7 rfl rfl (Nat.le_of_ble_eq_true rfl) (by omega) (by omega) (by assumption) ?_
  refine C_after hM1 hI1.1 W.1 w3.1 (by omega) (fun d2 m2 => ?_)
  refine B_icmp_eq (tgt := 1131) dL_law_743 (by decide) (fun c_743 => ?_) (fun c_743 => absurd c_743 (by omega))
  exact (K G1 _ ⟨X1, hM1, by omega, _, _, _, _, _, _, C1.mo W (fun a ha => m2.1 a (by omega)), hI1.mf m2, W⟩).more (by omega) (by omega)
theorem Lc_calmed (hN : N0 ≤ 3072) (hi : 0 ≤ i) (hi6 : i + 6 ≤ N0) (hG : LG G d) (hbc : 9 ≤ bc) (hbs : 527 ≤ bs) (K : ∀ (G' : HG) (d' : HD), LG G' d' → BW E b N0 xs (bc - 9) (bs - 527) 1131 (LV i) [] G' d') : BW E b N0 xs bc bs 748 (LV i) [] G d := by
  obtain ⟨X, hM, hg, R, S, tp, T, im, I, C, hI, W⟩ := hG
  have hO1 := X.1.1
  have hO7 := hM.1
  obtain ⟨w0, w1, w2, w3, wc, wb, wp, wv, wd⟩ := id W.1
  have b5 := wb.1
  have b52 := wb.2.1
  have b6 := wp.1
  have b62 := wp.2.1
  have w9 := W.2.1
  have wt := W.2.2.2.1
  unfold LV
  refine B_aload_n dL_law_748 rfl rfl ?_
  refine B_scr dL_law_749 dL_law_750 dL_law_751 dL_law_752 dL_law_753 rfl hN (by omega) (by omega) ?_
  refine B_scr dL_law_754 dL_law_755 dL_law_756 dL_law_757 dL_law_758 rfl hN (by omega) (by omega) ?_
  refine B_inv (k := 40) (bc' := 0) (bs' := 0) [_, _] (Nat.le_of_ble_eq_true rfl) dL_law_759 mv_L_92 kCl_6 rfl rfl (Nat.le_of_ble_eq_true rfl) (by omega) (by omega) (by assumption) ?_
  refine M_calmed X C W (fun G1 d1 g1 n1 f1 C1 => ?_)
  have hI1 := hI.fm f1
  have X1 := X.gs g1
  have hM1 := hM.gs g1
  replace hO7 := hM1.1
  refine B_aload_n dL_law_762 rfl rfl ?_
  refine B_scr dL_law_763 dL_law_764 dL_law_765 dL_law_766 dL_law_767 rfl hN (by omega) (by omega) ?_
  refine B_scr dL_law_768 dL_law_769 dL_law_770 dL_law_771 dL_law_772 rfl hN (by omega) (by omega) ?_
  refine B_inv (k := 40) (bc' := 0) (bs' := 0) [_, _] (Nat.le_of_ble_eq_true rfl) dL_law_773 mv_L_95 kCl_7 rfl rfl (Nat.le_of_ble_eq_true rfl) (by omega) (by omega) (by assumption) ?_
  refine C_calmed hM1 hI1.1 W.1 w3.1 (by omega) (fun d2 m2 => ?_)
  refine B_icmp_eq (tgt := 1131) dL_law_776 (by decide) (fun c_776 => ?_) (fun c_776 => absurd c_776 (by omega))
  exact (K G1 _ ⟨X1, hM1, by omega, _, _, _, _, _, _, C1.mo W (fun a ha => m2.1 a (by omega)), hI1.mf m2, W⟩).more (by omega) (by omega)
theorem Lc_round (hN : N0 ≤ 3072) (hi : 0 ≤ i) (hi6 : i + 6 ≤ N0) (hG : LG G d) (hbc : 9 ≤ bc) (hbs : 527 ≤ bs) (K : ∀ (G' : HG) (d' : HD), LG G' d' → BW E b N0 xs (bc - 9) (bs - 527) 1131 (LV i) [] G' d') : BW E b N0 xs bc bs 781 (LV i) [] G d := by
  obtain ⟨X, hM, hg, R, S, tp, T, im, I, C, hI, W⟩ := hG
  have hO1 := X.1.1
  have hO7 := hM.1
  obtain ⟨w0, w1, w2, w3, wc, wb, wp, wv, wd⟩ := id W.1
  have b5 := wb.1
  have b52 := wb.2.1
  have b6 := wp.1
  have b62 := wp.2.1
  have w9 := W.2.1
  have wt := W.2.2.2.1
  unfold LV
  refine B_aload_n dL_law_781 rfl rfl ?_
  refine B_scr dL_law_782 dL_law_783 dL_law_784 dL_law_785 dL_law_786 rfl hN (by omega) (by omega) ?_
  refine B_inv (k := 40) (bc' := 0) (bs' := 0) [_] (Nat.le_of_ble_eq_true rfl) dL_law_787 mv_L_96 kCl_6 rfl rfl (Nat.le_of_ble_eq_true rfl) (by omega) (by omega) (by assumption) ?_
  refine M_round X C W (fun G1 d1 g1 n1 f1 C1 => ?_)
  have hI1 := hI.fm f1
  have X1 := X.gs g1
  have hM1 := hM.gs g1
  replace hO7 := hM1.1
  refine B_aload_n dL_law_790 rfl rfl ?_
  refine B_scr dL_law_791 dL_law_792 dL_law_793 dL_law_794 dL_law_795 rfl hN (by omega) (by omega) ?_
  refine B_inv (k := 40) (bc' := 0) (bs' := 0) [_] (Nat.le_of_ble_eq_true rfl) dL_law_796 mv_L_99 kCl_7 rfl rfl (Nat.le_of_ble_eq_true rfl) (by omega) (by omega) (by assumption) ?_
  refine C_round hM1 hI1.1 W.1 w3.1 (by omega) (fun d2 m2 => ?_)
  refine B_icmp_eq (tgt := 1131) dL_law_799 (by decide) (fun c_799 => ?_) (fun c_799 => absurd c_799 (by omega))
  exact (K G1 _ ⟨X1, hM1, by omega, _, _, _, _, _, _, C1.mo W (fun a ha => m2.1 a (by omega)), hI1.mf m2, W⟩).more (by omega) (by omega)
theorem Lc_evens (hN : N0 ≤ 3072) (hi : 0 ≤ i) (hi6 : i + 6 ≤ N0) (hG : LG G d) (hbc : 9 ≤ bc) (hbs : 527 ≤ bs) (K : ∀ (G' : HG) (d' : HD), LG G' d' → BW E b N0 xs (bc - 9) (bs - 527) 1131 (LV i) [] G' d') : BW E b N0 xs bc bs 804 (LV i) [] G d := by
  obtain ⟨X, hM, hg, R, S, tp, T, im, I, C, hI, W⟩ := hG
  have hO1 := X.1.1
  have hO7 := hM.1
  obtain ⟨w0, w1, w2, w3, wc, wb, wp, wv, wd⟩ := id W.1
  have b5 := wb.1
  have b52 := wb.2.1
  have b6 := wp.1
  have b62 := wp.2.1
  have w9 := W.2.1
  have wt := W.2.2.2.1
  unfold LV
  refine B_aload_n dL_law_804 rfl rfl ?_
  refine B_scr dL_law_805 dL_law_806 dL_law_807 dL_law_808 dL_law_809 rfl hN (by omega) (by omega) ?_
  refine B_inv (k := 40) (bc' := 0) (bs' := 0) [_] (Nat.le_of_ble_eq_true rfl) dL_law_810 mv_L_100 kCl_6 rfl rfl (Nat.le_of_ble_eq_true rfl) (by omega) (by omega) (by assumption) ?_
  refine M_evens X C W (fun G1 d1 g1 n1 f1 C1 => ?_)
  have hI1 := hI.fm f1
  have X1 := X.gs g1
  have hM1 := hM.gs g1
  replace hO7 := hM1.1
  refine B_aload_n dL_law_813 rfl rfl ?_
  refine B_scr dL_law_814 dL_law_815 dL_law_816 dL_law_817 dL_law_818 rfl hN (by omega) (by omega) ?_
  refine B_inv (k := 40) (bc' := 0) (bs' := 0) [_] (Nat.le_of_ble_eq_true rfl) dL_law_819 mv_L_103 kCl_7 rfl rfl (Nat.le_of_ble_eq_true rfl) (by omega) (by omega) (by assumption) ?_
  refine C_evens hM1 hI1.1 W.1 w3.1 (by omega) (fun d2 m2 => ?_)
  refine B_icmp_eq (tgt := 1131) dL_law_822 (by decide) (fun c_822 => ?_) (fun c_822 => absurd c_822 (by omega))
  exact (K G1 _ ⟨X1, hM1, by omega, _, _, _, _, _, _, C1.mo W (fun a ha => m2.1 a (by omega)), hI1.mf m2, W⟩).more (by omega) (by omega)
theorem Lc_image (hN : N0 ≤ 3072) (hi : 0 ≤ i) (hi6 : i + 6 ≤ N0) (hG : LG G d) (hbc : 9 ≤ bc) (hbs : 527 ≤ bs) (K : ∀ (G' : HG) (d' : HD), LG G' d' → BW E b N0 xs (bc - 9) (bs - 527) 1131 (LV i) [] G' d') : BW E b N0 xs bc bs 827 (LV i) [] G d := by
  obtain ⟨X, hM, hg, R, S, tp, T, im, I, C, hI, W⟩ := hG
  have hO1 := X.1.1
  have hO7 := hM.1
  obtain ⟨w0, w1, w2, w3, wc, wb, wp, wv, wd⟩ := id W.1
  have b5 := wb.1
  have b52 := wb.2.1
  have b6 := wp.1
  have b62 := wp.2.1
  have w9 := W.2.1
  have wt := W.2.2.2.1
  unfold LV
  refine B_aload_n dL_law_827 rfl rfl ?_
  refine B_scr dL_law_828 dL_law_829 dL_law_830 dL_law_831 dL_law_832 rfl hN (by omega) (by omega) ?_
  refine B_inv (k := 40) (bc' := 0) (bs' := 0) [_] (Nat.le_of_ble_eq_true rfl) dL_law_833 mv_L_104 kCl_6 rfl rfl (Nat.le_of_ble_eq_true rfl) (by omega) (by omega) (by assumption) ?_
  refine M_image X C W (fun hr => ?_) (fun hr G1 d1 g1 n1 f1 C1 => ?_)
  · refine B_aload_n dL_law_836 rfl rfl ?_
    refine B_scr dL_law_837 dL_law_838 dL_law_839 dL_law_840 dL_law_841 rfl hN (by omega) (by omega) ?_
    refine B_inv (k := 40) (bc' := 0) (bs' := 0) [_] (Nat.le_of_ble_eq_true rfl) dL_law_842 mv_L_107 kCl_7 rfl rfl (Nat.le_of_ble_eq_true rfl) (by omega) (by omega) (by assumption) ?_
    refine C_image hM (fun _ => ?_) (fun h => absurd h hr)
    refine B_icmp_eq (tgt := 1131) dL_law_845 (by decide) (fun c_845 => ?_) (fun c_845 => absurd c_845 (by omega))
    exact (K G _ ⟨X, hM, by omega, _, _, _, _, _, _, C, hI, W⟩).more (by omega) (by omega)
  · have hI1 := hI.fm f1
    have X1 := X.gs g1
    have hM1 := hM.gs g1
    replace hO7 := hM1.1
    obtain ⟨n, hn⟩ : ∃ n : Nat, (xs (i + 1).toNat).toInt = (n : Int) := ⟨(xs (i + 1).toNat).toInt.toNat, by omega⟩
    refine B_aload_n dL_law_836 rfl rfl ?_
    refine B_scr dL_law_837 dL_law_838 dL_law_839 dL_law_840 dL_law_841 rfl hN (by omega) (by omega) ?_
    refine B_inv (k := 40) (bc' := 0) (bs' := 0) [_] (Nat.le_of_ble_eq_true rfl) dL_law_842 mv_L_107 kCl_7 rfl rfl (Nat.le_of_ble_eq_true rfl) (by omega) (by omega) (by assumption) ?_
    refine C_image hM1 (fun h => absurd hr h) (fun _ => ?_)
    refine B_icmp_eq (tgt := 1131) dL_law_845 (by decide) (fun c_845 => ?_) (fun c_845 => absurd c_845 (by omega))
    rw [hn] at C1
    rw [hn]
    exact (K G1 _ ⟨X1, hM1, by omega, _, _, _, _, _, _, C1.mo (W.image (by omega)) (fun a ha => by rw [kU_ne (by omega)]; exact cpR_o (by omega)), hI1.imm (by omega), W.image (by omega)⟩).more (by omega) (by omega)
theorem Lc_restore (hN : N0 ≤ 3072) (hi : 0 ≤ i) (hi6 : i + 6 ≤ N0) (hG : LG G d) (hbc : 9 ≤ bc) (hbs : 527 ≤ bs) (K : ∀ (G' : HG) (d' : HD), LG G' d' → BW E b N0 xs (bc - 9) (bs - 527) 1131 (LV i) [] G' d') : BW E b N0 xs bc bs 850 (LV i) [] G d := by
  obtain ⟨X, hM, hg, R, S, tp, T, im, I, C, hI, W⟩ := hG
  have hO1 := X.1.1
  have hO7 := hM.1
  obtain ⟨w0, w1, w2, w3, wc, wb, wp, wv, wd⟩ := id W.1
  have b5 := wb.1
  have b52 := wb.2.1
  have b6 := wp.1
  have b62 := wp.2.1
  have w9 := W.2.1
  have wt := W.2.2.2.1
  unfold LV
  refine B_aload_n dL_law_850 rfl rfl ?_
  refine B_scr dL_law_851 dL_law_852 dL_law_853 dL_law_854 dL_law_855 rfl hN (by omega) (by omega) ?_
  refine B_inv (k := 40) (bc' := 0) (bs' := 0) [_] (Nat.le_of_ble_eq_true rfl) dL_law_856 mv_L_108 kCl_6 rfl rfl (Nat.le_of_ble_eq_true rfl) (by omega) (by omega) (by assumption) ?_
  refine M_restore X C W (fun hr => ?_) (fun hr h0 => ?_) (fun hr h0 G1 d1 g1 n1 f1 C1 => ?_)
  · refine B_aload_n dL_law_859 rfl rfl ?_
    refine B_scr dL_law_860 dL_law_861 dL_law_862 dL_law_863 dL_law_864 rfl hN (by omega) (by omega) ?_
    refine B_inv (k := 40) (bc' := 0) (bs' := 0) [_] (Nat.le_of_ble_eq_true rfl) dL_law_865 mv_L_111 kCl_7 rfl rfl (Nat.le_of_ble_eq_true rfl) (by omega) (by omega) (by assumption) ?_
    refine C_restore hM (fun _ => ?_) (fun h => absurd h hr) (fun h => absurd h hr)
    refine B_icmp_eq (tgt := 1131) dL_law_868 (by decide) (fun c_868 => ?_) (fun c_868 => absurd c_868 (by omega))
    exact (K G _ ⟨X, hM, by omega, _, _, _, _, _, _, C, hI, W⟩).more (by omega) (by omega)
  · obtain ⟨n, hn⟩ : ∃ n : Nat, (xs (i + 1).toNat).toInt = (n : Int) := ⟨(xs (i + 1).toNat).toInt.toNat, by omega⟩
    have h2 := (hI.2.2.2 n (by omega)).1
    rw [hn] at h0
    refine B_aload_n dL_law_859 rfl rfl ?_
    refine B_scr dL_law_860 dL_law_861 dL_law_862 dL_law_863 dL_law_864 rfl hN (by omega) (by omega) ?_
    refine B_inv (k := 40) (bc' := 0) (bs' := 0) [_] (Nat.le_of_ble_eq_true rfl) dL_law_865 mv_L_111 kCl_7 rfl rfl (Nat.le_of_ble_eq_true rfl) (by omega) (by omega) (by assumption) ?_
    refine C_restore hM (fun h => absurd hr h) (fun _ _ => ?_) (fun _ h => absurd (by rw [hn]; exact h2.trans h0) h)
    refine B_icmp_eq (tgt := 1131) dL_law_868 (by decide) (fun c_868 => ?_) (fun c_868 => absurd c_868 (by omega))
    exact (K G _ ⟨X, hM, by omega, _, _, _, _, _, _, C, hI, W⟩).more (by omega) (by omega)
  · have hI1 := hI.fm f1
    have X1 := X.gs g1
    have hM1 := hM.gs g1
    replace hO7 := hM1.1
    obtain ⟨n, hn⟩ : ∃ n : Nat, (xs (i + 1).toNat).toInt = (n : Int) := ⟨(xs (i + 1).toNat).toInt.toNat, by omega⟩
    have h2 := (hI1.2.2.2 n (by omega)).1
    rw [hn] at h0 C1
    refine B_aload_n dL_law_859 rfl rfl ?_
    refine B_scr dL_law_860 dL_law_861 dL_law_862 dL_law_863 dL_law_864 rfl hN (by omega) (by omega) ?_
    refine B_inv (k := 40) (bc' := 0) (bs' := 0) [_] (Nat.le_of_ble_eq_true rfl) dL_law_865 mv_L_111 kCl_7 rfl rfl (Nat.le_of_ble_eq_true rfl) (by omega) (by omega) (by assumption) ?_
    refine C_restore hM1 (fun h => absurd hr h) (fun _ h => absurd (h2.symm.trans (by rw [hn] at h; exact h)) h0) (fun _ _ => ?_)
    refine B_icmp_eq (tgt := 1131) dL_law_868 (by decide) (fun c_868 => ?_) (fun c_868 => absurd c_868 (by omega))
    rw [hn]
    exact (K G1 _ ⟨X1, hM1, by omega, _, _, _, _, _, _, C1.mo (W.restore (by omega) h0) (fun a ha => cpR_o (by omega)), hI1.rs (by omega) h0, W.restore (by omega) h0⟩).more (by omega) (by omega)
theorem Lc_sheet (hN : N0 ≤ 3072) (hi : 0 ≤ i) (hi6 : i + 6 ≤ N0) (hG : LG G d) (hbc : 9 ≤ bc) (hbs : 527 ≤ bs) (K : ∀ (G' : HG) (d' : HD), LG G' d' → BW E b N0 xs (bc - 9) (bs - 527) 1131 (LV i) [] G' d') : BW E b N0 xs bc bs 949 (LV i) [] G d := by
  obtain ⟨X, hM, hg, R, S, tp, T, im, I, C, hI, W⟩ := hG
  have hO1 := X.1.1
  have hO7 := hM.1
  obtain ⟨w0, w1, w2, w3, wc, wb, wp, wv, wd⟩ := id W.1
  have b5 := wb.1
  have b52 := wb.2.1
  have b6 := wp.1
  have b62 := wp.2.1
  have w9 := W.2.1
  have wt := W.2.2.2.1
  unfold LV
  refine B_aload_n dL_law_949 rfl rfl ?_
  refine B_scr dL_law_950 dL_law_951 dL_law_952 dL_law_953 dL_law_954 rfl hN (by omega) (by omega) ?_
  refine B_scr dL_law_955 dL_law_956 dL_law_957 dL_law_958 dL_law_959 rfl hN (by omega) (by omega) ?_
  refine B_scr dL_law_960 dL_law_961 dL_law_962 dL_law_963 dL_law_964 rfl hN (by omega) (by omega) ?_
  refine B_inv (k := 40) (bc' := 0) (bs' := 0) [_, _, _] (Nat.le_of_ble_eq_true rfl) dL_law_965 mv_L_120 kCl_6 rfl rfl (Nat.le_of_ble_eq_true rfl) (by omega) (by omega) (by assumption) ?_
  refine M_sheet X C W (fun d1 f1 C1 => ?_)
  have hI1 := hI.fm f1
  refine B_aload_n dL_law_968 rfl rfl ?_
  refine B_scr dL_law_969 dL_law_970 dL_law_971 dL_law_972 dL_law_973 rfl hN (by omega) (by omega) ?_
  refine B_scr dL_law_974 dL_law_975 dL_law_976 dL_law_977 dL_law_978 rfl hN (by omega) (by omega) ?_
  refine B_scr dL_law_979 dL_law_980 dL_law_981 dL_law_982 dL_law_983 rfl hN (by omega) (by omega) ?_
  refine B_inv (k := 40) (bc' := 0) (bs' := 0) [_, _, _] (Nat.le_of_ble_eq_true rfl) dL_law_984 mv_L_123 kCl_7 rfl rfl (Nat.le_of_ble_eq_true rfl) (by omega) (by omega) (by assumption) ?_
  refine C_sheet hM hI1.2.1  (fun d2 m2 z2 => ?_)
  refine B_icmp_eq (tgt := 1131) dL_law_987 (by decide) (fun c_987 => ?_) (fun c_987 => absurd c_987 (by omega))
  exact (K G _ ⟨X, hM, by omega, _, _, _, _, _, _, C1.mo W.sheet (fun a ha => m2.1 a (by omega)), hI1.mz m2 z2, W.sheet⟩).more (by omega) (by omega)
theorem Lc_drop (hN : N0 ≤ 3072) (hi : 0 ≤ i) (hi6 : i + 6 ≤ N0) (hG : LG G d) (hbc : 9 ≤ bc) (hbs : 527 ≤ bs) (K : ∀ (G' : HG) (d' : HD), LG G' d' → BW E b N0 xs (bc - 9) (bs - 527) 1131 (LV i) [] G' d') : BW E b N0 xs bc bs 992 (LV i) [] G d := by
  obtain ⟨X, hM, hg, R, S, tp, T, im, I, C, hI, W⟩ := hG
  have hO1 := X.1.1
  have hO7 := hM.1
  obtain ⟨w0, w1, w2, w3, wc, wb, wp, wv, wd⟩ := id W.1
  have b5 := wb.1
  have b52 := wb.2.1
  have b6 := wp.1
  have b62 := wp.2.1
  have w9 := W.2.1
  have wt := W.2.2.2.1
  unfold LV
  refine B_aload_n dL_law_992 rfl rfl ?_
  refine B_scr dL_law_993 dL_law_994 dL_law_995 dL_law_996 dL_law_997 rfl hN (by omega) (by omega) ?_
  refine B_inv (k := 40) (bc' := 0) (bs' := 0) [_] (Nat.le_of_ble_eq_true rfl) dL_law_998 mv_L_124 kCl_6 rfl rfl (Nat.le_of_ble_eq_true rfl) (by omega) (by omega) (by assumption) ?_
  refine M_drop X C W (fun d1 f1 C1 => ?_)
  have hI1 := hI.fm f1
  refine B_aload_n dL_law_1001 rfl rfl ?_
  refine B_scr dL_law_1002 dL_law_1003 dL_law_1004 dL_law_1005 dL_law_1006 rfl hN (by omega) (by omega) ?_
  refine B_inv (k := 40) (bc' := 0) (bs' := 0) [_] (Nat.le_of_ble_eq_true rfl) dL_law_1007 mv_L_127 kCl_7 rfl rfl (Nat.le_of_ble_eq_true rfl) (by omega) (by omega) (by assumption) ?_
  refine C_drop hM hI1.2.1  (fun d2 m2 z2 => ?_)
  refine B_icmp_eq (tgt := 1131) dL_law_1010 (by decide) (fun c_1010 => ?_) (fun c_1010 => absurd c_1010 (by omega))
  exact (K G _ ⟨X, hM, by omega, _, _, _, _, _, _, C1.mo W.drop (fun a ha => m2.1 a (by omega)), hI1.mz m2 z2, W.drop⟩).more (by omega) (by omega)
theorem Lc_item (hN : N0 ≤ 3072) (hi : 0 ≤ i) (hi6 : i + 6 ≤ N0) (hG : LG G d) (hbc : 9 ≤ bc) (hbs : 527 ≤ bs) (K : ∀ (G' : HG) (d' : HD), LG G' d' → BW E b N0 xs (bc - 9) (bs - 527) 1131 (LV i) [] G' d') : BW E b N0 xs bc bs 1015 (LV i) [] G d := by
  obtain ⟨X, hM, hg, R, S, tp, T, im, I, C, hI, W⟩ := hG
  have hO1 := X.1.1
  have hO7 := hM.1
  obtain ⟨w0, w1, w2, w3, wc, wb, wp, wv, wd⟩ := id W.1
  have b5 := wb.1
  have b52 := wb.2.1
  have b6 := wp.1
  have b62 := wp.2.1
  have w9 := W.2.1
  have wt := W.2.2.2.1
  unfold LV
  refine B_aload_n dL_law_1015 rfl rfl ?_
  refine B_scr dL_law_1016 dL_law_1017 dL_law_1018 dL_law_1019 dL_law_1020 rfl hN (by omega) (by omega) ?_
  refine B_scr dL_law_1021 dL_law_1022 dL_law_1023 dL_law_1024 dL_law_1025 rfl hN (by omega) (by omega) ?_
  refine B_scr dL_law_1026 dL_law_1027 dL_law_1028 dL_law_1029 dL_law_1030 rfl hN (by omega) (by omega) ?_
  refine B_scr dL_law_1031 dL_law_1032 dL_law_1033 dL_law_1034 dL_law_1035 rfl hN (by omega) (by omega) ?_
  refine B_inv (k := 40) (bc' := 0) (bs' := 0) [_, _, _, _] (Nat.le_of_ble_eq_true rfl) dL_law_1036 mv_L_128 kCl_6 rfl rfl (Nat.le_of_ble_eq_true rfl) (by omega) (by omega) (by assumption) ?_
  refine M_item X C W (fun d1 f1 C1 => ?_)
  have hI1 := hI.fm f1
  refine B_aload_n dL_law_1039 rfl rfl ?_
  refine B_scr dL_law_1040 dL_law_1041 dL_law_1042 dL_law_1043 dL_law_1044 rfl hN (by omega) (by omega) ?_
  refine B_scr dL_law_1045 dL_law_1046 dL_law_1047 dL_law_1048 dL_law_1049 rfl hN (by omega) (by omega) ?_
  refine B_scr dL_law_1050 dL_law_1051 dL_law_1052 dL_law_1053 dL_law_1054 rfl hN (by omega) (by omega) ?_
  refine B_scr dL_law_1055 dL_law_1056 dL_law_1057 dL_law_1058 dL_law_1059 rfl hN (by omega) (by omega) ?_
  refine B_inv (k := 40) (bc' := 0) (bs' := 0) [_, _, _, _] (Nat.le_of_ble_eq_true rfl) dL_law_1060 mv_L_132 kCl_7 rfl rfl (Nat.le_of_ble_eq_true rfl) (by omega) (by omega) (by assumption) ?_
  refine C_item hM hI1.2.1 W.2.2.1 (fun d2 m2 z2 => ?_)
  refine B_icmp_eq (tgt := 1131) dL_law_1063 (by decide) (fun c_1063 => ?_) (fun c_1063 => absurd c_1063 (by omega))
  exact (K G _ ⟨X, hM, by omega, _, _, _, _, _, _, C1.mo W.item (fun a ha => m2.1 a (by omega)), hI1.mz m2 z2, W.item⟩).more (by omega) (by omega)
theorem Lc_copy (hN : N0 ≤ 3072) (hi : 0 ≤ i) (hi6 : i + 6 ≤ N0) (hG : LG G d) (hbc : 9 ≤ bc) (hbs : 527 ≤ bs) (K : ∀ (G' : HG) (d' : HD), LG G' d' → BW E b N0 xs (bc - 9) (bs - 527) 1131 (LV i) [] G' d') : BW E b N0 xs bc bs 1068 (LV i) [] G d := by
  obtain ⟨X, hM, hg, R, S, tp, T, im, I, C, hI, W⟩ := hG
  have hO1 := X.1.1
  have hO7 := hM.1
  obtain ⟨w0, w1, w2, w3, wc, wb, wp, wv, wd⟩ := id W.1
  have b5 := wb.1
  have b52 := wb.2.1
  have b6 := wp.1
  have b62 := wp.2.1
  have w9 := W.2.1
  have wt := W.2.2.2.1
  unfold LV
  refine B_aload_n dL_law_1068 rfl rfl ?_
  refine B_scr dL_law_1069 dL_law_1070 dL_law_1071 dL_law_1072 dL_law_1073 rfl hN (by omega) (by omega) ?_
  refine B_scr dL_law_1074 dL_law_1075 dL_law_1076 dL_law_1077 dL_law_1078 rfl hN (by omega) (by omega) ?_
  refine B_scr dL_law_1079 dL_law_1080 dL_law_1081 dL_law_1082 dL_law_1083 rfl hN (by omega) (by omega) ?_
  refine B_scr dL_law_1084 dL_law_1085 dL_law_1086 dL_law_1087 dL_law_1088 rfl hN (by omega) (by omega) ?_
  refine B_scr dL_law_1089 dL_law_1090 dL_law_1091 dL_law_1092 dL_law_1093 rfl hN (by omega) (by omega) ?_
  refine B_inv (k := 40) (bc' := 0) (bs' := 0) [_, _, _, _, _] (Nat.le_of_ble_eq_true rfl) dL_law_1094 mv_L_133 kCl_6 rfl rfl (Nat.le_of_ble_eq_true rfl) (by omega) (by omega) (by assumption) ?_
  refine M_copy X C W (fun d1 f1 C1 => ?_)
  have hI1 := hI.fm f1
  refine B_aload_n dL_law_1097 rfl rfl ?_
  refine B_scr dL_law_1098 dL_law_1099 dL_law_1100 dL_law_1101 dL_law_1102 rfl hN (by omega) (by omega) ?_
  refine B_scr dL_law_1103 dL_law_1104 dL_law_1105 dL_law_1106 dL_law_1107 rfl hN (by omega) (by omega) ?_
  refine B_scr dL_law_1108 dL_law_1109 dL_law_1110 dL_law_1111 dL_law_1112 rfl hN (by omega) (by omega) ?_
  refine B_scr dL_law_1113 dL_law_1114 dL_law_1115 dL_law_1116 dL_law_1117 rfl hN (by omega) (by omega) ?_
  refine B_scr dL_law_1118 dL_law_1119 dL_law_1120 dL_law_1121 dL_law_1122 rfl hN (by omega) (by omega) ?_
  refine B_inv (k := 40) (bc' := 0) (bs' := 0) [_, _, _, _, _] (Nat.le_of_ble_eq_true rfl) dL_law_1123 mv_L_137 kCl_7 rfl rfl (Nat.le_of_ble_eq_true rfl) (by omega) (by omega) (by assumption) ?_
  refine C_copy hM hI1.2.1 W.2.2.1 (fun d2 m2 z2 => ?_)
  refine B_icmp_eq (tgt := 1131) dL_law_1126 (by decide) (fun c_1126 => ?_) (fun c_1126 => absurd c_1126 (by omega))
  exact (K G _ ⟨X, hM, by omega, _, _, _, _, _, _, C1.mo W.copy (fun a ha => m2.1 a (by omega)), hI1.mz m2 z2, W.copy⟩).more (by omega) (by omega)
end LC
