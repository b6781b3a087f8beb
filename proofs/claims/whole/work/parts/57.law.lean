/-! the law: a call of each kind, the loop -/
set_option maxRecDepth 8000 in
theorem zSs {G : XS} {t : ZS} (h : G.2.1 zSC = 7) : (zSb (G, t) zSC 7 = true) = True := eq_true (zSb_iff.2 ⟨by decide, Or.inr rfl, h⟩)
set_option maxRecDepth 8000 in
theorem and63 (x : Int) : 0 ≤ (Int32.ofInt x &&& Int32.ofInt 63).toInt ∧ (Int32.ofInt x &&& Int32.ofInt 63).toInt ≤ 63 := by
  rw [pk_and (Int32.ofInt x) (m := Int32.ofInt 63) 6 (by decide), nI_i (by omega)]
  omega
set_option maxRecDepth 8000 in
theorem k0_law {d : Nat} {G : XS} {s : ZS} {sx : Int → Int} {L i : Int} (hd : 30 ≤ d) (hg : LOK G 1 50 99) (hm : MOK G) (hz : G.2.1 zSC = 7) (hL : ll G zSC = L) (hL2 : 0 ≤ L ∧ L ≤ 3584) (hx : ∀ j, ir (sx j)) (hR : REL s sx) (hi : 0 ≤ i ∧ i + 7 ≤ L) : ∃ s2, REL s2 sx ∧ ∀ Q, Wp d 194 (188, [zrf zSC, zrf 0, zrf 172, zint i], [], (G, s)) Q = Wp d 194 (1389, [zrf zSC, zrf 0, zrf 172, zint i], [], (G, s2)) Q := by
  obtain ⟨v, s1, s2, bv, ⟨c1, R2⟩, e1, e2⟩ := r62 (d := d) hd hg hm hR (hx (i + 1)) (hx (i + 2)) (hx (i + 3)) (hx (i + 4)) (hx (i + 5)) (hx (i + 6))
  have c0 : ∀ j, s zSC j = sx j := hR.1
  have c1 : ∀ j, s1 zSC j = sx j := c1
  have g1 := hg.1
  have m1 := hm.1
  have h1 := hx (i + 1)
  have h2 := hx (i + 2)
  have h3 := hx (i + 3)
  have h4 := hx (i + 4)
  have h5 := hx (i + 5)
  have h6 := hx (i + 6)
  refine ⟨s2, R2, fun Q => ?_⟩
  simp (disch := first | omega | exact rfl) only [↓u194_188, ↓u194_189, ↓u194_190, ↓u194_191, ↓u194_192, ↓u194_193, ↓u194_194, ↓u194_195, ↓u194_196, ↓u194_197, ↓u194_198, ↓u194_199, ↓u194_200, ↓u194_201, ↓u194_202, ↓u194_203, ↓u194_204, ↓u194_205, ↓u194_206, ↓u194_207, ↓u194_208, ↓u194_209, ↓u194_210, ↓u194_211, ↓u194_212, ↓u194_213, ↓u194_214, ↓u194_215, ↓u194_216, ↓u194_218, ↓u194_219, ↓u194_220, ↓u194_223, ↓u194_224, ↓u194_225, ↓u194_226, ↓u194_227, ↓u194_228, ↓u194_229, ↓u194_230, ↓u194_231, ↓u194_232, ↓u194_233, ↓u194_234, ↓u194_235, ↓u194_236, ↓u194_237, ↓u194_238, ↓u194_239, ↓u194_240, ↓u194_241, ↓u194_242, ↓u194_243, ↓u194_244, ↓u194_245, ↓u194_246, ↓u194_247, ↓u194_248, ↓u194_249, ↓u194_250, ↓u194_251, ↓u194_253, ↓u194_254, ↓u194_255, ↓u194_258, ↓u194_261, ↓u194_262, ↓lI_0, ↓lI_s, ↓lL_0, ↓lL_s, ↓lR_0, ↓lR_s, ↓sT_0, ↓sT_i, ↓sT_r, ↓sT_u, ↓sT_lu, ↓sU_0, ↓sU_i, ↓sU_r, ↓sU_u, ↓ite_bx, bx_T, bx_F, bx_pos, bx_neg, zws_i, zws_r, zws_l, zws_n, zCb_kc, xl_ll, xr_rr, xs_e, xset_e, Option.toList, List.cons_append, List.nil_append, zIb_e, zrng_e, nz_e, if_pos, if_neg, and_true, true_and, or_true, true_or, ite_self, bi_eq0, bi_eq1, bi_1, bi_0, bi_ir, bi_T, bi_F, up_eq, up_ne, ↓reduceIte, reduceIte, Nat.reduceAdd, Nat.reduceLeDiff, Nat.le_refl, Nat.zero_le, not_true_eq_false, not_false_eq_true, ne_eq, Int.reduceEq, Int.reduceLT, Int.reduceLE, Int.reduceAdd, Int.reduceSub, Int.reduceMul, Int.reduceNeg, zSs hz, hL, c0, c1, pT g1, pT m1, e1, e2]
set_option maxRecDepth 8000 in
theorem k1_law {d : Nat} {G : XS} {s : ZS} {sx : Int → Int} {L i : Int} (hd : 30 ≤ d) (hg : LOK G 1 50 99) (hm : MOK G) (hz : G.2.1 zSC = 7) (hL : ll G zSC = L) (hL2 : 0 ≤ L ∧ L ≤ 3584) (hx : ∀ j, ir (sx j)) (hR : REL s sx) (hi : 0 ≤ i ∧ i + 7 ≤ L) : ∃ s2, REL s2 sx ∧ ∀ Q, Wp d 194 (263, [zrf zSC, zrf 0, zrf 172, zint i], [], (G, s)) Q = Wp d 194 (1389, [zrf zSC, zrf 0, zrf 172, zint i], [], (G, s2)) Q := by
  obtain ⟨v, s1, s2, bv, ⟨c1, R2⟩, e1, e2⟩ := r63 (d := d) hd hg hm hR (hx (i + 1)) (hx (i + 2)) (hx (i + 3))
  have c0 : ∀ j, s zSC j = sx j := hR.1
  have c1 : ∀ j, s1 zSC j = sx j := c1
  have g1 := hg.1
  have m1 := hm.1
  have h1 := hx (i + 1)
  have h2 := hx (i + 2)
  have h3 := hx (i + 3)
  have h4 := hx (i + 4)
  have h5 := hx (i + 5)
  have h6 := hx (i + 6)
  refine ⟨s2, R2, fun Q => ?_⟩
  simp (disch := first | omega | exact rfl) only [↓u194_263, ↓u194_264, ↓u194_265, ↓u194_266, ↓u194_267, ↓u194_268, ↓u194_269, ↓u194_270, ↓u194_271, ↓u194_272, ↓u194_273, ↓u194_274, ↓u194_275, ↓u194_276, ↓u194_277, ↓u194_278, ↓u194_279, ↓u194_282, ↓u194_283, ↓u194_284, ↓u194_285, ↓u194_286, ↓u194_287, ↓u194_288, ↓u194_289, ↓u194_290, ↓u194_291, ↓u194_292, ↓u194_293, ↓u194_294, ↓u194_295, ↓u194_296, ↓u194_297, ↓u194_298, ↓u194_301, ↓u194_304, ↓u194_305, ↓lI_0, ↓lI_s, ↓lL_0, ↓lL_s, ↓lR_0, ↓lR_s, ↓sT_0, ↓sT_i, ↓sT_r, ↓sT_u, ↓sT_lu, ↓sU_0, ↓sU_i, ↓sU_r, ↓sU_u, ↓ite_bx, bx_T, bx_F, bx_pos, bx_neg, zws_i, zws_r, zws_l, zws_n, zCb_kc, xl_ll, xr_rr, xs_e, xset_e, Option.toList, List.cons_append, List.nil_append, zIb_e, zrng_e, nz_e, if_pos, if_neg, and_true, true_and, or_true, true_or, ite_self, bi_eq0, bi_eq1, bi_1, bi_0, bi_ir, bi_T, bi_F, up_eq, up_ne, ↓reduceIte, reduceIte, Nat.reduceAdd, Nat.reduceLeDiff, Nat.le_refl, Nat.zero_le, not_true_eq_false, not_false_eq_true, ne_eq, Int.reduceEq, Int.reduceLT, Int.reduceLE, Int.reduceAdd, Int.reduceSub, Int.reduceMul, Int.reduceNeg, zSs hz, hL, c0, c1, pT g1, pT m1, e1, e2]
set_option maxRecDepth 8000 in
theorem k2_law {d : Nat} {G : XS} {s : ZS} {sx : Int → Int} {L i : Int} (hd : 30 ≤ d) (hg : LOK G 1 50 99) (hm : MOK G) (hz : G.2.1 zSC = 7) (hL : ll G zSC = L) (hL2 : 0 ≤ L ∧ L ≤ 3584) (hx : ∀ j, ir (sx j)) (hR : REL s sx) (hi : 0 ≤ i ∧ i + 7 ≤ L) : ∃ s2, REL s2 sx ∧ ∀ Q, Wp d 194 (306, [zrf zSC, zrf 0, zrf 172, zint i], [], (G, s)) Q = Wp d 194 (1389, [zrf zSC, zrf 0, zrf 172, zint i], [], (G, s2)) Q := by
  obtain ⟨v, s1, s2, bv, ⟨c1, R2⟩, e1, e2⟩ := r64 (d := d) hd hg hm hR (hx (i + 1)) (hx (i + 2)) (hx (i + 3))
  have c0 : ∀ j, s zSC j = sx j := hR.1
  have c1 : ∀ j, s1 zSC j = sx j := c1
  have g1 := hg.1
  have m1 := hm.1
  have h1 := hx (i + 1)
  have h2 := hx (i + 2)
  have h3 := hx (i + 3)
  have h4 := hx (i + 4)
  have h5 := hx (i + 5)
  have h6 := hx (i + 6)
  refine ⟨s2, R2, fun Q => ?_⟩
  simp (disch := first | omega | exact rfl) only [↓u194_306, ↓u194_307, ↓u194_308, ↓u194_309, ↓u194_310, ↓u194_311, ↓u194_312, ↓u194_313, ↓u194_314, ↓u194_315, ↓u194_316, ↓u194_317, ↓u194_318, ↓u194_319, ↓u194_320, ↓u194_321, ↓u194_322, ↓u194_325, ↓u194_326, ↓u194_327, ↓u194_328, ↓u194_329, ↓u194_330, ↓u194_331, ↓u194_332, ↓u194_333, ↓u194_334, ↓u194_335, ↓u194_336, ↓u194_337, ↓u194_338, ↓u194_339, ↓u194_340, ↓u194_341, ↓u194_344, ↓u194_347, ↓u194_348, ↓lI_0, ↓lI_s, ↓lL_0, ↓lL_s, ↓lR_0, ↓lR_s, ↓sT_0, ↓sT_i, ↓sT_r, ↓sT_u, ↓sT_lu, ↓sU_0, ↓sU_i, ↓sU_r, ↓sU_u, ↓ite_bx, bx_T, bx_F, bx_pos, bx_neg, zws_i, zws_r, zws_l, zws_n, zCb_kc, xl_ll, xr_rr, xs_e, xset_e, Option.toList, List.cons_append, List.nil_append, zIb_e, zrng_e, nz_e, if_pos, if_neg, and_true, true_and, or_true, true_or, ite_self, bi_eq0, bi_eq1, bi_1, bi_0, bi_ir, bi_T, bi_F, up_eq, up_ne, ↓reduceIte, reduceIte, Nat.reduceAdd, Nat.reduceLeDiff, Nat.le_refl, Nat.zero_le, not_true_eq_false, not_false_eq_true, ne_eq, Int.reduceEq, Int.reduceLT, Int.reduceLE, Int.reduceAdd, Int.reduceSub, Int.reduceMul, Int.reduceNeg, zSs hz, hL, c0, c1, pT g1, pT m1, e1, e2]
set_option maxRecDepth 8000 in
theorem k3_law {d : Nat} {G : XS} {s : ZS} {sx : Int → Int} {L i : Int} (hd : 30 ≤ d) (hg : LOK G 1 50 99) (hm : MOK G) (hz : G.2.1 zSC = 7) (hL : ll G zSC = L) (hL2 : 0 ≤ L ∧ L ≤ 3584) (hx : ∀ j, ir (sx j)) (hR : REL s sx) (hi : 0 ≤ i ∧ i + 7 ≤ L) : ∃ s2, REL s2 sx ∧ ∀ Q, Wp d 194 (349, [zrf zSC, zrf 0, zrf 172, zint i], [], (G, s)) Q = Wp d 194 (1389, [zrf zSC, zrf 0, zrf 172, zint i], [], (G, s2)) Q := by
  obtain ⟨v, s1, s2, bv, ⟨c1, R2⟩, e1, e2⟩ := r65 (d := d) hd hg hm hR (hx (i + 1))
  have c0 : ∀ j, s zSC j = sx j := hR.1
  have c1 : ∀ j, s1 zSC j = sx j := c1
  have g1 := hg.1
  have m1 := hm.1
  have h1 := hx (i + 1)
  have h2 := hx (i + 2)
  have h3 := hx (i + 3)
  have h4 := hx (i + 4)
  have h5 := hx (i + 5)
  have h6 := hx (i + 6)
  refine ⟨s2, R2, fun Q => ?_⟩
  simp (disch := first | omega | exact rfl) only [↓u194_349, ↓u194_350, ↓u194_351, ↓u194_352, ↓u194_353, ↓u194_354, ↓u194_355, ↓u194_358, ↓u194_359, ↓u194_360, ↓u194_361, ↓u194_362, ↓u194_363, ↓u194_364, ↓u194_367, ↓u194_370, ↓u194_371, ↓lI_0, ↓lI_s, ↓lL_0, ↓lL_s, ↓lR_0, ↓lR_s, ↓sT_0, ↓sT_i, ↓sT_r, ↓sT_u, ↓sT_lu, ↓sU_0, ↓sU_i, ↓sU_r, ↓sU_u, ↓ite_bx, bx_T, bx_F, bx_pos, bx_neg, zws_i, zws_r, zws_l, zws_n, zCb_kc, xl_ll, xr_rr, xs_e, xset_e, Option.toList, List.cons_append, List.nil_append, zIb_e, zrng_e, nz_e, if_pos, if_neg, and_true, true_and, or_true, true_or, ite_self, bi_eq0, bi_eq1, bi_1, bi_0, bi_ir, bi_T, bi_F, up_eq, up_ne, ↓reduceIte, reduceIte, Nat.reduceAdd, Nat.reduceLeDiff, Nat.le_refl, Nat.zero_le, not_true_eq_false, not_false_eq_true, ne_eq, Int.reduceEq, Int.reduceLT, Int.reduceLE, Int.reduceAdd, Int.reduceSub, Int.reduceMul, Int.reduceNeg, zSs hz, hL, c0, c1, pT g1, pT m1, e1, e2]
set_option maxRecDepth 8000 in
theorem k4_law {d : Nat} {G : XS} {s : ZS} {sx : Int → Int} {L i : Int} (hd : 30 ≤ d) (hg : LOK G 1 50 99) (hm : MOK G) (hz : G.2.1 zSC = 7) (hL : ll G zSC = L) (hL2 : 0 ≤ L ∧ L ≤ 3584) (hx : ∀ j, ir (sx j)) (hR : REL s sx) (hi : 0 ≤ i ∧ i + 7 ≤ L) : ∃ s2, REL s2 sx ∧ ∀ Q, Wp d 194 (372, [zrf zSC, zrf 0, zrf 172, zint i], [], (G, s)) Q = Wp d 194 (1389, [zrf zSC, zrf 0, zrf 172, zint i], [], (G, s2)) Q := by
  obtain ⟨v, s1, s2, bv, ⟨c1, R2⟩, e1, e2⟩ := r66 (d := d) hd hg hm hR (hx (i + 1))
  have c0 : ∀ j, s zSC j = sx j := hR.1
  have c1 : ∀ j, s1 zSC j = sx j := c1
  have g1 := hg.1
  have m1 := hm.1
  have h1 := hx (i + 1)
  have h2 := hx (i + 2)
  have h3 := hx (i + 3)
  have h4 := hx (i + 4)
  have h5 := hx (i + 5)
  have h6 := hx (i + 6)
  refine ⟨s2, R2, fun Q => ?_⟩
  simp (disch := first | omega | exact rfl) only [↓u194_372, ↓u194_373, ↓u194_374, ↓u194_375, ↓u194_376, ↓u194_377, ↓u194_378, ↓u194_381, ↓u194_382, ↓u194_383, ↓u194_384, ↓u194_385, ↓u194_386, ↓u194_387, ↓u194_390, ↓u194_393, ↓u194_394, ↓lI_0, ↓lI_s, ↓lL_0, ↓lL_s, ↓lR_0, ↓lR_s, ↓sT_0, ↓sT_i, ↓sT_r, ↓sT_u, ↓sT_lu, ↓sU_0, ↓sU_i, ↓sU_r, ↓sU_u, ↓ite_bx, bx_T, bx_F, bx_pos, bx_neg, zws_i, zws_r, zws_l, zws_n, zCb_kc, xl_ll, xr_rr, xs_e, xset_e, Option.toList, List.cons_append, List.nil_append, zIb_e, zrng_e, nz_e, if_pos, if_neg, and_true, true_and, or_true, true_or, ite_self, bi_eq0, bi_eq1, bi_1, bi_0, bi_ir, bi_T, bi_F, up_eq, up_ne, ↓reduceIte, reduceIte, Nat.reduceAdd, Nat.reduceLeDiff, Nat.le_refl, Nat.zero_le, not_true_eq_false, not_false_eq_true, ne_eq, Int.reduceEq, Int.reduceLT, Int.reduceLE, Int.reduceAdd, Int.reduceSub, Int.reduceMul, Int.reduceNeg, zSs hz, hL, c0, c1, pT g1, pT m1, e1, e2]
set_option maxRecDepth 8000 in
theorem k5_law {d : Nat} {G : XS} {s : ZS} {sx : Int → Int} {L i : Int} (hd : 30 ≤ d) (hg : LOK G 1 50 99) (hm : MOK G) (hz : G.2.1 zSC = 7) (hL : ll G zSC = L) (hL2 : 0 ≤ L ∧ L ≤ 3584) (hx : ∀ j, ir (sx j)) (hR : REL s sx) (hi : 0 ≤ i ∧ i + 7 ≤ L) : ∃ s2, REL s2 sx ∧ ∀ Q, Wp d 194 (395, [zrf zSC, zrf 0, zrf 172, zint i], [], (G, s)) Q = Wp d 194 (1389, [zrf zSC, zrf 0, zrf 172, zint i], [], (G, s2)) Q := by
  obtain ⟨v, s1, s2, bv, ⟨c1, R2⟩, e1, e2⟩ := r67 (d := d) hd hg hm hR (hx (i + 1))
  have c0 : ∀ j, s zSC j = sx j := hR.1
  have c1 : ∀ j, s1 zSC j = sx j := c1
  have g1 := hg.1
  have m1 := hm.1
  have h1 := hx (i + 1)
  have h2 := hx (i + 2)
  have h3 := hx (i + 3)
  have h4 := hx (i + 4)
  have h5 := hx (i + 5)
  have h6 := hx (i + 6)
  refine ⟨s2, R2, fun Q => ?_⟩
  simp (disch := first | omega | exact rfl) only [↓u194_395, ↓u194_396, ↓u194_397, ↓u194_398, ↓u194_399, ↓u194_400, ↓u194_401, ↓u194_404, ↓u194_405, ↓u194_406, ↓u194_407, ↓u194_408, ↓u194_409, ↓u194_410, ↓u194_413, ↓u194_416, ↓u194_417, ↓lI_0, ↓lI_s, ↓lL_0, ↓lL_s, ↓lR_0, ↓lR_s, ↓sT_0, ↓sT_i, ↓sT_r, ↓sT_u, ↓sT_lu, ↓sU_0, ↓sU_i, ↓sU_r, ↓sU_u, ↓ite_bx, bx_T, bx_F, bx_pos, bx_neg, zws_i, zws_r, zws_l, zws_n, zCb_kc, xl_ll, xr_rr, xs_e, xset_e, Option.toList, List.cons_append, List.nil_append, zIb_e, zrng_e, nz_e, if_pos, if_neg, and_true, true_and, or_true, true_or, ite_self, bi_eq0, bi_eq1, bi_1, bi_0, bi_ir, bi_T, bi_F, up_eq, up_ne, ↓reduceIte, reduceIte, Nat.reduceAdd, Nat.reduceLeDiff, Nat.le_refl, Nat.zero_le, not_true_eq_false, not_false_eq_true, ne_eq, Int.reduceEq, Int.reduceLT, Int.reduceLE, Int.reduceAdd, Int.reduceSub, Int.reduceMul, Int.reduceNeg, zSs hz, hL, c0, c1, pT g1, pT m1, e1, e2]
set_option maxRecDepth 8000 in
theorem k6_law {d : Nat} {G : XS} {s : ZS} {sx : Int → Int} {L i : Int} (hd : 30 ≤ d) (hg : LOK G 1 50 99) (hm : MOK G) (hz : G.2.1 zSC = 7) (hL : ll G zSC = L) (hL2 : 0 ≤ L ∧ L ≤ 3584) (hx : ∀ j, ir (sx j)) (hR : REL s sx) (hi : 0 ≤ i ∧ i + 7 ≤ L) : ∃ s2, REL s2 sx ∧ ∀ Q, Wp d 194 (418, [zrf zSC, zrf 0, zrf 172, zint i], [], (G, s)) Q = Wp d 194 (1389, [zrf zSC, zrf 0, zrf 172, zint i], [], (G, s2)) Q := by
  obtain ⟨v, s1, s2, bv, ⟨c1, R2⟩, e1, e2⟩ := r68 (d := d) hd hg hm hR
  have c0 : ∀ j, s zSC j = sx j := hR.1
  have c1 : ∀ j, s1 zSC j = sx j := c1
  have g1 := hg.1
  have m1 := hm.1
  have h1 := hx (i + 1)
  have h2 := hx (i + 2)
  have h3 := hx (i + 3)
  have h4 := hx (i + 4)
  have h5 := hx (i + 5)
  have h6 := hx (i + 6)
  refine ⟨s2, R2, fun Q => ?_⟩
  simp (disch := first | omega | exact rfl) only [↓u194_418, ↓u194_419, ↓u194_422, ↓u194_423, ↓u194_426, ↓u194_429, ↓u194_430, ↓lI_0, ↓lI_s, ↓lL_0, ↓lL_s, ↓lR_0, ↓lR_s, ↓sT_0, ↓sT_i, ↓sT_r, ↓sT_u, ↓sT_lu, ↓sU_0, ↓sU_i, ↓sU_r, ↓sU_u, ↓ite_bx, bx_T, bx_F, bx_pos, bx_neg, zws_i, zws_r, zws_l, zws_n, zCb_kc, xl_ll, xr_rr, xs_e, xset_e, Option.toList, List.cons_append, List.nil_append, zIb_e, zrng_e, nz_e, if_pos, if_neg, and_true, true_and, or_true, true_or, ite_self, bi_eq0, bi_eq1, bi_1, bi_0, bi_ir, bi_T, bi_F, up_eq, up_ne, ↓reduceIte, reduceIte, Nat.reduceAdd, Nat.reduceLeDiff, Nat.le_refl, Nat.zero_le, not_true_eq_false, not_false_eq_true, ne_eq, Int.reduceEq, Int.reduceLT, Int.reduceLE, Int.reduceAdd, Int.reduceSub, Int.reduceMul, Int.reduceNeg, zSs hz, hL, c0, c1, pT g1, pT m1, e1, e2]
set_option maxRecDepth 8000 in
theorem k7_law {d : Nat} {G : XS} {s : ZS} {sx : Int → Int} {L i : Int} (hd : 30 ≤ d) (hg : LOK G 1 50 99) (hm : MOK G) (hz : G.2.1 zSC = 7) (hL : ll G zSC = L) (hL2 : 0 ≤ L ∧ L ≤ 3584) (hx : ∀ j, ir (sx j)) (hR : REL s sx) (hi : 0 ≤ i ∧ i + 7 ≤ L) : ∃ s2, REL s2 sx ∧ ∀ Q, Wp d 194 (431, [zrf zSC, zrf 0, zrf 172, zint i], [], (G, s)) Q = Wp d 194 (1389, [zrf zSC, zrf 0, zrf 172, zint i], [], (G, s2)) Q := by
  obtain ⟨v, s1, s2, bv, ⟨c1, R2⟩, e1, e2⟩ := r70 (d := d) hd hg hm hR (hx (i + 1)) (hx (i + 2))
  have c0 : ∀ j, s zSC j = sx j := hR.1
  have c1 : ∀ j, s1 zSC j = sx j := c1
  have g1 := hg.1
  have m1 := hm.1
  have h1 := hx (i + 1)
  have h2 := hx (i + 2)
  have h3 := hx (i + 3)
  have h4 := hx (i + 4)
  have h5 := hx (i + 5)
  have h6 := hx (i + 6)
  refine ⟨s2, R2, fun Q => ?_⟩
  simp (disch := first | omega | exact rfl) only [↓u194_431, ↓u194_432, ↓u194_433, ↓u194_434, ↓u194_435, ↓u194_436, ↓u194_437, ↓u194_438, ↓u194_439, ↓u194_440, ↓u194_441, ↓u194_442, ↓u194_445, ↓u194_446, ↓u194_447, ↓u194_448, ↓u194_449, ↓u194_450, ↓u194_451, ↓u194_452, ↓u194_453, ↓u194_454, ↓u194_455, ↓u194_456, ↓u194_459, ↓u194_462, ↓u194_463, ↓lI_0, ↓lI_s, ↓lL_0, ↓lL_s, ↓lR_0, ↓lR_s, ↓sT_0, ↓sT_i, ↓sT_r, ↓sT_u, ↓sT_lu, ↓sU_0, ↓sU_i, ↓sU_r, ↓sU_u, ↓ite_bx, bx_T, bx_F, bx_pos, bx_neg, zws_i, zws_r, zws_l, zws_n, zCb_kc, xl_ll, xr_rr, xs_e, xset_e, Option.toList, List.cons_append, List.nil_append, zIb_e, zrng_e, nz_e, if_pos, if_neg, and_true, true_and, or_true, true_or, ite_self, bi_eq0, bi_eq1, bi_1, bi_0, bi_ir, bi_T, bi_F, up_eq, up_ne, ↓reduceIte, reduceIte, Nat.reduceAdd, Nat.reduceLeDiff, Nat.le_refl, Nat.zero_le, not_true_eq_false, not_false_eq_true, ne_eq, Int.reduceEq, Int.reduceLT, Int.reduceLE, Int.reduceAdd, Int.reduceSub, Int.reduceMul, Int.reduceNeg, zSs hz, hL, c0, c1, pT g1, pT m1, e1, e2]
set_option maxRecDepth 8000 in
theorem k8_law {d : Nat} {G : XS} {s : ZS} {sx : Int → Int} {L i : Int} (hd : 30 ≤ d) (hg : LOK G 1 50 99) (hm : MOK G) (hz : G.2.1 zSC = 7) (hL : ll G zSC = L) (hL2 : 0 ≤ L ∧ L ≤ 3584) (hx : ∀ j, ir (sx j)) (hR : REL s sx) (hi : 0 ≤ i ∧ i + 7 ≤ L) : ∃ s2, REL s2 sx ∧ ∀ Q, Wp d 194 (464, [zrf zSC, zrf 0, zrf 172, zint i], [], (G, s)) Q = Wp d 194 (1389, [zrf zSC, zrf 0, zrf 172, zint i], [], (G, s2)) Q := by
  obtain ⟨v, s1, s2, bv, ⟨c1, R2⟩, e1, e2⟩ := r71 (d := d) hd hg hm hR (hx (i + 1)) (hx (i + 2))
  have c0 : ∀ j, s zSC j = sx j := hR.1
  have c1 : ∀ j, s1 zSC j = sx j := c1
  have g1 := hg.1
  have m1 := hm.1
  have h1 := hx (i + 1)
  have h2 := hx (i + 2)
  have h3 := hx (i + 3)
  have h4 := hx (i + 4)
  have h5 := hx (i + 5)
  have h6 := hx (i + 6)
  refine ⟨s2, R2, fun Q => ?_⟩
  simp (disch := first | omega | exact rfl) only [↓u194_464, ↓u194_465, ↓u194_466, ↓u194_467, ↓u194_468, ↓u194_469, ↓u194_470, ↓u194_471, ↓u194_472, ↓u194_473, ↓u194_474, ↓u194_475, ↓u194_478, ↓u194_479, ↓u194_480, ↓u194_481, ↓u194_482, ↓u194_483, ↓u194_484, ↓u194_485, ↓u194_486, ↓u194_487, ↓u194_488, ↓u194_489, ↓u194_492, ↓u194_495, ↓u194_496, ↓lI_0, ↓lI_s, ↓lL_0, ↓lL_s, ↓lR_0, ↓lR_s, ↓sT_0, ↓sT_i, ↓sT_r, ↓sT_u, ↓sT_lu, ↓sU_0, ↓sU_i, ↓sU_r, ↓sU_u, ↓ite_bx, bx_T, bx_F, bx_pos, bx_neg, zws_i, zws_r, zws_l, zws_n, zCb_kc, xl_ll, xr_rr, xs_e, xset_e, Option.toList, List.cons_append, List.nil_append, zIb_e, zrng_e, nz_e, if_pos, if_neg, and_true, true_and, or_true, true_or, ite_self, bi_eq0, bi_eq1, bi_1, bi_0, bi_ir, bi_T, bi_F, up_eq, up_ne, ↓reduceIte, reduceIte, Nat.reduceAdd, Nat.reduceLeDiff, Nat.le_refl, Nat.zero_le, not_true_eq_false, not_false_eq_true, ne_eq, Int.reduceEq, Int.reduceLT, Int.reduceLE, Int.reduceAdd, Int.reduceSub, Int.reduceMul, Int.reduceNeg, zSs hz, hL, c0, c1, pT g1, pT m1, e1, e2]
set_option maxRecDepth 8000 in
theorem k9_law {d : Nat} {G : XS} {s : ZS} {sx : Int → Int} {L i : Int} (hd : 30 ≤ d) (hg : LOK G 1 50 99) (hm : MOK G) (hz : G.2.1 zSC = 7) (hL : ll G zSC = L) (hL2 : 0 ≤ L ∧ L ≤ 3584) (hx : ∀ j, ir (sx j)) (hR : REL s sx) (hi : 0 ≤ i ∧ i + 7 ≤ L) : ∃ s2, REL s2 sx ∧ ∀ Q, Wp d 194 (497, [zrf zSC, zrf 0, zrf 172, zint i], [], (G, s)) Q = Wp d 194 (1389, [zrf zSC, zrf 0, zrf 172, zint i], [], (G, s2)) Q := by
  obtain ⟨v, s1, s2, bv, ⟨c1, R2⟩, e1, e2⟩ := r72 (d := d) hd hg hm hR (hx (i + 1)) (hx (i + 2)) (hx (i + 3))
  have c0 : ∀ j, s zSC j = sx j := hR.1
  have c1 : ∀ j, s1 zSC j = sx j := c1
  have g1 := hg.1
  have m1 := hm.1
  have h1 := hx (i + 1)
  have h2 := hx (i + 2)
  have h3 := hx (i + 3)
  have h4 := hx (i + 4)
  have h5 := hx (i + 5)
  have h6 := hx (i + 6)
  refine ⟨s2, R2, fun Q => ?_⟩
  simp (disch := first | omega | exact rfl) only [↓u194_497, ↓u194_498, ↓u194_499, ↓u194_500, ↓u194_501, ↓u194_502, ↓u194_503, ↓u194_504, ↓u194_505, ↓u194_506, ↓u194_507, ↓u194_508, ↓u194_509, ↓u194_510, ↓u194_511, ↓u194_512, ↓u194_513, ↓u194_516, ↓u194_517, ↓u194_518, ↓u194_519, ↓u194_520, ↓u194_521, ↓u194_522, ↓u194_523, ↓u194_524, ↓u194_525, ↓u194_526, ↓u194_527, ↓u194_528, ↓u194_529, ↓u194_530, ↓u194_531, ↓u194_532, ↓u194_535, ↓u194_538, ↓u194_539, ↓lI_0, ↓lI_s, ↓lL_0, ↓lL_s, ↓lR_0, ↓lR_s, ↓sT_0, ↓sT_i, ↓sT_r, ↓sT_u, ↓sT_lu, ↓sU_0, ↓sU_i, ↓sU_r, ↓sU_u, ↓ite_bx, bx_T, bx_F, bx_pos, bx_neg, zws_i, zws_r, zws_l, zws_n, zCb_kc, xl_ll, xr_rr, xs_e, xset_e, Option.toList, List.cons_append, List.nil_append, zIb_e, zrng_e, nz_e, if_pos, if_neg, and_true, true_and, or_true, true_or, ite_self, bi_eq0, bi_eq1, bi_1, bi_0, bi_ir, bi_T, bi_F, up_eq, up_ne, ↓reduceIte, reduceIte, Nat.reduceAdd, Nat.reduceLeDiff, Nat.le_refl, Nat.zero_le, not_true_eq_false, not_false_eq_true, ne_eq, Int.reduceEq, Int.reduceLT, Int.reduceLE, Int.reduceAdd, Int.reduceSub, Int.reduceMul, Int.reduceNeg, zSs hz, hL, c0, c1, pT g1, pT m1, e1, e2]
set_option maxRecDepth 8000 in
theorem k10_law {d : Nat} {G : XS} {s : ZS} {sx : Int → Int} {L i : Int} (hd : 30 ≤ d) (hg : LOK G 1 50 99) (hm : MOK G) (hz : G.2.1 zSC = 7) (hL : ll G zSC = L) (hL2 : 0 ≤ L ∧ L ≤ 3584) (hx : ∀ j, ir (sx j)) (hR : REL s sx) (hi : 0 ≤ i ∧ i + 7 ≤ L) : ∃ s2, REL s2 sx ∧ ∀ Q, Wp d 194 (540, [zrf zSC, zrf 0, zrf 172, zint i], [], (G, s)) Q = Wp d 194 (1389, [zrf zSC, zrf 0, zrf 172, zint i], [], (G, s2)) Q := by
  obtain ⟨v, s1, s2, bv, ⟨c1, R2⟩, e1, e2⟩ := r73 (d := d) hd hg hm hR (hx (i + 1))
  have c0 : ∀ j, s zSC j = sx j := hR.1
  have c1 : ∀ j, s1 zSC j = sx j := c1
  have g1 := hg.1
  have m1 := hm.1
  have h1 := hx (i + 1)
  have h2 := hx (i + 2)
  have h3 := hx (i + 3)
  have h4 := hx (i + 4)
  have h5 := hx (i + 5)
  have h6 := hx (i + 6)
  refine ⟨s2, R2, fun Q => ?_⟩
  simp (disch := first | omega | exact rfl) only [↓u194_540, ↓u194_541, ↓u194_542, ↓u194_543, ↓u194_544, ↓u194_545, ↓u194_546, ↓u194_549, ↓u194_550, ↓u194_551, ↓u194_552, ↓u194_553, ↓u194_554, ↓u194_555, ↓u194_558, ↓u194_561, ↓u194_562, ↓lI_0, ↓lI_s, ↓lL_0, ↓lL_s, ↓lR_0, ↓lR_s, ↓sT_0, ↓sT_i, ↓sT_r, ↓sT_u, ↓sT_lu, ↓sU_0, ↓sU_i, ↓sU_r, ↓sU_u, ↓ite_bx, bx_T, bx_F, bx_pos, bx_neg, zws_i, zws_r, zws_l, zws_n, zCb_kc, xl_ll, xr_rr, xs_e, xset_e, Option.toList, List.cons_append, List.nil_append, zIb_e, zrng_e, nz_e, if_pos, if_neg, and_true, true_and, or_true, true_or, ite_self, bi_eq0, bi_eq1, bi_1, bi_0, bi_ir, bi_T, bi_F, up_eq, up_ne, ↓reduceIte, reduceIte, Nat.reduceAdd, Nat.reduceLeDiff, Nat.le_refl, Nat.zero_le, not_true_eq_false, not_false_eq_true, ne_eq, Int.reduceEq, Int.reduceLT, Int.reduceLE, Int.reduceAdd, Int.reduceSub, Int.reduceMul, Int.reduceNeg, zSs hz, hL, c0, c1, pT g1, pT m1, e1, e2]
set_option maxRecDepth 8000 in
theorem k11_law {d : Nat} {G : XS} {s : ZS} {sx : Int → Int} {L i : Int} (hd : 30 ≤ d) (hg : LOK G 1 50 99) (hm : MOK G) (hz : G.2.1 zSC = 7) (hL : ll G zSC = L) (hL2 : 0 ≤ L ∧ L ≤ 3584) (hx : ∀ j, ir (sx j)) (hR : REL s sx) (hi : 0 ≤ i ∧ i + 7 ≤ L) : ∃ s2, REL s2 sx ∧ ∀ Q, Wp d 194 (563, [zrf zSC, zrf 0, zrf 172, zint i], [], (G, s)) Q = Wp d 194 (1389, [zrf zSC, zrf 0, zrf 172, zint i], [], (G, s2)) Q := by
  obtain ⟨v, s1, s2, bv, ⟨c1, R2⟩, e1, e2⟩ := r74 (d := d) hd hg hm hR (hx (i + 1)) (hx (i + 2)) (hx (i + 3))
  have c0 : ∀ j, s zSC j = sx j := hR.1
  have c1 : ∀ j, s1 zSC j = sx j := c1
  have g1 := hg.1
  have m1 := hm.1
  have h1 := hx (i + 1)
  have h2 := hx (i + 2)
  have h3 := hx (i + 3)
  have h4 := hx (i + 4)
  have h5 := hx (i + 5)
  have h6 := hx (i + 6)
  refine ⟨s2, R2, fun Q => ?_⟩
  simp (disch := first | omega | exact rfl) only [↓u194_563, ↓u194_564, ↓u194_565, ↓u194_566, ↓u194_567, ↓u194_568, ↓u194_569, ↓u194_570, ↓u194_571, ↓u194_572, ↓u194_573, ↓u194_574, ↓u194_575, ↓u194_576, ↓u194_577, ↓u194_578, ↓u194_579, ↓u194_582, ↓u194_583, ↓u194_584, ↓u194_585, ↓u194_586, ↓u194_587, ↓u194_588, ↓u194_589, ↓u194_590, ↓u194_591, ↓u194_592, ↓u194_593, ↓u194_594, ↓u194_595, ↓u194_596, ↓u194_597, ↓u194_598, ↓u194_601, ↓u194_604, ↓u194_605, ↓lI_0, ↓lI_s, ↓lL_0, ↓lL_s, ↓lR_0, ↓lR_s, ↓sT_0, ↓sT_i, ↓sT_r, ↓sT_u, ↓sT_lu, ↓sU_0, ↓sU_i, ↓sU_r, ↓sU_u, ↓ite_bx, bx_T, bx_F, bx_pos, bx_neg, zws_i, zws_r, zws_l, zws_n, zCb_kc, xl_ll, xr_rr, xs_e, xset_e, Option.toList, List.cons_append, List.nil_append, zIb_e, zrng_e, nz_e, if_pos, if_neg, and_true, true_and, or_true, true_or, ite_self, bi_eq0, bi_eq1, bi_1, bi_0, bi_ir, bi_T, bi_F, up_eq, up_ne, ↓reduceIte, reduceIte, Nat.reduceAdd, Nat.reduceLeDiff, Nat.le_refl, Nat.zero_le, not_true_eq_false, not_false_eq_true, ne_eq, Int.reduceEq, Int.reduceLT, Int.reduceLE, Int.reduceAdd, Int.reduceSub, Int.reduceMul, Int.reduceNeg, zSs hz, hL, c0, c1, pT g1, pT m1, e1, e2]
set_option maxRecDepth 8000 in
theorem k12_law {d : Nat} {G : XS} {s : ZS} {sx : Int → Int} {L i : Int} (hd : 30 ≤ d) (hg : LOK G 1 50 99) (hm : MOK G) (hz : G.2.1 zSC = 7) (hL : ll G zSC = L) (hL2 : 0 ≤ L ∧ L ≤ 3584) (hx : ∀ j, ir (sx j)) (hR : REL s sx) (hi : 0 ≤ i ∧ i + 7 ≤ L) : ∃ s2, REL s2 sx ∧ ∀ Q, Wp d 194 (606, [zrf zSC, zrf 0, zrf 172, zint i], [], (G, s)) Q = Wp d 194 (1389, [zrf zSC, zrf 0, zrf 172, zint i], [], (G, s2)) Q := by
  obtain ⟨v, s1, s2, bv, ⟨c1, R2⟩, e1, e2⟩ := r75 (d := d) hd hg hm hR (hx (i + 1)) (hx (i + 2)) (hx (i + 3)) (hx (i + 4))
  have c0 : ∀ j, s zSC j = sx j := hR.1
  have c1 : ∀ j, s1 zSC j = sx j := c1
  have g1 := hg.1
  have m1 := hm.1
  have h1 := hx (i + 1)
  have h2 := hx (i + 2)
  have h3 := hx (i + 3)
  have h4 := hx (i + 4)
  have h5 := hx (i + 5)
  have h6 := hx (i + 6)
  refine ⟨s2, R2, fun Q => ?_⟩
  simp (disch := first | omega | exact rfl) only [↓u194_606, ↓u194_607, ↓u194_608, ↓u194_609, ↓u194_610, ↓u194_611, ↓u194_612, ↓u194_613, ↓u194_614, ↓u194_615, ↓u194_616, ↓u194_617, ↓u194_618, ↓u194_619, ↓u194_620, ↓u194_621, ↓u194_622, ↓u194_623, ↓u194_624, ↓u194_625, ↓u194_626, ↓u194_627, ↓u194_630, ↓u194_631, ↓u194_632, ↓u194_633, ↓u194_634, ↓u194_635, ↓u194_636, ↓u194_637, ↓u194_638, ↓u194_639, ↓u194_640, ↓u194_641, ↓u194_642, ↓u194_643, ↓u194_644, ↓u194_645, ↓u194_646, ↓u194_647, ↓u194_648, ↓u194_649, ↓u194_650, ↓u194_651, ↓u194_654, ↓u194_657, ↓u194_658, ↓lI_0, ↓lI_s, ↓lL_0, ↓lL_s, ↓lR_0, ↓lR_s, ↓sT_0, ↓sT_i, ↓sT_r, ↓sT_u, ↓sT_lu, ↓sU_0, ↓sU_i, ↓sU_r, ↓sU_u, ↓ite_bx, bx_T, bx_F, bx_pos, bx_neg, zws_i, zws_r, zws_l, zws_n, zCb_kc, xl_ll, xr_rr, xs_e, xset_e, Option.toList, List.cons_append, List.nil_append, zIb_e, zrng_e, nz_e, if_pos, if_neg, and_true, true_and, or_true, true_or, ite_self, bi_eq0, bi_eq1, bi_1, bi_0, bi_ir, bi_T, bi_F, up_eq, up_ne, ↓reduceIte, reduceIte, Nat.reduceAdd, Nat.reduceLeDiff, Nat.le_refl, Nat.zero_le, not_true_eq_false, not_false_eq_true, ne_eq, Int.reduceEq, Int.reduceLT, Int.reduceLE, Int.reduceAdd, Int.reduceSub, Int.reduceMul, Int.reduceNeg, zSs hz, hL, c0, c1, pT g1, pT m1, e1, e2]
set_option maxRecDepth 8000 in
theorem k13_law {d : Nat} {G : XS} {s : ZS} {sx : Int → Int} {L i : Int} (hd : 30 ≤ d) (hg : LOK G 1 50 99) (hm : MOK G) (hz : G.2.1 zSC = 7) (hL : ll G zSC = L) (hL2 : 0 ≤ L ∧ L ≤ 3584) (hx : ∀ j, ir (sx j)) (hR : REL s sx) (hi : 0 ≤ i ∧ i + 7 ≤ L) : ∃ s2, REL s2 sx ∧ ∀ Q, Wp d 194 (659, [zrf zSC, zrf 0, zrf 172, zint i], [], (G, s)) Q = Wp d 194 (1389, [zrf zSC, zrf 0, zrf 172, zint i], [], (G, s2)) Q := by
  obtain ⟨v, s1, s2, bv, ⟨c1, R2⟩, e1, e2⟩ := r76 (d := d) hd hg hm hR (hx (i + 1)) (hx (i + 2)) (hx (i + 3)) (hx (i + 4))
  have c0 : ∀ j, s zSC j = sx j := hR.1
  have c1 : ∀ j, s1 zSC j = sx j := c1
  have g1 := hg.1
  have m1 := hm.1
  have h1 := hx (i + 1)
  have h2 := hx (i + 2)
  have h3 := hx (i + 3)
  have h4 := hx (i + 4)
  have h5 := hx (i + 5)
  have h6 := hx (i + 6)
  refine ⟨s2, R2, fun Q => ?_⟩
  simp (disch := first | omega | exact rfl) only [↓u194_659, ↓u194_660, ↓u194_661, ↓u194_662, ↓u194_663, ↓u194_664, ↓u194_665, ↓u194_666, ↓u194_667, ↓u194_668, ↓u194_669, ↓u194_670, ↓u194_671, ↓u194_672, ↓u194_673, ↓u194_674, ↓u194_675, ↓u194_676, ↓u194_677, ↓u194_678, ↓u194_679, ↓u194_680, ↓u194_683, ↓u194_684, ↓u194_685, ↓u194_686, ↓u194_687, ↓u194_688, ↓u194_689, ↓u194_690, ↓u194_691, ↓u194_692, ↓u194_693, ↓u194_694, ↓u194_695, ↓u194_696, ↓u194_697, ↓u194_698, ↓u194_699, ↓u194_700, ↓u194_701, ↓u194_702, ↓u194_703, ↓u194_704, ↓u194_707, ↓u194_708, ↓u194_711, ↓u194_712, ↓lI_0, ↓lI_s, ↓lL_0, ↓lL_s, ↓lR_0, ↓lR_s, ↓sT_0, ↓sT_i, ↓sT_r, ↓sT_u, ↓sT_lu, ↓sU_0, ↓sU_i, ↓sU_r, ↓sU_u, ↓ite_bx, bx_T, bx_F, bx_pos, bx_neg, zws_i, zws_r, zws_l, zws_n, zCb_kc, xl_ll, xr_rr, xs_e, xset_e, Option.toList, List.cons_append, List.nil_append, zIb_e, zrng_e, nz_e, if_pos, if_neg, and_true, true_and, or_true, true_or, ite_self, bi_eq0, bi_eq1, bi_1, bi_0, bi_ir, bi_T, bi_F, up_eq, up_ne, ↓reduceIte, reduceIte, Nat.reduceAdd, Nat.reduceLeDiff, Nat.le_refl, Nat.zero_le, not_true_eq_false, not_false_eq_true, ne_eq, Int.reduceEq, Int.reduceLT, Int.reduceLE, Int.reduceAdd, Int.reduceSub, Int.reduceMul, Int.reduceNeg, zSs hz, hL, c0, c1, pT g1, pT m1, e1, e2, zJb_e bv]
set_option maxRecDepth 8000 in
theorem k14_law {d : Nat} {G : XS} {s : ZS} {sx : Int → Int} {L i : Int} (hd : 30 ≤ d) (hg : LOK G 1 50 99) (hm : MOK G) (hz : G.2.1 zSC = 7) (hL : ll G zSC = L) (hL2 : 0 ≤ L ∧ L ≤ 3584) (hx : ∀ j, ir (sx j)) (hR : REL s sx) (hi : 0 ≤ i ∧ i + 7 ≤ L) : ∃ s2, REL s2 sx ∧ ∀ Q, Wp d 194 (713, [zrf zSC, zrf 0, zrf 172, zint i], [], (G, s)) Q = Wp d 194 (1389, [zrf zSC, zrf 0, zrf 172, zint i], [], (G, s2)) Q := by
  obtain ⟨v, s1, s2, bv, ⟨c1, R2⟩, e1, e2⟩ := r77 (d := d) hd hg hm hR (hx (i + 1))
  have c0 : ∀ j, s zSC j = sx j := hR.1
  have c1 : ∀ j, s1 zSC j = sx j := c1
  have g1 := hg.1
  have m1 := hm.1
  have h1 := hx (i + 1)
  have h2 := hx (i + 2)
  have h3 := hx (i + 3)
  have h4 := hx (i + 4)
  have h5 := hx (i + 5)
  have h6 := hx (i + 6)
  refine ⟨s2, R2, fun Q => ?_⟩
  simp (disch := first | omega | exact rfl) only [↓u194_713, ↓u194_714, ↓u194_715, ↓u194_716, ↓u194_717, ↓u194_718, ↓u194_719, ↓u194_722, ↓u194_723, ↓u194_724, ↓u194_725, ↓u194_726, ↓u194_727, ↓u194_728, ↓u194_731, ↓u194_734, ↓u194_735, ↓lI_0, ↓lI_s, ↓lL_0, ↓lL_s, ↓lR_0, ↓lR_s, ↓sT_0, ↓sT_i, ↓sT_r, ↓sT_u, ↓sT_lu, ↓sU_0, ↓sU_i, ↓sU_r, ↓sU_u, ↓ite_bx, bx_T, bx_F, bx_pos, bx_neg, zws_i, zws_r, zws_l, zws_n, zCb_kc, xl_ll, xr_rr, xs_e, xset_e, Option.toList, List.cons_append, List.nil_append, zIb_e, zrng_e, nz_e, if_pos, if_neg, and_true, true_and, or_true, true_or, ite_self, bi_eq0, bi_eq1, bi_1, bi_0, bi_ir, bi_T, bi_F, up_eq, up_ne, ↓reduceIte, reduceIte, Nat.reduceAdd, Nat.reduceLeDiff, Nat.le_refl, Nat.zero_le, not_true_eq_false, not_false_eq_true, ne_eq, Int.reduceEq, Int.reduceLT, Int.reduceLE, Int.reduceAdd, Int.reduceSub, Int.reduceMul, Int.reduceNeg, zSs hz, hL, c0, c1, pT g1, pT m1, e1, e2]
set_option maxRecDepth 8000 in
theorem k15_law {d : Nat} {G : XS} {s : ZS} {sx : Int → Int} {L i : Int} (hd : 30 ≤ d) (hg : LOK G 1 50 99) (hm : MOK G) (hz : G.2.1 zSC = 7) (hL : ll G zSC = L) (hL2 : 0 ≤ L ∧ L ≤ 3584) (hx : ∀ j, ir (sx j)) (hR : REL s sx) (hi : 0 ≤ i ∧ i + 7 ≤ L) : ∃ s2, REL s2 sx ∧ ∀ Q, Wp d 194 (736, [zrf zSC, zrf 0, zrf 172, zint i], [], (G, s)) Q = Wp d 194 (1389, [zrf zSC, zrf 0, zrf 172, zint i], [], (G, s2)) Q := by
  obtain ⟨v, s1, s2, bv, ⟨c1, R2⟩, e1, e2⟩ := r78 (d := d) hd hg hm hR (hx (i + 1))
  have c0 : ∀ j, s zSC j = sx j := hR.1
  have c1 : ∀ j, s1 zSC j = sx j := c1
  have g1 := hg.1
  have m1 := hm.1
  have h1 := hx (i + 1)
  have h2 := hx (i + 2)
  have h3 := hx (i + 3)
  have h4 := hx (i + 4)
  have h5 := hx (i + 5)
  have h6 := hx (i + 6)
  refine ⟨s2, R2, fun Q => ?_⟩
  simp (disch := first | omega | exact rfl) only [↓u194_736, ↓u194_737, ↓u194_738, ↓u194_739, ↓u194_740, ↓u194_741, ↓u194_742, ↓u194_745, ↓u194_746, ↓u194_747, ↓u194_748, ↓u194_749, ↓u194_750, ↓u194_751, ↓u194_754, ↓u194_757, ↓u194_758, ↓lI_0, ↓lI_s, ↓lL_0, ↓lL_s, ↓lR_0, ↓lR_s, ↓sT_0, ↓sT_i, ↓sT_r, ↓sT_u, ↓sT_lu, ↓sU_0, ↓sU_i, ↓sU_r, ↓sU_u, ↓ite_bx, bx_T, bx_F, bx_pos, bx_neg, zws_i, zws_r, zws_l, zws_n, zCb_kc, xl_ll, xr_rr, xs_e, xset_e, Option.toList, List.cons_append, List.nil_append, zIb_e, zrng_e, nz_e, if_pos, if_neg, and_true, true_and, or_true, true_or, ite_self, bi_eq0, bi_eq1, bi_1, bi_0, bi_ir, bi_T, bi_F, up_eq, up_ne, ↓reduceIte, reduceIte, Nat.reduceAdd, Nat.reduceLeDiff, Nat.le_refl, Nat.zero_le, not_true_eq_false, not_false_eq_true, ne_eq, Int.reduceEq, Int.reduceLT, Int.reduceLE, Int.reduceAdd, Int.reduceSub, Int.reduceMul, Int.reduceNeg, zSs hz, hL, c0, c1, pT g1, pT m1, e1, e2]
set_option maxRecDepth 8000 in
theorem k16_law {d : Nat} {G : XS} {s : ZS} {sx : Int → Int} {L i : Int} (hd : 30 ≤ d) (hg : LOK G 1 50 99) (hm : MOK G) (hz : G.2.1 zSC = 7) (hL : ll G zSC = L) (hL2 : 0 ≤ L ∧ L ≤ 3584) (hx : ∀ j, ir (sx j)) (hR : REL s sx) (hi : 0 ≤ i ∧ i + 7 ≤ L) : ∃ s2, REL s2 sx ∧ ∀ Q, Wp d 194 (759, [zrf zSC, zrf 0, zrf 172, zint i], [], (G, s)) Q = Wp d 194 (1389, [zrf zSC, zrf 0, zrf 172, zint i], [], (G, s2)) Q := by
  obtain ⟨v, s1, s2, bv, ⟨c1, R2⟩, e1, e2⟩ := r79 (d := d) hd hg hm hR (hx (i + 1)) (hx (i + 2))
  have c0 : ∀ j, s zSC j = sx j := hR.1
  have c1 : ∀ j, s1 zSC j = sx j := c1
  have g1 := hg.1
  have m1 := hm.1
  have h1 := hx (i + 1)
  have h2 := hx (i + 2)
  have h3 := hx (i + 3)
  have h4 := hx (i + 4)
  have h5 := hx (i + 5)
  have h6 := hx (i + 6)
  refine ⟨s2, R2, fun Q => ?_⟩
  simp (disch := first | omega | exact rfl) only [↓u194_759, ↓u194_760, ↓u194_761, ↓u194_762, ↓u194_763, ↓u194_764, ↓u194_765, ↓u194_766, ↓u194_767, ↓u194_768, ↓u194_769, ↓u194_770, ↓u194_773, ↓u194_774, ↓u194_775, ↓u194_776, ↓u194_777, ↓u194_778, ↓u194_779, ↓u194_780, ↓u194_781, ↓u194_782, ↓u194_783, ↓u194_784, ↓u194_787, ↓u194_790, ↓u194_791, ↓lI_0, ↓lI_s, ↓lL_0, ↓lL_s, ↓lR_0, ↓lR_s, ↓sT_0, ↓sT_i, ↓sT_r, ↓sT_u, ↓sT_lu, ↓sU_0, ↓sU_i, ↓sU_r, ↓sU_u, ↓ite_bx, bx_T, bx_F, bx_pos, bx_neg, zws_i, zws_r, zws_l, zws_n, zCb_kc, xl_ll, xr_rr, xs_e, xset_e, Option.toList, List.cons_append, List.nil_append, zIb_e, zrng_e, nz_e, if_pos, if_neg, and_true, true_and, or_true, true_or, ite_self, bi_eq0, bi_eq1, bi_1, bi_0, bi_ir, bi_T, bi_F, up_eq, up_ne, ↓reduceIte, reduceIte, Nat.reduceAdd, Nat.reduceLeDiff, Nat.le_refl, Nat.zero_le, not_true_eq_false, not_false_eq_true, ne_eq, Int.reduceEq, Int.reduceLT, Int.reduceLE, Int.reduceAdd, Int.reduceSub, Int.reduceMul, Int.reduceNeg, zSs hz, hL, c0, c1, pT g1, pT m1, e1, e2]
set_option maxRecDepth 8000 in
theorem k17_law {d : Nat} {G : XS} {s : ZS} {sx : Int → Int} {L i : Int} (hd : 30 ≤ d) (hg : LOK G 1 50 99) (hm : MOK G) (hz : G.2.1 zSC = 7) (hL : ll G zSC = L) (hL2 : 0 ≤ L ∧ L ≤ 3584) (hx : ∀ j, ir (sx j)) (hR : REL s sx) (hi : 0 ≤ i ∧ i + 7 ≤ L) : ∃ s2, REL s2 sx ∧ ∀ Q, Wp d 194 (792, [zrf zSC, zrf 0, zrf 172, zint i], [], (G, s)) Q = Wp d 194 (1389, [zrf zSC, zrf 0, zrf 172, zint i], [], (G, s2)) Q := by
  obtain ⟨v, s1, s2, bv, ⟨c1, R2⟩, e1, e2⟩ := r81 (d := d) hd hg hm hR (hx (i + 1)) (hx (i + 2))
  have c0 : ∀ j, s zSC j = sx j := hR.1
  have c1 : ∀ j, s1 zSC j = sx j := c1
  have g1 := hg.1
  have m1 := hm.1
  have h1 := hx (i + 1)
  have h2 := hx (i + 2)
  have h3 := hx (i + 3)
  have h4 := hx (i + 4)
  have h5 := hx (i + 5)
  have h6 := hx (i + 6)
  refine ⟨s2, R2, fun Q => ?_⟩
  simp (disch := first | omega | exact rfl) only [↓u194_792, ↓u194_793, ↓u194_794, ↓u194_795, ↓u194_796, ↓u194_797, ↓u194_798, ↓u194_799, ↓u194_800, ↓u194_801, ↓u194_802, ↓u194_803, ↓u194_806, ↓u194_807, ↓u194_808, ↓u194_809, ↓u194_810, ↓u194_811, ↓u194_812, ↓u194_813, ↓u194_814, ↓u194_815, ↓u194_816, ↓u194_817, ↓u194_820, ↓u194_823, ↓u194_824, ↓lI_0, ↓lI_s, ↓lL_0, ↓lL_s, ↓lR_0, ↓lR_s, ↓sT_0, ↓sT_i, ↓sT_r, ↓sT_u, ↓sT_lu, ↓sU_0, ↓sU_i, ↓sU_r, ↓sU_u, ↓ite_bx, bx_T, bx_F, bx_pos, bx_neg, zws_i, zws_r, zws_l, zws_n, zCb_kc, xl_ll, xr_rr, xs_e, xset_e, Option.toList, List.cons_append, List.nil_append, zIb_e, zrng_e, nz_e, if_pos, if_neg, and_true, true_and, or_true, true_or, ite_self, bi_eq0, bi_eq1, bi_1, bi_0, bi_ir, bi_T, bi_F, up_eq, up_ne, ↓reduceIte, reduceIte, Nat.reduceAdd, Nat.reduceLeDiff, Nat.le_refl, Nat.zero_le, not_true_eq_false, not_false_eq_true, ne_eq, Int.reduceEq, Int.reduceLT, Int.reduceLE, Int.reduceAdd, Int.reduceSub, Int.reduceMul, Int.reduceNeg, zSs hz, hL, c0, c1, pT g1, pT m1, e1, e2]
set_option maxRecDepth 8000 in
theorem k18_law {d : Nat} {G : XS} {s : ZS} {sx : Int → Int} {L i : Int} (hd : 30 ≤ d) (hg : LOK G 1 50 99) (hm : MOK G) (hz : G.2.1 zSC = 7) (hL : ll G zSC = L) (hL2 : 0 ≤ L ∧ L ≤ 3584) (hx : ∀ j, ir (sx j)) (hR : REL s sx) (hi : 0 ≤ i ∧ i + 7 ≤ L) : ∃ s2, REL s2 sx ∧ ∀ Q, Wp d 194 (825, [zrf zSC, zrf 0, zrf 172, zint i], [], (G, s)) Q = Wp d 194 (1389, [zrf zSC, zrf 0, zrf 172, zint i], [], (G, s2)) Q := by
  obtain ⟨v, s1, s2, bv, ⟨c1, R2⟩, e1, e2⟩ := r83 (d := d) hd hg hm hR (hx (i + 1)) (hx (i + 2)) (hx (i + 3))
  have c0 : ∀ j, s zSC j = sx j := hR.1
  have c1 : ∀ j, s1 zSC j = sx j := c1
  have g1 := hg.1
  have m1 := hm.1
  have h1 := hx (i + 1)
  have h2 := hx (i + 2)
  have h3 := hx (i + 3)
  have h4 := hx (i + 4)
  have h5 := hx (i + 5)
  have h6 := hx (i + 6)
  refine ⟨s2, R2, fun Q => ?_⟩
  simp (disch := first | omega | exact rfl) only [↓u194_825, ↓u194_826, ↓u194_827, ↓u194_828, ↓u194_829, ↓u194_830, ↓u194_831, ↓u194_832, ↓u194_833, ↓u194_834, ↓u194_835, ↓u194_836, ↓u194_837, ↓u194_838, ↓u194_839, ↓u194_840, ↓u194_841, ↓u194_844, ↓u194_845, ↓u194_846, ↓u194_847, ↓u194_848, ↓u194_849, ↓u194_850, ↓u194_851, ↓u194_852, ↓u194_853, ↓u194_854, ↓u194_855, ↓u194_856, ↓u194_857, ↓u194_858, ↓u194_859, ↓u194_860, ↓u194_863, ↓u194_866, ↓u194_867, ↓lI_0, ↓lI_s, ↓lL_0, ↓lL_s, ↓lR_0, ↓lR_s, ↓sT_0, ↓sT_i, ↓sT_r, ↓sT_u, ↓sT_lu, ↓sU_0, ↓sU_i, ↓sU_r, ↓sU_u, ↓ite_bx, bx_T, bx_F, bx_pos, bx_neg, zws_i, zws_r, zws_l, zws_n, zCb_kc, xl_ll, xr_rr, xs_e, xset_e, Option.toList, List.cons_append, List.nil_append, zIb_e, zrng_e, nz_e, if_pos, if_neg, and_true, true_and, or_true, true_or, ite_self, bi_eq0, bi_eq1, bi_1, bi_0, bi_ir, bi_T, bi_F, up_eq, up_ne, ↓reduceIte, reduceIte, Nat.reduceAdd, Nat.reduceLeDiff, Nat.le_refl, Nat.zero_le, not_true_eq_false, not_false_eq_true, ne_eq, Int.reduceEq, Int.reduceLT, Int.reduceLE, Int.reduceAdd, Int.reduceSub, Int.reduceMul, Int.reduceNeg, zSs hz, hL, c0, c1, pT g1, pT m1, e1, e2]
set_option maxRecDepth 8000 in
theorem k19_law {d : Nat} {G : XS} {s : ZS} {sx : Int → Int} {L i : Int} (hd : 30 ≤ d) (hg : LOK G 1 50 99) (hm : MOK G) (hz : G.2.1 zSC = 7) (hL : ll G zSC = L) (hL2 : 0 ≤ L ∧ L ≤ 3584) (hx : ∀ j, ir (sx j)) (hR : REL s sx) (hi : 0 ≤ i ∧ i + 7 ≤ L) : ∃ s2, REL s2 sx ∧ ∀ Q, Wp d 194 (868, [zrf zSC, zrf 0, zrf 172, zint i], [], (G, s)) Q = Wp d 194 (1389, [zrf zSC, zrf 0, zrf 172, zint i], [], (G, s2)) Q := by
  obtain ⟨v, s1, s2, bv, ⟨c1, R2⟩, e1, e2⟩ := r84 (d := d) hd hg hm hR (hx (i + 1)) (hx (i + 2))
  have c0 : ∀ j, s zSC j = sx j := hR.1
  have c1 : ∀ j, s1 zSC j = sx j := c1
  have g1 := hg.1
  have m1 := hm.1
  have h1 := hx (i + 1)
  have h2 := hx (i + 2)
  have h3 := hx (i + 3)
  have h4 := hx (i + 4)
  have h5 := hx (i + 5)
  have h6 := hx (i + 6)
  refine ⟨s2, R2, fun Q => ?_⟩
  simp (disch := first | omega | exact rfl) only [↓u194_868, ↓u194_869, ↓u194_870, ↓u194_871, ↓u194_872, ↓u194_873, ↓u194_874, ↓u194_875, ↓u194_876, ↓u194_877, ↓u194_878, ↓u194_879, ↓u194_882, ↓u194_883, ↓u194_884, ↓u194_885, ↓u194_886, ↓u194_887, ↓u194_888, ↓u194_889, ↓u194_890, ↓u194_891, ↓u194_892, ↓u194_893, ↓u194_896, ↓u194_899, ↓u194_900, ↓lI_0, ↓lI_s, ↓lL_0, ↓lL_s, ↓lR_0, ↓lR_s, ↓sT_0, ↓sT_i, ↓sT_r, ↓sT_u, ↓sT_lu, ↓sU_0, ↓sU_i, ↓sU_r, ↓sU_u, ↓ite_bx, bx_T, bx_F, bx_pos, bx_neg, zws_i, zws_r, zws_l, zws_n, zCb_kc, xl_ll, xr_rr, xs_e, xset_e, Option.toList, List.cons_append, List.nil_append, zIb_e, zrng_e, nz_e, if_pos, if_neg, and_true, true_and, or_true, true_or, ite_self, bi_eq0, bi_eq1, bi_1, bi_0, bi_ir, bi_T, bi_F, up_eq, up_ne, ↓reduceIte, reduceIte, Nat.reduceAdd, Nat.reduceLeDiff, Nat.le_refl, Nat.zero_le, not_true_eq_false, not_false_eq_true, ne_eq, Int.reduceEq, Int.reduceLT, Int.reduceLE, Int.reduceAdd, Int.reduceSub, Int.reduceMul, Int.reduceNeg, zSs hz, hL, c0, c1, pT g1, pT m1, e1, e2]
set_option maxRecDepth 8000 in
theorem k20_law {d : Nat} {G : XS} {s : ZS} {sx : Int → Int} {L i : Int} (hd : 30 ≤ d) (hg : LOK G 1 50 99) (hm : MOK G) (hz : G.2.1 zSC = 7) (hL : ll G zSC = L) (hL2 : 0 ≤ L ∧ L ≤ 3584) (hx : ∀ j, ir (sx j)) (hR : REL s sx) (hi : 0 ≤ i ∧ i + 7 ≤ L) : ∃ s2, REL s2 sx ∧ ∀ Q, Wp d 194 (901, [zrf zSC, zrf 0, zrf 172, zint i], [], (G, s)) Q = Wp d 194 (1389, [zrf zSC, zrf 0, zrf 172, zint i], [], (G, s2)) Q := by
  obtain ⟨v, s1, s2, bv, ⟨c1, R2⟩, e1, e2⟩ := r86 (d := d) hd hg hm hR (hx (i + 1)) (hx (i + 2))
  have c0 : ∀ j, s zSC j = sx j := hR.1
  have c1 : ∀ j, s1 zSC j = sx j := c1
  have g1 := hg.1
  have m1 := hm.1
  have h1 := hx (i + 1)
  have h2 := hx (i + 2)
  have h3 := hx (i + 3)
  have h4 := hx (i + 4)
  have h5 := hx (i + 5)
  have h6 := hx (i + 6)
  refine ⟨s2, R2, fun Q => ?_⟩
  simp (disch := first | omega | exact rfl) only [↓u194_901, ↓u194_902, ↓u194_903, ↓u194_904, ↓u194_905, ↓u194_906, ↓u194_907, ↓u194_908, ↓u194_909, ↓u194_910, ↓u194_911, ↓u194_912, ↓u194_915, ↓u194_916, ↓u194_917, ↓u194_918, ↓u194_919, ↓u194_920, ↓u194_921, ↓u194_922, ↓u194_923, ↓u194_924, ↓u194_925, ↓u194_926, ↓u194_929, ↓u194_930, ↓u194_933, ↓u194_934, ↓lI_0, ↓lI_s, ↓lL_0, ↓lL_s, ↓lR_0, ↓lR_s, ↓sT_0, ↓sT_i, ↓sT_r, ↓sT_u, ↓sT_lu, ↓sU_0, ↓sU_i, ↓sU_r, ↓sU_u, ↓ite_bx, bx_T, bx_F, bx_pos, bx_neg, zws_i, zws_r, zws_l, zws_n, zCb_kc, xl_ll, xr_rr, xs_e, xset_e, Option.toList, List.cons_append, List.nil_append, zIb_e, zrng_e, nz_e, if_pos, if_neg, and_true, true_and, or_true, true_or, ite_self, bi_eq0, bi_eq1, bi_1, bi_0, bi_ir, bi_T, bi_F, up_eq, up_ne, ↓reduceIte, reduceIte, Nat.reduceAdd, Nat.reduceLeDiff, Nat.le_refl, Nat.zero_le, not_true_eq_false, not_false_eq_true, ne_eq, Int.reduceEq, Int.reduceLT, Int.reduceLE, Int.reduceAdd, Int.reduceSub, Int.reduceMul, Int.reduceNeg, zSs hz, hL, c0, c1, pT g1, pT m1, e1, e2, zJb_e bv]
set_option maxRecDepth 8000 in
theorem k21_law {d : Nat} {G : XS} {s : ZS} {sx : Int → Int} {L i : Int} (hd : 30 ≤ d) (hg : LOK G 1 50 99) (hm : MOK G) (hz : G.2.1 zSC = 7) (hL : ll G zSC = L) (hL2 : 0 ≤ L ∧ L ≤ 3584) (hx : ∀ j, ir (sx j)) (hR : REL s sx) (hi : 0 ≤ i ∧ i + 7 ≤ L) : ∃ s2, REL s2 sx ∧ ∀ Q, Wp d 194 (935, [zrf zSC, zrf 0, zrf 172, zint i], [], (G, s)) Q = Wp d 194 (1389, [zrf zSC, zrf 0, zrf 172, zint i], [], (G, s2)) Q := by
  obtain ⟨v, s1, s2, bv, ⟨c1, R2⟩, e1, e2⟩ := r87 (d := d) hd hg hm hR (hx (i + 1))
  have c0 : ∀ j, s zSC j = sx j := hR.1
  have c1 : ∀ j, s1 zSC j = sx j := c1
  have g1 := hg.1
  have m1 := hm.1
  have h1 := hx (i + 1)
  have h2 := hx (i + 2)
  have h3 := hx (i + 3)
  have h4 := hx (i + 4)
  have h5 := hx (i + 5)
  have h6 := hx (i + 6)
  refine ⟨s2, R2, fun Q => ?_⟩
  simp (disch := first | omega | exact rfl) only [↓u194_935, ↓u194_936, ↓u194_937, ↓u194_938, ↓u194_939, ↓u194_940, ↓u194_941, ↓u194_944, ↓u194_945, ↓u194_946, ↓u194_947, ↓u194_948, ↓u194_949, ↓u194_950, ↓u194_953, ↓u194_954, ↓u194_957, ↓u194_958, ↓lI_0, ↓lI_s, ↓lL_0, ↓lL_s, ↓lR_0, ↓lR_s, ↓sT_0, ↓sT_i, ↓sT_r, ↓sT_u, ↓sT_lu, ↓sU_0, ↓sU_i, ↓sU_r, ↓sU_u, ↓ite_bx, bx_T, bx_F, bx_pos, bx_neg, zws_i, zws_r, zws_l, zws_n, zCb_kc, xl_ll, xr_rr, xs_e, xset_e, Option.toList, List.cons_append, List.nil_append, zIb_e, zrng_e, nz_e, if_pos, if_neg, and_true, true_and, or_true, true_or, ite_self, bi_eq0, bi_eq1, bi_1, bi_0, bi_ir, bi_T, bi_F, up_eq, up_ne, ↓reduceIte, reduceIte, Nat.reduceAdd, Nat.reduceLeDiff, Nat.le_refl, Nat.zero_le, not_true_eq_false, not_false_eq_true, ne_eq, Int.reduceEq, Int.reduceLT, Int.reduceLE, Int.reduceAdd, Int.reduceSub, Int.reduceMul, Int.reduceNeg, zSs hz, hL, c0, c1, pT g1, pT m1, e1, e2, zJb_e bv]
set_option maxRecDepth 8000 in
theorem k22_law {d : Nat} {G : XS} {s : ZS} {sx : Int → Int} {L i : Int} (hd : 30 ≤ d) (hg : LOK G 1 50 99) (hm : MOK G) (hz : G.2.1 zSC = 7) (hL : ll G zSC = L) (hL2 : 0 ≤ L ∧ L ≤ 3584) (hx : ∀ j, ir (sx j)) (hR : REL s sx) (hi : 0 ≤ i ∧ i + 7 ≤ L) : ∃ s2, REL s2 sx ∧ ∀ Q, Wp d 194 (959, [zrf zSC, zrf 0, zrf 172, zint i], [], (G, s)) Q = Wp d 194 (1389, [zrf zSC, zrf 0, zrf 172, zint i], [], (G, s2)) Q := by
  obtain ⟨v, s1, s2, bv, ⟨c1, R2⟩, e1, e2⟩ := r88 (d := d) hd hg hm hR (hx (i + 1)) (hx (i + 2))
  have c0 : ∀ j, s zSC j = sx j := hR.1
  have c1 : ∀ j, s1 zSC j = sx j := c1
  have g1 := hg.1
  have m1 := hm.1
  have h1 := hx (i + 1)
  have h2 := hx (i + 2)
  have h3 := hx (i + 3)
  have h4 := hx (i + 4)
  have h5 := hx (i + 5)
  have h6 := hx (i + 6)
  refine ⟨s2, R2, fun Q => ?_⟩
  simp (disch := first | omega | exact rfl) only [↓u194_959, ↓u194_960, ↓u194_961, ↓u194_962, ↓u194_963, ↓u194_964, ↓u194_965, ↓u194_966, ↓u194_967, ↓u194_968, ↓u194_969, ↓u194_970, ↓u194_973, ↓u194_974, ↓u194_975, ↓u194_976, ↓u194_977, ↓u194_978, ↓u194_979, ↓u194_980, ↓u194_981, ↓u194_982, ↓u194_983, ↓u194_984, ↓u194_987, ↓u194_990, ↓u194_991, ↓lI_0, ↓lI_s, ↓lL_0, ↓lL_s, ↓lR_0, ↓lR_s, ↓sT_0, ↓sT_i, ↓sT_r, ↓sT_u, ↓sT_lu, ↓sU_0, ↓sU_i, ↓sU_r, ↓sU_u, ↓ite_bx, bx_T, bx_F, bx_pos, bx_neg, zws_i, zws_r, zws_l, zws_n, zCb_kc, xl_ll, xr_rr, xs_e, xset_e, Option.toList, List.cons_append, List.nil_append, zIb_e, zrng_e, nz_e, if_pos, if_neg, and_true, true_and, or_true, true_or, ite_self, bi_eq0, bi_eq1, bi_1, bi_0, bi_ir, bi_T, bi_F, up_eq, up_ne, ↓reduceIte, reduceIte, Nat.reduceAdd, Nat.reduceLeDiff, Nat.le_refl, Nat.zero_le, not_true_eq_false, not_false_eq_true, ne_eq, Int.reduceEq, Int.reduceLT, Int.reduceLE, Int.reduceAdd, Int.reduceSub, Int.reduceMul, Int.reduceNeg, zSs hz, hL, c0, c1, pT g1, pT m1, e1, e2]
set_option maxRecDepth 8000 in
theorem k23_law {d : Nat} {G : XS} {s : ZS} {sx : Int → Int} {L i : Int} (hd : 30 ≤ d) (hg : LOK G 1 50 99) (hm : MOK G) (hz : G.2.1 zSC = 7) (hL : ll G zSC = L) (hL2 : 0 ≤ L ∧ L ≤ 3584) (hx : ∀ j, ir (sx j)) (hR : REL s sx) (hi : 0 ≤ i ∧ i + 7 ≤ L) : ∃ s2, REL s2 sx ∧ ∀ Q, Wp d 194 (992, [zrf zSC, zrf 0, zrf 172, zint i], [], (G, s)) Q = Wp d 194 (1389, [zrf zSC, zrf 0, zrf 172, zint i], [], (G, s2)) Q := by
  obtain ⟨v, s1, s2, bv, ⟨c1, R2⟩, e1, e2⟩ := r89 (d := d) hd hg hm hR (hx (i + 1))
  have c0 : ∀ j, s zSC j = sx j := hR.1
  have c1 : ∀ j, s1 zSC j = sx j := c1
  have g1 := hg.1
  have m1 := hm.1
  have h1 := hx (i + 1)
  have h2 := hx (i + 2)
  have h3 := hx (i + 3)
  have h4 := hx (i + 4)
  have h5 := hx (i + 5)
  have h6 := hx (i + 6)
  refine ⟨s2, R2, fun Q => ?_⟩
  simp (disch := first | omega | exact rfl) only [↓u194_992, ↓u194_993, ↓u194_994, ↓u194_995, ↓u194_996, ↓u194_997, ↓u194_998, ↓u194_1001, ↓u194_1002, ↓u194_1003, ↓u194_1004, ↓u194_1005, ↓u194_1006, ↓u194_1007, ↓u194_1010, ↓u194_1013, ↓u194_1014, ↓lI_0, ↓lI_s, ↓lL_0, ↓lL_s, ↓lR_0, ↓lR_s, ↓sT_0, ↓sT_i, ↓sT_r, ↓sT_u, ↓sT_lu, ↓sU_0, ↓sU_i, ↓sU_r, ↓sU_u, ↓ite_bx, bx_T, bx_F, bx_pos, bx_neg, zws_i, zws_r, zws_l, zws_n, zCb_kc, xl_ll, xr_rr, xs_e, xset_e, Option.toList, List.cons_append, List.nil_append, zIb_e, zrng_e, nz_e, if_pos, if_neg, and_true, true_and, or_true, true_or, ite_self, bi_eq0, bi_eq1, bi_1, bi_0, bi_ir, bi_T, bi_F, up_eq, up_ne, ↓reduceIte, reduceIte, Nat.reduceAdd, Nat.reduceLeDiff, Nat.le_refl, Nat.zero_le, not_true_eq_false, not_false_eq_true, ne_eq, Int.reduceEq, Int.reduceLT, Int.reduceLE, Int.reduceAdd, Int.reduceSub, Int.reduceMul, Int.reduceNeg, zSs hz, hL, c0, c1, pT g1, pT m1, e1, e2]
set_option maxRecDepth 8000 in
theorem k24_law {d : Nat} {G : XS} {s : ZS} {sx : Int → Int} {L i : Int} (hd : 30 ≤ d) (hg : LOK G 1 50 99) (hm : MOK G) (hz : G.2.1 zSC = 7) (hL : ll G zSC = L) (hL2 : 0 ≤ L ∧ L ≤ 3584) (hx : ∀ j, ir (sx j)) (hR : REL s sx) (hi : 0 ≤ i ∧ i + 7 ≤ L) : ∃ s2, REL s2 sx ∧ ∀ Q, Wp d 194 (1015, [zrf zSC, zrf 0, zrf 172, zint i], [], (G, s)) Q = Wp d 194 (1389, [zrf zSC, zrf 0, zrf 172, zint i], [], (G, s2)) Q := by
  obtain ⟨v, s1, s2, bv, ⟨c1, R2⟩, e1, e2⟩ := r91 (d := d) hd hg hm hR (hx (i + 1)) (hx (i + 2))
  have c0 : ∀ j, s zSC j = sx j := hR.1
  have c1 : ∀ j, s1 zSC j = sx j := c1
  have g1 := hg.1
  have m1 := hm.1
  have h1 := hx (i + 1)
  have h2 := hx (i + 2)
  have h3 := hx (i + 3)
  have h4 := hx (i + 4)
  have h5 := hx (i + 5)
  have h6 := hx (i + 6)
  refine ⟨s2, R2, fun Q => ?_⟩
  simp (disch := first | omega | exact rfl) only [↓u194_1015, ↓u194_1016, ↓u194_1017, ↓u194_1018, ↓u194_1019, ↓u194_1020, ↓u194_1021, ↓u194_1022, ↓u194_1023, ↓u194_1024, ↓u194_1025, ↓u194_1026, ↓u194_1029, ↓u194_1030, ↓u194_1031, ↓u194_1032, ↓u194_1033, ↓u194_1034, ↓u194_1035, ↓u194_1036, ↓u194_1037, ↓u194_1038, ↓u194_1039, ↓u194_1040, ↓u194_1043, ↓u194_1046, ↓u194_1047, ↓lI_0, ↓lI_s, ↓lL_0, ↓lL_s, ↓lR_0, ↓lR_s, ↓sT_0, ↓sT_i, ↓sT_r, ↓sT_u, ↓sT_lu, ↓sU_0, ↓sU_i, ↓sU_r, ↓sU_u, ↓ite_bx, bx_T, bx_F, bx_pos, bx_neg, zws_i, zws_r, zws_l, zws_n, zCb_kc, xl_ll, xr_rr, xs_e, xset_e, Option.toList, List.cons_append, List.nil_append, zIb_e, zrng_e, nz_e, if_pos, if_neg, and_true, true_and, or_true, true_or, ite_self, bi_eq0, bi_eq1, bi_1, bi_0, bi_ir, bi_T, bi_F, up_eq, up_ne, ↓reduceIte, reduceIte, Nat.reduceAdd, Nat.reduceLeDiff, Nat.le_refl, Nat.zero_le, not_true_eq_false, not_false_eq_true, ne_eq, Int.reduceEq, Int.reduceLT, Int.reduceLE, Int.reduceAdd, Int.reduceSub, Int.reduceMul, Int.reduceNeg, zSs hz, hL, c0, c1, pT g1, pT m1, e1, e2]
set_option maxRecDepth 8000 in
theorem k25_law {d : Nat} {G : XS} {s : ZS} {sx : Int → Int} {L i : Int} (hd : 30 ≤ d) (hg : LOK G 1 50 99) (hm : MOK G) (hz : G.2.1 zSC = 7) (hL : ll G zSC = L) (hL2 : 0 ≤ L ∧ L ≤ 3584) (hx : ∀ j, ir (sx j)) (hR : REL s sx) (hi : 0 ≤ i ∧ i + 7 ≤ L) : ∃ s2, REL s2 sx ∧ ∀ Q, Wp d 194 (1048, [zrf zSC, zrf 0, zrf 172, zint i], [], (G, s)) Q = Wp d 194 (1389, [zrf zSC, zrf 0, zrf 172, zint i], [], (G, s2)) Q := by
  obtain ⟨v, s1, s2, bv, ⟨c1, R2⟩, e1, e2⟩ := r92 (d := d) hd hg hm hR
  have c0 : ∀ j, s zSC j = sx j := hR.1
  have c1 : ∀ j, s1 zSC j = sx j := c1
  have g1 := hg.1
  have m1 := hm.1
  have h1 := hx (i + 1)
  have h2 := hx (i + 2)
  have h3 := hx (i + 3)
  have h4 := hx (i + 4)
  have h5 := hx (i + 5)
  have h6 := hx (i + 6)
  refine ⟨s2, R2, fun Q => ?_⟩
  simp (disch := first | omega | exact rfl) only [↓u194_1048, ↓u194_1049, ↓u194_1052, ↓u194_1053, ↓u194_1056, ↓u194_1059, ↓u194_1060, ↓lI_0, ↓lI_s, ↓lL_0, ↓lL_s, ↓lR_0, ↓lR_s, ↓sT_0, ↓sT_i, ↓sT_r, ↓sT_u, ↓sT_lu, ↓sU_0, ↓sU_i, ↓sU_r, ↓sU_u, ↓ite_bx, bx_T, bx_F, bx_pos, bx_neg, zws_i, zws_r, zws_l, zws_n, zCb_kc, xl_ll, xr_rr, xs_e, xset_e, Option.toList, List.cons_append, List.nil_append, zIb_e, zrng_e, nz_e, if_pos, if_neg, and_true, true_and, or_true, true_or, ite_self, bi_eq0, bi_eq1, bi_1, bi_0, bi_ir, bi_T, bi_F, up_eq, up_ne, ↓reduceIte, reduceIte, Nat.reduceAdd, Nat.reduceLeDiff, Nat.le_refl, Nat.zero_le, not_true_eq_false, not_false_eq_true, ne_eq, Int.reduceEq, Int.reduceLT, Int.reduceLE, Int.reduceAdd, Int.reduceSub, Int.reduceMul, Int.reduceNeg, zSs hz, hL, c0, c1, pT g1, pT m1, e1, e2]
set_option maxRecDepth 8000 in
theorem k26_law {d : Nat} {G : XS} {s : ZS} {sx : Int → Int} {L i : Int} (hd : 30 ≤ d) (hg : LOK G 1 50 99) (hm : MOK G) (hz : G.2.1 zSC = 7) (hL : ll G zSC = L) (hL2 : 0 ≤ L ∧ L ≤ 3584) (hx : ∀ j, ir (sx j)) (hR : REL s sx) (hi : 0 ≤ i ∧ i + 7 ≤ L) : ∃ s2, REL s2 sx ∧ ∀ Q, Wp d 194 (1061, [zrf zSC, zrf 0, zrf 172, zint i], [], (G, s)) Q = Wp d 194 (1389, [zrf zSC, zrf 0, zrf 172, zint i], [], (G, s2)) Q := by
  obtain ⟨v, s1, s2, bv, ⟨c1, R2⟩, e1, e2⟩ := r93 (d := d) hd hg hm hR (hx (i + 1)) (hx (i + 2))
  have c0 : ∀ j, s zSC j = sx j := hR.1
  have c1 : ∀ j, s1 zSC j = sx j := c1
  have g1 := hg.1
  have m1 := hm.1
  have h1 := hx (i + 1)
  have h2 := hx (i + 2)
  have h3 := hx (i + 3)
  have h4 := hx (i + 4)
  have h5 := hx (i + 5)
  have h6 := hx (i + 6)
  refine ⟨s2, R2, fun Q => ?_⟩
  simp (disch := first | omega | exact rfl) only [↓u194_1061, ↓u194_1062, ↓u194_1063, ↓u194_1064, ↓u194_1065, ↓u194_1066, ↓u194_1067, ↓u194_1068, ↓u194_1069, ↓u194_1070, ↓u194_1071, ↓u194_1072, ↓u194_1075, ↓u194_1076, ↓u194_1077, ↓u194_1078, ↓u194_1079, ↓u194_1080, ↓u194_1081, ↓u194_1082, ↓u194_1083, ↓u194_1084, ↓u194_1085, ↓u194_1086, ↓u194_1089, ↓u194_1092, ↓u194_1093, ↓lI_0, ↓lI_s, ↓lL_0, ↓lL_s, ↓lR_0, ↓lR_s, ↓sT_0, ↓sT_i, ↓sT_r, ↓sT_u, ↓sT_lu, ↓sU_0, ↓sU_i, ↓sU_r, ↓sU_u, ↓ite_bx, bx_T, bx_F, bx_pos, bx_neg, zws_i, zws_r, zws_l, zws_n, zCb_kc, xl_ll, xr_rr, xs_e, xset_e, Option.toList, List.cons_append, List.nil_append, zIb_e, zrng_e, nz_e, if_pos, if_neg, and_true, true_and, or_true, true_or, ite_self, bi_eq0, bi_eq1, bi_1, bi_0, bi_ir, bi_T, bi_F, up_eq, up_ne, ↓reduceIte, reduceIte, Nat.reduceAdd, Nat.reduceLeDiff, Nat.le_refl, Nat.zero_le, not_true_eq_false, not_false_eq_true, ne_eq, Int.reduceEq, Int.reduceLT, Int.reduceLE, Int.reduceAdd, Int.reduceSub, Int.reduceMul, Int.reduceNeg, zSs hz, hL, c0, c1, pT g1, pT m1, e1, e2]
set_option maxRecDepth 8000 in
theorem k27_law {d : Nat} {G : XS} {s : ZS} {sx : Int → Int} {L i : Int} (hd : 30 ≤ d) (hg : LOK G 1 50 99) (hm : MOK G) (hz : G.2.1 zSC = 7) (hL : ll G zSC = L) (hL2 : 0 ≤ L ∧ L ≤ 3584) (hx : ∀ j, ir (sx j)) (hR : REL s sx) (hi : 0 ≤ i ∧ i + 7 ≤ L) : ∃ s2, REL s2 sx ∧ ∀ Q, Wp d 194 (1094, [zrf zSC, zrf 0, zrf 172, zint i], [], (G, s)) Q = Wp d 194 (1389, [zrf zSC, zrf 0, zrf 172, zint i], [], (G, s2)) Q := by
  obtain ⟨v, s1, s2, bv, ⟨c1, R2⟩, e1, e2⟩ := r94 (d := d) hd hg hm hR
  have c0 : ∀ j, s zSC j = sx j := hR.1
  have c1 : ∀ j, s1 zSC j = sx j := c1
  have g1 := hg.1
  have m1 := hm.1
  have h1 := hx (i + 1)
  have h2 := hx (i + 2)
  have h3 := hx (i + 3)
  have h4 := hx (i + 4)
  have h5 := hx (i + 5)
  have h6 := hx (i + 6)
  refine ⟨s2, R2, fun Q => ?_⟩
  simp (disch := first | omega | exact rfl) only [↓u194_1094, ↓u194_1095, ↓u194_1098, ↓u194_1099, ↓u194_1102, ↓u194_1105, ↓u194_1106, ↓lI_0, ↓lI_s, ↓lL_0, ↓lL_s, ↓lR_0, ↓lR_s, ↓sT_0, ↓sT_i, ↓sT_r, ↓sT_u, ↓sT_lu, ↓sU_0, ↓sU_i, ↓sU_r, ↓sU_u, ↓ite_bx, bx_T, bx_F, bx_pos, bx_neg, zws_i, zws_r, zws_l, zws_n, zCb_kc, xl_ll, xr_rr, xs_e, xset_e, Option.toList, List.cons_append, List.nil_append, zIb_e, zrng_e, nz_e, if_pos, if_neg, and_true, true_and, or_true, true_or, ite_self, bi_eq0, bi_eq1, bi_1, bi_0, bi_ir, bi_T, bi_F, up_eq, up_ne, ↓reduceIte, reduceIte, Nat.reduceAdd, Nat.reduceLeDiff, Nat.le_refl, Nat.zero_le, not_true_eq_false, not_false_eq_true, ne_eq, Int.reduceEq, Int.reduceLT, Int.reduceLE, Int.reduceAdd, Int.reduceSub, Int.reduceMul, Int.reduceNeg, zSs hz, hL, c0, c1, pT g1, pT m1, e1, e2]
set_option maxRecDepth 8000 in
theorem k28_law {d : Nat} {G : XS} {s : ZS} {sx : Int → Int} {L i : Int} (hd : 30 ≤ d) (hg : LOK G 1 50 99) (hm : MOK G) (hz : G.2.1 zSC = 7) (hL : ll G zSC = L) (hL2 : 0 ≤ L ∧ L ≤ 3584) (hx : ∀ j, ir (sx j)) (hR : REL s sx) (hi : 0 ≤ i ∧ i + 7 ≤ L) : ∃ s2, REL s2 sx ∧ ∀ Q, Wp d 194 (1107, [zrf zSC, zrf 0, zrf 172, zint i], [], (G, s)) Q = Wp d 194 (1389, [zrf zSC, zrf 0, zrf 172, zint i], [], (G, s2)) Q := by
  obtain ⟨v, s1, s2, bv, ⟨c1, R2⟩, e1, e2⟩ := r95 (d := d) hd hg hm hR
  have c0 : ∀ j, s zSC j = sx j := hR.1
  have c1 : ∀ j, s1 zSC j = sx j := c1
  have g1 := hg.1
  have m1 := hm.1
  have h1 := hx (i + 1)
  have h2 := hx (i + 2)
  have h3 := hx (i + 3)
  have h4 := hx (i + 4)
  have h5 := hx (i + 5)
  have h6 := hx (i + 6)
  refine ⟨s2, R2, fun Q => ?_⟩
  simp (disch := first | omega | exact rfl) only [↓u194_1107, ↓u194_1108, ↓u194_1111, ↓u194_1112, ↓u194_1115, ↓u194_1118, ↓u194_1119, ↓lI_0, ↓lI_s, ↓lL_0, ↓lL_s, ↓lR_0, ↓lR_s, ↓sT_0, ↓sT_i, ↓sT_r, ↓sT_u, ↓sT_lu, ↓sU_0, ↓sU_i, ↓sU_r, ↓sU_u, ↓ite_bx, bx_T, bx_F, bx_pos, bx_neg, zws_i, zws_r, zws_l, zws_n, zCb_kc, xl_ll, xr_rr, xs_e, xset_e, Option.toList, List.cons_append, List.nil_append, zIb_e, zrng_e, nz_e, if_pos, if_neg, and_true, true_and, or_true, true_or, ite_self, bi_eq0, bi_eq1, bi_1, bi_0, bi_ir, bi_T, bi_F, up_eq, up_ne, ↓reduceIte, reduceIte, Nat.reduceAdd, Nat.reduceLeDiff, Nat.le_refl, Nat.zero_le, not_true_eq_false, not_false_eq_true, ne_eq, Int.reduceEq, Int.reduceLT, Int.reduceLE, Int.reduceAdd, Int.reduceSub, Int.reduceMul, Int.reduceNeg, zSs hz, hL, c0, c1, pT g1, pT m1, e1, e2]
set_option maxRecDepth 8000 in
theorem k29_law {d : Nat} {G : XS} {s : ZS} {sx : Int → Int} {L i : Int} (hd : 30 ≤ d) (hg : LOK G 1 50 99) (hm : MOK G) (hz : G.2.1 zSC = 7) (hL : ll G zSC = L) (hL2 : 0 ≤ L ∧ L ≤ 3584) (hx : ∀ j, ir (sx j)) (hR : REL s sx) (hi : 0 ≤ i ∧ i + 7 ≤ L) : ∃ s2, REL s2 sx ∧ ∀ Q, Wp d 194 (1120, [zrf zSC, zrf 0, zrf 172, zint i], [], (G, s)) Q = Wp d 194 (1389, [zrf zSC, zrf 0, zrf 172, zint i], [], (G, s2)) Q := by
  obtain ⟨v, s1, s2, bv, ⟨c1, R2⟩, e1, e2⟩ := r96 (d := d) hd hg hm hR (hx (i + 1)) (hx (i + 2))
  have c0 : ∀ j, s zSC j = sx j := hR.1
  have c1 : ∀ j, s1 zSC j = sx j := c1
  have g1 := hg.1
  have m1 := hm.1
  have h1 := hx (i + 1)
  have h2 := hx (i + 2)
  have h3 := hx (i + 3)
  have h4 := hx (i + 4)
  have h5 := hx (i + 5)
  have h6 := hx (i + 6)
  refine ⟨s2, R2, fun Q => ?_⟩
  simp (disch := first | omega | exact rfl) only [↓u194_1120, ↓u194_1121, ↓u194_1122, ↓u194_1123, ↓u194_1124, ↓u194_1125, ↓u194_1126, ↓u194_1127, ↓u194_1128, ↓u194_1129, ↓u194_1130, ↓u194_1131, ↓u194_1134, ↓u194_1135, ↓u194_1136, ↓u194_1137, ↓u194_1138, ↓u194_1139, ↓u194_1140, ↓u194_1141, ↓u194_1142, ↓u194_1143, ↓u194_1144, ↓u194_1145, ↓u194_1148, ↓u194_1151, ↓u194_1152, ↓lI_0, ↓lI_s, ↓lL_0, ↓lL_s, ↓lR_0, ↓lR_s, ↓sT_0, ↓sT_i, ↓sT_r, ↓sT_u, ↓sT_lu, ↓sU_0, ↓sU_i, ↓sU_r, ↓sU_u, ↓ite_bx, bx_T, bx_F, bx_pos, bx_neg, zws_i, zws_r, zws_l, zws_n, zCb_kc, xl_ll, xr_rr, xs_e, xset_e, Option.toList, List.cons_append, List.nil_append, zIb_e, zrng_e, nz_e, if_pos, if_neg, and_true, true_and, or_true, true_or, ite_self, bi_eq0, bi_eq1, bi_1, bi_0, bi_ir, bi_T, bi_F, up_eq, up_ne, ↓reduceIte, reduceIte, Nat.reduceAdd, Nat.reduceLeDiff, Nat.le_refl, Nat.zero_le, not_true_eq_false, not_false_eq_true, ne_eq, Int.reduceEq, Int.reduceLT, Int.reduceLE, Int.reduceAdd, Int.reduceSub, Int.reduceMul, Int.reduceNeg, zSs hz, hL, c0, c1, pT g1, pT m1, e1, e2]
set_option maxRecDepth 8000 in
theorem k30_law {d : Nat} {G : XS} {s : ZS} {sx : Int → Int} {L i : Int} (hd : 30 ≤ d) (hg : LOK G 1 50 99) (hm : MOK G) (hz : G.2.1 zSC = 7) (hL : ll G zSC = L) (hL2 : 0 ≤ L ∧ L ≤ 3584) (hx : ∀ j, ir (sx j)) (hR : REL s sx) (hi : 0 ≤ i ∧ i + 7 ≤ L) : ∃ s2, REL s2 sx ∧ ∀ Q, Wp d 194 (1153, [zrf zSC, zrf 0, zrf 172, zint i], [], (G, s)) Q = Wp d 194 (1389, [zrf zSC, zrf 0, zrf 172, zint i], [], (G, s2)) Q := by
  obtain ⟨v, s1, s2, bv, ⟨c1, R2⟩, e1, e2⟩ := r97 (d := d) hd hg hm hR (hx (i + 1))
  have c0 : ∀ j, s zSC j = sx j := hR.1
  have c1 : ∀ j, s1 zSC j = sx j := c1
  have g1 := hg.1
  have m1 := hm.1
  have h1 := hx (i + 1)
  have h2 := hx (i + 2)
  have h3 := hx (i + 3)
  have h4 := hx (i + 4)
  have h5 := hx (i + 5)
  have h6 := hx (i + 6)
  refine ⟨s2, R2, fun Q => ?_⟩
  simp (disch := first | omega | exact rfl) only [↓u194_1153, ↓u194_1154, ↓u194_1155, ↓u194_1156, ↓u194_1157, ↓u194_1158, ↓u194_1159, ↓u194_1162, ↓u194_1163, ↓u194_1164, ↓u194_1165, ↓u194_1166, ↓u194_1167, ↓u194_1168, ↓u194_1171, ↓u194_1174, ↓u194_1175, ↓lI_0, ↓lI_s, ↓lL_0, ↓lL_s, ↓lR_0, ↓lR_s, ↓sT_0, ↓sT_i, ↓sT_r, ↓sT_u, ↓sT_lu, ↓sU_0, ↓sU_i, ↓sU_r, ↓sU_u, ↓ite_bx, bx_T, bx_F, bx_pos, bx_neg, zws_i, zws_r, zws_l, zws_n, zCb_kc, xl_ll, xr_rr, xs_e, xset_e, Option.toList, List.cons_append, List.nil_append, zIb_e, zrng_e, nz_e, if_pos, if_neg, and_true, true_and, or_true, true_or, ite_self, bi_eq0, bi_eq1, bi_1, bi_0, bi_ir, bi_T, bi_F, up_eq, up_ne, ↓reduceIte, reduceIte, Nat.reduceAdd, Nat.reduceLeDiff, Nat.le_refl, Nat.zero_le, not_true_eq_false, not_false_eq_true, ne_eq, Int.reduceEq, Int.reduceLT, Int.reduceLE, Int.reduceAdd, Int.reduceSub, Int.reduceMul, Int.reduceNeg, zSs hz, hL, c0, c1, pT g1, pT m1, e1, e2]
set_option maxRecDepth 8000 in
theorem k31_law {d : Nat} {G : XS} {s : ZS} {sx : Int → Int} {L i : Int} (hd : 30 ≤ d) (hg : LOK G 1 50 99) (hm : MOK G) (hz : G.2.1 zSC = 7) (hL : ll G zSC = L) (hL2 : 0 ≤ L ∧ L ≤ 3584) (hx : ∀ j, ir (sx j)) (hR : REL s sx) (hi : 0 ≤ i ∧ i + 7 ≤ L) : ∃ s2, REL s2 sx ∧ ∀ Q, Wp d 194 (1176, [zrf zSC, zrf 0, zrf 172, zint i], [], (G, s)) Q = Wp d 194 (1389, [zrf zSC, zrf 0, zrf 172, zint i], [], (G, s2)) Q := by
  obtain ⟨v, s1, s2, bv, ⟨c1, R2⟩, e1, e2⟩ := r98 (d := d) hd hg hm hR (hx (i + 1)) (hx (i + 2)) (hx (i + 3))
  have c0 : ∀ j, s zSC j = sx j := hR.1
  have c1 : ∀ j, s1 zSC j = sx j := c1
  have g1 := hg.1
  have m1 := hm.1
  have h1 := hx (i + 1)
  have h2 := hx (i + 2)
  have h3 := hx (i + 3)
  have h4 := hx (i + 4)
  have h5 := hx (i + 5)
  have h6 := hx (i + 6)
  refine ⟨s2, R2, fun Q => ?_⟩
  simp (disch := first | omega | exact rfl) only [↓u194_1176, ↓u194_1177, ↓u194_1178, ↓u194_1179, ↓u194_1180, ↓u194_1181, ↓u194_1182, ↓u194_1183, ↓u194_1184, ↓u194_1185, ↓u194_1186, ↓u194_1187, ↓u194_1188, ↓u194_1189, ↓u194_1190, ↓u194_1191, ↓u194_1192, ↓u194_1195, ↓u194_1196, ↓u194_1197, ↓u194_1198, ↓u194_1199, ↓u194_1200, ↓u194_1201, ↓u194_1202, ↓u194_1203, ↓u194_1204, ↓u194_1205, ↓u194_1206, ↓u194_1207, ↓u194_1208, ↓u194_1209, ↓u194_1210, ↓u194_1211, ↓u194_1214, ↓u194_1217, ↓u194_1218, ↓lI_0, ↓lI_s, ↓lL_0, ↓lL_s, ↓lR_0, ↓lR_s, ↓sT_0, ↓sT_i, ↓sT_r, ↓sT_u, ↓sT_lu, ↓sU_0, ↓sU_i, ↓sU_r, ↓sU_u, ↓ite_bx, bx_T, bx_F, bx_pos, bx_neg, zws_i, zws_r, zws_l, zws_n, zCb_kc, xl_ll, xr_rr, xs_e, xset_e, Option.toList, List.cons_append, List.nil_append, zIb_e, zrng_e, nz_e, if_pos, if_neg, and_true, true_and, or_true, true_or, ite_self, bi_eq0, bi_eq1, bi_1, bi_0, bi_ir, bi_T, bi_F, up_eq, up_ne, ↓reduceIte, reduceIte, Nat.reduceAdd, Nat.reduceLeDiff, Nat.le_refl, Nat.zero_le, not_true_eq_false, not_false_eq_true, ne_eq, Int.reduceEq, Int.reduceLT, Int.reduceLE, Int.reduceAdd, Int.reduceSub, Int.reduceMul, Int.reduceNeg, zSs hz, hL, c0, c1, pT g1, pT m1, e1, e2]
set_option maxRecDepth 8000 in
theorem k32_law {d : Nat} {G : XS} {s : ZS} {sx : Int → Int} {L i : Int} (hd : 30 ≤ d) (hg : LOK G 1 50 99) (hm : MOK G) (hz : G.2.1 zSC = 7) (hL : ll G zSC = L) (hL2 : 0 ≤ L ∧ L ≤ 3584) (hx : ∀ j, ir (sx j)) (hR : REL s sx) (hi : 0 ≤ i ∧ i + 7 ≤ L) : ∃ s2, REL s2 sx ∧ ∀ Q, Wp d 194 (1219, [zrf zSC, zrf 0, zrf 172, zint i], [], (G, s)) Q = Wp d 194 (1389, [zrf zSC, zrf 0, zrf 172, zint i], [], (G, s2)) Q := by
  obtain ⟨v, s1, s2, bv, ⟨c1, R2⟩, e1, e2⟩ := r99 (d := d) hd hg hm hR (v := (Int64.ofInt (Int64.ofInt (sx (i + 3)) <<< ((Int32.ofInt 32).toInt64 &&& 63)).toInt ||| Int64.ofInt (Int64.ofInt (sx (i + 4)) &&& Int64.ofInt 4294967295).toInt).toInt) (hx (i + 1)) (hx (i + 2)) jr_l
  have c0 : ∀ j, s zSC j = sx j := hR.1
  have c1 : ∀ j, s1 zSC j = sx j := c1
  have g1 := hg.1
  have m1 := hm.1
  have h1 := hx (i + 1)
  have h2 := hx (i + 2)
  have h3 := hx (i + 3)
  have h4 := hx (i + 4)
  have h5 := hx (i + 5)
  have h6 := hx (i + 6)
  refine ⟨s2, R2, fun Q => ?_⟩
  simp (disch := first | omega | exact rfl) only [↓u194_1219, ↓u194_1220, ↓u194_1221, ↓u194_1222, ↓u194_1223, ↓u194_1224, ↓u194_1225, ↓u194_1226, ↓u194_1227, ↓u194_1228, ↓u194_1229, ↓u194_1230, ↓u194_1231, ↓u194_1232, ↓u194_1233, ↓u194_1234, ↓u194_1235, ↓u194_1236, ↓u194_1238, ↓u194_1239, ↓u194_1240, ↓u194_1241, ↓u194_1242, ↓u194_1243, ↓u194_1244, ↓u194_1245, ↓u194_1248, ↓u194_1249, ↓u194_1250, ↓u194_1253, ↓u194_1254, ↓u194_1255, ↓u194_1256, ↓u194_1257, ↓u194_1258, ↓u194_1259, ↓u194_1260, ↓u194_1261, ↓u194_1262, ↓u194_1263, ↓u194_1264, ↓u194_1265, ↓u194_1266, ↓u194_1267, ↓u194_1268, ↓u194_1269, ↓u194_1270, ↓u194_1272, ↓u194_1273, ↓u194_1274, ↓u194_1275, ↓u194_1276, ↓u194_1277, ↓u194_1278, ↓u194_1279, ↓u194_1282, ↓u194_1283, ↓u194_1284, ↓u194_1287, ↓u194_1290, ↓u194_1291, ↓lI_0, ↓lI_s, ↓lL_0, ↓lL_s, ↓lR_0, ↓lR_s, ↓sT_0, ↓sT_i, ↓sT_r, ↓sT_u, ↓sT_lu, ↓sU_0, ↓sU_i, ↓sU_r, ↓sU_u, ↓ite_bx, bx_T, bx_F, bx_pos, bx_neg, zws_i, zws_r, zws_l, zws_n, zCb_kc, xl_ll, xr_rr, xs_e, xset_e, Option.toList, List.cons_append, List.nil_append, zIb_e, zrng_e, nz_e, if_pos, if_neg, and_true, true_and, or_true, true_or, ite_self, bi_eq0, bi_eq1, bi_1, bi_0, bi_ir, bi_T, bi_F, up_eq, up_ne, ↓reduceIte, reduceIte, Nat.reduceAdd, Nat.reduceLeDiff, Nat.le_refl, Nat.zero_le, not_true_eq_false, not_false_eq_true, ne_eq, Int.reduceEq, Int.reduceLT, Int.reduceLE, Int.reduceAdd, Int.reduceSub, Int.reduceMul, Int.reduceNeg, zSs hz, hL, c0, c1, pT g1, pT m1, e1, e2]
set_option maxRecDepth 8000 in
theorem k33_law {d : Nat} {G : XS} {s : ZS} {sx : Int → Int} {L i : Int} (hd : 30 ≤ d) (hg : LOK G 1 50 99) (hm : MOK G) (hz : G.2.1 zSC = 7) (hL : ll G zSC = L) (hL2 : 0 ≤ L ∧ L ≤ 3584) (hx : ∀ j, ir (sx j)) (hR : REL s sx) (hi : 0 ≤ i ∧ i + 7 ≤ L) : ∃ s2, REL s2 sx ∧ ∀ Q, Wp d 194 (1292, [zrf zSC, zrf 0, zrf 172, zint i], [], (G, s)) Q = Wp d 194 (1389, [zrf zSC, zrf 0, zrf 172, zint i], [], (G, s2)) Q := by
  obtain ⟨v, s1, s2, bv, ⟨c1, R2⟩, e1, e2⟩ := r100 (d := d) hd hg hm hR (hx (i + 1)) (hx (i + 2))
  have c0 : ∀ j, s zSC j = sx j := hR.1
  have c1 : ∀ j, s1 zSC j = sx j := c1
  have g1 := hg.1
  have m1 := hm.1
  have h1 := hx (i + 1)
  have h2 := hx (i + 2)
  have h3 := hx (i + 3)
  have h4 := hx (i + 4)
  have h5 := hx (i + 5)
  have h6 := hx (i + 6)
  refine ⟨s2, R2, fun Q => ?_⟩
  simp (disch := first | omega | exact rfl) only [↓u194_1292, ↓u194_1293, ↓u194_1294, ↓u194_1295, ↓u194_1296, ↓u194_1297, ↓u194_1298, ↓u194_1299, ↓u194_1300, ↓u194_1301, ↓u194_1302, ↓u194_1303, ↓u194_1306, ↓u194_1307, ↓u194_1308, ↓u194_1309, ↓u194_1310, ↓u194_1311, ↓u194_1312, ↓u194_1313, ↓u194_1314, ↓u194_1315, ↓u194_1316, ↓u194_1317, ↓u194_1320, ↓u194_1321, ↓u194_1324, ↓u194_1325, ↓lI_0, ↓lI_s, ↓lL_0, ↓lL_s, ↓lR_0, ↓lR_s, ↓sT_0, ↓sT_i, ↓sT_r, ↓sT_u, ↓sT_lu, ↓sU_0, ↓sU_i, ↓sU_r, ↓sU_u, ↓ite_bx, bx_T, bx_F, bx_pos, bx_neg, zws_i, zws_r, zws_l, zws_n, zCb_kc, xl_ll, xr_rr, xs_e, xset_e, Option.toList, List.cons_append, List.nil_append, zIb_e, zrng_e, nz_e, if_pos, if_neg, and_true, true_and, or_true, true_or, ite_self, bi_eq0, bi_eq1, bi_1, bi_0, bi_ir, bi_T, bi_F, up_eq, up_ne, ↓reduceIte, reduceIte, Nat.reduceAdd, Nat.reduceLeDiff, Nat.le_refl, Nat.zero_le, not_true_eq_false, not_false_eq_true, ne_eq, Int.reduceEq, Int.reduceLT, Int.reduceLE, Int.reduceAdd, Int.reduceSub, Int.reduceMul, Int.reduceNeg, zSs hz, hL, c0, c1, pT g1, pT m1, e1, e2, zJb_e bv]
set_option maxRecDepth 8000 in
theorem k34_law {d : Nat} {G : XS} {s : ZS} {sx : Int → Int} {L i : Int} (hd : 30 ≤ d) (hg : LOK G 1 50 99) (hm : MOK G) (hz : G.2.1 zSC = 7) (hL : ll G zSC = L) (hL2 : 0 ≤ L ∧ L ≤ 3584) (hx : ∀ j, ir (sx j)) (hR : REL s sx) (hi : 0 ≤ i ∧ i + 7 ≤ L) : ∃ s2, REL s2 sx ∧ ∀ Q, Wp d 194 (1326, [zrf zSC, zrf 0, zrf 172, zint i], [], (G, s)) Q = Wp d 194 (1389, [zrf zSC, zrf 0, zrf 172, zint i], [], (G, s2)) Q := by
  obtain ⟨v, s1, s2, bv, ⟨c1, R2⟩, e1, e2⟩ := r101 (d := d) hd hg hm hR (hx (i + 1)) (hx (i + 2)) (hx (i + 3)) (hx (i + 4)) (hx (i + 5))
  have c0 : ∀ j, s zSC j = sx j := hR.1
  have c1 : ∀ j, s1 zSC j = sx j := c1
  have g1 := hg.1
  have m1 := hm.1
  have h1 := hx (i + 1)
  have h2 := hx (i + 2)
  have h3 := hx (i + 3)
  have h4 := hx (i + 4)
  have h5 := hx (i + 5)
  have h6 := hx (i + 6)
  refine ⟨s2, R2, fun Q => ?_⟩
  simp (disch := first | omega | exact rfl) only [↓u194_1326, ↓u194_1327, ↓u194_1328, ↓u194_1329, ↓u194_1330, ↓u194_1331, ↓u194_1332, ↓u194_1333, ↓u194_1334, ↓u194_1335, ↓u194_1336, ↓u194_1337, ↓u194_1338, ↓u194_1339, ↓u194_1340, ↓u194_1341, ↓u194_1342, ↓u194_1343, ↓u194_1344, ↓u194_1345, ↓u194_1346, ↓u194_1347, ↓u194_1348, ↓u194_1349, ↓u194_1350, ↓u194_1351, ↓u194_1352, ↓u194_1355, ↓u194_1356, ↓u194_1357, ↓u194_1358, ↓u194_1359, ↓u194_1360, ↓u194_1361, ↓u194_1362, ↓u194_1363, ↓u194_1364, ↓u194_1365, ↓u194_1366, ↓u194_1367, ↓u194_1368, ↓u194_1369, ↓u194_1370, ↓u194_1371, ↓u194_1372, ↓u194_1373, ↓u194_1374, ↓u194_1375, ↓u194_1376, ↓u194_1377, ↓u194_1378, ↓u194_1379, ↓u194_1380, ↓u194_1381, ↓u194_1384, ↓u194_1387, ↓u194_1388, ↓lI_0, ↓lI_s, ↓lL_0, ↓lL_s, ↓lR_0, ↓lR_s, ↓sT_0, ↓sT_i, ↓sT_r, ↓sT_u, ↓sT_lu, ↓sU_0, ↓sU_i, ↓sU_r, ↓sU_u, ↓ite_bx, bx_T, bx_F, bx_pos, bx_neg, zws_i, zws_r, zws_l, zws_n, zCb_kc, xl_ll, xr_rr, xs_e, xset_e, Option.toList, List.cons_append, List.nil_append, zIb_e, zrng_e, nz_e, if_pos, if_neg, and_true, true_and, or_true, true_or, ite_self, bi_eq0, bi_eq1, bi_1, bi_0, bi_ir, bi_T, bi_F, up_eq, up_ne, ↓reduceIte, reduceIte, Nat.reduceAdd, Nat.reduceLeDiff, Nat.le_refl, Nat.zero_le, not_true_eq_false, not_false_eq_true, ne_eq, Int.reduceEq, Int.reduceLT, Int.reduceLE, Int.reduceAdd, Int.reduceSub, Int.reduceMul, Int.reduceNeg, zSs hz, hL, c0, c1, pT g1, pT m1, e1, e2]
set_option maxRecDepth 8000 in
theorem kd_law {d : Nat} {G : XS} {s : ZS} {sx : Int → Int} {L i c : Int} (hd : 30 ≤ d) (hg : LOK G 1 50 99) (hm : MOK G) (hz : G.2.1 zSC = 7) (hL : ll G zSC = L) (hL2 : 0 ≤ L ∧ L ≤ 3584) (hx : ∀ j, ir (sx j)) (hR : REL s sx) (hi : 0 ≤ i ∧ i + 7 ≤ L) (hc : 0 ≤ c ∧ c ≤ 63) : ∃ s2, REL s2 sx ∧ ∀ Q, ztb [188, 263, 306, 349, 372, 395, 418, 431, 464, 497, 540, 563, 606, 659, 713, 736, 759, 792, 825, 868, 901, 935, 959, 992, 1015, 1048, 1061, 1094, 1107, 1120, 1153, 1176, 1219, 1292, 1326] (0) 1389 c (fun t => Wp d 194 (t, [zrf zSC, zrf 0, zrf 172, zint i], [], (G, s)) Q) = Wp d 194 (1389, [zrf zSC, zrf 0, zrf 172, zint i], [], (G, s2)) Q := by
  by_cases q : c ≤ 34
  · rcases (show c = 0 ∨ c = 1 ∨ c = 2 ∨ c = 3 ∨ c = 4 ∨ c = 5 ∨ c = 6 ∨ c = 7 ∨ c = 8 ∨ c = 9 ∨ c = 10 ∨ c = 11 ∨ c = 12 ∨ c = 13 ∨ c = 14 ∨ c = 15 ∨ c = 16 ∨ c = 17 ∨ c = 18 ∨ c = 19 ∨ c = 20 ∨ c = 21 ∨ c = 22 ∨ c = 23 ∨ c = 24 ∨ c = 25 ∨ c = 26 ∨ c = 27 ∨ c = 28 ∨ c = 29 ∨ c = 30 ∨ c = 31 ∨ c = 32 ∨ c = 33 ∨ c = 34 by omega) with rfl | rfl | rfl | rfl | rfl | rfl | rfl | rfl | rfl | rfl | rfl | rfl | rfl | rfl | rfl | rfl | rfl | rfl | rfl | rfl | rfl | rfl | rfl | rfl | rfl | rfl | rfl | rfl | rfl | rfl | rfl | rfl | rfl | rfl | rfl
    · exact k0_law hd hg hm hz hL hL2 hx hR hi
    · exact k1_law hd hg hm hz hL hL2 hx hR hi
    · exact k2_law hd hg hm hz hL hL2 hx hR hi
    · exact k3_law hd hg hm hz hL hL2 hx hR hi
    · exact k4_law hd hg hm hz hL hL2 hx hR hi
    · exact k5_law hd hg hm hz hL hL2 hx hR hi
    · exact k6_law hd hg hm hz hL hL2 hx hR hi
    · exact k7_law hd hg hm hz hL hL2 hx hR hi
    · exact k8_law hd hg hm hz hL hL2 hx hR hi
    · exact k9_law hd hg hm hz hL hL2 hx hR hi
    · exact k10_law hd hg hm hz hL hL2 hx hR hi
    · exact k11_law hd hg hm hz hL hL2 hx hR hi
    · exact k12_law hd hg hm hz hL hL2 hx hR hi
    · exact k13_law hd hg hm hz hL hL2 hx hR hi
    · exact k14_law hd hg hm hz hL hL2 hx hR hi
    · exact k15_law hd hg hm hz hL hL2 hx hR hi
    · exact k16_law hd hg hm hz hL hL2 hx hR hi
    · exact k17_law hd hg hm hz hL hL2 hx hR hi
    · exact k18_law hd hg hm hz hL hL2 hx hR hi
    · exact k19_law hd hg hm hz hL hL2 hx hR hi
    · exact k20_law hd hg hm hz hL hL2 hx hR hi
    · exact k21_law hd hg hm hz hL hL2 hx hR hi
    · exact k22_law hd hg hm hz hL hL2 hx hR hi
    · exact k23_law hd hg hm hz hL hL2 hx hR hi
    · exact k24_law hd hg hm hz hL hL2 hx hR hi
    · exact k25_law hd hg hm hz hL hL2 hx hR hi
    · exact k26_law hd hg hm hz hL hL2 hx hR hi
    · exact k27_law hd hg hm hz hL hL2 hx hR hi
    · exact k28_law hd hg hm hz hL hL2 hx hR hi
    · exact k29_law hd hg hm hz hL hL2 hx hR hi
    · exact k30_law hd hg hm hz hL hL2 hx hR hi
    · exact k31_law hd hg hm hz hL hL2 hx hR hi
    · exact k32_law hd hg hm hz hL hL2 hx hR hi
    · exact k33_law hd hg hm hz hL hL2 hx hR hi
    · exact k34_law hd hg hm hz hL hL2 hx hR hi
  · refine ⟨s, hR, fun Q => ?_⟩
    rw [ztb_s, if_neg (by omega), ztb_s, if_neg (by omega), ztb_s, if_neg (by omega), ztb_s, if_neg (by omega), ztb_s, if_neg (by omega), ztb_s, if_neg (by omega), ztb_s, if_neg (by omega), ztb_s, if_neg (by omega), ztb_s, if_neg (by omega), ztb_s, if_neg (by omega), ztb_s, if_neg (by omega), ztb_s, if_neg (by omega), ztb_s, if_neg (by omega), ztb_s, if_neg (by omega), ztb_s, if_neg (by omega), ztb_s, if_neg (by omega), ztb_s, if_neg (by omega), ztb_s, if_neg (by omega), ztb_s, if_neg (by omega), ztb_s, if_neg (by omega), ztb_s, if_neg (by omega), ztb_s, if_neg (by omega), ztb_s, if_neg (by omega), ztb_s, if_neg (by omega), ztb_s, if_neg (by omega), ztb_s, if_neg (by omega), ztb_s, if_neg (by omega), ztb_s, if_neg (by omega), ztb_s, if_neg (by omega), ztb_s, if_neg (by omega), ztb_s, if_neg (by omega), ztb_s, if_neg (by omega), ztb_s, if_neg (by omega), ztb_s, if_neg (by omega), ztb_s, if_neg (by omega), ztb_0]
set_option maxRecDepth 8000 in
theorem ll_law {d : Nat} {G : XS} {sx : Int → Int} {L : Int} (hd : 30 ≤ d) (hg : LOK G 1 50 99) (hm : MOK G) (hz : G.2.1 zSC = 7) (hL : ll G zSC = L) (hL2 : 0 ≤ L ∧ L ≤ 3584) (hx : ∀ j, ir (sx j)) : ∀ (j : Nat) (i : Int) (s : ZS), 0 ≤ i → i ≤ 4000 → L - i ≤ 7 * j → REL s sx → ∃ s2, ∀ Q, Wp d 194 (18, [zrf zSC, zrf 0, zrf 172, zint i], [], (G, s)) Q = Q (some (zint 1)) (G, s2) := by
  have hL0 : 0 ≤ L := hL2.1
  intro j
  induction j with
  | zero =>
    intro i s h0 h4 h1 hR
    refine ⟨s, fun Q => ?_⟩
    rw [u194_18]
    simp (disch := first | omega | exact rfl) only [↓u194_19, ↓u194_20, ↓u194_21, ↓u194_23, ↓u194_24, ↓u194_27, ↓u194_28, ↓u194_29, ↓u194_30, ↓u194_32, ↓u194_33, ↓u194_1389, ↓u194_1392, ↓u194_1395, ↓u194_1396, ↓lI_0, ↓lI_s, ↓lL_0, ↓lL_s, ↓lR_0, ↓lR_s, ↓sT_0, ↓sT_i, ↓sT_r, ↓sT_u, ↓sT_lu, ↓sU_0, ↓sU_i, ↓sU_r, ↓sU_u, ↓ite_bx, bx_T, bx_F, bx_pos, bx_neg, zws_i, zws_r, zws_l, zws_n, zCb_kc, xl_ll, xr_rr, xs_e, xset_e, Option.toList, List.cons_append, List.nil_append, zIb_e, zrng_e, nz_e, if_pos, if_neg, and_true, true_and, or_true, true_or, ite_self, bi_eq0, bi_eq1, bi_1, bi_0, bi_ir, bi_T, bi_F, up_eq, up_ne, ↓reduceIte, reduceIte, Nat.reduceAdd, Nat.reduceLeDiff, Nat.le_refl, Nat.zero_le, not_true_eq_false, not_false_eq_true, ne_eq, Int.reduceEq, Int.reduceLT, Int.reduceLE, Int.reduceAdd, Int.reduceSub, Int.reduceMul, Int.reduceNeg, zSs hz, hL, pT hL0]
  | succ j ih =>
    intro i s h0 h4 h1 hR
    by_cases q : i + 7 ≤ L
    · have c0 : ∀ j, s zSC j = sx j := hR.1
      obtain ⟨s1, R1, e1⟩ := kd_law (c := (Int32.ofInt (sx i) &&& Int32.ofInt 63).toInt) hd hg hm hz hL hL2 hx hR ⟨h0, q⟩ (and63 _)
      obtain ⟨s2, e2⟩ := ih (i + 7) s1 (by omega) (by omega) (by omega) R1
      have hc := and63 (sx i)
      have hi := hx i
      refine ⟨s2, fun Q => ?_⟩
      rw [u194_18]
      simp (disch := first | omega | exact rfl) only [↓u194_19, ↓u194_20, ↓u194_21, ↓u194_23, ↓u194_24, ↓u194_27, ↓u194_28, ↓u194_29, ↓u194_30, ↓u194_32, ↓u194_33, ↓u194_1389, ↓u194_1392, ↓u194_1395, ↓u194_1396, ↓lI_0, ↓lI_s, ↓lL_0, ↓lL_s, ↓lR_0, ↓lR_s, ↓sT_0, ↓sT_i, ↓sT_r, ↓sT_u, ↓sT_lu, ↓sU_0, ↓sU_i, ↓sU_r, ↓sU_u, ↓ite_bx, bx_T, bx_F, bx_pos, bx_neg, zws_i, zws_r, zws_l, zws_n, zCb_kc, xl_ll, xr_rr, xs_e, xset_e, Option.toList, List.cons_append, List.nil_append, zIb_e, zrng_e, nz_e, if_pos, if_neg, and_true, true_and, or_true, true_or, ite_self, bi_eq0, bi_eq1, bi_1, bi_0, bi_ir, bi_T, bi_F, up_eq, up_ne, ↓reduceIte, reduceIte, Nat.reduceAdd, Nat.reduceLeDiff, Nat.le_refl, Nat.zero_le, not_true_eq_false, not_false_eq_true, ne_eq, Int.reduceEq, Int.reduceLT, Int.reduceLE, Int.reduceAdd, Int.reduceSub, Int.reduceMul, Int.reduceNeg, zSs hz, hL, pT hL0, c0, e1, e2]
    · refine ⟨s, fun Q => ?_⟩
      rw [u194_18]
      simp (disch := first | omega | exact rfl) only [↓u194_19, ↓u194_20, ↓u194_21, ↓u194_23, ↓u194_24, ↓u194_27, ↓u194_28, ↓u194_29, ↓u194_30, ↓u194_32, ↓u194_33, ↓u194_1389, ↓u194_1392, ↓u194_1395, ↓u194_1396, ↓lI_0, ↓lI_s, ↓lL_0, ↓lL_s, ↓lR_0, ↓lR_s, ↓sT_0, ↓sT_i, ↓sT_r, ↓sT_u, ↓sT_lu, ↓sU_0, ↓sU_i, ↓sU_r, ↓sU_u, ↓ite_bx, bx_T, bx_F, bx_pos, bx_neg, zws_i, zws_r, zws_l, zws_n, zCb_kc, xl_ll, xr_rr, xs_e, xset_e, Option.toList, List.cons_append, List.nil_append, zIb_e, zrng_e, nz_e, if_pos, if_neg, and_true, true_and, or_true, true_or, ite_self, bi_eq0, bi_eq1, bi_1, bi_0, bi_ir, bi_T, bi_F, up_eq, up_ne, ↓reduceIte, reduceIte, Nat.reduceAdd, Nat.reduceLeDiff, Nat.le_refl, Nat.zero_le, not_true_eq_false, not_false_eq_true, ne_eq, Int.reduceEq, Int.reduceLT, Int.reduceLE, Int.reduceAdd, Int.reduceSub, Int.reduceMul, Int.reduceNeg, zSs hz, hL, pT hL0]
