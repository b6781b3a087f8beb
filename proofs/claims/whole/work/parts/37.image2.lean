/-! the class LooseGrid: the image, what is taken, counted, tapes -/
set_option maxRecDepth 8000 in
theorem tka_o {s : ZS} {W V N R T a c : Int} (h : a < W ∨ W + 49 ≤ a) (hn : N ≤ 40) : tka s W V N R T a c = s a c := by
  unfold tka
  rw [rtk_o (by omega), rtk_o (by omega), rtk_o (by omega), tb_o (by omega), tb3_o (by omega)]
set_option maxRecDepth 8000 in
theorem tka_b {s : ZS} {W V N R T a c : Int} (h : W ≤ a ∧ a < W + 43) : tka s W V N R T a c = tb (tb3 s W N R T) W V N a c := by
  unfold tka
  rw [rtk_o (by omega), rtk_o (by omega), rtk_o (by omega)]
set_option maxRecDepth 8000 in
theorem CV_kd {s : ZS} {W V : Int} {B : ZS} {N R T : Int} (hv : CV s V B N R T) (hn : 0 ≤ N ∧ N ≤ 40) (hVW : V + 49 ≤ W ∨ W + 49 ≤ V) : CV (tka s W V N R T) W B N R T := by
  obtain ⟨v1, v2, v3, vB⟩ := CV_t (W := W) (V := V) hv hn hVW
  refine ⟨?_, ?_, ?_, ?_⟩
  · rw [tka_b (by omega)]; exact v1
  · rw [tka_b (by omega)]; exact v2
  · rw [tka_b (by omega)]; exact v3
  · intro i f h
    rw [tka_b (by omega)]
    exact vB i f h
set_option maxRecDepth 8000 in
theorem CV_0 {s : ZS} {W c v : Int} {B : ZS} {N R T : Int} (hv : CV s W B N R T) (hw : 1 ≤ W) : CV (up s 0 c v) W B N R T := by
  obtain ⟨v1, v2, v3, vB⟩ := hv
  refine ⟨?_, ?_, ?_, ?_⟩
  · rw [up_ne (by omega)]; exact v1
  · rw [up_ne (by omega)]; exact v2
  · rw [up_ne (by omega)]; exact v3
  · intro i f h
    rw [up_ne (by omega)]
    exact vB i f h
set_option maxRecDepth 8000 in
theorem s94 {d : Nat} {Q : Option AV → XH → Prop} {G : XS} {s : ZS} {W U V : Int} {B : ZS} {N R T : Int}  (hd : 6 ≤ d) (hg : LOK G W U V) (hv : CV s W B N R T) (hb : OKB B N) (hn : 0 ≤ N ∧ N ≤ 40 ∧ 0 ≤ R ∧ R ≤ 10 ∧ 0 ≤ T ∧ T ≤ 20000) (hs : s (U + 43) 1 = 5 ∧ s (U + 45) 1 = 10 ∧ s (U + 47) 1 = 8) (hz : (0 ≤ s (W + 43) 2 ∧ s (W + 43) 2 ≤ 5) ∧ (0 ≤ s (W + 45) 2 ∧ s (W + 45) 2 ≤ 10) ∧ 0 ≤ s (W + 47) 2 ∧ s (W + 47) 2 ≤ 8) : Call d 94 [zrf 0] (G, s) Q = Q (some (zint (thr B N))) (G, up (tka s U W N R T) 0 3 1) := by
  have hg' := hg
  obtain ⟨g1, g2, g3, g4, g5, g6, hw, hu, hx, g7, g8, g9, g10, g11, g12⟩ := hg'
  have hw' := hw
  obtain ⟨w1, w2, w3, w4, w5, w6, w7, w8, w9, w10, w11, w12, w13, w14, w15, w16, w17, w18, w19, w20, w21, w22, w23, w24, w25⟩ := hw'
  have hv' := hv
  obtain ⟨v1, v2, v3, vB⟩ := hv'
  have c0 := fun Q => s36 (d := d - 1) (show 4 ≤ d - 1 by omega) hu hw hv hb ⟨hn.1, hn.2.1⟩ (by omega) hs hz Q
  have hv2 := CV_0 (c := 3) (v := 1) (CV_f hv hn.2.1 (show fvw s (tka s U W N R T) U from fun a c h => tka_o h hn.2.1) (by omega)) g12.1
  rw [e94 (show 1 ≤ d by omega)]
  simp (disch := first | omega | exact rfl) only [↓u94_0, ↓u94_1, ↓u94_4, ↓u94_5, ↓u94_8, ↓u94_11, ↓u94_12, ↓u94_13, ↓u94_16, ↓u94_17, ↓u94_20, ↓u94_23, ↓lI_0, ↓lI_s, ↓lL_0, ↓lL_s, ↓lR_0, ↓lR_s, ↓sT_0, ↓sT_i, ↓sT_r, ↓sT_u, ↓sT_lu, ↓sU_0, ↓sU_i, ↓sU_r, ↓sU_u, ↓ite_bx, bx_T, bx_F, bx_pos, bx_neg, zws_i, zws_r, zws_l, zws_n, zCb_kc, xl_ll, xr_rr, xs_e, xset_e, Option.toList, List.cons_append, List.nil_append, zIb_e, zrng_e, nz_e, if_pos, if_neg, and_true, true_and, or_true, true_or, ite_self, bi_eq0, bi_eq1, bi_1, bi_0, bi_ir, bi_T, bi_F, up_eq, up_ne, ↓reduceIte, reduceIte, Nat.reduceAdd, Nat.reduceLeDiff, Nat.le_refl, Nat.zero_le, not_true_eq_false, not_false_eq_true, ne_eq, Int.reduceEq, Int.reduceLT, Int.reduceLE, Int.reduceAdd, Int.reduceSub, Int.reduceMul, Int.reduceNeg, pT g1, g2, g3, g4, g5, g6, pT w1, w2, pT w3, w4, w5, w6, v1, v2, v3, vB, pT hu.1, c0, t39 (show 1 ≤ d - 1 by omega) hw hv2 hb hn]
set_option maxRecDepth 8000 in
theorem s95_n {d : Nat} {Q : Option AV → XH → Prop} {G : XS} {s : ZS} {W U V : Int} {B : ZS} {N R T : Int}  (hd : 6 ≤ d) (hg : LOK G W U V) (hv : CV s W B N R T) (hb : OKB B N) (hn : 0 ≤ N ∧ N ≤ 40 ∧ 0 ≤ R ∧ R ≤ 10 ∧ 0 ≤ T ∧ T ≤ 20000) (q : s 0 3 = 0) : Call d 95 [zrf 0] (G, s) Q = Q (some (zint (-3))) (G, s) := by
  have hg' := hg
  obtain ⟨g1, g2, g3, g4, g5, g6, hw, hu, hx, g7, g8, g9, g10, g11, g12⟩ := hg'
  have hw' := hw
  obtain ⟨w1, w2, w3, w4, w5, w6, w7, w8, w9, w10, w11, w12, w13, w14, w15, w16, w17, w18, w19, w20, w21, w22, w23, w24, w25⟩ := hw'
  have hv' := hv
  obtain ⟨v1, v2, v3, vB⟩ := hv'
  rw [e95 (show 1 ≤ d by omega)]
  simp (disch := first | omega | exact rfl) only [↓u95_0, ↓u95_1, ↓u95_4, ↓u95_7, ↓u95_9, ↓u95_10, ↓u95_11, ↓u95_14, ↓u95_15, ↓u95_18, ↓u95_21, ↓u95_22, ↓u95_25, ↓u95_28, ↓lI_0, ↓lI_s, ↓lL_0, ↓lL_s, ↓lR_0, ↓lR_s, ↓sT_0, ↓sT_i, ↓sT_r, ↓sT_u, ↓sT_lu, ↓sU_0, ↓sU_i, ↓sU_r, ↓sU_u, ↓ite_bx, bx_T, bx_F, bx_pos, bx_neg, zws_i, zws_r, zws_l, zws_n, zCb_kc, xl_ll, xr_rr, xs_e, xset_e, Option.toList, List.cons_append, List.nil_append, zIb_e, zrng_e, nz_e, if_pos, if_neg, and_true, true_and, or_true, true_or, ite_self, bi_eq0, bi_eq1, bi_1, bi_0, bi_ir, bi_T, bi_F, up_eq, up_ne, ↓reduceIte, reduceIte, Nat.reduceAdd, Nat.reduceLeDiff, Nat.le_refl, Nat.zero_le, not_true_eq_false, not_false_eq_true, ne_eq, Int.reduceEq, Int.reduceLT, Int.reduceLE, Int.reduceAdd, Int.reduceSub, Int.reduceMul, Int.reduceNeg, pT g1, g2, g3, g4, g5, g6, pT w1, w2, pT w3, w4, w5, w6, v1, v2, v3, vB, q]
set_option maxRecDepth 8000 in
theorem s95_y {d : Nat} {Q : Option AV → XH → Prop} {G : XS} {s : ZS} {W U V : Int} {B : ZS} {N R T : Int} (hd : 6 ≤ d) (hg : LOK G W U V) (hv : CV s U B N R T) (hb : OKB B N) (hn : 0 ≤ N ∧ N ≤ 40 ∧ 0 ≤ R ∧ R ≤ 10 ∧ 0 ≤ T ∧ T ≤ 20000) (q : s 0 3 = 1) (hs : s (W + 43) 1 = 5 ∧ s (W + 45) 1 = 10 ∧ s (W + 47) 1 = 8) (hz : (0 ≤ s (U + 43) 2 ∧ s (U + 43) 2 ≤ 5) ∧ (0 ≤ s (U + 45) 2 ∧ s (U + 45) 2 ≤ 10) ∧ 0 ≤ s (U + 47) 2 ∧ s (U + 47) 2 ≤ 8) : Call d 95 [zrf 0] (G, s) Q = Q (some (zint (thr B N))) (G, tka s W U N R T) := by
  obtain ⟨g1, g2, g3, g4, g5, g6, hw, hu, hx, g7, g8, g9, g10, g11, g12⟩ := id hg
  have c0 := fun Q => s36 (d := d - 1) (show 4 ≤ d - 1 by omega) hw hu hv hb ⟨hn.1, hn.2.1⟩ (by omega) hs hz Q
  have hv2 := CV_kd (W := W) hv ⟨hn.1, hn.2.1⟩ (by omega)
  rw [e95 (show 1 ≤ d by omega)]
  simp (disch := first | omega | exact rfl) only [↓u95_0, ↓u95_1, ↓u95_4, ↓u95_7, ↓u95_9, ↓u95_10, ↓u95_11, ↓u95_14, ↓u95_15, ↓u95_18, ↓u95_21, ↓u95_22, ↓u95_25, ↓u95_28, ↓lI_0, ↓lI_s, ↓lL_0, ↓lL_s, ↓lR_0, ↓lR_s, ↓sT_0, ↓sT_i, ↓sT_r, ↓sT_u, ↓sT_lu, ↓sU_0, ↓sU_i, ↓sU_r, ↓sU_u, ↓ite_bx, bx_T, bx_F, bx_pos, bx_neg, zws_i, zws_r, zws_l, zws_n, zCb_kc, xl_ll, xr_rr, xs_e, xset_e, Option.toList, List.cons_append, List.nil_append, zIb_e, zrng_e, nz_e, if_pos, if_neg, and_true, true_and, or_true, true_or, ite_self, bi_eq0, bi_eq1, bi_1, bi_0, bi_ir, bi_T, bi_F, up_eq, up_ne, ↓reduceIte, reduceIte, Nat.reduceAdd, Nat.reduceLeDiff, Nat.le_refl, Nat.zero_le, not_true_eq_false, not_false_eq_true, ne_eq, Int.reduceEq, Int.reduceLT, Int.reduceLE, Int.reduceAdd, Int.reduceSub, Int.reduceMul, Int.reduceNeg, q, pT g1, g2, g3, pT hw.1, pT hu.1, c0, t39 (show 1 ≤ d - 1 by omega) hw hv2 hb hn]
set_option maxRecDepth 8000 in
theorem s96_b {d : Nat} {Q : Option AV → XH → Prop} {G : XS} {s : ZS} {W U V : Int} {B : ZS} {N R T : Int} {b k : Int} (hd : 5 ≤ d) (hg : LOK G W U V) (hv : CV s W B N R T) (hb : OKB B N) (hn : 0 ≤ N ∧ N ≤ 40 ∧ 0 ≤ R ∧ R ≤ 10 ∧ 0 ≤ T ∧ T ≤ 20000) (ik : ir k) (q : ¬(0 ≤ k ∧ k ≤ 3)) : Call d 96 [zrf 0, zint b, zint k] (G, s) Q = Q (some (zint (-2))) (G, s) := by
  have hg' := hg
  obtain ⟨g1, g2, g3, g4, g5, g6, hw, hu, hx, g7, g8, g9, g10, g11, g12⟩ := hg'
  have hw' := hw
  obtain ⟨w1, w2, w3, w4, w5, w6, w7, w8, w9, w10, w11, w12, w13, w14, w15, w16, w17, w18, w19, w20, w21, w22, w23, w24, w25⟩ := hw'
  have hv' := hv
  obtain ⟨v1, v2, v3, vB⟩ := hv'
  rw [e96 (show 1 ≤ d by omega)]
  simp (disch := first | omega | exact rfl) only [↓u96_0, ↓u96_1, ↓u96_2, ↓u96_3, ↓u96_6, ↓u96_9, ↓u96_11, ↓u96_12, ↓u96_13, ↓u96_16, ↓u96_17, ↓u96_20, ↓u96_21, ↓u96_22, ↓u96_25, ↓u96_27, ↓u96_28, ↓u96_29, ↓u96_30, ↓u96_33, ↓u96_36, ↓u96_37, ↓u96_40, ↓u96_43, ↓u96_45, ↓lI_0, ↓lI_s, ↓lL_0, ↓lL_s, ↓lR_0, ↓lR_s, ↓sT_0, ↓sT_i, ↓sT_r, ↓sT_u, ↓sT_lu, ↓sU_0, ↓sU_i, ↓sU_r, ↓sU_u, ↓ite_bx, bx_T, bx_F, bx_pos, bx_neg, zws_i, zws_r, zws_l, zws_n, zCb_kc, xl_ll, xr_rr, xs_e, xset_e, Option.toList, List.cons_append, List.nil_append, zIb_e, zrng_e, nz_e, if_pos, if_neg, and_true, true_and, or_true, true_or, ite_self, bi_eq0, bi_eq1, bi_1, bi_0, bi_ir, bi_T, bi_F, up_eq, up_ne, ↓reduceIte, reduceIte, Nat.reduceAdd, Nat.reduceLeDiff, Nat.le_refl, Nat.zero_le, not_true_eq_false, not_false_eq_true, ne_eq, Int.reduceEq, Int.reduceLT, Int.reduceLE, Int.reduceAdd, Int.reduceSub, Int.reduceMul, Int.reduceNeg, pT g1, g2, g3, g4, g5, g6, pT w1, w2, pT w3, w4, w5, w6, v1, v2, v3, vB, s103]
set_option maxRecDepth 8000 in
theorem s96_n {d : Nat} {Q : Option AV → XH → Prop} {G : XS} {s : ZS} {W U V : Int} {B : ZS} {N R T : Int} {b k : Int} (hd : 5 ≤ d) (hg : LOK G W U V) (hv : CV s W B N R T) (hb : OKB B N) (hn : 0 ≤ N ∧ N ≤ 40 ∧ 0 ≤ R ∧ R ≤ 10 ∧ 0 ≤ T ∧ T ≤ 20000) (ib : ir b) (q : 0 ≤ k ∧ k ≤ 3) (q2 : ¬hr B N b) : Call d 96 [zrf 0, zint b, zint k] (G, s) Q = Q (some (zint (-11))) (G, s) := by
  have hg' := hg
  obtain ⟨g1, g2, g3, g4, g5, g6, hw, hu, hx, g7, g8, g9, g10, g11, g12⟩ := hg'
  have hw' := hw
  obtain ⟨w1, w2, w3, w4, w5, w6, w7, w8, w9, w10, w11, w12, w13, w14, w15, w16, w17, w18, w19, w20, w21, w22, w23, w24, w25⟩ := hw'
  have hv' := hv
  obtain ⟨v1, v2, v3, vB⟩ := hv'
  rw [e96 (show 1 ≤ d by omega)]
  simp (disch := first | omega | exact rfl) only [↓u96_0, ↓u96_1, ↓u96_2, ↓u96_3, ↓u96_6, ↓u96_9, ↓u96_11, ↓u96_12, ↓u96_13, ↓u96_16, ↓u96_17, ↓u96_20, ↓u96_21, ↓u96_22, ↓u96_25, ↓u96_27, ↓u96_28, ↓u96_29, ↓u96_30, ↓u96_33, ↓u96_36, ↓u96_37, ↓u96_40, ↓u96_43, ↓u96_45, ↓lI_0, ↓lI_s, ↓lL_0, ↓lL_s, ↓lR_0, ↓lR_s, ↓sT_0, ↓sT_i, ↓sT_r, ↓sT_u, ↓sT_lu, ↓sU_0, ↓sU_i, ↓sU_r, ↓sU_u, ↓ite_bx, bx_T, bx_F, bx_pos, bx_neg, zws_i, zws_r, zws_l, zws_n, zCb_kc, xl_ll, xr_rr, xs_e, xset_e, Option.toList, List.cons_append, List.nil_append, zIb_e, zrng_e, nz_e, if_pos, if_neg, and_true, true_and, or_true, true_or, ite_self, bi_eq0, bi_eq1, bi_1, bi_0, bi_ir, bi_T, bi_F, up_eq, up_ne, ↓reduceIte, reduceIte, Nat.reduceAdd, Nat.reduceLeDiff, Nat.le_refl, Nat.zero_le, not_true_eq_false, not_false_eq_true, ne_eq, Int.reduceEq, Int.reduceLT, Int.reduceLE, Int.reduceAdd, Int.reduceSub, Int.reduceMul, Int.reduceNeg, pT g1, g2, g3, g4, g5, g6, pT w1, w2, pT w3, w4, w5, w6, v1, v2, v3, vB, s103, s37_n (show 2 ≤ d - 1 by omega) hw hv hb hn ib q2]
set_option maxRecDepth 8000 in
theorem s96_c {d : Nat} {Q : Option AV → XH → Prop} {G : XS} {s : ZS} {W U V : Int} {B : ZS} {N R T : Int} {b k : Int} (hd : 5 ≤ d) (hg : LOK G W U V) (hv : CV s W B N R T) (hb : OKB B N) (hn : 0 ≤ N ∧ N ≤ 40 ∧ 0 ≤ R ∧ R ≤ 10 ∧ 0 ≤ T ∧ T ≤ 20000) (q : 0 ≤ k ∧ k ≤ 3) (q2 : hr B N b) (q3 : ¬(k = B b 0 ∨ k = 0 ∨ (k = 1 ∧ B b 0 ≠ 0))) : Call d 96 [zrf 0, zint b, zint k] (G, s) Q = Q (some (zint ((-12)))) (G, s) := by
  have hg' := hg
  obtain ⟨g1, g2, g3, g4, g5, g6, hw, hu, hx, g7, g8, g9, g10, g11, g12⟩ := hg'
  have hw' := hw
  obtain ⟨w1, w2, w3, w4, w5, w6, w7, w8, w9, w10, w11, w12, w13, w14, w15, w16, w17, w18, w19, w20, w21, w22, w23, w24, w25⟩ := hw'
  have hv' := hv
  obtain ⟨v1, v2, v3, vB⟩ := hv'
  have oka := hb b q2.1
  have ka := w6 b (by omega)
  have k2 := okb_o (G := G) hv hb q2.1
  have e3 : ∀ Q, Call (d - 1) 3 [zrf (W + 2 + b), zint k] (G, s) Q = Q (some (zint 0)) (G, s) := by
    intro Q
    rw [s3 (show 1 ≤ d - 1 by omega) ka k2 q, vB b 0 (by omega), bi_0 q3]
  rw [e96 (show 1 ≤ d by omega)]
  simp (disch := first | omega | exact rfl) only [↓u96_0, ↓u96_1, ↓u96_2, ↓u96_3, ↓u96_6, ↓u96_9, ↓u96_11, ↓u96_12, ↓u96_13, ↓u96_16, ↓u96_17, ↓u96_20, ↓u96_21, ↓u96_22, ↓u96_25, ↓u96_27, ↓u96_28, ↓u96_29, ↓u96_30, ↓u96_33, ↓u96_36, ↓u96_37, ↓u96_40, ↓u96_43, ↓u96_45, ↓lI_0, ↓lI_s, ↓lL_0, ↓lL_s, ↓lR_0, ↓lR_s, ↓sT_0, ↓sT_i, ↓sT_r, ↓sT_u, ↓sT_lu, ↓sU_0, ↓sU_i, ↓sU_r, ↓sU_u, ↓ite_bx, bx_T, bx_F, bx_pos, bx_neg, zws_i, zws_r, zws_l, zws_n, zCb_kc, xl_ll, xr_rr, xs_e, xset_e, Option.toList, List.cons_append, List.nil_append, zIb_e, zrng_e, nz_e, if_pos, if_neg, and_true, true_and, or_true, true_or, ite_self, bi_eq0, bi_eq1, bi_1, bi_0, bi_ir, bi_T, bi_F, up_eq, up_ne, ↓reduceIte, reduceIte, Nat.reduceAdd, Nat.reduceLeDiff, Nat.le_refl, Nat.zero_le, not_true_eq_false, not_false_eq_true, ne_eq, Int.reduceEq, Int.reduceLT, Int.reduceLE, Int.reduceAdd, Int.reduceSub, Int.reduceMul, Int.reduceNeg, pT g1, g2, g3, g4, g5, g6, pT w1, w2, pT w3, w4, w5, w6, v1, v2, v3, vB, e3, s103, pT ka, s37_y (show 2 ≤ d - 1 by omega) hw hv hb hn q2]
set_option maxRecDepth 8000 in
theorem s96_y {d : Nat} {Q : Option AV → XH → Prop} {G : XS} {s : ZS} {W U V : Int} {B : ZS} {N R T : Int} {b k : Int} (hd : 5 ≤ d) (hg : LOK G W U V) (hv : CV s W B N R T) (hb : OKB B N) (hn : 0 ≤ N ∧ N ≤ 40 ∧ 0 ≤ R ∧ R ≤ 10 ∧ 0 ≤ T ∧ T ≤ 20000) (q : 0 ≤ k ∧ k ≤ 3) (q2 : hr B N b) (q3 : k = B b 0 ∨ k = 0 ∨ (k = 1 ∧ B b 0 ≠ 0)) : Call d 96 [zrf 0, zint b, zint k] (G, s) Q = Q (some (zint (B b 0))) (G, s) := by
  have hg' := hg
  obtain ⟨g1, g2, g3, g4, g5, g6, hw, hu, hx, g7, g8, g9, g10, g11, g12⟩ := hg'
  have hw' := hw
  obtain ⟨w1, w2, w3, w4, w5, w6, w7, w8, w9, w10, w11, w12, w13, w14, w15, w16, w17, w18, w19, w20, w21, w22, w23, w24, w25⟩ := hw'
  have hv' := hv
  obtain ⟨v1, v2, v3, vB⟩ := hv'
  have oka := hb b q2.1
  have ka := w6 b (by omega)
  have k2 := okb_o (G := G) hv hb q2.1
  have e3 : ∀ Q, Call (d - 1) 3 [zrf (W + 2 + b), zint k] (G, s) Q = Q (some (zint 1)) (G, s) := by
    intro Q
    rw [s3 (show 1 ≤ d - 1 by omega) ka k2 q, vB b 0 (by omega), bi_1 q3]
  rw [e96 (show 1 ≤ d by omega)]
  simp (disch := first | omega | exact rfl) only [↓u96_0, ↓u96_1, ↓u96_2, ↓u96_3, ↓u96_6, ↓u96_9, ↓u96_11, ↓u96_12, ↓u96_13, ↓u96_16, ↓u96_17, ↓u96_20, ↓u96_21, ↓u96_22, ↓u96_25, ↓u96_27, ↓u96_28, ↓u96_29, ↓u96_30, ↓u96_33, ↓u96_36, ↓u96_37, ↓u96_40, ↓u96_43, ↓u96_45, ↓lI_0, ↓lI_s, ↓lL_0, ↓lL_s, ↓lR_0, ↓lR_s, ↓sT_0, ↓sT_i, ↓sT_r, ↓sT_u, ↓sT_lu, ↓sU_0, ↓sU_i, ↓sU_r, ↓sU_u, ↓ite_bx, bx_T, bx_F, bx_pos, bx_neg, zws_i, zws_r, zws_l, zws_n, zCb_kc, xl_ll, xr_rr, xs_e, xset_e, Option.toList, List.cons_append, List.nil_append, zIb_e, zrng_e, nz_e, if_pos, if_neg, and_true, true_and, or_true, true_or, ite_self, bi_eq0, bi_eq1, bi_1, bi_0, bi_ir, bi_T, bi_F, up_eq, up_ne, ↓reduceIte, reduceIte, Nat.reduceAdd, Nat.reduceLeDiff, Nat.le_refl, Nat.zero_le, not_true_eq_false, not_false_eq_true, ne_eq, Int.reduceEq, Int.reduceLT, Int.reduceLE, Int.reduceAdd, Int.reduceSub, Int.reduceMul, Int.reduceNeg, pT g1, g2, g3, g4, g5, g6, pT w1, w2, pT w3, w4, w5, w6, v1, v2, v3, vB, e3, s103, pT ka, s37_y (show 2 ≤ d - 1 by omega) hw hv hb hn q2]
set_option maxRecDepth 8000 in
theorem s97_0 {d : Nat} {Q : Option AV → XH → Prop} {G : XS} {s : ZS} {W U V : Int} {B : ZS} {N R T : Int}  (hd : 5 ≤ d) (hg : LOK G W U V) (hv : CV s W B N R T) (hb : OKB B N) (hn : 0 ≤ N ∧ N ≤ 40 ∧ 0 ≤ R ∧ R ≤ 10 ∧ 0 ≤ T ∧ T ≤ 20000)  : Call d 97 [zrf 0, zint 0] (G, s) Q = Q (some (zint (N))) (G, s) := by
  have hg' := hg
  obtain ⟨g1, g2, g3, g4, g5, g6, hw, hu, hx, g7, g8, g9, g10, g11, g12⟩ := hg'
  have hw' := hw
  obtain ⟨w1, w2, w3, w4, w5, w6, w7, w8, w9, w10, w11, w12, w13, w14, w15, w16, w17, w18, w19, w20, w21, w22, w23, w24, w25⟩ := hw'
  have hv' := hv
  obtain ⟨v1, v2, v3, vB⟩ := hv'
  rw [e97 (show 1 ≤ d by omega)]
  simp (disch := first | omega | exact rfl) only [↓u97_0, ↓u97_1, ↓u97_40, ↓u97_41, ↓u97_44, ↓u97_47, ↓u97_48, ↓u97_49, ↓u97_52, ↓u97_55, ↓u97_56, ↓u97_57, ↓u97_60, ↓u97_63, ↓u97_66, ↓u97_67, ↓u97_68, ↓u97_71, ↓u97_74, ↓u97_77, ↓u97_78, ↓u97_79, ↓u97_82, ↓u97_85, ↓u97_88, ↓u97_89, ↓u97_90, ↓u97_93, ↓u97_96, ↓u97_97, ↓u97_99, ↓lI_0, ↓lI_s, ↓lL_0, ↓lL_s, ↓lR_0, ↓lR_s, ↓sT_0, ↓sT_i, ↓sT_r, ↓sT_u, ↓sT_lu, ↓sU_0, ↓sU_i, ↓sU_r, ↓sU_u, ↓ite_bx, bx_T, bx_F, bx_pos, bx_neg, zws_i, zws_r, zws_l, zws_n, zCb_kc, xl_ll, xr_rr, xs_e, xset_e, Option.toList, List.cons_append, List.nil_append, zIb_e, zrng_e, nz_e, if_pos, if_neg, and_true, true_and, or_true, true_or, ite_self, bi_eq0, bi_eq1, bi_1, bi_0, bi_ir, bi_T, bi_F, up_eq, up_ne, ↓reduceIte, reduceIte, Nat.reduceAdd, Nat.reduceLeDiff, Nat.le_refl, Nat.zero_le, not_true_eq_false, not_false_eq_true, ne_eq, Int.reduceEq, Int.reduceLT, Int.reduceLE, Int.reduceAdd, Int.reduceSub, Int.reduceMul, Int.reduceNeg, pT g1, g2, g3, g4, g5, g6, pT w1, w2, pT w3, w4, w5, w6, v1, v2, v3, vB, ztb_0, ztb_s, pT w13, pT w14, pT w15, w10, w11, w12]
set_option maxRecDepth 8000 in
theorem s97_1 {d : Nat} {Q : Option AV → XH → Prop} {G : XS} {s : ZS} {W U V : Int} {B : ZS} {N R T : Int}  (hd : 5 ≤ d) (hg : LOK G W U V) (hv : CV s W B N R T) (hb : OKB B N) (hn : 0 ≤ N ∧ N ≤ 40 ∧ 0 ≤ R ∧ R ≤ 10 ∧ 0 ≤ T ∧ T ≤ 20000)  : Call d 97 [zrf 0, zint 1] (G, s) Q = Q (some (zint (thr B N))) (G, s) := by
  have hg' := hg
  obtain ⟨g1, g2, g3, g4, g5, g6, hw, hu, hx, g7, g8, g9, g10, g11, g12⟩ := hg'
  have hw' := hw
  obtain ⟨w1, w2, w3, w4, w5, w6, w7, w8, w9, w10, w11, w12, w13, w14, w15, w16, w17, w18, w19, w20, w21, w22, w23, w24, w25⟩ := hw'
  have hv' := hv
  obtain ⟨v1, v2, v3, vB⟩ := hv'
  rw [e97 (show 1 ≤ d by omega)]
  simp (disch := first | omega | exact rfl) only [↓u97_0, ↓u97_1, ↓u97_40, ↓u97_41, ↓u97_44, ↓u97_47, ↓u97_48, ↓u97_49, ↓u97_52, ↓u97_55, ↓u97_56, ↓u97_57, ↓u97_60, ↓u97_63, ↓u97_66, ↓u97_67, ↓u97_68, ↓u97_71, ↓u97_74, ↓u97_77, ↓u97_78, ↓u97_79, ↓u97_82, ↓u97_85, ↓u97_88, ↓u97_89, ↓u97_90, ↓u97_93, ↓u97_96, ↓u97_97, ↓u97_99, ↓lI_0, ↓lI_s, ↓lL_0, ↓lL_s, ↓lR_0, ↓lR_s, ↓sT_0, ↓sT_i, ↓sT_r, ↓sT_u, ↓sT_lu, ↓sU_0, ↓sU_i, ↓sU_r, ↓sU_u, ↓ite_bx, bx_T, bx_F, bx_pos, bx_neg, zws_i, zws_r, zws_l, zws_n, zCb_kc, xl_ll, xr_rr, xs_e, xset_e, Option.toList, List.cons_append, List.nil_append, zIb_e, zrng_e, nz_e, if_pos, if_neg, and_true, true_and, or_true, true_or, ite_self, bi_eq0, bi_eq1, bi_1, bi_0, bi_ir, bi_T, bi_F, up_eq, up_ne, ↓reduceIte, reduceIte, Nat.reduceAdd, Nat.reduceLeDiff, Nat.le_refl, Nat.zero_le, not_true_eq_false, not_false_eq_true, ne_eq, Int.reduceEq, Int.reduceLT, Int.reduceLE, Int.reduceAdd, Int.reduceSub, Int.reduceMul, Int.reduceNeg, pT g1, g2, g3, g4, g5, g6, pT w1, w2, pT w3, w4, w5, w6, v1, v2, v3, vB, ztb_0, ztb_s, t39 (show 1 ≤ d - 1 by omega) hw hv hb hn, pT w13, pT w14, pT w15, w10, w11, w12]
set_option maxRecDepth 8000 in
theorem s97_2 {d : Nat} {Q : Option AV → XH → Prop} {G : XS} {s : ZS} {W U V : Int} {B : ZS} {N R T : Int}  (hd : 5 ≤ d) (hg : LOK G W U V) (hv : CV s W B N R T) (hb : OKB B N) (hn : 0 ≤ N ∧ N ≤ 40 ∧ 0 ≤ R ∧ R ≤ 10 ∧ 0 ≤ T ∧ T ≤ 20000)  : Call d 97 [zrf 0, zint 2] (G, s) Q = Q (some (zint (s (W + 43) 2))) (G, s) := by
  have hg' := hg
  obtain ⟨g1, g2, g3, g4, g5, g6, hw, hu, hx, g7, g8, g9, g10, g11, g12⟩ := hg'
  have hw' := hw
  obtain ⟨w1, w2, w3, w4, w5, w6, w7, w8, w9, w10, w11, w12, w13, w14, w15, w16, w17, w18, w19, w20, w21, w22, w23, w24, w25⟩ := hw'
  have hv' := hv
  obtain ⟨v1, v2, v3, vB⟩ := hv'
  rw [e97 (show 1 ≤ d by omega)]
  simp (disch := first | omega | exact rfl) only [↓u97_0, ↓u97_1, ↓u97_40, ↓u97_41, ↓u97_44, ↓u97_47, ↓u97_48, ↓u97_49, ↓u97_52, ↓u97_55, ↓u97_56, ↓u97_57, ↓u97_60, ↓u97_63, ↓u97_66, ↓u97_67, ↓u97_68, ↓u97_71, ↓u97_74, ↓u97_77, ↓u97_78, ↓u97_79, ↓u97_82, ↓u97_85, ↓u97_88, ↓u97_89, ↓u97_90, ↓u97_93, ↓u97_96, ↓u97_97, ↓u97_99, ↓lI_0, ↓lI_s, ↓lL_0, ↓lL_s, ↓lR_0, ↓lR_s, ↓sT_0, ↓sT_i, ↓sT_r, ↓sT_u, ↓sT_lu, ↓sU_0, ↓sU_i, ↓sU_r, ↓sU_u, ↓ite_bx, bx_T, bx_F, bx_pos, bx_neg, zws_i, zws_r, zws_l, zws_n, zCb_kc, xl_ll, xr_rr, xs_e, xset_e, Option.toList, List.cons_append, List.nil_append, zIb_e, zrng_e, nz_e, if_pos, if_neg, and_true, true_and, or_true, true_or, ite_self, bi_eq0, bi_eq1, bi_1, bi_0, bi_ir, bi_T, bi_F, up_eq, up_ne, ↓reduceIte, reduceIte, Nat.reduceAdd, Nat.reduceLeDiff, Nat.le_refl, Nat.zero_le, not_true_eq_false, not_false_eq_true, ne_eq, Int.reduceEq, Int.reduceLT, Int.reduceLE, Int.reduceAdd, Int.reduceSub, Int.reduceMul, Int.reduceNeg, pT g1, g2, g3, g4, g5, g6, pT w1, w2, pT w3, w4, w5, w6, v1, v2, v3, vB, ztb_0, ztb_s, pT w13, pT w14, pT w15, w10, w11, w12]
set_option maxRecDepth 8000 in
theorem s97_3 {d : Nat} {Q : Option AV → XH → Prop} {G : XS} {s : ZS} {W U V : Int} {B : ZS} {N R T : Int}  (hd : 5 ≤ d) (hg : LOK G W U V) (hv : CV s W B N R T) (hb : OKB B N) (hn : 0 ≤ N ∧ N ≤ 40 ∧ 0 ≤ R ∧ R ≤ 10 ∧ 0 ≤ T ∧ T ≤ 20000)  : Call d 97 [zrf 0, zint 3] (G, s) Q = Q (some (zint (s (W + 45) 2))) (G, s) := by
  have hg' := hg
  obtain ⟨g1, g2, g3, g4, g5, g6, hw, hu, hx, g7, g8, g9, g10, g11, g12⟩ := hg'
  have hw' := hw
  obtain ⟨w1, w2, w3, w4, w5, w6, w7, w8, w9, w10, w11, w12, w13, w14, w15, w16, w17, w18, w19, w20, w21, w22, w23, w24, w25⟩ := hw'
  have hv' := hv
  obtain ⟨v1, v2, v3, vB⟩ := hv'
  rw [e97 (show 1 ≤ d by omega)]
  simp (disch := first | omega | exact rfl) only [↓u97_0, ↓u97_1, ↓u97_40, ↓u97_41, ↓u97_44, ↓u97_47, ↓u97_48, ↓u97_49, ↓u97_52, ↓u97_55, ↓u97_56, ↓u97_57, ↓u97_60, ↓u97_63, ↓u97_66, ↓u97_67, ↓u97_68, ↓u97_71, ↓u97_74, ↓u97_77, ↓u97_78, ↓u97_79, ↓u97_82, ↓u97_85, ↓u97_88, ↓u97_89, ↓u97_90, ↓u97_93, ↓u97_96, ↓u97_97, ↓u97_99, ↓lI_0, ↓lI_s, ↓lL_0, ↓lL_s, ↓lR_0, ↓lR_s, ↓sT_0, ↓sT_i, ↓sT_r, ↓sT_u, ↓sT_lu, ↓sU_0, ↓sU_i, ↓sU_r, ↓sU_u, ↓ite_bx, bx_T, bx_F, bx_pos, bx_neg, zws_i, zws_r, zws_l, zws_n, zCb_kc, xl_ll, xr_rr, xs_e, xset_e, Option.toList, List.cons_append, List.nil_append, zIb_e, zrng_e, nz_e, if_pos, if_neg, and_true, true_and, or_true, true_or, ite_self, bi_eq0, bi_eq1, bi_1, bi_0, bi_ir, bi_T, bi_F, up_eq, up_ne, ↓reduceIte, reduceIte, Nat.reduceAdd, Nat.reduceLeDiff, Nat.le_refl, Nat.zero_le, not_true_eq_false, not_false_eq_true, ne_eq, Int.reduceEq, Int.reduceLT, Int.reduceLE, Int.reduceAdd, Int.reduceSub, Int.reduceMul, Int.reduceNeg, pT g1, g2, g3, g4, g5, g6, pT w1, w2, pT w3, w4, w5, w6, v1, v2, v3, vB, ztb_0, ztb_s, pT w13, pT w14, pT w15, w10, w11, w12]
set_option maxRecDepth 8000 in
theorem s97_4 {d : Nat} {Q : Option AV → XH → Prop} {G : XS} {s : ZS} {W U V : Int} {B : ZS} {N R T : Int}  (hd : 5 ≤ d) (hg : LOK G W U V) (hv : CV s W B N R T) (hb : OKB B N) (hn : 0 ≤ N ∧ N ≤ 40 ∧ 0 ≤ R ∧ R ≤ 10 ∧ 0 ≤ T ∧ T ≤ 20000)  : Call d 97 [zrf 0, zint 4] (G, s) Q = Q (some (zint (s (W + 47) 2))) (G, s) := by
  have hg' := hg
  obtain ⟨g1, g2, g3, g4, g5, g6, hw, hu, hx, g7, g8, g9, g10, g11, g12⟩ := hg'
  have hw' := hw
  obtain ⟨w1, w2, w3, w4, w5, w6, w7, w8, w9, w10, w11, w12, w13, w14, w15, w16, w17, w18, w19, w20, w21, w22, w23, w24, w25⟩ := hw'
  have hv' := hv
  obtain ⟨v1, v2, v3, vB⟩ := hv'
  rw [e97 (show 1 ≤ d by omega)]
  simp (disch := first | omega | exact rfl) only [↓u97_0, ↓u97_1, ↓u97_40, ↓u97_41, ↓u97_44, ↓u97_47, ↓u97_48, ↓u97_49, ↓u97_52, ↓u97_55, ↓u97_56, ↓u97_57, ↓u97_60, ↓u97_63, ↓u97_66, ↓u97_67, ↓u97_68, ↓u97_71, ↓u97_74, ↓u97_77, ↓u97_78, ↓u97_79, ↓u97_82, ↓u97_85, ↓u97_88, ↓u97_89, ↓u97_90, ↓u97_93, ↓u97_96, ↓u97_97, ↓u97_99, ↓lI_0, ↓lI_s, ↓lL_0, ↓lL_s, ↓lR_0, ↓lR_s, ↓sT_0, ↓sT_i, ↓sT_r, ↓sT_u, ↓sT_lu, ↓sU_0, ↓sU_i, ↓sU_r, ↓sU_u, ↓ite_bx, bx_T, bx_F, bx_pos, bx_neg, zws_i, zws_r, zws_l, zws_n, zCb_kc, xl_ll, xr_rr, xs_e, xset_e, Option.toList, List.cons_append, List.nil_append, zIb_e, zrng_e, nz_e, if_pos, if_neg, and_true, true_and, or_true, true_or, ite_self, bi_eq0, bi_eq1, bi_1, bi_0, bi_ir, bi_T, bi_F, up_eq, up_ne, ↓reduceIte, reduceIte, Nat.reduceAdd, Nat.reduceLeDiff, Nat.le_refl, Nat.zero_le, not_true_eq_false, not_false_eq_true, ne_eq, Int.reduceEq, Int.reduceLT, Int.reduceLE, Int.reduceAdd, Int.reduceSub, Int.reduceMul, Int.reduceNeg, pT g1, g2, g3, g4, g5, g6, pT w1, w2, pT w3, w4, w5, w6, v1, v2, v3, vB, ztb_0, ztb_s, pT w13, pT w14, pT w15, w10, w11, w12]
set_option maxRecDepth 8000 in
theorem s97_5 {d : Nat} {Q : Option AV → XH → Prop} {G : XS} {s : ZS} {W U V : Int} {B : ZS} {N R T : Int}  (hd : 5 ≤ d) (hg : LOK G W U V) (hv : CV s W B N R T) (hb : OKB B N) (hn : 0 ≤ N ∧ N ≤ 40 ∧ 0 ≤ R ∧ R ≤ 10 ∧ 0 ≤ T ∧ T ≤ 20000)  : Call d 97 [zrf 0, zint 5] (G, s) Q = Q (some (zint (s 148 2))) (G, s) := by
  have hg' := hg
  obtain ⟨g1, g2, g3, g4, g5, g6, hw, hu, hx, g7, g8, g9, g10, g11, g12⟩ := hg'
  have hw' := hw
  obtain ⟨w1, w2, w3, w4, w5, w6, w7, w8, w9, w10, w11, w12, w13, w14, w15, w16, w17, w18, w19, w20, w21, w22, w23, w24, w25⟩ := hw'
  have hv' := hv
  obtain ⟨v1, v2, v3, vB⟩ := hv'
  rw [e97 (show 1 ≤ d by omega)]
  simp (disch := first | omega | exact rfl) only [↓u97_0, ↓u97_1, ↓u97_40, ↓u97_41, ↓u97_44, ↓u97_47, ↓u97_48, ↓u97_49, ↓u97_52, ↓u97_55, ↓u97_56, ↓u97_57, ↓u97_60, ↓u97_63, ↓u97_66, ↓u97_67, ↓u97_68, ↓u97_71, ↓u97_74, ↓u97_77, ↓u97_78, ↓u97_79, ↓u97_82, ↓u97_85, ↓u97_88, ↓u97_89, ↓u97_90, ↓u97_93, ↓u97_96, ↓u97_97, ↓u97_99, ↓lI_0, ↓lI_s, ↓lL_0, ↓lL_s, ↓lR_0, ↓lR_s, ↓sT_0, ↓sT_i, ↓sT_r, ↓sT_u, ↓sT_lu, ↓sU_0, ↓sU_i, ↓sU_r, ↓sU_u, ↓ite_bx, bx_T, bx_F, bx_pos, bx_neg, zws_i, zws_r, zws_l, zws_n, zCb_kc, xl_ll, xr_rr, xs_e, xset_e, Option.toList, List.cons_append, List.nil_append, zIb_e, zrng_e, nz_e, if_pos, if_neg, and_true, true_and, or_true, true_or, ite_self, bi_eq0, bi_eq1, bi_1, bi_0, bi_ir, bi_T, bi_F, up_eq, up_ne, ↓reduceIte, reduceIte, Nat.reduceAdd, Nat.reduceLeDiff, Nat.le_refl, Nat.zero_le, not_true_eq_false, not_false_eq_true, ne_eq, Int.reduceEq, Int.reduceLT, Int.reduceLE, Int.reduceAdd, Int.reduceSub, Int.reduceMul, Int.reduceNeg, pT g1, g2, g3, g4, g5, g6, pT w1, w2, pT w3, w4, w5, w6, v1, v2, v3, vB, ztb_0, ztb_s, pT g7.1, pT w13, pT w14, pT w15, w10, w11, w12]
set_option maxRecDepth 8000 in
theorem s97_n {d : Nat} {Q : Option AV → XH → Prop} {G : XS} {s : ZS} {W U V : Int} {B : ZS} {N R T : Int} {x : Int} (hd : 5 ≤ d) (hg : LOK G W U V) (hv : CV s W B N R T) (hb : OKB B N) (hn : 0 ≤ N ∧ N ≤ 40 ∧ 0 ≤ R ∧ R ≤ 10 ∧ 0 ≤ T ∧ T ≤ 20000) (ix : ir x) (q : ¬(0 ≤ x ∧ x ≤ 5)) : Call d 97 [zrf 0, zint x] (G, s) Q = Q (some (zint (-2))) (G, s) := by
  have hg' := hg
  obtain ⟨g1, g2, g3, g4, g5, g6, hw, hu, hx, g7, g8, g9, g10, g11, g12⟩ := hg'
  have hw' := hw
  obtain ⟨w1, w2, w3, w4, w5, w6, w7, w8, w9, w10, w11, w12, w13, w14, w15, w16, w17, w18, w19, w20, w21, w22, w23, w24, w25⟩ := hw'
  have hv' := hv
  obtain ⟨v1, v2, v3, vB⟩ := hv'
  rw [e97 (show 1 ≤ d by omega)]
  simp (disch := first | omega | exact rfl) only [↓u97_0, ↓u97_1, ↓u97_40, ↓u97_41, ↓u97_44, ↓u97_47, ↓u97_48, ↓u97_49, ↓u97_52, ↓u97_55, ↓u97_56, ↓u97_57, ↓u97_60, ↓u97_63, ↓u97_66, ↓u97_67, ↓u97_68, ↓u97_71, ↓u97_74, ↓u97_77, ↓u97_78, ↓u97_79, ↓u97_82, ↓u97_85, ↓u97_88, ↓u97_89, ↓u97_90, ↓u97_93, ↓u97_96, ↓u97_97, ↓u97_99, ↓lI_0, ↓lI_s, ↓lL_0, ↓lL_s, ↓lR_0, ↓lR_s, ↓sT_0, ↓sT_i, ↓sT_r, ↓sT_u, ↓sT_lu, ↓sU_0, ↓sU_i, ↓sU_r, ↓sU_u, ↓ite_bx, bx_T, bx_F, bx_pos, bx_neg, zws_i, zws_r, zws_l, zws_n, zCb_kc, xl_ll, xr_rr, xs_e, xset_e, Option.toList, List.cons_append, List.nil_append, zIb_e, zrng_e, nz_e, if_pos, if_neg, and_true, true_and, or_true, true_or, ite_self, bi_eq0, bi_eq1, bi_1, bi_0, bi_ir, bi_T, bi_F, up_eq, up_ne, ↓reduceIte, reduceIte, Nat.reduceAdd, Nat.reduceLeDiff, Nat.le_refl, Nat.zero_le, not_true_eq_false, not_false_eq_true, ne_eq, Int.reduceEq, Int.reduceLT, Int.reduceLE, Int.reduceAdd, Int.reduceSub, Int.reduceMul, Int.reduceNeg, pT g1, g2, g3, g4, g5, g6, pT w1, w2, pT w3, w4, w5, w6, v1, v2, v3, vB, ztb_0, ztb_s]
set_option maxRecDepth 8000 in
theorem s98_n {d : Nat} {Q : Option AV → XH → Prop} {G : XS} {s : ZS} {W U V : Int} {B : ZS} {N R T : Int} {k x n : Int} (hd : 6 ≤ d) (hg : LOK G W U V) (hv : CV s W B N R T) (hb : OKB B N) (hn : 0 ≤ N ∧ N ≤ 40 ∧ 0 ≤ R ∧ R ≤ 10 ∧ 0 ≤ T ∧ T ≤ 20000) (ik : ir k) (hk : ¬(0 ≤ k ∧ k < 6)) : Call d 98 [zrf 0, zint k, zint x, zint n] (G, s) Q = Q (some (zint (-1))) (G, s) := by
  have hg' := hg
  obtain ⟨g1, g2, g3, g4, g5, g6, hw, hu, hx, g7, g8, g9, g10, g11, g12⟩ := hg'
  have hw' := hw
  obtain ⟨w1, w2, w3, w4, w5, w6, w7, w8, w9, w10, w11, w12, w13, w14, w15, w16, w17, w18, w19, w20, w21, w22, w23, w24, w25⟩ := hw'
  have hv' := hv
  obtain ⟨v1, v2, v3, vB⟩ := hv'
  rw [e98 (show 1 ≤ d by omega)]
  simp (disch := first | omega | exact rfl) only [↓u98_0, ↓u98_1, ↓u98_2, ↓u98_5, ↓u98_7, ↓u98_9, ↓u98_12, ↓u98_13, ↓u98_14, ↓u98_15, ↓u98_16, ↓u98_19, ↓u98_21, ↓u98_22, ↓u98_23, ↓u98_26, ↓u98_27, ↓u98_28, ↓u98_29, ↓u98_30, ↓u98_31, ↓u98_34, ↓u98_37, ↓u98_38, ↓u98_40, ↓u98_43, ↓u98_45, ↓u98_46, ↓u98_47, ↓u98_50, ↓u98_52, ↓u98_53, ↓u98_55, ↓u98_56, ↓u98_57, ↓u98_60, ↓u98_61, ↓lI_0, ↓lI_s, ↓lL_0, ↓lL_s, ↓lR_0, ↓lR_s, ↓sT_0, ↓sT_i, ↓sT_r, ↓sT_u, ↓sT_lu, ↓sU_0, ↓sU_i, ↓sU_r, ↓sU_u, ↓ite_bx, bx_T, bx_F, bx_pos, bx_neg, zws_i, zws_r, zws_l, zws_n, zCb_kc, xl_ll, xr_rr, xs_e, xset_e, Option.toList, List.cons_append, List.nil_append, zIb_e, zrng_e, nz_e, if_pos, if_neg, and_true, true_and, or_true, true_or, ite_self, bi_eq0, bi_eq1, bi_1, bi_0, bi_ir, bi_T, bi_F, up_eq, up_ne, ↓reduceIte, reduceIte, Nat.reduceAdd, Nat.reduceLeDiff, Nat.le_refl, Nat.zero_le, not_true_eq_false, not_false_eq_true, ne_eq, Int.reduceEq, Int.reduceLT, Int.reduceLE, Int.reduceAdd, Int.reduceSub, Int.reduceMul, Int.reduceNeg, pT g1, g2, g3, g4, g5, g6, pT w1, w2, pT w3, w4, w5, w6, v1, v2, v3, vB, s102_n (show 5 ≤ d - 1 by omega) hg hv hb hn ik hk]
set_option maxRecDepth 8000 in
theorem s98_h {d : Nat} {Q : Option AV → XH → Prop} {G : XS} {s : ZS} {W U V : Int} {B : ZS} {N R T : Int} {k x n : Int} (hd : 6 ≤ d) (hg : LOK G W U V) (hv : CV s W B N R T) (hb : OKB B N) (hn : 0 ≤ N ∧ N ≤ 40 ∧ 0 ≤ R ∧ R ≤ 10 ∧ 0 ≤ T ∧ T ≤ 20000) (hk : 0 ≤ k ∧ k < 6) (q : x = -1) : Call d 98 [zrf 0, zint k, zint x, zint n] (G, s) Q = Q (some (zint 1)) (G, hld s (160 + 2 * k) (-1) 0) := by
  have hg' := hg
  obtain ⟨g1, g2, g3, g4, g5, g6, hw, hu, hx, g7, g8, g9, g10, g11, g12⟩ := hg'
  have hw' := hw
  obtain ⟨w1, w2, w3, w4, w5, w6, w7, w8, w9, w10, w11, w12, w13, w14, w15, w16, w17, w18, w19, w20, w21, w22, w23, w24, w25⟩ := hw'
  have hv' := hv
  obtain ⟨v1, v2, v3, vB⟩ := hv'
  have kt := g11 k hk
  obtain ⟨t1, t2, t3, t4⟩ := id kt
  have g10k := g10 k hk
  rw [e98 (show 1 ≤ d by omega)]
  simp (disch := first | omega | exact rfl) only [↓u98_0, ↓u98_1, ↓u98_2, ↓u98_5, ↓u98_7, ↓u98_9, ↓u98_12, ↓u98_13, ↓u98_14, ↓u98_15, ↓u98_16, ↓u98_19, ↓u98_21, ↓u98_22, ↓u98_23, ↓u98_26, ↓u98_27, ↓u98_28, ↓u98_29, ↓u98_30, ↓u98_31, ↓u98_34, ↓u98_37, ↓u98_38, ↓u98_40, ↓u98_43, ↓u98_45, ↓u98_46, ↓u98_47, ↓u98_50, ↓u98_52, ↓u98_53, ↓u98_55, ↓u98_56, ↓u98_57, ↓u98_60, ↓u98_61, ↓lI_0, ↓lI_s, ↓lL_0, ↓lL_s, ↓lR_0, ↓lR_s, ↓sT_0, ↓sT_i, ↓sT_r, ↓sT_u, ↓sT_lu, ↓sU_0, ↓sU_i, ↓sU_r, ↓sU_u, ↓ite_bx, bx_T, bx_F, bx_pos, bx_neg, zws_i, zws_r, zws_l, zws_n, zCb_kc, xl_ll, xr_rr, xs_e, xset_e, Option.toList, List.cons_append, List.nil_append, zIb_e, zrng_e, nz_e, if_pos, if_neg, and_true, true_and, or_true, true_or, ite_self, bi_eq0, bi_eq1, bi_1, bi_0, bi_ir, bi_T, bi_F, up_eq, up_ne, ↓reduceIte, reduceIte, Nat.reduceAdd, Nat.reduceLeDiff, Nat.le_refl, Nat.zero_le, not_true_eq_false, not_false_eq_true, ne_eq, Int.reduceEq, Int.reduceLT, Int.reduceLE, Int.reduceAdd, Int.reduceSub, Int.reduceMul, Int.reduceNeg, pT g1, g2, g3, g4, g5, g6, pT w1, w2, pT w3, w4, w5, w6, v1, v2, v3, vB, s102_y (show 5 ≤ d - 1 by omega) hg hv hb hn hk, s32 (show 2 ≤ d - 1 by omega) kt, pT t1, t2, pT t3, t4]
set_option maxRecDepth 8000 in
theorem s98_b {d : Nat} {Q : Option AV → XH → Prop} {G : XS} {s : ZS} {W U V : Int} {B : ZS} {N R T : Int} {k x n : Int} (hd : 6 ≤ d) (hg : LOK G W U V) (hv : CV s W B N R T) (hb : OKB B N) (hn : 0 ≤ N ∧ N ≤ 40 ∧ 0 ≤ R ∧ R ≤ 10 ∧ 0 ≤ T ∧ T ≤ 20000) (hk : 0 ≤ k ∧ k < 6) (ix : ir x) (i1 : ir n) (q : x ≠ -1) (q2 : ¬((0 ≤ x ∧ x ≤ 4) ∧ n ≤ 60)) : Call d 98 [zrf 0, zint k, zint x, zint n] (G, s) Q = Q (some (zint (-2))) (G, s) := by
  have hg' := hg
  obtain ⟨g1, g2, g3, g4, g5, g6, hw, hu, hx, g7, g8, g9, g10, g11, g12⟩ := hg'
  have hw' := hw
  obtain ⟨w1, w2, w3, w4, w5, w6, w7, w8, w9, w10, w11, w12, w13, w14, w15, w16, w17, w18, w19, w20, w21, w22, w23, w24, w25⟩ := hw'
  have hv' := hv
  obtain ⟨v1, v2, v3, vB⟩ := hv'
  have kt := g11 k hk
  obtain ⟨t1, t2, t3, t4⟩ := id kt
  have g10k := g10 k hk
  rw [e98 (show 1 ≤ d by omega)]
  by_cases q0 : 0 ≤ x ∧ x ≤ 4
  · skip
    first
    | (exfalso; omega; done)
    | simp (disch := first | omega | exact rfl) only [↓u98_0, ↓u98_1, ↓u98_2, ↓u98_5, ↓u98_7, ↓u98_9, ↓u98_12, ↓u98_13, ↓u98_14, ↓u98_15, ↓u98_16, ↓u98_19, ↓u98_21, ↓u98_22, ↓u98_23, ↓u98_26, ↓u98_27, ↓u98_28, ↓u98_29, ↓u98_30, ↓u98_31, ↓u98_34, ↓u98_37, ↓u98_38, ↓u98_40, ↓u98_43, ↓u98_45, ↓u98_46, ↓u98_47, ↓u98_50, ↓u98_52, ↓u98_53, ↓u98_55, ↓u98_56, ↓u98_57, ↓u98_60, ↓u98_61, ↓lI_0, ↓lI_s, ↓lL_0, ↓lL_s, ↓lR_0, ↓lR_s, ↓sT_0, ↓sT_i, ↓sT_r, ↓sT_u, ↓sT_lu, ↓sU_0, ↓sU_i, ↓sU_r, ↓sU_u, ↓ite_bx, bx_T, bx_F, bx_pos, bx_neg, zws_i, zws_r, zws_l, zws_n, zCb_kc, xl_ll, xr_rr, xs_e, xset_e, Option.toList, List.cons_append, List.nil_append, zIb_e, zrng_e, nz_e, if_pos, if_neg, and_true, true_and, or_true, true_or, ite_self, bi_eq0, bi_eq1, bi_1, bi_0, bi_ir, bi_T, bi_F, up_eq, up_ne, ↓reduceIte, reduceIte, Nat.reduceAdd, Nat.reduceLeDiff, Nat.le_refl, Nat.zero_le, not_true_eq_false, not_false_eq_true, ne_eq, Int.reduceEq, Int.reduceLT, Int.reduceLE, Int.reduceAdd, Int.reduceSub, Int.reduceMul, Int.reduceNeg, pT g1, g2, g3, g4, g5, g6, pT w1, w2, pT w3, w4, w5, w6, v1, v2, v3, vB, s102_y (show 5 ≤ d - 1 by omega) hg hv hb hn hk, s103, pT t1, t2, pT t3, t4]
  · skip
    first
    | (exfalso; omega; done)
    | simp (disch := first | omega | exact rfl) only [↓u98_0, ↓u98_1, ↓u98_2, ↓u98_5, ↓u98_7, ↓u98_9, ↓u98_12, ↓u98_13, ↓u98_14, ↓u98_15, ↓u98_16, ↓u98_19, ↓u98_21, ↓u98_22, ↓u98_23, ↓u98_26, ↓u98_27, ↓u98_28, ↓u98_29, ↓u98_30, ↓u98_31, ↓u98_34, ↓u98_37, ↓u98_38, ↓u98_40, ↓u98_43, ↓u98_45, ↓u98_46, ↓u98_47, ↓u98_50, ↓u98_52, ↓u98_53, ↓u98_55, ↓u98_56, ↓u98_57, ↓u98_60, ↓u98_61, ↓lI_0, ↓lI_s, ↓lL_0, ↓lL_s, ↓lR_0, ↓lR_s, ↓sT_0, ↓sT_i, ↓sT_r, ↓sT_u, ↓sT_lu, ↓sU_0, ↓sU_i, ↓sU_r, ↓sU_u, ↓ite_bx, bx_T, bx_F, bx_pos, bx_neg, zws_i, zws_r, zws_l, zws_n, zCb_kc, xl_ll, xr_rr, xs_e, xset_e, Option.toList, List.cons_append, List.nil_append, zIb_e, zrng_e, nz_e, if_pos, if_neg, and_true, true_and, or_true, true_or, ite_self, bi_eq0, bi_eq1, bi_1, bi_0, bi_ir, bi_T, bi_F, up_eq, up_ne, ↓reduceIte, reduceIte, Nat.reduceAdd, Nat.reduceLeDiff, Nat.le_refl, Nat.zero_le, not_true_eq_false, not_false_eq_true, ne_eq, Int.reduceEq, Int.reduceLT, Int.reduceLE, Int.reduceAdd, Int.reduceSub, Int.reduceMul, Int.reduceNeg, pT g1, g2, g3, g4, g5, g6, pT w1, w2, pT w3, w4, w5, w6, v1, v2, v3, vB, s102_y (show 5 ≤ d - 1 by omega) hg hv hb hn hk, s103, pT t1, t2, pT t3, t4]
set_option maxRecDepth 8000 in
theorem s98_s {d : Nat} {Q : Option AV → XH → Prop} {G : XS} {s : ZS} {W U V : Int} {B : ZS} {N R T : Int} {k x n : Int} (hd : 6 ≤ d) (hg : LOK G W U V) (hv : CV s W B N R T) (hb : OKB B N) (hn : 0 ≤ N ∧ N ≤ 40 ∧ 0 ≤ R ∧ R ≤ 10 ∧ 0 ≤ T ∧ T ≤ 20000) (hk : 0 ≤ k ∧ k < 6) (i1 : ir n) (q2 : 0 ≤ x ∧ x ≤ 4) (q : n < 0) : Call d 98 [zrf 0, zint k, zint x, zint n] (G, s) Q = Q (some (zint (-14))) (G, s) := by
  have hg' := hg
  obtain ⟨g1, g2, g3, g4, g5, g6, hw, hu, hx, g7, g8, g9, g10, g11, g12⟩ := hg'
  have hw' := hw
  obtain ⟨w1, w2, w3, w4, w5, w6, w7, w8, w9, w10, w11, w12, w13, w14, w15, w16, w17, w18, w19, w20, w21, w22, w23, w24, w25⟩ := hw'
  have hv' := hv
  obtain ⟨v1, v2, v3, vB⟩ := hv'
  have kt := g11 k hk
  obtain ⟨t1, t2, t3, t4⟩ := id kt
  have g10k := g10 k hk
  rw [e98 (show 1 ≤ d by omega)]
  simp (disch := first | omega | exact rfl) only [↓u98_0, ↓u98_1, ↓u98_2, ↓u98_5, ↓u98_7, ↓u98_9, ↓u98_12, ↓u98_13, ↓u98_14, ↓u98_15, ↓u98_16, ↓u98_19, ↓u98_21, ↓u98_22, ↓u98_23, ↓u98_26, ↓u98_27, ↓u98_28, ↓u98_29, ↓u98_30, ↓u98_31, ↓u98_34, ↓u98_37, ↓u98_38, ↓u98_40, ↓u98_43, ↓u98_45, ↓u98_46, ↓u98_47, ↓u98_50, ↓u98_52, ↓u98_53, ↓u98_55, ↓u98_56, ↓u98_57, ↓u98_60, ↓u98_61, ↓lI_0, ↓lI_s, ↓lL_0, ↓lL_s, ↓lR_0, ↓lR_s, ↓sT_0, ↓sT_i, ↓sT_r, ↓sT_u, ↓sT_lu, ↓sU_0, ↓sU_i, ↓sU_r, ↓sU_u, ↓ite_bx, bx_T, bx_F, bx_pos, bx_neg, zws_i, zws_r, zws_l, zws_n, zCb_kc, xl_ll, xr_rr, xs_e, xset_e, Option.toList, List.cons_append, List.nil_append, zIb_e, zrng_e, nz_e, if_pos, if_neg, and_true, true_and, or_true, true_or, ite_self, bi_eq0, bi_eq1, bi_1, bi_0, bi_ir, bi_T, bi_F, up_eq, up_ne, ↓reduceIte, reduceIte, Nat.reduceAdd, Nat.reduceLeDiff, Nat.le_refl, Nat.zero_le, not_true_eq_false, not_false_eq_true, ne_eq, Int.reduceEq, Int.reduceLT, Int.reduceLE, Int.reduceAdd, Int.reduceSub, Int.reduceMul, Int.reduceNeg, pT g1, g2, g3, g4, g5, g6, pT w1, w2, pT w3, w4, w5, w6, v1, v2, v3, vB, s102_y (show 5 ≤ d - 1 by omega) hg hv hb hn hk, s103, pT t1, t2, pT t3, t4]
set_option maxRecDepth 8000 in
theorem s98_y {d : Nat} {Q : Option AV → XH → Prop} {G : XS} {s : ZS} {W U V : Int} {B : ZS} {N R T : Int} {k x n : Int} (hd : 6 ≤ d) (hg : LOK G W U V) (hv : CV s W B N R T) (hb : OKB B N) (hn : 0 ≤ N ∧ N ≤ 40 ∧ 0 ≤ R ∧ R ≤ 10 ∧ 0 ≤ T ∧ T ≤ 20000) (hk : 0 ≤ k ∧ k < 6) (q2 : 0 ≤ x ∧ x ≤ 4) (q : 0 ≤ n ∧ n ≤ 60) : Call d 98 [zrf 0, zint k, zint x, zint n] (G, s) Q = Q (some (zint 1)) (G, hld s (160 + 2 * k) x n) := by
  have hg' := hg
  obtain ⟨g1, g2, g3, g4, g5, g6, hw, hu, hx, g7, g8, g9, g10, g11, g12⟩ := hg'
  have hw' := hw
  obtain ⟨w1, w2, w3, w4, w5, w6, w7, w8, w9, w10, w11, w12, w13, w14, w15, w16, w17, w18, w19, w20, w21, w22, w23, w24, w25⟩ := hw'
  have hv' := hv
  obtain ⟨v1, v2, v3, vB⟩ := hv'
  have kt := g11 k hk
  obtain ⟨t1, t2, t3, t4⟩ := id kt
  have g10k := g10 k hk
  rw [e98 (show 1 ≤ d by omega)]
  simp (disch := first | omega | exact rfl) only [↓u98_0, ↓u98_1, ↓u98_2, ↓u98_5, ↓u98_7, ↓u98_9, ↓u98_12, ↓u98_13, ↓u98_14, ↓u98_15, ↓u98_16, ↓u98_19, ↓u98_21, ↓u98_22, ↓u98_23, ↓u98_26, ↓u98_27, ↓u98_28, ↓u98_29, ↓u98_30, ↓u98_31, ↓u98_34, ↓u98_37, ↓u98_38, ↓u98_40, ↓u98_43, ↓u98_45, ↓u98_46, ↓u98_47, ↓u98_50, ↓u98_52, ↓u98_53, ↓u98_55, ↓u98_56, ↓u98_57, ↓u98_60, ↓u98_61, ↓lI_0, ↓lI_s, ↓lL_0, ↓lL_s, ↓lR_0, ↓lR_s, ↓sT_0, ↓sT_i, ↓sT_r, ↓sT_u, ↓sT_lu, ↓sU_0, ↓sU_i, ↓sU_r, ↓sU_u, ↓ite_bx, bx_T, bx_F, bx_pos, bx_neg, zws_i, zws_r, zws_l, zws_n, zCb_kc, xl_ll, xr_rr, xs_e, xset_e, Option.toList, List.cons_append, List.nil_append, zIb_e, zrng_e, nz_e, if_pos, if_neg, and_true, true_and, or_true, true_or, ite_self, bi_eq0, bi_eq1, bi_1, bi_0, bi_ir, bi_T, bi_F, up_eq, up_ne, ↓reduceIte, reduceIte, Nat.reduceAdd, Nat.reduceLeDiff, Nat.le_refl, Nat.zero_le, not_true_eq_false, not_false_eq_true, ne_eq, Int.reduceEq, Int.reduceLT, Int.reduceLE, Int.reduceAdd, Int.reduceSub, Int.reduceMul, Int.reduceNeg, pT g1, g2, g3, g4, g5, g6, pT w1, w2, pT w3, w4, w5, w6, v1, v2, v3, vB, s102_y (show 5 ≤ d - 1 by omega) hg hv hb hn hk, s103, s32 (show 2 ≤ d - 1 by omega) kt, pT t1, t2, pT t3, t4]
set_option maxRecDepth 8000 in
theorem s99_n {d : Nat} {Q : Option AV → XH → Prop} {G : XS} {s : ZS} {W U V : Int} {B : ZS} {N R T : Int} {k i v : Int} (hd : 6 ≤ d) (hg : LOK G W U V) (hv : CV s W B N R T) (hb : OKB B N) (hn : 0 ≤ N ∧ N ≤ 40 ∧ 0 ≤ R ∧ R ≤ 10 ∧ 0 ≤ T ∧ T ≤ 20000) (ik : ir k) (hk : ¬(0 ≤ k ∧ k < 6)) : Call d 99 [zrf 0, zint k, zint i, zlng v] (G, s) Q = Q (some (zint (-1))) (G, s) := by
  have hg' := hg
  obtain ⟨g1, g2, g3, g4, g5, g6, hw, hu, hx, g7, g8, g9, g10, g11, g12⟩ := hg'
  have hw' := hw
  obtain ⟨w1, w2, w3, w4, w5, w6, w7, w8, w9, w10, w11, w12, w13, w14, w15, w16, w17, w18, w19, w20, w21, w22, w23, w24, w25⟩ := hw'
  have hv' := hv
  obtain ⟨v1, v2, v3, vB⟩ := hv'
  rw [e99 (show 1 ≤ d by omega)]
  simp (disch := first | omega | exact rfl) only [↓u99_0, ↓u99_1, ↓u99_2, ↓u99_5, ↓u99_7, ↓u99_9, ↓u99_12, ↓u99_13, ↓u99_14, ↓u99_16, ↓u99_19, ↓u99_20, ↓u99_23, ↓u99_25, ↓u99_26, ↓u99_27, ↓u99_28, ↓u99_30, ↓u99_33, ↓u99_34, ↓u99_35, ↓u99_38, ↓u99_41, ↓u99_43, ↓u99_44, ↓u99_46, ↓u99_49, ↓u99_50, ↓u99_52, ↓u99_53, ↓u99_56, ↓u99_57, ↓u99_58, ↓lI_0, ↓lI_s, ↓lL_0, ↓lL_s, ↓lR_0, ↓lR_s, ↓sT_0, ↓sT_i, ↓sT_r, ↓sT_u, ↓sT_lu, ↓sU_0, ↓sU_i, ↓sU_r, ↓sU_u, ↓ite_bx, bx_T, bx_F, bx_pos, bx_neg, zws_i, zws_r, zws_l, zws_n, zCb_kc, xl_ll, xr_rr, xs_e, xset_e, Option.toList, List.cons_append, List.nil_append, zIb_e, zrng_e, nz_e, if_pos, if_neg, and_true, true_and, or_true, true_or, ite_self, bi_eq0, bi_eq1, bi_1, bi_0, bi_ir, bi_T, bi_F, up_eq, up_ne, ↓reduceIte, reduceIte, Nat.reduceAdd, Nat.reduceLeDiff, Nat.le_refl, Nat.zero_le, not_true_eq_false, not_false_eq_true, ne_eq, Int.reduceEq, Int.reduceLT, Int.reduceLE, Int.reduceAdd, Int.reduceSub, Int.reduceMul, Int.reduceNeg, pT g1, g2, g3, g4, g5, g6, pT w1, w2, pT w3, w4, w5, w6, v1, v2, v3, vB, s102_n (show 5 ≤ d - 1 by omega) hg hv hb hn ik hk]
set_option maxRecDepth 8000 in
theorem s99_g {d : Nat} {Q : Option AV → XH → Prop} {G : XS} {s : ZS} {W U V : Int} {B : ZS} {N R T : Int} {k i v : Int} (hd : 6 ≤ d) (hg : LOK G W U V) (hv : CV s W B N R T) (hb : OKB B N) (hn : 0 ≤ N ∧ N ≤ 40 ∧ 0 ≤ R ∧ R ≤ 10 ∧ 0 ≤ T ∧ T ≤ 20000) (hk : 0 ≤ k ∧ k < 6) (hs : -1 ≤ s (160 + 2 * k) 1 ∧ s (160 + 2 * k) 1 ≤ 4) (hl : 0 ≤ s (160 + 2 * k) 2 ∧ s (160 + 2 * k) 2 ≤ 60) (q : s (160 + 2 * k) 1 = -1) : Call d 99 [zrf 0, zint k, zint i, zlng v] (G, s) Q = Q (some (zint (-11))) (G, s) := by
  have hg' := hg
  obtain ⟨g1, g2, g3, g4, g5, g6, hw, hu, hx, g7, g8, g9, g10, g11, g12⟩ := hg'
  have hw' := hw
  obtain ⟨w1, w2, w3, w4, w5, w6, w7, w8, w9, w10, w11, w12, w13, w14, w15, w16, w17, w18, w19, w20, w21, w22, w23, w24, w25⟩ := hw'
  have hv' := hv
  obtain ⟨v1, v2, v3, vB⟩ := hv'
  have kt := g11 k hk
  obtain ⟨t1, t2, t3, t4⟩ := id kt
  have g10k := g10 k hk
  rw [e99 (show 1 ≤ d by omega)]
  simp (disch := first | omega | exact rfl) only [↓u99_0, ↓u99_1, ↓u99_2, ↓u99_5, ↓u99_7, ↓u99_9, ↓u99_12, ↓u99_13, ↓u99_14, ↓u99_16, ↓u99_19, ↓u99_20, ↓u99_23, ↓u99_25, ↓u99_26, ↓u99_27, ↓u99_28, ↓u99_30, ↓u99_33, ↓u99_34, ↓u99_35, ↓u99_38, ↓u99_41, ↓u99_43, ↓u99_44, ↓u99_46, ↓u99_49, ↓u99_50, ↓u99_52, ↓u99_53, ↓u99_56, ↓u99_57, ↓u99_58, ↓lI_0, ↓lI_s, ↓lL_0, ↓lL_s, ↓lR_0, ↓lR_s, ↓sT_0, ↓sT_i, ↓sT_r, ↓sT_u, ↓sT_lu, ↓sU_0, ↓sU_i, ↓sU_r, ↓sU_u, ↓ite_bx, bx_T, bx_F, bx_pos, bx_neg, zws_i, zws_r, zws_l, zws_n, zCb_kc, xl_ll, xr_rr, xs_e, xset_e, Option.toList, List.cons_append, List.nil_append, zIb_e, zrng_e, nz_e, if_pos, if_neg, and_true, true_and, or_true, true_or, ite_self, bi_eq0, bi_eq1, bi_1, bi_0, bi_ir, bi_T, bi_F, up_eq, up_ne, ↓reduceIte, reduceIte, Nat.reduceAdd, Nat.reduceLeDiff, Nat.le_refl, Nat.zero_le, not_true_eq_false, not_false_eq_true, ne_eq, Int.reduceEq, Int.reduceLT, Int.reduceLE, Int.reduceAdd, Int.reduceSub, Int.reduceMul, Int.reduceNeg, pT g1, g2, g3, g4, g5, g6, pT w1, w2, pT w3, w4, w5, w6, v1, v2, v3, vB, s102_y (show 5 ≤ d - 1 by omega) hg hv hb hn hk, q, pT t1, t2, pT t3, t4]
set_option maxRecDepth 8000 in
theorem s99_p {d : Nat} {Q : Option AV → XH → Prop} {G : XS} {s : ZS} {W U V : Int} {B : ZS} {N R T : Int} {k i v : Int} (hd : 6 ≤ d) (hg : LOK G W U V) (hv : CV s W B N R T) (hb : OKB B N) (hn : 0 ≤ N ∧ N ≤ 40 ∧ 0 ≤ R ∧ R ≤ 10 ∧ 0 ≤ T ∧ T ≤ 20000) (hk : 0 ≤ k ∧ k < 6) (hs : -1 ≤ s (160 + 2 * k) 1 ∧ s (160 + 2 * k) 1 ≤ 4) (hl : 0 ≤ s (160 + 2 * k) 2 ∧ s (160 + 2 * k) 2 ≤ 60) (ii : ir i) (q : s (160 + 2 * k) 1 ≠ -1) (q2 : ¬(0 ≤ i ∧ i < s (160 + 2 * k) 2)) : Call d 99 [zrf 0, zint k, zint i, zlng v] (G, s) Q = Q (some (zint (-13))) (G, s) := by
  have hg' := hg
  obtain ⟨g1, g2, g3, g4, g5, g6, hw, hu, hx, g7, g8, g9, g10, g11, g12⟩ := hg'
  have hw' := hw
  obtain ⟨w1, w2, w3, w4, w5, w6, w7, w8, w9, w10, w11, w12, w13, w14, w15, w16, w17, w18, w19, w20, w21, w22, w23, w24, w25⟩ := hw'
  have hv' := hv
  obtain ⟨v1, v2, v3, vB⟩ := hv'
  have kt := g11 k hk
  obtain ⟨t1, t2, t3, t4⟩ := id kt
  have g10k := g10 k hk
  rw [e99 (show 1 ≤ d by omega)]
  simp (disch := first | omega | exact rfl) only [↓u99_0, ↓u99_1, ↓u99_2, ↓u99_5, ↓u99_7, ↓u99_9, ↓u99_12, ↓u99_13, ↓u99_14, ↓u99_16, ↓u99_19, ↓u99_20, ↓u99_23, ↓u99_25, ↓u99_26, ↓u99_27, ↓u99_28, ↓u99_30, ↓u99_33, ↓u99_34, ↓u99_35, ↓u99_38, ↓u99_41, ↓u99_43, ↓u99_44, ↓u99_46, ↓u99_49, ↓u99_50, ↓u99_52, ↓u99_53, ↓u99_56, ↓u99_57, ↓u99_58, ↓lI_0, ↓lI_s, ↓lL_0, ↓lL_s, ↓lR_0, ↓lR_s, ↓sT_0, ↓sT_i, ↓sT_r, ↓sT_u, ↓sT_lu, ↓sU_0, ↓sU_i, ↓sU_r, ↓sU_u, ↓ite_bx, bx_T, bx_F, bx_pos, bx_neg, zws_i, zws_r, zws_l, zws_n, zCb_kc, xl_ll, xr_rr, xs_e, xset_e, Option.toList, List.cons_append, List.nil_append, zIb_e, zrng_e, nz_e, if_pos, if_neg, and_true, true_and, or_true, true_or, ite_self, bi_eq0, bi_eq1, bi_1, bi_0, bi_ir, bi_T, bi_F, up_eq, up_ne, ↓reduceIte, reduceIte, Nat.reduceAdd, Nat.reduceLeDiff, Nat.le_refl, Nat.zero_le, not_true_eq_false, not_false_eq_true, ne_eq, Int.reduceEq, Int.reduceLT, Int.reduceLE, Int.reduceAdd, Int.reduceSub, Int.reduceMul, Int.reduceNeg, pT g1, g2, g3, g4, g5, g6, pT w1, w2, pT w3, w4, w5, w6, v1, v2, v3, vB, s102_y (show 5 ≤ d - 1 by omega) hg hv hb hn hk, s103, pT t1, t2, pT t3, t4]
set_option maxRecDepth 8000 in
theorem s99_y {d : Nat} {Q : Option AV → XH → Prop} {G : XS} {s : ZS} {W U V : Int} {B : ZS} {N R T : Int} {k i v : Int} (hd : 6 ≤ d) (hg : LOK G W U V) (hv : CV s W B N R T) (hb : OKB B N) (hn : 0 ≤ N ∧ N ≤ 40 ∧ 0 ≤ R ∧ R ≤ 10 ∧ 0 ≤ T ∧ T ≤ 20000) (hk : 0 ≤ k ∧ k < 6) (hs : -1 ≤ s (160 + 2 * k) 1 ∧ s (160 + 2 * k) 1 ≤ 4) (hl : 0 ≤ s (160 + 2 * k) 2 ∧ s (160 + 2 * k) 2 ≤ 60) (q : s (160 + 2 * k) 1 ≠ -1) (q2 : 0 ≤ i ∧ i < s (160 + 2 * k) 2) (jv : jr v) : Call d 99 [zrf 0, zint k, zint i, zlng v] (G, s) Q = Q (some (zint 1)) (G, up s (160 + 2 * k + 1) i (lb (s (160 + 2 * k) 1) v)) := by
  have hg' := hg
  obtain ⟨g1, g2, g3, g4, g5, g6, hw, hu, hx, g7, g8, g9, g10, g11, g12⟩ := hg'
  have hw' := hw
  obtain ⟨w1, w2, w3, w4, w5, w6, w7, w8, w9, w10, w11, w12, w13, w14, w15, w16, w17, w18, w19, w20, w21, w22, w23, w24, w25⟩ := hw'
  have hv' := hv
  obtain ⟨v1, v2, v3, vB⟩ := hv'
  have kt := g11 k hk
  obtain ⟨t1, t2, t3, t4⟩ := id kt
  have g10k := g10 k hk
  rw [e99 (show 1 ≤ d by omega)]
  simp (disch := first | omega | exact rfl) only [↓u99_0, ↓u99_1, ↓u99_2, ↓u99_5, ↓u99_7, ↓u99_9, ↓u99_12, ↓u99_13, ↓u99_14, ↓u99_16, ↓u99_19, ↓u99_20, ↓u99_23, ↓u99_25, ↓u99_26, ↓u99_27, ↓u99_28, ↓u99_30, ↓u99_33, ↓u99_34, ↓u99_35, ↓u99_38, ↓u99_41, ↓u99_43, ↓u99_44, ↓u99_46, ↓u99_49, ↓u99_50, ↓u99_52, ↓u99_53, ↓u99_56, ↓u99_57, ↓u99_58, ↓lI_0, ↓lI_s, ↓lL_0, ↓lL_s, ↓lR_0, ↓lR_s, ↓sT_0, ↓sT_i, ↓sT_r, ↓sT_u, ↓sT_lu, ↓sU_0, ↓sU_i, ↓sU_r, ↓sU_u, ↓ite_bx, bx_T, bx_F, bx_pos, bx_neg, zws_i, zws_r, zws_l, zws_n, zCb_kc, xl_ll, xr_rr, xs_e, xset_e, Option.toList, List.cons_append, List.nil_append, zIb_e, zrng_e, nz_e, if_pos, if_neg, and_true, true_and, or_true, true_or, ite_self, bi_eq0, bi_eq1, bi_1, bi_0, bi_ir, bi_T, bi_F, up_eq, up_ne, ↓reduceIte, reduceIte, Nat.reduceAdd, Nat.reduceLeDiff, Nat.le_refl, Nat.zero_le, not_true_eq_false, not_false_eq_true, ne_eq, Int.reduceEq, Int.reduceLT, Int.reduceLE, Int.reduceAdd, Int.reduceSub, Int.reduceMul, Int.reduceNeg, pT g1, g2, g3, g4, g5, g6, pT w1, w2, pT w3, w4, w5, w6, v1, v2, v3, vB, s102_y (show 5 ≤ d - 1 by omega) hg hv hb hn hk, s103, s33 (show 1 ≤ d - 1 by omega) kt (show 0 ≤ s (160 + 2 * k) 1 ∧ s (160 + 2 * k) 1 ≤ 4 by omega) jv, pT t1, t2, pT t3, t4]
set_option maxRecDepth 8000 in
theorem s100_n {d : Nat} {Q : Option AV → XH → Prop} {G : XS} {s : ZS} {W U V : Int} {B : ZS} {N R T : Int} {k i : Int} (hd : 6 ≤ d) (hg : LOK G W U V) (hv : CV s W B N R T) (hb : OKB B N) (hn : 0 ≤ N ∧ N ≤ 40 ∧ 0 ≤ R ∧ R ≤ 10 ∧ 0 ≤ T ∧ T ≤ 20000) (ik : ir k) (hk : ¬(0 ≤ k ∧ k < 6)) : Call d 100 [zrf 0, zint k, zint i] (G, s) Q = Q (some (zlng (-9223372036854775808))) (G, s) := by
  have hg' := hg
  obtain ⟨g1, g2, g3, g4, g5, g6, hw, hu, hx, g7, g8, g9, g10, g11, g12⟩ := hg'
  have hw' := hw
  obtain ⟨w1, w2, w3, w4, w5, w6, w7, w8, w9, w10, w11, w12, w13, w14, w15, w16, w17, w18, w19, w20, w21, w22, w23, w24, w25⟩ := hw'
  have hv' := hv
  obtain ⟨v1, v2, v3, vB⟩ := hv'
  rw [e100 (show 1 ≤ d by omega)]
  simp (disch := first | omega | exact rfl) only [↓u100_0, ↓u100_1, ↓u100_2, ↓u100_5, ↓u100_6, ↓u100_7, ↓u100_10, ↓u100_11, ↓u100_12, ↓u100_13, ↓u100_16, ↓u100_17, ↓u100_18, ↓u100_21, ↓u100_24, ↓u100_27, ↓u100_28, ↓u100_29, ↓u100_32, ↓u100_33, ↓u100_34, ↓lI_0, ↓lI_s, ↓lL_0, ↓lL_s, ↓lR_0, ↓lR_s, ↓sT_0, ↓sT_i, ↓sT_r, ↓sT_u, ↓sT_lu, ↓sU_0, ↓sU_i, ↓sU_r, ↓sU_u, ↓ite_bx, bx_T, bx_F, bx_pos, bx_neg, zws_i, zws_r, zws_l, zws_n, zCb_kc, xl_ll, xr_rr, xs_e, xset_e, Option.toList, List.cons_append, List.nil_append, zIb_e, zrng_e, nz_e, if_pos, if_neg, and_true, true_and, or_true, true_or, ite_self, bi_eq0, bi_eq1, bi_1, bi_0, bi_ir, bi_T, bi_F, up_eq, up_ne, ↓reduceIte, reduceIte, Nat.reduceAdd, Nat.reduceLeDiff, Nat.le_refl, Nat.zero_le, not_true_eq_false, not_false_eq_true, ne_eq, Int.reduceEq, Int.reduceLT, Int.reduceLE, Int.reduceAdd, Int.reduceSub, Int.reduceMul, Int.reduceNeg, pT g1, g2, g3, g4, g5, g6, pT w1, w2, pT w3, w4, w5, w6, v1, v2, v3, vB, s102_n (show 5 ≤ d - 1 by omega) hg hv hb hn ik hk]
set_option maxRecDepth 8000 in
theorem s100_p {d : Nat} {Q : Option AV → XH → Prop} {G : XS} {s : ZS} {W U V : Int} {B : ZS} {N R T : Int} {k i : Int} (hd : 6 ≤ d) (hg : LOK G W U V) (hv : CV s W B N R T) (hb : OKB B N) (hn : 0 ≤ N ∧ N ≤ 40 ∧ 0 ≤ R ∧ R ≤ 10 ∧ 0 ≤ T ∧ T ≤ 20000) (hk : 0 ≤ k ∧ k < 6) (hs : -1 ≤ s (160 + 2 * k) 1 ∧ s (160 + 2 * k) 1 ≤ 4) (hl : 0 ≤ s (160 + 2 * k) 2 ∧ s (160 + 2 * k) 2 ≤ 60) (ii : ir i) (q2 : ¬(0 ≤ i ∧ i < s (160 + 2 * k) 2)) : Call d 100 [zrf 0, zint k, zint i] (G, s) Q = Q (some (zlng (-9223372036854775808))) (G, s) := by
  have hg' := hg
  obtain ⟨g1, g2, g3, g4, g5, g6, hw, hu, hx, g7, g8, g9, g10, g11, g12⟩ := hg'
  have hw' := hw
  obtain ⟨w1, w2, w3, w4, w5, w6, w7, w8, w9, w10, w11, w12, w13, w14, w15, w16, w17, w18, w19, w20, w21, w22, w23, w24, w25⟩ := hw'
  have hv' := hv
  obtain ⟨v1, v2, v3, vB⟩ := hv'
  have kt := g11 k hk
  obtain ⟨t1, t2, t3, t4⟩ := id kt
  have g10k := g10 k hk
  rw [e100 (show 1 ≤ d by omega)]
  simp (disch := first | omega | exact rfl) only [↓u100_0, ↓u100_1, ↓u100_2, ↓u100_5, ↓u100_6, ↓u100_7, ↓u100_10, ↓u100_11, ↓u100_12, ↓u100_13, ↓u100_16, ↓u100_17, ↓u100_18, ↓u100_21, ↓u100_24, ↓u100_27, ↓u100_28, ↓u100_29, ↓u100_32, ↓u100_33, ↓u100_34, ↓lI_0, ↓lI_s, ↓lL_0, ↓lL_s, ↓lR_0, ↓lR_s, ↓sT_0, ↓sT_i, ↓sT_r, ↓sT_u, ↓sT_lu, ↓sU_0, ↓sU_i, ↓sU_r, ↓sU_u, ↓ite_bx, bx_T, bx_F, bx_pos, bx_neg, zws_i, zws_r, zws_l, zws_n, zCb_kc, xl_ll, xr_rr, xs_e, xset_e, Option.toList, List.cons_append, List.nil_append, zIb_e, zrng_e, nz_e, if_pos, if_neg, and_true, true_and, or_true, true_or, ite_self, bi_eq0, bi_eq1, bi_1, bi_0, bi_ir, bi_T, bi_F, up_eq, up_ne, ↓reduceIte, reduceIte, Nat.reduceAdd, Nat.reduceLeDiff, Nat.le_refl, Nat.zero_le, not_true_eq_false, not_false_eq_true, ne_eq, Int.reduceEq, Int.reduceLT, Int.reduceLE, Int.reduceAdd, Int.reduceSub, Int.reduceMul, Int.reduceNeg, pT g1, g2, g3, g4, g5, g6, pT w1, w2, pT w3, w4, w5, w6, v1, v2, v3, vB, s102_y (show 5 ≤ d - 1 by omega) hg hv hb hn hk, s103, pT t1, t2, pT t3, t4]
set_option maxRecDepth 8000 in
theorem s100_y {d : Nat} {Q : Option AV → XH → Prop} {G : XS} {s : ZS} {W U V : Int} {B : ZS} {N R T : Int} {k i : Int} (hd : 6 ≤ d) (hg : LOK G W U V) (hv : CV s W B N R T) (hb : OKB B N) (hn : 0 ≤ N ∧ N ≤ 40 ∧ 0 ≤ R ∧ R ≤ 10 ∧ 0 ≤ T ∧ T ≤ 20000) (hk : 0 ≤ k ∧ k < 6) (hs : -1 ≤ s (160 + 2 * k) 1 ∧ s (160 + 2 * k) 1 ≤ 4) (hl : 0 ≤ s (160 + 2 * k) 2 ∧ s (160 + 2 * k) 2 ≤ 60) (q2 : 0 ≤ i ∧ i < s (160 + 2 * k) 2) : Call d 100 [zrf 0, zint k, zint i] (G, s) Q = Q (some (zlng (s (160 + 2 * k + 1) i))) (G, s) := by
  have hg' := hg
  obtain ⟨g1, g2, g3, g4, g5, g6, hw, hu, hx, g7, g8, g9, g10, g11, g12⟩ := hg'
  have hw' := hw
  obtain ⟨w1, w2, w3, w4, w5, w6, w7, w8, w9, w10, w11, w12, w13, w14, w15, w16, w17, w18, w19, w20, w21, w22, w23, w24, w25⟩ := hw'
  have hv' := hv
  obtain ⟨v1, v2, v3, vB⟩ := hv'
  have kt := g11 k hk
  obtain ⟨t1, t2, t3, t4⟩ := id kt
  have g10k := g10 k hk
  rw [e100 (show 1 ≤ d by omega)]
  simp (disch := first | omega | exact rfl) only [↓u100_0, ↓u100_1, ↓u100_2, ↓u100_5, ↓u100_6, ↓u100_7, ↓u100_10, ↓u100_11, ↓u100_12, ↓u100_13, ↓u100_16, ↓u100_17, ↓u100_18, ↓u100_21, ↓u100_24, ↓u100_27, ↓u100_28, ↓u100_29, ↓u100_32, ↓u100_33, ↓u100_34, ↓lI_0, ↓lI_s, ↓lL_0, ↓lL_s, ↓lR_0, ↓lR_s, ↓sT_0, ↓sT_i, ↓sT_r, ↓sT_u, ↓sT_lu, ↓sU_0, ↓sU_i, ↓sU_r, ↓sU_u, ↓ite_bx, bx_T, bx_F, bx_pos, bx_neg, zws_i, zws_r, zws_l, zws_n, zCb_kc, xl_ll, xr_rr, xs_e, xset_e, Option.toList, List.cons_append, List.nil_append, zIb_e, zrng_e, nz_e, if_pos, if_neg, and_true, true_and, or_true, true_or, ite_self, bi_eq0, bi_eq1, bi_1, bi_0, bi_ir, bi_T, bi_F, up_eq, up_ne, ↓reduceIte, reduceIte, Nat.reduceAdd, Nat.reduceLeDiff, Nat.le_refl, Nat.zero_le, not_true_eq_false, not_false_eq_true, ne_eq, Int.reduceEq, Int.reduceLT, Int.reduceLE, Int.reduceAdd, Int.reduceSub, Int.reduceMul, Int.reduceNeg, pT g1, g2, g3, g4, g5, g6, pT w1, w2, pT w3, w4, w5, w6, v1, v2, v3, vB, s102_y (show 5 ≤ d - 1 by omega) hg hv hb hn hk, s103, pT t1, t2, pT t3, t4]
def cpx (s : ZS) (o dp n a sp : Int) : ZS := fun x j => if x = o ∧ dp ≤ j ∧ j < dp + n then s a (sp + (j - dp)) else s x j
set_option maxRecDepth 8000 in
theorem xcpy_e {G : XS} {s : ZS} {o dp n a sp : Int} : xcpy (G, s) o dp n a sp = (G, cpx s o dp n a sp) := rfl
set_option maxRecDepth 8000 in
theorem s101_n1 {d : Nat} {Q : Option AV → XH → Prop} {G : XS} {s : ZS} {W U V : Int} {B : ZS} {N R T : Int} {k i k2 j n : Int} (hd : 6 ≤ d) (hg : LOK G W U V) (hv : CV s W B N R T) (hb : OKB B N) (hn : 0 ≤ N ∧ N ≤ 40 ∧ 0 ≤ R ∧ R ≤ 10 ∧ 0 ≤ T ∧ T ≤ 20000) (ik : ir k) (hk : ¬(0 ≤ k ∧ k < 6)) (ik2 : ir k2) : Call d 101 [zrf 0, zint k, zint i, zint k2, zint j, zint n] (G, s) Q = Q (some (zint (-1))) (G, s) := by
  have hg' := hg
  obtain ⟨g1, g2, g3, g4, g5, g6, hw, hu, hx, g7, g8, g9, g10, g11, g12⟩ := hg'
  have hw' := hw
  obtain ⟨w1, w2, w3, w4, w5, w6, w7, w8, w9, w10, w11, w12, w13, w14, w15, w16, w17, w18, w19, w20, w21, w22, w23, w24, w25⟩ := hw'
  have hv' := hv
  obtain ⟨v1, v2, v3, vB⟩ := hv'
  rw [e101 (show 1 ≤ d by omega)]
  by_cases hk2 : 0 ≤ k2 ∧ k2 < 6
  · simp (disch := first | omega | exact rfl) only [↓u101_0, ↓u101_1, ↓u101_2, ↓u101_5, ↓u101_7, ↓u101_8, ↓u101_9, ↓u101_12, ↓u101_14, ↓u101_16, ↓u101_19, ↓u101_21, ↓u101_24, ↓u101_25, ↓u101_26, ↓u101_28, ↓u101_31, ↓u101_32, ↓u101_35, ↓u101_37, ↓u101_40, ↓u101_41, ↓u101_44, ↓u101_46, ↓u101_47, ↓u101_49, ↓u101_52, ↓u101_54, ↓u101_57, ↓u101_60, ↓u101_62, ↓u101_63, ↓u101_65, ↓u101_68, ↓u101_69, ↓u101_70, ↓u101_72, ↓u101_75, ↓u101_77, ↓u101_78, ↓u101_81, ↓u101_84, ↓u101_86, ↓u101_87, ↓u101_89, ↓u101_92, ↓u101_94, ↓u101_95, ↓u101_98, ↓u101_101, ↓u101_103, ↓u101_104, ↓u101_106, ↓u101_109, ↓u101_110, ↓u101_112, ↓u101_115, ↓u101_117, ↓u101_119, ↓u101_122, ↓u101_124, ↓lI_0, ↓lI_s, ↓lL_0, ↓lL_s, ↓lR_0, ↓lR_s, ↓sT_0, ↓sT_i, ↓sT_r, ↓sT_u, ↓sT_lu, ↓sU_0, ↓sU_i, ↓sU_r, ↓sU_u, ↓ite_bx, bx_T, bx_F, bx_pos, bx_neg, zws_i, zws_r, zws_l, zws_n, zCb_kc, xl_ll, xr_rr, xs_e, xset_e, Option.toList, List.cons_append, List.nil_append, zIb_e, zrng_e, nz_e, if_pos, if_neg, and_true, true_and, or_true, true_or, ite_self, bi_eq0, bi_eq1, bi_1, bi_0, bi_ir, bi_T, bi_F, up_eq, up_ne, ↓reduceIte, reduceIte, Nat.reduceAdd, Nat.reduceLeDiff, Nat.le_refl, Nat.zero_le, not_true_eq_false, not_false_eq_true, ne_eq, Int.reduceEq, Int.reduceLT, Int.reduceLE, Int.reduceAdd, Int.reduceSub, Int.reduceMul, Int.reduceNeg, pT g1, g2, g3, g4, g5, g6, pT w1, w2, pT w3, w4, w5, w6, v1, v2, v3, vB, s102_n (show 5 ≤ d - 1 by omega) hg hv hb hn ik hk, s102_y (show 5 ≤ d - 1 by omega) hg hv hb hn hk2]
  · simp (disch := first | omega | exact rfl) only [↓u101_0, ↓u101_1, ↓u101_2, ↓u101_5, ↓u101_7, ↓u101_8, ↓u101_9, ↓u101_12, ↓u101_14, ↓u101_16, ↓u101_19, ↓u101_21, ↓u101_24, ↓u101_25, ↓u101_26, ↓u101_28, ↓u101_31, ↓u101_32, ↓u101_35, ↓u101_37, ↓u101_40, ↓u101_41, ↓u101_44, ↓u101_46, ↓u101_47, ↓u101_49, ↓u101_52, ↓u101_54, ↓u101_57, ↓u101_60, ↓u101_62, ↓u101_63, ↓u101_65, ↓u101_68, ↓u101_69, ↓u101_70, ↓u101_72, ↓u101_75, ↓u101_77, ↓u101_78, ↓u101_81, ↓u101_84, ↓u101_86, ↓u101_87, ↓u101_89, ↓u101_92, ↓u101_94, ↓u101_95, ↓u101_98, ↓u101_101, ↓u101_103, ↓u101_104, ↓u101_106, ↓u101_109, ↓u101_110, ↓u101_112, ↓u101_115, ↓u101_117, ↓u101_119, ↓u101_122, ↓u101_124, ↓lI_0, ↓lI_s, ↓lL_0, ↓lL_s, ↓lR_0, ↓lR_s, ↓sT_0, ↓sT_i, ↓sT_r, ↓sT_u, ↓sT_lu, ↓sU_0, ↓sU_i, ↓sU_r, ↓sU_u, ↓ite_bx, bx_T, bx_F, bx_pos, bx_neg, zws_i, zws_r, zws_l, zws_n, zCb_kc, xl_ll, xr_rr, xs_e, xset_e, Option.toList, List.cons_append, List.nil_append, zIb_e, zrng_e, nz_e, if_pos, if_neg, and_true, true_and, or_true, true_or, ite_self, bi_eq0, bi_eq1, bi_1, bi_0, bi_ir, bi_T, bi_F, up_eq, up_ne, ↓reduceIte, reduceIte, Nat.reduceAdd, Nat.reduceLeDiff, Nat.le_refl, Nat.zero_le, not_true_eq_false, not_false_eq_true, ne_eq, Int.reduceEq, Int.reduceLT, Int.reduceLE, Int.reduceAdd, Int.reduceSub, Int.reduceMul, Int.reduceNeg, pT g1, g2, g3, g4, g5, g6, pT w1, w2, pT w3, w4, w5, w6, v1, v2, v3, vB, s102_n (show 5 ≤ d - 1 by omega) hg hv hb hn ik hk, s102_n (show 5 ≤ d - 1 by omega) hg hv hb hn ik2 hk2]
set_option maxRecDepth 8000 in
theorem s101_n2 {d : Nat} {Q : Option AV → XH → Prop} {G : XS} {s : ZS} {W U V : Int} {B : ZS} {N R T : Int} {k i k2 j n : Int} (hd : 6 ≤ d) (hg : LOK G W U V) (hv : CV s W B N R T) (hb : OKB B N) (hn : 0 ≤ N ∧ N ≤ 40 ∧ 0 ≤ R ∧ R ≤ 10 ∧ 0 ≤ T ∧ T ≤ 20000) (hk : 0 ≤ k ∧ k < 6) (ik2 : ir k2) (hk2 : ¬(0 ≤ k2 ∧ k2 < 6)) : Call d 101 [zrf 0, zint k, zint i, zint k2, zint j, zint n] (G, s) Q = Q (some (zint (-1))) (G, s) := by
  have hg' := hg
  obtain ⟨g1, g2, g3, g4, g5, g6, hw, hu, hx, g7, g8, g9, g10, g11, g12⟩ := hg'
  have hw' := hw
  obtain ⟨w1, w2, w3, w4, w5, w6, w7, w8, w9, w10, w11, w12, w13, w14, w15, w16, w17, w18, w19, w20, w21, w22, w23, w24, w25⟩ := hw'
  have hv' := hv
  obtain ⟨v1, v2, v3, vB⟩ := hv'
  have kt := g11 k hk
  obtain ⟨t1, t2, t3, t4⟩ := id kt
  have g10k := g10 k hk
  rw [e101 (show 1 ≤ d by omega)]
  simp (disch := first | omega | exact rfl) only [↓u101_0, ↓u101_1, ↓u101_2, ↓u101_5, ↓u101_7, ↓u101_8, ↓u101_9, ↓u101_12, ↓u101_14, ↓u101_16, ↓u101_19, ↓u101_21, ↓u101_24, ↓u101_25, ↓u101_26, ↓u101_28, ↓u101_31, ↓u101_32, ↓u101_35, ↓u101_37, ↓u101_40, ↓u101_41, ↓u101_44, ↓u101_46, ↓u101_47, ↓u101_49, ↓u101_52, ↓u101_54, ↓u101_57, ↓u101_60, ↓u101_62, ↓u101_63, ↓u101_65, ↓u101_68, ↓u101_69, ↓u101_70, ↓u101_72, ↓u101_75, ↓u101_77, ↓u101_78, ↓u101_81, ↓u101_84, ↓u101_86, ↓u101_87, ↓u101_89, ↓u101_92, ↓u101_94, ↓u101_95, ↓u101_98, ↓u101_101, ↓u101_103, ↓u101_104, ↓u101_106, ↓u101_109, ↓u101_110, ↓u101_112, ↓u101_115, ↓u101_117, ↓u101_119, ↓u101_122, ↓u101_124, ↓lI_0, ↓lI_s, ↓lL_0, ↓lL_s, ↓lR_0, ↓lR_s, ↓sT_0, ↓sT_i, ↓sT_r, ↓sT_u, ↓sT_lu, ↓sU_0, ↓sU_i, ↓sU_r, ↓sU_u, ↓ite_bx, bx_T, bx_F, bx_pos, bx_neg, zws_i, zws_r, zws_l, zws_n, zCb_kc, xl_ll, xr_rr, xs_e, xset_e, Option.toList, List.cons_append, List.nil_append, zIb_e, zrng_e, nz_e, if_pos, if_neg, and_true, true_and, or_true, true_or, ite_self, bi_eq0, bi_eq1, bi_1, bi_0, bi_ir, bi_T, bi_F, up_eq, up_ne, ↓reduceIte, reduceIte, Nat.reduceAdd, Nat.reduceLeDiff, Nat.le_refl, Nat.zero_le, not_true_eq_false, not_false_eq_true, ne_eq, Int.reduceEq, Int.reduceLT, Int.reduceLE, Int.reduceAdd, Int.reduceSub, Int.reduceMul, Int.reduceNeg, pT g1, g2, g3, g4, g5, g6, pT w1, w2, pT w3, w4, w5, w6, v1, v2, v3, vB, s102_y (show 5 ≤ d - 1 by omega) hg hv hb hn hk, s102_n (show 5 ≤ d - 1 by omega) hg hv hb hn ik2 hk2, pT t1, t2, pT t3, t4]
set_option maxRecDepth 8000 in
theorem s101_g {d : Nat} {Q : Option AV → XH → Prop} {G : XS} {s : ZS} {W U V : Int} {B : ZS} {N R T : Int} {k i k2 j n : Int} (hd : 6 ≤ d) (hg : LOK G W U V) (hv : CV s W B N R T) (hb : OKB B N) (hn : 0 ≤ N ∧ N ≤ 40 ∧ 0 ≤ R ∧ R ≤ 10 ∧ 0 ≤ T ∧ T ≤ 20000) (hk : 0 ≤ k ∧ k < 6) (hk2 : 0 ≤ k2 ∧ k2 < 6) (hs : -1 ≤ s (160 + 2 * k) 1 ∧ s (160 + 2 * k) 1 ≤ 4) (hl : 0 ≤ s (160 + 2 * k) 2 ∧ s (160 + 2 * k) 2 ≤ 60) (hs2 : -1 ≤ s (160 + 2 * k2) 1 ∧ s (160 + 2 * k2) 1 ≤ 4) (hl2 : 0 ≤ s (160 + 2 * k2) 2 ∧ s (160 + 2 * k2) 2 ≤ 60) (q : s (160 + 2 * k) 1 = -1 ∨ s (160 + 2 * k2) 1 = -1) : Call d 101 [zrf 0, zint k, zint i, zint k2, zint j, zint n] (G, s) Q = Q (some (zint (-11))) (G, s) := by
  have hg' := hg
  obtain ⟨g1, g2, g3, g4, g5, g6, hw, hu, hx, g7, g8, g9, g10, g11, g12⟩ := hg'
  have hw' := hw
  obtain ⟨w1, w2, w3, w4, w5, w6, w7, w8, w9, w10, w11, w12, w13, w14, w15, w16, w17, w18, w19, w20, w21, w22, w23, w24, w25⟩ := hw'
  have hv' := hv
  obtain ⟨v1, v2, v3, vB⟩ := hv'
  have kt := g11 k hk
  obtain ⟨t1, t2, t3, t4⟩ := id kt
  have g10k := g10 k hk
  have kt2 := g11 k2 hk2
  obtain ⟨a1, a2, a3, a4⟩ := id kt2
  rw [e101 (show 1 ≤ d by omega)]
  by_cases q0 : s (160 + 2 * k) 1 = -1
  · skip
    first
    | (exfalso; omega; done)
    | simp (disch := first | omega | exact rfl) only [↓u101_0, ↓u101_1, ↓u101_2, ↓u101_5, ↓u101_7, ↓u101_8, ↓u101_9, ↓u101_12, ↓u101_14, ↓u101_16, ↓u101_19, ↓u101_21, ↓u101_24, ↓u101_25, ↓u101_26, ↓u101_28, ↓u101_31, ↓u101_32, ↓u101_35, ↓u101_37, ↓u101_40, ↓u101_41, ↓u101_44, ↓u101_46, ↓u101_47, ↓u101_49, ↓u101_52, ↓u101_54, ↓u101_57, ↓u101_60, ↓u101_62, ↓u101_63, ↓u101_65, ↓u101_68, ↓u101_69, ↓u101_70, ↓u101_72, ↓u101_75, ↓u101_77, ↓u101_78, ↓u101_81, ↓u101_84, ↓u101_86, ↓u101_87, ↓u101_89, ↓u101_92, ↓u101_94, ↓u101_95, ↓u101_98, ↓u101_101, ↓u101_103, ↓u101_104, ↓u101_106, ↓u101_109, ↓u101_110, ↓u101_112, ↓u101_115, ↓u101_117, ↓u101_119, ↓u101_122, ↓u101_124, ↓lI_0, ↓lI_s, ↓lL_0, ↓lL_s, ↓lR_0, ↓lR_s, ↓sT_0, ↓sT_i, ↓sT_r, ↓sT_u, ↓sT_lu, ↓sU_0, ↓sU_i, ↓sU_r, ↓sU_u, ↓ite_bx, bx_T, bx_F, bx_pos, bx_neg, zws_i, zws_r, zws_l, zws_n, zCb_kc, xl_ll, xr_rr, xs_e, xset_e, Option.toList, List.cons_append, List.nil_append, zIb_e, zrng_e, nz_e, if_pos, if_neg, and_true, true_and, or_true, true_or, ite_self, bi_eq0, bi_eq1, bi_1, bi_0, bi_ir, bi_T, bi_F, up_eq, up_ne, ↓reduceIte, reduceIte, Nat.reduceAdd, Nat.reduceLeDiff, Nat.le_refl, Nat.zero_le, not_true_eq_false, not_false_eq_true, ne_eq, Int.reduceEq, Int.reduceLT, Int.reduceLE, Int.reduceAdd, Int.reduceSub, Int.reduceMul, Int.reduceNeg, pT g1, g2, g3, g4, g5, g6, pT w1, w2, pT w3, w4, w5, w6, v1, v2, v3, vB, s102_y (show 5 ≤ d - 1 by omega) hg hv hb hn hk, s102_y (show 5 ≤ d - 1 by omega) hg hv hb hn hk2, pT t1, t2, pT t3, t4, pT a1, a2, pT a3, a4]
  · skip
    first
    | (exfalso; omega; done)
    | simp (disch := first | omega | exact rfl) only [↓u101_0, ↓u101_1, ↓u101_2, ↓u101_5, ↓u101_7, ↓u101_8, ↓u101_9, ↓u101_12, ↓u101_14, ↓u101_16, ↓u101_19, ↓u101_21, ↓u101_24, ↓u101_25, ↓u101_26, ↓u101_28, ↓u101_31, ↓u101_32, ↓u101_35, ↓u101_37, ↓u101_40, ↓u101_41, ↓u101_44, ↓u101_46, ↓u101_47, ↓u101_49, ↓u101_52, ↓u101_54, ↓u101_57, ↓u101_60, ↓u101_62, ↓u101_63, ↓u101_65, ↓u101_68, ↓u101_69, ↓u101_70, ↓u101_72, ↓u101_75, ↓u101_77, ↓u101_78, ↓u101_81, ↓u101_84, ↓u101_86, ↓u101_87, ↓u101_89, ↓u101_92, ↓u101_94, ↓u101_95, ↓u101_98, ↓u101_101, ↓u101_103, ↓u101_104, ↓u101_106, ↓u101_109, ↓u101_110, ↓u101_112, ↓u101_115, ↓u101_117, ↓u101_119, ↓u101_122, ↓u101_124, ↓lI_0, ↓lI_s, ↓lL_0, ↓lL_s, ↓lR_0, ↓lR_s, ↓sT_0, ↓sT_i, ↓sT_r, ↓sT_u, ↓sT_lu, ↓sU_0, ↓sU_i, ↓sU_r, ↓sU_u, ↓ite_bx, bx_T, bx_F, bx_pos, bx_neg, zws_i, zws_r, zws_l, zws_n, zCb_kc, xl_ll, xr_rr, xs_e, xset_e, Option.toList, List.cons_append, List.nil_append, zIb_e, zrng_e, nz_e, if_pos, if_neg, and_true, true_and, or_true, true_or, ite_self, bi_eq0, bi_eq1, bi_1, bi_0, bi_ir, bi_T, bi_F, up_eq, up_ne, ↓reduceIte, reduceIte, Nat.reduceAdd, Nat.reduceLeDiff, Nat.le_refl, Nat.zero_le, not_true_eq_false, not_false_eq_true, ne_eq, Int.reduceEq, Int.reduceLT, Int.reduceLE, Int.reduceAdd, Int.reduceSub, Int.reduceMul, Int.reduceNeg, pT g1, g2, g3, g4, g5, g6, pT w1, w2, pT w3, w4, w5, w6, v1, v2, v3, vB, s102_y (show 5 ≤ d - 1 by omega) hg hv hb hn hk, s102_y (show 5 ≤ d - 1 by omega) hg hv hb hn hk2, pT t1, t2, pT t3, t4, pT a1, a2, pT a3, a4]
set_option maxRecDepth 8000 in
theorem s101_c {d : Nat} {Q : Option AV → XH → Prop} {G : XS} {s : ZS} {W U V : Int} {B : ZS} {N R T : Int} {k i k2 j n : Int} (hd : 6 ≤ d) (hg : LOK G W U V) (hv : CV s W B N R T) (hb : OKB B N) (hn : 0 ≤ N ∧ N ≤ 40 ∧ 0 ≤ R ∧ R ≤ 10 ∧ 0 ≤ T ∧ T ≤ 20000) (hk : 0 ≤ k ∧ k < 6) (hk2 : 0 ≤ k2 ∧ k2 < 6) (hs : -1 ≤ s (160 + 2 * k) 1 ∧ s (160 + 2 * k) 1 ≤ 4) (hl : 0 ≤ s (160 + 2 * k) 2 ∧ s (160 + 2 * k) 2 ≤ 60) (hs2 : -1 ≤ s (160 + 2 * k2) 1 ∧ s (160 + 2 * k2) 1 ≤ 4) (hl2 : 0 ≤ s (160 + 2 * k2) 2 ∧ s (160 + 2 * k2) 2 ≤ 60) (q : s (160 + 2 * k) 1 ≠ -1 ∧ s (160 + 2 * k2) 1 ≠ -1) (q2 : s (160 + 2 * k) 1 ≠ s (160 + 2 * k2) 1) : Call d 101 [zrf 0, zint k, zint i, zint k2, zint j, zint n] (G, s) Q = Q (some (zint (-12))) (G, s) := by
  have hg' := hg
  obtain ⟨g1, g2, g3, g4, g5, g6, hw, hu, hx, g7, g8, g9, g10, g11, g12⟩ := hg'
  have hw' := hw
  obtain ⟨w1, w2, w3, w4, w5, w6, w7, w8, w9, w10, w11, w12, w13, w14, w15, w16, w17, w18, w19, w20, w21, w22, w23, w24, w25⟩ := hw'
  have hv' := hv
  obtain ⟨v1, v2, v3, vB⟩ := hv'
  have kt := g11 k hk
  obtain ⟨t1, t2, t3, t4⟩ := id kt
  have g10k := g10 k hk
  have kt2 := g11 k2 hk2
  obtain ⟨a1, a2, a3, a4⟩ := id kt2
  rw [e101 (show 1 ≤ d by omega)]
  simp (disch := first | omega | exact rfl) only [↓u101_0, ↓u101_1, ↓u101_2, ↓u101_5, ↓u101_7, ↓u101_8, ↓u101_9, ↓u101_12, ↓u101_14, ↓u101_16, ↓u101_19, ↓u101_21, ↓u101_24, ↓u101_25, ↓u101_26, ↓u101_28, ↓u101_31, ↓u101_32, ↓u101_35, ↓u101_37, ↓u101_40, ↓u101_41, ↓u101_44, ↓u101_46, ↓u101_47, ↓u101_49, ↓u101_52, ↓u101_54, ↓u101_57, ↓u101_60, ↓u101_62, ↓u101_63, ↓u101_65, ↓u101_68, ↓u101_69, ↓u101_70, ↓u101_72, ↓u101_75, ↓u101_77, ↓u101_78, ↓u101_81, ↓u101_84, ↓u101_86, ↓u101_87, ↓u101_89, ↓u101_92, ↓u101_94, ↓u101_95, ↓u101_98, ↓u101_101, ↓u101_103, ↓u101_104, ↓u101_106, ↓u101_109, ↓u101_110, ↓u101_112, ↓u101_115, ↓u101_117, ↓u101_119, ↓u101_122, ↓u101_124, ↓lI_0, ↓lI_s, ↓lL_0, ↓lL_s, ↓lR_0, ↓lR_s, ↓sT_0, ↓sT_i, ↓sT_r, ↓sT_u, ↓sT_lu, ↓sU_0, ↓sU_i, ↓sU_r, ↓sU_u, ↓ite_bx, bx_T, bx_F, bx_pos, bx_neg, zws_i, zws_r, zws_l, zws_n, zCb_kc, xl_ll, xr_rr, xs_e, xset_e, Option.toList, List.cons_append, List.nil_append, zIb_e, zrng_e, nz_e, if_pos, if_neg, and_true, true_and, or_true, true_or, ite_self, bi_eq0, bi_eq1, bi_1, bi_0, bi_ir, bi_T, bi_F, up_eq, up_ne, ↓reduceIte, reduceIte, Nat.reduceAdd, Nat.reduceLeDiff, Nat.le_refl, Nat.zero_le, not_true_eq_false, not_false_eq_true, ne_eq, Int.reduceEq, Int.reduceLT, Int.reduceLE, Int.reduceAdd, Int.reduceSub, Int.reduceMul, Int.reduceNeg, pT g1, g2, g3, g4, g5, g6, pT w1, w2, pT w3, w4, w5, w6, v1, v2, v3, vB, s102_y (show 5 ≤ d - 1 by omega) hg hv hb hn hk, s102_y (show 5 ≤ d - 1 by omega) hg hv hb hn hk2, pT t1, t2, pT t3, t4, pT a1, a2, pT a3, a4]
set_option maxRecDepth 8000 in
theorem s101_p {d : Nat} {Q : Option AV → XH → Prop} {G : XS} {s : ZS} {W U V : Int} {B : ZS} {N R T : Int} {k i k2 j n : Int} (hd : 6 ≤ d) (hg : LOK G W U V) (hv : CV s W B N R T) (hb : OKB B N) (hn : 0 ≤ N ∧ N ≤ 40 ∧ 0 ≤ R ∧ R ≤ 10 ∧ 0 ≤ T ∧ T ≤ 20000) (hk : 0 ≤ k ∧ k < 6) (hk2 : 0 ≤ k2 ∧ k2 < 6) (hs : -1 ≤ s (160 + 2 * k) 1 ∧ s (160 + 2 * k) 1 ≤ 4) (hl : 0 ≤ s (160 + 2 * k) 2 ∧ s (160 + 2 * k) 2 ≤ 60) (hs2 : -1 ≤ s (160 + 2 * k2) 1 ∧ s (160 + 2 * k2) 1 ≤ 4) (hl2 : 0 ≤ s (160 + 2 * k2) 2 ∧ s (160 + 2 * k2) 2 ≤ 60) (q : s (160 + 2 * k) 1 ≠ -1 ∧ s (160 + 2 * k2) 1 ≠ -1) (q2 : s (160 + 2 * k) 1 = s (160 + 2 * k2) 1) (ii : ir i) (ij : ir j) (i1 : ir n) (q3 : ¬(((0 ≤ n ∧ 0 ≤ i) ∧ 0 ≤ j) ∧ i ≤ s (160 + 2 * k) 2 - n ∧ j ≤ s (160 + 2 * k2) 2 - n)) : Call d 101 [zrf 0, zint k, zint i, zint k2, zint j, zint n] (G, s) Q = Q (some (zint (-13))) (G, s) := by
  have hg' := hg
  obtain ⟨g1, g2, g3, g4, g5, g6, hw, hu, hx, g7, g8, g9, g10, g11, g12⟩ := hg'
  have hw' := hw
  obtain ⟨w1, w2, w3, w4, w5, w6, w7, w8, w9, w10, w11, w12, w13, w14, w15, w16, w17, w18, w19, w20, w21, w22, w23, w24, w25⟩ := hw'
  have hv' := hv
  obtain ⟨v1, v2, v3, vB⟩ := hv'
  have kt := g11 k hk
  obtain ⟨t1, t2, t3, t4⟩ := id kt
  have g10k := g10 k hk
  have kt2 := g11 k2 hk2
  obtain ⟨a1, a2, a3, a4⟩ := id kt2
  rw [e101 (show 1 ≤ d by omega)]
  by_cases q0 : n < 0
  · skip
    by_cases q1 : 0 ≤ i ∧ i ≤ s (160 + 2 * k) 2 - n
    · skip
      first
      | (exfalso; omega; done)
      | simp (disch := first | omega | exact rfl) only [↓u101_0, ↓u101_1, ↓u101_2, ↓u101_5, ↓u101_7, ↓u101_8, ↓u101_9, ↓u101_12, ↓u101_14, ↓u101_16, ↓u101_19, ↓u101_21, ↓u101_24, ↓u101_25, ↓u101_26, ↓u101_28, ↓u101_31, ↓u101_32, ↓u101_35, ↓u101_37, ↓u101_40, ↓u101_41, ↓u101_44, ↓u101_46, ↓u101_47, ↓u101_49, ↓u101_52, ↓u101_54, ↓u101_57, ↓u101_60, ↓u101_62, ↓u101_63, ↓u101_65, ↓u101_68, ↓u101_69, ↓u101_70, ↓u101_72, ↓u101_75, ↓u101_77, ↓u101_78, ↓u101_81, ↓u101_84, ↓u101_86, ↓u101_87, ↓u101_89, ↓u101_92, ↓u101_94, ↓u101_95, ↓u101_98, ↓u101_101, ↓u101_103, ↓u101_104, ↓u101_106, ↓u101_109, ↓u101_110, ↓u101_112, ↓u101_115, ↓u101_117, ↓u101_119, ↓u101_122, ↓u101_124, ↓lI_0, ↓lI_s, ↓lL_0, ↓lL_s, ↓lR_0, ↓lR_s, ↓sT_0, ↓sT_i, ↓sT_r, ↓sT_u, ↓sT_lu, ↓sU_0, ↓sU_i, ↓sU_r, ↓sU_u, ↓ite_bx, bx_T, bx_F, bx_pos, bx_neg, zws_i, zws_r, zws_l, zws_n, zCb_kc, xl_ll, xr_rr, xs_e, xset_e, Option.toList, List.cons_append, List.nil_append, zIb_e, zrng_e, nz_e, if_pos, if_neg, and_true, true_and, or_true, true_or, ite_self, bi_eq0, bi_eq1, bi_1, bi_0, bi_ir, bi_T, bi_F, up_eq, up_ne, ↓reduceIte, reduceIte, Nat.reduceAdd, Nat.reduceLeDiff, Nat.le_refl, Nat.zero_le, not_true_eq_false, not_false_eq_true, ne_eq, Int.reduceEq, Int.reduceLT, Int.reduceLE, Int.reduceAdd, Int.reduceSub, Int.reduceMul, Int.reduceNeg, pT g1, g2, g3, g4, g5, g6, pT w1, w2, pT w3, w4, w5, w6, v1, v2, v3, vB, s103, s102_y (show 5 ≤ d - 1 by omega) hg hv hb hn hk, s102_y (show 5 ≤ d - 1 by omega) hg hv hb hn hk2, pT t1, t2, pT t3, t4, pT a1, a2, pT a3, a4]
    · skip
      first
      | (exfalso; omega; done)
      | simp (disch := first | omega | exact rfl) only [↓u101_0, ↓u101_1, ↓u101_2, ↓u101_5, ↓u101_7, ↓u101_8, ↓u101_9, ↓u101_12, ↓u101_14, ↓u101_16, ↓u101_19, ↓u101_21, ↓u101_24, ↓u101_25, ↓u101_26, ↓u101_28, ↓u101_31, ↓u101_32, ↓u101_35, ↓u101_37, ↓u101_40, ↓u101_41, ↓u101_44, ↓u101_46, ↓u101_47, ↓u101_49, ↓u101_52, ↓u101_54, ↓u101_57, ↓u101_60, ↓u101_62, ↓u101_63, ↓u101_65, ↓u101_68, ↓u101_69, ↓u101_70, ↓u101_72, ↓u101_75, ↓u101_77, ↓u101_78, ↓u101_81, ↓u101_84, ↓u101_86, ↓u101_87, ↓u101_89, ↓u101_92, ↓u101_94, ↓u101_95, ↓u101_98, ↓u101_101, ↓u101_103, ↓u101_104, ↓u101_106, ↓u101_109, ↓u101_110, ↓u101_112, ↓u101_115, ↓u101_117, ↓u101_119, ↓u101_122, ↓u101_124, ↓lI_0, ↓lI_s, ↓lL_0, ↓lL_s, ↓lR_0, ↓lR_s, ↓sT_0, ↓sT_i, ↓sT_r, ↓sT_u, ↓sT_lu, ↓sU_0, ↓sU_i, ↓sU_r, ↓sU_u, ↓ite_bx, bx_T, bx_F, bx_pos, bx_neg, zws_i, zws_r, zws_l, zws_n, zCb_kc, xl_ll, xr_rr, xs_e, xset_e, Option.toList, List.cons_append, List.nil_append, zIb_e, zrng_e, nz_e, if_pos, if_neg, and_true, true_and, or_true, true_or, ite_self, bi_eq0, bi_eq1, bi_1, bi_0, bi_ir, bi_T, bi_F, up_eq, up_ne, ↓reduceIte, reduceIte, Nat.reduceAdd, Nat.reduceLeDiff, Nat.le_refl, Nat.zero_le, not_true_eq_false, not_false_eq_true, ne_eq, Int.reduceEq, Int.reduceLT, Int.reduceLE, Int.reduceAdd, Int.reduceSub, Int.reduceMul, Int.reduceNeg, pT g1, g2, g3, g4, g5, g6, pT w1, w2, pT w3, w4, w5, w6, v1, v2, v3, vB, s103, s102_y (show 5 ≤ d - 1 by omega) hg hv hb hn hk, s102_y (show 5 ≤ d - 1 by omega) hg hv hb hn hk2, pT t1, t2, pT t3, t4, pT a1, a2, pT a3, a4]
  · skip
    by_cases q1 : 0 ≤ i ∧ i ≤ s (160 + 2 * k) 2 - n
    · skip
      first
      | (exfalso; omega; done)
      | simp (disch := first | omega | exact rfl) only [↓u101_0, ↓u101_1, ↓u101_2, ↓u101_5, ↓u101_7, ↓u101_8, ↓u101_9, ↓u101_12, ↓u101_14, ↓u101_16, ↓u101_19, ↓u101_21, ↓u101_24, ↓u101_25, ↓u101_26, ↓u101_28, ↓u101_31, ↓u101_32, ↓u101_35, ↓u101_37, ↓u101_40, ↓u101_41, ↓u101_44, ↓u101_46, ↓u101_47, ↓u101_49, ↓u101_52, ↓u101_54, ↓u101_57, ↓u101_60, ↓u101_62, ↓u101_63, ↓u101_65, ↓u101_68, ↓u101_69, ↓u101_70, ↓u101_72, ↓u101_75, ↓u101_77, ↓u101_78, ↓u101_81, ↓u101_84, ↓u101_86, ↓u101_87, ↓u101_89, ↓u101_92, ↓u101_94, ↓u101_95, ↓u101_98, ↓u101_101, ↓u101_103, ↓u101_104, ↓u101_106, ↓u101_109, ↓u101_110, ↓u101_112, ↓u101_115, ↓u101_117, ↓u101_119, ↓u101_122, ↓u101_124, ↓lI_0, ↓lI_s, ↓lL_0, ↓lL_s, ↓lR_0, ↓lR_s, ↓sT_0, ↓sT_i, ↓sT_r, ↓sT_u, ↓sT_lu, ↓sU_0, ↓sU_i, ↓sU_r, ↓sU_u, ↓ite_bx, bx_T, bx_F, bx_pos, bx_neg, zws_i, zws_r, zws_l, zws_n, zCb_kc, xl_ll, xr_rr, xs_e, xset_e, Option.toList, List.cons_append, List.nil_append, zIb_e, zrng_e, nz_e, if_pos, if_neg, and_true, true_and, or_true, true_or, ite_self, bi_eq0, bi_eq1, bi_1, bi_0, bi_ir, bi_T, bi_F, up_eq, up_ne, ↓reduceIte, reduceIte, Nat.reduceAdd, Nat.reduceLeDiff, Nat.le_refl, Nat.zero_le, not_true_eq_false, not_false_eq_true, ne_eq, Int.reduceEq, Int.reduceLT, Int.reduceLE, Int.reduceAdd, Int.reduceSub, Int.reduceMul, Int.reduceNeg, pT g1, g2, g3, g4, g5, g6, pT w1, w2, pT w3, w4, w5, w6, v1, v2, v3, vB, s103, s102_y (show 5 ≤ d - 1 by omega) hg hv hb hn hk, s102_y (show 5 ≤ d - 1 by omega) hg hv hb hn hk2, pT t1, t2, pT t3, t4, pT a1, a2, pT a3, a4]
    · skip
      first
      | (exfalso; omega; done)
      | simp (disch := first | omega | exact rfl) only [↓u101_0, ↓u101_1, ↓u101_2, ↓u101_5, ↓u101_7, ↓u101_8, ↓u101_9, ↓u101_12, ↓u101_14, ↓u101_16, ↓u101_19, ↓u101_21, ↓u101_24, ↓u101_25, ↓u101_26, ↓u101_28, ↓u101_31, ↓u101_32, ↓u101_35, ↓u101_37, ↓u101_40, ↓u101_41, ↓u101_44, ↓u101_46, ↓u101_47, ↓u101_49, ↓u101_52, ↓u101_54, ↓u101_57, ↓u101_60, ↓u101_62, ↓u101_63, ↓u101_65, ↓u101_68, ↓u101_69, ↓u101_70, ↓u101_72, ↓u101_75, ↓u101_77, ↓u101_78, ↓u101_81, ↓u101_84, ↓u101_86, ↓u101_87, ↓u101_89, ↓u101_92, ↓u101_94, ↓u101_95, ↓u101_98, ↓u101_101, ↓u101_103, ↓u101_104, ↓u101_106, ↓u101_109, ↓u101_110, ↓u101_112, ↓u101_115, ↓u101_117, ↓u101_119, ↓u101_122, ↓u101_124, ↓lI_0, ↓lI_s, ↓lL_0, ↓lL_s, ↓lR_0, ↓lR_s, ↓sT_0, ↓sT_i, ↓sT_r, ↓sT_u, ↓sT_lu, ↓sU_0, ↓sU_i, ↓sU_r, ↓sU_u, ↓ite_bx, bx_T, bx_F, bx_pos, bx_neg, zws_i, zws_r, zws_l, zws_n, zCb_kc, xl_ll, xr_rr, xs_e, xset_e, Option.toList, List.cons_append, List.nil_append, zIb_e, zrng_e, nz_e, if_pos, if_neg, and_true, true_and, or_true, true_or, ite_self, bi_eq0, bi_eq1, bi_1, bi_0, bi_ir, bi_T, bi_F, up_eq, up_ne, ↓reduceIte, reduceIte, Nat.reduceAdd, Nat.reduceLeDiff, Nat.le_refl, Nat.zero_le, not_true_eq_false, not_false_eq_true, ne_eq, Int.reduceEq, Int.reduceLT, Int.reduceLE, Int.reduceAdd, Int.reduceSub, Int.reduceMul, Int.reduceNeg, pT g1, g2, g3, g4, g5, g6, pT w1, w2, pT w3, w4, w5, w6, v1, v2, v3, vB, s103, s102_y (show 5 ≤ d - 1 by omega) hg hv hb hn hk, s102_y (show 5 ≤ d - 1 by omega) hg hv hb hn hk2, pT t1, t2, pT t3, t4, pT a1, a2, pT a3, a4]
set_option maxRecDepth 8000 in
theorem s101_y {d : Nat} {Q : Option AV → XH → Prop} {G : XS} {s : ZS} {W U V : Int} {B : ZS} {N R T : Int} {k i k2 j n : Int} (hd : 6 ≤ d) (hg : LOK G W U V) (hv : CV s W B N R T) (hb : OKB B N) (hn : 0 ≤ N ∧ N ≤ 40 ∧ 0 ≤ R ∧ R ≤ 10 ∧ 0 ≤ T ∧ T ≤ 20000) (hk : 0 ≤ k ∧ k < 6) (hk2 : 0 ≤ k2 ∧ k2 < 6) (hs : -1 ≤ s (160 + 2 * k) 1 ∧ s (160 + 2 * k) 1 ≤ 4) (hl : 0 ≤ s (160 + 2 * k) 2 ∧ s (160 + 2 * k) 2 ≤ 60) (hs2 : -1 ≤ s (160 + 2 * k2) 1 ∧ s (160 + 2 * k2) 1 ≤ 4) (hl2 : 0 ≤ s (160 + 2 * k2) 2 ∧ s (160 + 2 * k2) 2 ≤ 60) (q : s (160 + 2 * k) 1 ≠ -1 ∧ s (160 + 2 * k2) 1 ≠ -1) (q2 : s (160 + 2 * k) 1 = s (160 + 2 * k2) 1) (q3 : (((0 ≤ n ∧ 0 ≤ i) ∧ 0 ≤ j) ∧ i ≤ s (160 + 2 * k) 2 - n ∧ j ≤ s (160 + 2 * k2) 2 - n)) : Call d 101 [zrf 0, zint k, zint i, zint k2, zint j, zint n] (G, s) Q = Q (some (zint n)) (G, cpx s (160 + 2 * k2 + 1) j n (160 + 2 * k + 1) i) := by
  have hg' := hg
  obtain ⟨g1, g2, g3, g4, g5, g6, hw, hu, hx, g7, g8, g9, g10, g11, g12⟩ := hg'
  have hw' := hw
  obtain ⟨w1, w2, w3, w4, w5, w6, w7, w8, w9, w10, w11, w12, w13, w14, w15, w16, w17, w18, w19, w20, w21, w22, w23, w24, w25⟩ := hw'
  have hv' := hv
  obtain ⟨v1, v2, v3, vB⟩ := hv'
  have kt := g11 k hk
  obtain ⟨t1, t2, t3, t4⟩ := id kt
  have g10k := g10 k hk
  have kt2 := g11 k2 hk2
  obtain ⟨a1, a2, a3, a4⟩ := id kt2
  rw [e101 (show 1 ≤ d by omega)]
  simp (disch := first | omega | exact rfl) only [↓u101_0, ↓u101_1, ↓u101_2, ↓u101_5, ↓u101_7, ↓u101_8, ↓u101_9, ↓u101_12, ↓u101_14, ↓u101_16, ↓u101_19, ↓u101_21, ↓u101_24, ↓u101_25, ↓u101_26, ↓u101_28, ↓u101_31, ↓u101_32, ↓u101_35, ↓u101_37, ↓u101_40, ↓u101_41, ↓u101_44, ↓u101_46, ↓u101_47, ↓u101_49, ↓u101_52, ↓u101_54, ↓u101_57, ↓u101_60, ↓u101_62, ↓u101_63, ↓u101_65, ↓u101_68, ↓u101_69, ↓u101_70, ↓u101_72, ↓u101_75, ↓u101_77, ↓u101_78, ↓u101_81, ↓u101_84, ↓u101_86, ↓u101_87, ↓u101_89, ↓u101_92, ↓u101_94, ↓u101_95, ↓u101_98, ↓u101_101, ↓u101_103, ↓u101_104, ↓u101_106, ↓u101_109, ↓u101_110, ↓u101_112, ↓u101_115, ↓u101_117, ↓u101_119, ↓u101_122, ↓u101_124, ↓lI_0, ↓lI_s, ↓lL_0, ↓lL_s, ↓lR_0, ↓lR_s, ↓sT_0, ↓sT_i, ↓sT_r, ↓sT_u, ↓sT_lu, ↓sU_0, ↓sU_i, ↓sU_r, ↓sU_u, ↓ite_bx, bx_T, bx_F, bx_pos, bx_neg, zws_i, zws_r, zws_l, zws_n, zCb_kc, xl_ll, xr_rr, xs_e, xset_e, Option.toList, List.cons_append, List.nil_append, zIb_e, zrng_e, nz_e, if_pos, if_neg, and_true, true_and, or_true, true_or, ite_self, bi_eq0, bi_eq1, bi_1, bi_0, bi_ir, bi_T, bi_F, up_eq, up_ne, ↓reduceIte, reduceIte, Nat.reduceAdd, Nat.reduceLeDiff, Nat.le_refl, Nat.zero_le, not_true_eq_false, not_false_eq_true, ne_eq, Int.reduceEq, Int.reduceLT, Int.reduceLE, Int.reduceAdd, Int.reduceSub, Int.reduceMul, Int.reduceNeg, pT g1, g2, g3, g4, g5, g6, pT w1, w2, pT w3, w4, w5, w6, v1, v2, v3, vB, s103, xcpy_e, pT (show 0 ≤ n by omega), pT (show 0 ≤ i by omega), pT (show 0 ≤ j by omega), pT (show i + n ≤ 60 by omega), pT (show j + n ≤ 60 by omega), s102_y (show 5 ≤ d - 1 by omega) hg hv hb hn hk, s102_y (show 5 ≤ d - 1 by omega) hg hv hb hn hk2, pT t1, t2, pT t3, t4, pT a1, a2, pT a3, a4]
