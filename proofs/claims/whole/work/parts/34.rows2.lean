/-! the class LooseGrid: seen, odds, means, plans, books -/
set_option maxRecDepth 8000 in
theorem rok1 {G : XS} {W : Int} (hw : WOK G W) : ROK G (W + 43) 15 ∧ ROK G (W + 45) 30 ∧ ROK G (W + 47) 24 := by
  obtain ⟨w1, w2, w3, w4, w5, w6, w7, w8, w9, w10, w11, w12, w13, w14, w15, w16, w17, w18, w19, w20, w21, w22, w23, w24, w25⟩ := hw
  exact ⟨⟨w13, by rw [w16]; omega, by rw [show W + 43 + 1 = W + 44 by omega]; exact w19, by rw [show W + 43 + 1 = W + 44 by omega]; exact w22, by omega, by omega⟩,
    ⟨w14, by rw [w17]; omega, by rw [show W + 45 + 1 = W + 46 by omega]; exact w20, by rw [show W + 45 + 1 = W + 46 by omega]; exact w23, by omega, by omega⟩,
    ⟨w15, by rw [w18]; omega, by rw [show W + 47 + 1 = W + 48 by omega]; exact w21, by rw [show W + 47 + 1 = W + 48 by omega]; exact w24, by omega, by omega⟩⟩
set_option maxRecDepth 8000 in
theorem s83_e {d : Nat} {Q : Option AV → XH → Prop} {G : XS} {s : ZS} {W U V : Int} {B : ZS} {N R T : Int} {b x y : Int} (hd : 5 ≤ d) (hg : LOK G W U V) (hv : CV s W B N R T) (hb : OKB B N) (hn : 0 ≤ N ∧ N ≤ 40 ∧ 0 ≤ R ∧ R ≤ 10 ∧ 0 ≤ T ∧ T ≤ 20000) (q : b = -1) : Call d 83 [zrf 0, zint b, zint x, zint y] (G, s) Q = Q (some (zint 0)) (G, up s (W + 43) 2 0) := by
  have hg' := hg
  obtain ⟨g1, g2, g3, g4, g5, g6, hw, hu, hx, g7, g8, g9, g10, g11, g12⟩ := hg'
  have hw' := hw
  obtain ⟨w1, w2, w3, w4, w5, w6, w7, w8, w9, w10, w11, w12, w13, w14, w15, w16, w17, w18, w19, w20, w21, w22, w23, w24, w25⟩ := hw'
  have hv' := hv
  obtain ⟨v1, v2, v3, vB⟩ := hv'
  obtain ⟨rs, rp, rb⟩ := rok1 hw
  rw [e83 (show 1 ≤ d by omega)]
  simp (disch := first | omega | exact rfl) only [↓u83_0, ↓u83_1, ↓u83_2, ↓u83_5, ↓u83_6, ↓u83_9, ↓u83_12, ↓u83_15, ↓u83_16, ↓u83_17, ↓u83_20, ↓u83_21, ↓u83_24, ↓u83_27, ↓u83_28, ↓u83_29, ↓u83_30, ↓u83_31, ↓u83_33, ↓u83_36, ↓u83_39, ↓u83_40, ↓u83_41, ↓u83_43, ↓u83_46, ↓u83_49, ↓u83_51, ↓u83_52, ↓u83_53, ↓u83_56, ↓u83_59, ↓u83_60, ↓u83_61, ↓u83_62, ↓u83_65, ↓lI_0, ↓lI_s, ↓lL_0, ↓lL_s, ↓lR_0, ↓lR_s, ↓sT_0, ↓sT_i, ↓sT_r, ↓sT_u, ↓sT_lu, ↓sU_0, ↓sU_i, ↓sU_r, ↓sU_u, ↓ite_bx, bx_T, bx_F, bx_pos, bx_neg, zws_i, zws_r, zws_l, zws_n, zCb_kc, xl_ll, xr_rr, xs_e, xset_e, Option.toList, List.cons_append, List.nil_append, zIb_e, zrng_e, nz_e, if_pos, if_neg, and_true, true_and, or_true, true_or, ite_self, bi_eq0, bi_eq1, bi_1, bi_0, bi_ir, bi_T, bi_F, up_eq, up_ne, ↓reduceIte, reduceIte, Nat.reduceAdd, Nat.reduceLeDiff, Nat.le_refl, Nat.zero_le, not_true_eq_false, not_false_eq_true, ne_eq, Int.reduceEq, Int.reduceLT, Int.reduceLE, Int.reduceAdd, Int.reduceSub, Int.reduceMul, Int.reduceNeg, pT g1, g2, g3, g4, g5, g6, pT w1, w2, pT w3, w4, w5, w6, v1, v2, v3, vB, s27 (show 1 ≤ d - 1 by omega) rs, pT w13, pT w14, pT w15, w10, w11, w12]
set_option maxRecDepth 8000 in
theorem s83_n {d : Nat} {Q : Option AV → XH → Prop} {G : XS} {s : ZS} {W U V : Int} {B : ZS} {N R T : Int} {b x y : Int} (hd : 5 ≤ d) (hg : LOK G W U V) (hv : CV s W B N R T) (hb : OKB B N) (hn : 0 ≤ N ∧ N ≤ 40 ∧ 0 ≤ R ∧ R ≤ 10 ∧ 0 ≤ T ∧ T ≤ 20000) (ib : ir b) (q0 : b ≠ -1) (q : ¬hr B N b) : Call d 83 [zrf 0, zint b, zint x, zint y] (G, s) Q = Q (some (zint (-1))) (G, s) := by
  have hg' := hg
  obtain ⟨g1, g2, g3, g4, g5, g6, hw, hu, hx, g7, g8, g9, g10, g11, g12⟩ := hg'
  have hw' := hw
  obtain ⟨w1, w2, w3, w4, w5, w6, w7, w8, w9, w10, w11, w12, w13, w14, w15, w16, w17, w18, w19, w20, w21, w22, w23, w24, w25⟩ := hw'
  have hv' := hv
  obtain ⟨v1, v2, v3, vB⟩ := hv'
  rw [e83 (show 1 ≤ d by omega)]
  simp (disch := first | omega | exact rfl) only [↓u83_0, ↓u83_1, ↓u83_2, ↓u83_5, ↓u83_6, ↓u83_9, ↓u83_12, ↓u83_15, ↓u83_16, ↓u83_17, ↓u83_20, ↓u83_21, ↓u83_24, ↓u83_27, ↓u83_28, ↓u83_29, ↓u83_30, ↓u83_31, ↓u83_33, ↓u83_36, ↓u83_39, ↓u83_40, ↓u83_41, ↓u83_43, ↓u83_46, ↓u83_49, ↓u83_51, ↓u83_52, ↓u83_53, ↓u83_56, ↓u83_59, ↓u83_60, ↓u83_61, ↓u83_62, ↓u83_65, ↓lI_0, ↓lI_s, ↓lL_0, ↓lL_s, ↓lR_0, ↓lR_s, ↓sT_0, ↓sT_i, ↓sT_r, ↓sT_u, ↓sT_lu, ↓sU_0, ↓sU_i, ↓sU_r, ↓sU_u, ↓ite_bx, bx_T, bx_F, bx_pos, bx_neg, zws_i, zws_r, zws_l, zws_n, zCb_kc, xl_ll, xr_rr, xs_e, xset_e, Option.toList, List.cons_append, List.nil_append, zIb_e, zrng_e, nz_e, if_pos, if_neg, and_true, true_and, or_true, true_or, ite_self, bi_eq0, bi_eq1, bi_1, bi_0, bi_ir, bi_T, bi_F, up_eq, up_ne, ↓reduceIte, reduceIte, Nat.reduceAdd, Nat.reduceLeDiff, Nat.le_refl, Nat.zero_le, not_true_eq_false, not_false_eq_true, ne_eq, Int.reduceEq, Int.reduceLT, Int.reduceLE, Int.reduceAdd, Int.reduceSub, Int.reduceMul, Int.reduceNeg, pT g1, g2, g3, g4, g5, g6, pT w1, w2, pT w3, w4, w5, w6, v1, v2, v3, vB, s37_n (show 2 ≤ d - 1 by omega) hw hv hb hn ib q]
set_option maxRecDepth 8000 in
theorem s83_b {d : Nat} {Q : Option AV → XH → Prop} {G : XS} {s : ZS} {W U V : Int} {B : ZS} {N R T : Int} {b x y : Int} (hd : 5 ≤ d) (hg : LOK G W U V) (hv : CV s W B N R T) (hb : OKB B N) (hn : 0 ≤ N ∧ N ≤ 40 ∧ 0 ≤ R ∧ R ≤ 10 ∧ 0 ≤ T ∧ T ≤ 20000) (ix : ir x) (iy : ir y) (q : hr B N b) (q2 : ¬((0 ≤ x ∧ x ≤ 12) ∧ 0 ≤ y ∧ y ≤ 127)) : Call d 83 [zrf 0, zint b, zint x, zint y] (G, s) Q = Q (some (zint (-2))) (G, s) := by
  have hg' := hg
  obtain ⟨g1, g2, g3, g4, g5, g6, hw, hu, hx, g7, g8, g9, g10, g11, g12⟩ := hg'
  have hw' := hw
  obtain ⟨w1, w2, w3, w4, w5, w6, w7, w8, w9, w10, w11, w12, w13, w14, w15, w16, w17, w18, w19, w20, w21, w22, w23, w24, w25⟩ := hw'
  have hv' := hv
  obtain ⟨v1, v2, v3, vB⟩ := hv'
  rw [e83 (show 1 ≤ d by omega)]
  by_cases q0 : 0 ≤ x ∧ x ≤ 12
  · skip
    first
    | (exfalso; omega; done)
    | simp (disch := first | omega | exact rfl) only [↓u83_0, ↓u83_1, ↓u83_2, ↓u83_5, ↓u83_6, ↓u83_9, ↓u83_12, ↓u83_15, ↓u83_16, ↓u83_17, ↓u83_20, ↓u83_21, ↓u83_24, ↓u83_27, ↓u83_28, ↓u83_29, ↓u83_30, ↓u83_31, ↓u83_33, ↓u83_36, ↓u83_39, ↓u83_40, ↓u83_41, ↓u83_43, ↓u83_46, ↓u83_49, ↓u83_51, ↓u83_52, ↓u83_53, ↓u83_56, ↓u83_59, ↓u83_60, ↓u83_61, ↓u83_62, ↓u83_65, ↓lI_0, ↓lI_s, ↓lL_0, ↓lL_s, ↓lR_0, ↓lR_s, ↓sT_0, ↓sT_i, ↓sT_r, ↓sT_u, ↓sT_lu, ↓sU_0, ↓sU_i, ↓sU_r, ↓sU_u, ↓ite_bx, bx_T, bx_F, bx_pos, bx_neg, zws_i, zws_r, zws_l, zws_n, zCb_kc, xl_ll, xr_rr, xs_e, xset_e, Option.toList, List.cons_append, List.nil_append, zIb_e, zrng_e, nz_e, if_pos, if_neg, and_true, true_and, or_true, true_or, ite_self, bi_eq0, bi_eq1, bi_1, bi_0, bi_ir, bi_T, bi_F, up_eq, up_ne, ↓reduceIte, reduceIte, Nat.reduceAdd, Nat.reduceLeDiff, Nat.le_refl, Nat.zero_le, not_true_eq_false, not_false_eq_true, ne_eq, Int.reduceEq, Int.reduceLT, Int.reduceLE, Int.reduceAdd, Int.reduceSub, Int.reduceMul, Int.reduceNeg, pT g1, g2, g3, g4, g5, g6, pT w1, w2, pT w3, w4, w5, w6, v1, v2, v3, vB, s103, s37_y (show 2 ≤ d - 1 by omega) hw hv hb hn q]
  · skip
    first
    | (exfalso; omega; done)
    | simp (disch := first | omega | exact rfl) only [↓u83_0, ↓u83_1, ↓u83_2, ↓u83_5, ↓u83_6, ↓u83_9, ↓u83_12, ↓u83_15, ↓u83_16, ↓u83_17, ↓u83_20, ↓u83_21, ↓u83_24, ↓u83_27, ↓u83_28, ↓u83_29, ↓u83_30, ↓u83_31, ↓u83_33, ↓u83_36, ↓u83_39, ↓u83_40, ↓u83_41, ↓u83_43, ↓u83_46, ↓u83_49, ↓u83_51, ↓u83_52, ↓u83_53, ↓u83_56, ↓u83_59, ↓u83_60, ↓u83_61, ↓u83_62, ↓u83_65, ↓lI_0, ↓lI_s, ↓lL_0, ↓lL_s, ↓lR_0, ↓lR_s, ↓sT_0, ↓sT_i, ↓sT_r, ↓sT_u, ↓sT_lu, ↓sU_0, ↓sU_i, ↓sU_r, ↓sU_u, ↓ite_bx, bx_T, bx_F, bx_pos, bx_neg, zws_i, zws_r, zws_l, zws_n, zCb_kc, xl_ll, xr_rr, xs_e, xset_e, Option.toList, List.cons_append, List.nil_append, zIb_e, zrng_e, nz_e, if_pos, if_neg, and_true, true_and, or_true, true_or, ite_self, bi_eq0, bi_eq1, bi_1, bi_0, bi_ir, bi_T, bi_F, up_eq, up_ne, ↓reduceIte, reduceIte, Nat.reduceAdd, Nat.reduceLeDiff, Nat.le_refl, Nat.zero_le, not_true_eq_false, not_false_eq_true, ne_eq, Int.reduceEq, Int.reduceLT, Int.reduceLE, Int.reduceAdd, Int.reduceSub, Int.reduceMul, Int.reduceNeg, pT g1, g2, g3, g4, g5, g6, pT w1, w2, pT w3, w4, w5, w6, v1, v2, v3, vB, s103, s37_y (show 2 ≤ d - 1 by omega) hw hv hb hn q]
set_option maxRecDepth 8000 in
theorem s83_f {d : Nat} {Q : Option AV → XH → Prop} {G : XS} {s : ZS} {W U V : Int} {B : ZS} {N R T : Int} {b x y : Int} (hd : 5 ≤ d) (hg : LOK G W U V) (hv : CV s W B N R T) (hb : OKB B N) (hn : 0 ≤ N ∧ N ≤ 40 ∧ 0 ≤ R ∧ R ≤ 10 ∧ 0 ≤ T ∧ T ≤ 20000) (ix : ir x) (iy : ir y) (q : hr B N b) (q2 : ((0 ≤ x ∧ x ≤ 12) ∧ 0 ≤ y ∧ y ≤ 127)) (h5 : s (W + 43) 1 = 5) (h6 : s (W + 43) 2 = 5) : Call d 83 [zrf 0, zint b, zint x, zint y] (G, s) Q = Q (some (zint (-4))) (G, s) := by
  have hg' := hg
  obtain ⟨g1, g2, g3, g4, g5, g6, hw, hu, hx, g7, g8, g9, g10, g11, g12⟩ := hg'
  have hw' := hw
  obtain ⟨w1, w2, w3, w4, w5, w6, w7, w8, w9, w10, w11, w12, w13, w14, w15, w16, w17, w18, w19, w20, w21, w22, w23, w24, w25⟩ := hw'
  have hv' := hv
  obtain ⟨v1, v2, v3, vB⟩ := hv'
  obtain ⟨rs, rp, rb⟩ := rok1 hw
  rw [e83 (show 1 ≤ d by omega)]
  simp (disch := first | omega | exact rfl) only [↓u83_0, ↓u83_1, ↓u83_2, ↓u83_5, ↓u83_6, ↓u83_9, ↓u83_12, ↓u83_15, ↓u83_16, ↓u83_17, ↓u83_20, ↓u83_21, ↓u83_24, ↓u83_27, ↓u83_28, ↓u83_29, ↓u83_30, ↓u83_31, ↓u83_33, ↓u83_36, ↓u83_39, ↓u83_40, ↓u83_41, ↓u83_43, ↓u83_46, ↓u83_49, ↓u83_51, ↓u83_52, ↓u83_53, ↓u83_56, ↓u83_59, ↓u83_60, ↓u83_61, ↓u83_62, ↓u83_65, ↓lI_0, ↓lI_s, ↓lL_0, ↓lL_s, ↓lR_0, ↓lR_s, ↓sT_0, ↓sT_i, ↓sT_r, ↓sT_u, ↓sT_lu, ↓sU_0, ↓sU_i, ↓sU_r, ↓sU_u, ↓ite_bx, bx_T, bx_F, bx_pos, bx_neg, zws_i, zws_r, zws_l, zws_n, zCb_kc, xl_ll, xr_rr, xs_e, xset_e, Option.toList, List.cons_append, List.nil_append, zIb_e, zrng_e, nz_e, if_pos, if_neg, and_true, true_and, or_true, true_or, ite_self, bi_eq0, bi_eq1, bi_1, bi_0, bi_ir, bi_T, bi_F, up_eq, up_ne, ↓reduceIte, reduceIte, Nat.reduceAdd, Nat.reduceLeDiff, Nat.le_refl, Nat.zero_le, not_true_eq_false, not_false_eq_true, ne_eq, Int.reduceEq, Int.reduceLT, Int.reduceLE, Int.reduceAdd, Int.reduceSub, Int.reduceMul, Int.reduceNeg, pT g1, g2, g3, g4, g5, g6, pT w1, w2, pT w3, w4, w5, w6, v1, v2, v3, vB, s103, s28_n (show 1 ≤ d - 1 by omega) rs (show s (W + 43) 2 = s (W + 43) 1 by omega) (show 0 ≤ s (W + 43) 1 ∧ s (W + 43) 1 * 3 = 15 by omega), s37_y (show 2 ≤ d - 1 by omega) hw hv hb hn q, pT w13, pT w14, pT w15, w10, w11, w12]
set_option maxRecDepth 8000 in
theorem s83_y {d : Nat} {Q : Option AV → XH → Prop} {G : XS} {s : ZS} {W U V : Int} {B : ZS} {N R T : Int} {b x y : Int} (hd : 5 ≤ d) (hg : LOK G W U V) (hv : CV s W B N R T) (hb : OKB B N) (hn : 0 ≤ N ∧ N ≤ 40 ∧ 0 ≤ R ∧ R ≤ 10 ∧ 0 ≤ T ∧ T ≤ 20000) (ix : ir x) (iy : ir y) (q : hr B N b) (q2 : ((0 ≤ x ∧ x ≤ 12) ∧ 0 ≤ y ∧ y ≤ 127)) (h5 : s (W + 43) 1 = 5) (h6 : 0 ≤ s (W + 43) 2 ∧ s (W + 43) 2 < 5) : Call d 83 [zrf 0, zint b, zint x, zint y] (G, s) Q = Q (some (zint (s (W + 43) 2 + 1))) (G, apd s (W + 43) b x y) := by
  have hg' := hg
  obtain ⟨g1, g2, g3, g4, g5, g6, hw, hu, hx, g7, g8, g9, g10, g11, g12⟩ := hg'
  have hw' := hw
  obtain ⟨w1, w2, w3, w4, w5, w6, w7, w8, w9, w10, w11, w12, w13, w14, w15, w16, w17, w18, w19, w20, w21, w22, w23, w24, w25⟩ := hw'
  have hv' := hv
  obtain ⟨v1, v2, v3, vB⟩ := hv'
  obtain ⟨rs, rp, rb⟩ := rok1 hw
  rw [e83 (show 1 ≤ d by omega)]
  simp (disch := first | omega | exact rfl) only [↓u83_0, ↓u83_1, ↓u83_2, ↓u83_5, ↓u83_6, ↓u83_9, ↓u83_12, ↓u83_15, ↓u83_16, ↓u83_17, ↓u83_20, ↓u83_21, ↓u83_24, ↓u83_27, ↓u83_28, ↓u83_29, ↓u83_30, ↓u83_31, ↓u83_33, ↓u83_36, ↓u83_39, ↓u83_40, ↓u83_41, ↓u83_43, ↓u83_46, ↓u83_49, ↓u83_51, ↓u83_52, ↓u83_53, ↓u83_56, ↓u83_59, ↓u83_60, ↓u83_61, ↓u83_62, ↓u83_65, ↓lI_0, ↓lI_s, ↓lL_0, ↓lL_s, ↓lR_0, ↓lR_s, ↓sT_0, ↓sT_i, ↓sT_r, ↓sT_u, ↓sT_lu, ↓sU_0, ↓sU_i, ↓sU_r, ↓sU_u, ↓ite_bx, bx_T, bx_F, bx_pos, bx_neg, zws_i, zws_r, zws_l, zws_n, zCb_kc, xl_ll, xr_rr, xs_e, xset_e, Option.toList, List.cons_append, List.nil_append, zIb_e, zrng_e, nz_e, if_pos, if_neg, and_true, true_and, or_true, true_or, ite_self, bi_eq0, bi_eq1, bi_1, bi_0, bi_ir, bi_T, bi_F, up_eq, up_ne, ↓reduceIte, reduceIte, Nat.reduceAdd, Nat.reduceLeDiff, Nat.le_refl, Nat.zero_le, not_true_eq_false, not_false_eq_true, ne_eq, Int.reduceEq, Int.reduceLT, Int.reduceLE, Int.reduceAdd, Int.reduceSub, Int.reduceMul, Int.reduceNeg, pT g1, g2, g3, g4, g5, g6, pT w1, w2, pT w3, w4, w5, w6, v1, v2, v3, vB, s103, s28_y (show 1 ≤ d - 1 by omega) rs (show 0 ≤ s (W + 43) 2 ∧ s (W + 43) 2 < s (W + 43) 1 by omega) (show s (W + 43) 1 * 3 = 15 by omega), s37_y (show 2 ≤ d - 1 by omega) hw hv hb hn q, pT w13, pT w14, pT w15, w10, w11, w12]
set_option maxRecDepth 8000 in
theorem s88_e {d : Nat} {Q : Option AV → XH → Prop} {G : XS} {s : ZS} {W U V : Int} {B : ZS} {N R T : Int} {x b : Int} (hd : 5 ≤ d) (hg : LOK G W U V) (hv : CV s W B N R T) (hb : OKB B N) (hn : 0 ≤ N ∧ N ≤ 40 ∧ 0 ≤ R ∧ R ≤ 10 ∧ 0 ≤ T ∧ T ≤ 20000) (q : x = -1) : Call d 88 [zrf 0, zint x, zint b] (G, s) Q = Q (some (zint 0)) (G, up s (W + 45) 2 0) := by
  have hg' := hg
  obtain ⟨g1, g2, g3, g4, g5, g6, hw, hu, hx, g7, g8, g9, g10, g11, g12⟩ := hg'
  have hw' := hw
  obtain ⟨w1, w2, w3, w4, w5, w6, w7, w8, w9, w10, w11, w12, w13, w14, w15, w16, w17, w18, w19, w20, w21, w22, w23, w24, w25⟩ := hw'
  have hv' := hv
  obtain ⟨v1, v2, v3, vB⟩ := hv'
  obtain ⟨rs, rp, rb⟩ := rok1 hw
  rw [e88 (show 1 ≤ d by omega)]
  simp (disch := first | omega | exact rfl) only [↓u88_0, ↓u88_1, ↓u88_2, ↓u88_5, ↓u88_6, ↓u88_9, ↓u88_12, ↓u88_15, ↓u88_16, ↓u88_17, ↓u88_18, ↓u88_19, ↓u88_22, ↓u88_25, ↓u88_26, ↓u88_27, ↓u88_28, ↓u88_31, ↓u88_32, ↓u88_35, ↓u88_36, ↓u88_39, ↓u88_42, ↓u88_43, ↓u88_44, ↓u88_45, ↓u88_48, ↓u88_51, ↓u88_52, ↓u88_53, ↓u88_54, ↓u88_57, ↓lI_0, ↓lI_s, ↓lL_0, ↓lL_s, ↓lR_0, ↓lR_s, ↓sT_0, ↓sT_i, ↓sT_r, ↓sT_u, ↓sT_lu, ↓sU_0, ↓sU_i, ↓sU_r, ↓sU_u, ↓ite_bx, bx_T, bx_F, bx_pos, bx_neg, zws_i, zws_r, zws_l, zws_n, zCb_kc, xl_ll, xr_rr, xs_e, xset_e, Option.toList, List.cons_append, List.nil_append, zIb_e, zrng_e, nz_e, if_pos, if_neg, and_true, true_and, or_true, true_or, ite_self, bi_eq0, bi_eq1, bi_1, bi_0, bi_ir, bi_T, bi_F, up_eq, up_ne, ↓reduceIte, reduceIte, Nat.reduceAdd, Nat.reduceLeDiff, Nat.le_refl, Nat.zero_le, not_true_eq_false, not_false_eq_true, ne_eq, Int.reduceEq, Int.reduceLT, Int.reduceLE, Int.reduceAdd, Int.reduceSub, Int.reduceMul, Int.reduceNeg, pT g1, g2, g3, g4, g5, g6, pT w1, w2, pT w3, w4, w5, w6, v1, v2, v3, vB, s27 (show 1 ≤ d - 1 by omega) rp, pT w13, pT w14, pT w15, w10, w11, w12]
set_option maxRecDepth 8000 in
theorem s88_w {d : Nat} {Q : Option AV → XH → Prop} {G : XS} {s : ZS} {W U V : Int} {B : ZS} {N R T : Int} {x b : Int} (hd : 5 ≤ d) (hg : LOK G W U V) (hv : CV s W B N R T) (hb : OKB B N) (hn : 0 ≤ N ∧ N ≤ 40 ∧ 0 ≤ R ∧ R ≤ 10 ∧ 0 ≤ T ∧ T ≤ 20000) (ix : ir x) (q0 : x ≠ -1) (q : ¬(0 ≤ x ∧ x ≤ 3)) : Call d 88 [zrf 0, zint x, zint b] (G, s) Q = Q (some (zint (-1))) (G, s) := by
  have hg' := hg
  obtain ⟨g1, g2, g3, g4, g5, g6, hw, hu, hx, g7, g8, g9, g10, g11, g12⟩ := hg'
  have hw' := hw
  obtain ⟨w1, w2, w3, w4, w5, w6, w7, w8, w9, w10, w11, w12, w13, w14, w15, w16, w17, w18, w19, w20, w21, w22, w23, w24, w25⟩ := hw'
  have hv' := hv
  obtain ⟨v1, v2, v3, vB⟩ := hv'
  rw [e88 (show 1 ≤ d by omega)]
  simp (disch := first | omega | exact rfl) only [↓u88_0, ↓u88_1, ↓u88_2, ↓u88_5, ↓u88_6, ↓u88_9, ↓u88_12, ↓u88_15, ↓u88_16, ↓u88_17, ↓u88_18, ↓u88_19, ↓u88_22, ↓u88_25, ↓u88_26, ↓u88_27, ↓u88_28, ↓u88_31, ↓u88_32, ↓u88_35, ↓u88_36, ↓u88_39, ↓u88_42, ↓u88_43, ↓u88_44, ↓u88_45, ↓u88_48, ↓u88_51, ↓u88_52, ↓u88_53, ↓u88_54, ↓u88_57, ↓lI_0, ↓lI_s, ↓lL_0, ↓lL_s, ↓lR_0, ↓lR_s, ↓sT_0, ↓sT_i, ↓sT_r, ↓sT_u, ↓sT_lu, ↓sU_0, ↓sU_i, ↓sU_r, ↓sU_u, ↓ite_bx, bx_T, bx_F, bx_pos, bx_neg, zws_i, zws_r, zws_l, zws_n, zCb_kc, xl_ll, xr_rr, xs_e, xset_e, Option.toList, List.cons_append, List.nil_append, zIb_e, zrng_e, nz_e, if_pos, if_neg, and_true, true_and, or_true, true_or, ite_self, bi_eq0, bi_eq1, bi_1, bi_0, bi_ir, bi_T, bi_F, up_eq, up_ne, ↓reduceIte, reduceIte, Nat.reduceAdd, Nat.reduceLeDiff, Nat.le_refl, Nat.zero_le, not_true_eq_false, not_false_eq_true, ne_eq, Int.reduceEq, Int.reduceLT, Int.reduceLE, Int.reduceAdd, Int.reduceSub, Int.reduceMul, Int.reduceNeg, pT g1, g2, g3, g4, g5, g6, pT w1, w2, pT w3, w4, w5, w6, v1, v2, v3, vB, s103]
set_option maxRecDepth 8000 in
theorem s88_n {d : Nat} {Q : Option AV → XH → Prop} {G : XS} {s : ZS} {W U V : Int} {B : ZS} {N R T : Int} {x b : Int} (hd : 5 ≤ d) (hg : LOK G W U V) (hv : CV s W B N R T) (hb : OKB B N) (hn : 0 ≤ N ∧ N ≤ 40 ∧ 0 ≤ R ∧ R ≤ 10 ∧ 0 ≤ T ∧ T ≤ 20000) (ib : ir b) (q : 0 < x ∧ x ≤ 3) (q2 : ¬hr B N b) : Call d 88 [zrf 0, zint x, zint b] (G, s) Q = Q (some (zint (-1))) (G, s) := by
  have hg' := hg
  obtain ⟨g1, g2, g3, g4, g5, g6, hw, hu, hx, g7, g8, g9, g10, g11, g12⟩ := hg'
  have hw' := hw
  obtain ⟨w1, w2, w3, w4, w5, w6, w7, w8, w9, w10, w11, w12, w13, w14, w15, w16, w17, w18, w19, w20, w21, w22, w23, w24, w25⟩ := hw'
  have hv' := hv
  obtain ⟨v1, v2, v3, vB⟩ := hv'
  rw [e88 (show 1 ≤ d by omega)]
  simp (disch := first | omega | exact rfl) only [↓u88_0, ↓u88_1, ↓u88_2, ↓u88_5, ↓u88_6, ↓u88_9, ↓u88_12, ↓u88_15, ↓u88_16, ↓u88_17, ↓u88_18, ↓u88_19, ↓u88_22, ↓u88_25, ↓u88_26, ↓u88_27, ↓u88_28, ↓u88_31, ↓u88_32, ↓u88_35, ↓u88_36, ↓u88_39, ↓u88_42, ↓u88_43, ↓u88_44, ↓u88_45, ↓u88_48, ↓u88_51, ↓u88_52, ↓u88_53, ↓u88_54, ↓u88_57, ↓lI_0, ↓lI_s, ↓lL_0, ↓lL_s, ↓lR_0, ↓lR_s, ↓sT_0, ↓sT_i, ↓sT_r, ↓sT_u, ↓sT_lu, ↓sU_0, ↓sU_i, ↓sU_r, ↓sU_u, ↓ite_bx, bx_T, bx_F, bx_pos, bx_neg, zws_i, zws_r, zws_l, zws_n, zCb_kc, xl_ll, xr_rr, xs_e, xset_e, Option.toList, List.cons_append, List.nil_append, zIb_e, zrng_e, nz_e, if_pos, if_neg, and_true, true_and, or_true, true_or, ite_self, bi_eq0, bi_eq1, bi_1, bi_0, bi_ir, bi_T, bi_F, up_eq, up_ne, ↓reduceIte, reduceIte, Nat.reduceAdd, Nat.reduceLeDiff, Nat.le_refl, Nat.zero_le, not_true_eq_false, not_false_eq_true, ne_eq, Int.reduceEq, Int.reduceLT, Int.reduceLE, Int.reduceAdd, Int.reduceSub, Int.reduceMul, Int.reduceNeg, pT g1, g2, g3, g4, g5, g6, pT w1, w2, pT w3, w4, w5, w6, v1, v2, v3, vB, s103, s37_n (show 2 ≤ d - 1 by omega) hw hv hb hn ib q2]
set_option maxRecDepth 8000 in
theorem s88_f0 {d : Nat} {Q : Option AV → XH → Prop} {G : XS} {s : ZS} {W U V : Int} {B : ZS} {N R T : Int} {x b : Int} (hd : 5 ≤ d) (hg : LOK G W U V) (hv : CV s W B N R T) (hb : OKB B N) (hn : 0 ≤ N ∧ N ≤ 40 ∧ 0 ≤ R ∧ R ≤ 10 ∧ 0 ≤ T ∧ T ≤ 20000) (q : x = 0) (h5 : s (W + 45) 1 = 10) (h6 : s (W + 45) 2 = 10) : Call d 88 [zrf 0, zint x, zint b] (G, s) Q = Q (some (zint (-4))) (G, s) := by
  have hg' := hg
  obtain ⟨g1, g2, g3, g4, g5, g6, hw, hu, hx, g7, g8, g9, g10, g11, g12⟩ := hg'
  have hw' := hw
  obtain ⟨w1, w2, w3, w4, w5, w6, w7, w8, w9, w10, w11, w12, w13, w14, w15, w16, w17, w18, w19, w20, w21, w22, w23, w24, w25⟩ := hw'
  have hv' := hv
  obtain ⟨v1, v2, v3, vB⟩ := hv'
  obtain ⟨rs, rp, rb⟩ := rok1 hw
  rw [e88 (show 1 ≤ d by omega)]
  simp (disch := first | omega | exact rfl) only [↓u88_0, ↓u88_1, ↓u88_2, ↓u88_5, ↓u88_6, ↓u88_9, ↓u88_12, ↓u88_15, ↓u88_16, ↓u88_17, ↓u88_18, ↓u88_19, ↓u88_22, ↓u88_25, ↓u88_26, ↓u88_27, ↓u88_28, ↓u88_31, ↓u88_32, ↓u88_35, ↓u88_36, ↓u88_39, ↓u88_42, ↓u88_43, ↓u88_44, ↓u88_45, ↓u88_48, ↓u88_51, ↓u88_52, ↓u88_53, ↓u88_54, ↓u88_57, ↓lI_0, ↓lI_s, ↓lL_0, ↓lL_s, ↓lR_0, ↓lR_s, ↓sT_0, ↓sT_i, ↓sT_r, ↓sT_u, ↓sT_lu, ↓sU_0, ↓sU_i, ↓sU_r, ↓sU_u, ↓ite_bx, bx_T, bx_F, bx_pos, bx_neg, zws_i, zws_r, zws_l, zws_n, zCb_kc, xl_ll, xr_rr, xs_e, xset_e, Option.toList, List.cons_append, List.nil_append, zIb_e, zrng_e, nz_e, if_pos, if_neg, and_true, true_and, or_true, true_or, ite_self, bi_eq0, bi_eq1, bi_1, bi_0, bi_ir, bi_T, bi_F, up_eq, up_ne, ↓reduceIte, reduceIte, Nat.reduceAdd, Nat.reduceLeDiff, Nat.le_refl, Nat.zero_le, not_true_eq_false, not_false_eq_true, ne_eq, Int.reduceEq, Int.reduceLT, Int.reduceLE, Int.reduceAdd, Int.reduceSub, Int.reduceMul, Int.reduceNeg, pT g1, g2, g3, g4, g5, g6, pT w1, w2, pT w3, w4, w5, w6, v1, v2, v3, vB, s103, s28_n (show 1 ≤ d - 1 by omega) rp (show s (W + 45) 2 = s (W + 45) 1 by omega) (show 0 ≤ s (W + 45) 1 ∧ s (W + 45) 1 * 3 = 30 by omega), pT w13, pT w14, pT w15, w10, w11, w12]
set_option maxRecDepth 8000 in
theorem s88_y0 {d : Nat} {Q : Option AV → XH → Prop} {G : XS} {s : ZS} {W U V : Int} {B : ZS} {N R T : Int} {x b : Int} (hd : 5 ≤ d) (hg : LOK G W U V) (hv : CV s W B N R T) (hb : OKB B N) (hn : 0 ≤ N ∧ N ≤ 40 ∧ 0 ≤ R ∧ R ≤ 10 ∧ 0 ≤ T ∧ T ≤ 20000) (q : x = 0) (h5 : s (W + 45) 1 = 10) (h6 : 0 ≤ s (W + 45) 2 ∧ s (W + 45) 2 < 10) : Call d 88 [zrf 0, zint x, zint b] (G, s) Q = Q (some (zint (s (W + 45) 2 + 1))) (G, apd s (W + 45) x b 0) := by
  have hg' := hg
  obtain ⟨g1, g2, g3, g4, g5, g6, hw, hu, hx, g7, g8, g9, g10, g11, g12⟩ := hg'
  have hw' := hw
  obtain ⟨w1, w2, w3, w4, w5, w6, w7, w8, w9, w10, w11, w12, w13, w14, w15, w16, w17, w18, w19, w20, w21, w22, w23, w24, w25⟩ := hw'
  have hv' := hv
  obtain ⟨v1, v2, v3, vB⟩ := hv'
  obtain ⟨rs, rp, rb⟩ := rok1 hw
  rw [e88 (show 1 ≤ d by omega)]
  simp (disch := first | omega | exact rfl) only [↓u88_0, ↓u88_1, ↓u88_2, ↓u88_5, ↓u88_6, ↓u88_9, ↓u88_12, ↓u88_15, ↓u88_16, ↓u88_17, ↓u88_18, ↓u88_19, ↓u88_22, ↓u88_25, ↓u88_26, ↓u88_27, ↓u88_28, ↓u88_31, ↓u88_32, ↓u88_35, ↓u88_36, ↓u88_39, ↓u88_42, ↓u88_43, ↓u88_44, ↓u88_45, ↓u88_48, ↓u88_51, ↓u88_52, ↓u88_53, ↓u88_54, ↓u88_57, ↓lI_0, ↓lI_s, ↓lL_0, ↓lL_s, ↓lR_0, ↓lR_s, ↓sT_0, ↓sT_i, ↓sT_r, ↓sT_u, ↓sT_lu, ↓sU_0, ↓sU_i, ↓sU_r, ↓sU_u, ↓ite_bx, bx_T, bx_F, bx_pos, bx_neg, zws_i, zws_r, zws_l, zws_n, zCb_kc, xl_ll, xr_rr, xs_e, xset_e, Option.toList, List.cons_append, List.nil_append, zIb_e, zrng_e, nz_e, if_pos, if_neg, and_true, true_and, or_true, true_or, ite_self, bi_eq0, bi_eq1, bi_1, bi_0, bi_ir, bi_T, bi_F, up_eq, up_ne, ↓reduceIte, reduceIte, Nat.reduceAdd, Nat.reduceLeDiff, Nat.le_refl, Nat.zero_le, not_true_eq_false, not_false_eq_true, ne_eq, Int.reduceEq, Int.reduceLT, Int.reduceLE, Int.reduceAdd, Int.reduceSub, Int.reduceMul, Int.reduceNeg, pT g1, g2, g3, g4, g5, g6, pT w1, w2, pT w3, w4, w5, w6, v1, v2, v3, vB, s103, s28_y (show 1 ≤ d - 1 by omega) rp (show 0 ≤ s (W + 45) 2 ∧ s (W + 45) 2 < s (W + 45) 1 by omega) (show s (W + 45) 1 * 3 = 30 by omega), pT w13, pT w14, pT w15, w10, w11, w12]
set_option maxRecDepth 8000 in
theorem s88_fk {d : Nat} {Q : Option AV → XH → Prop} {G : XS} {s : ZS} {W U V : Int} {B : ZS} {N R T : Int} {x b : Int} (hd : 5 ≤ d) (hg : LOK G W U V) (hv : CV s W B N R T) (hb : OKB B N) (hn : 0 ≤ N ∧ N ≤ 40 ∧ 0 ≤ R ∧ R ≤ 10 ∧ 0 ≤ T ∧ T ≤ 20000) (q : (0 < x ∧ x ≤ 3) ∧ hr B N b) (h5 : s (W + 45) 1 = 10) (h6 : s (W + 45) 2 = 10) : Call d 88 [zrf 0, zint x, zint b] (G, s) Q = Q (some (zint (-4))) (G, s) := by
  have hg' := hg
  obtain ⟨g1, g2, g3, g4, g5, g6, hw, hu, hx, g7, g8, g9, g10, g11, g12⟩ := hg'
  have hw' := hw
  obtain ⟨w1, w2, w3, w4, w5, w6, w7, w8, w9, w10, w11, w12, w13, w14, w15, w16, w17, w18, w19, w20, w21, w22, w23, w24, w25⟩ := hw'
  have hv' := hv
  obtain ⟨v1, v2, v3, vB⟩ := hv'
  obtain ⟨rs, rp, rb⟩ := rok1 hw
  rw [e88 (show 1 ≤ d by omega)]
  simp (disch := first | omega | exact rfl) only [↓u88_0, ↓u88_1, ↓u88_2, ↓u88_5, ↓u88_6, ↓u88_9, ↓u88_12, ↓u88_15, ↓u88_16, ↓u88_17, ↓u88_18, ↓u88_19, ↓u88_22, ↓u88_25, ↓u88_26, ↓u88_27, ↓u88_28, ↓u88_31, ↓u88_32, ↓u88_35, ↓u88_36, ↓u88_39, ↓u88_42, ↓u88_43, ↓u88_44, ↓u88_45, ↓u88_48, ↓u88_51, ↓u88_52, ↓u88_53, ↓u88_54, ↓u88_57, ↓lI_0, ↓lI_s, ↓lL_0, ↓lL_s, ↓lR_0, ↓lR_s, ↓sT_0, ↓sT_i, ↓sT_r, ↓sT_u, ↓sT_lu, ↓sU_0, ↓sU_i, ↓sU_r, ↓sU_u, ↓ite_bx, bx_T, bx_F, bx_pos, bx_neg, zws_i, zws_r, zws_l, zws_n, zCb_kc, xl_ll, xr_rr, xs_e, xset_e, Option.toList, List.cons_append, List.nil_append, zIb_e, zrng_e, nz_e, if_pos, if_neg, and_true, true_and, or_true, true_or, ite_self, bi_eq0, bi_eq1, bi_1, bi_0, bi_ir, bi_T, bi_F, up_eq, up_ne, ↓reduceIte, reduceIte, Nat.reduceAdd, Nat.reduceLeDiff, Nat.le_refl, Nat.zero_le, not_true_eq_false, not_false_eq_true, ne_eq, Int.reduceEq, Int.reduceLT, Int.reduceLE, Int.reduceAdd, Int.reduceSub, Int.reduceMul, Int.reduceNeg, pT g1, g2, g3, g4, g5, g6, pT w1, w2, pT w3, w4, w5, w6, v1, v2, v3, vB, s103, s28_n (show 1 ≤ d - 1 by omega) rp (show s (W + 45) 2 = s (W + 45) 1 by omega) (show 0 ≤ s (W + 45) 1 ∧ s (W + 45) 1 * 3 = 30 by omega), s37_y (show 2 ≤ d - 1 by omega) hw hv hb hn q.2, pT w13, pT w14, pT w15, w10, w11, w12]
set_option maxRecDepth 8000 in
theorem s88_yk {d : Nat} {Q : Option AV → XH → Prop} {G : XS} {s : ZS} {W U V : Int} {B : ZS} {N R T : Int} {x b : Int} (hd : 5 ≤ d) (hg : LOK G W U V) (hv : CV s W B N R T) (hb : OKB B N) (hn : 0 ≤ N ∧ N ≤ 40 ∧ 0 ≤ R ∧ R ≤ 10 ∧ 0 ≤ T ∧ T ≤ 20000) (q : (0 < x ∧ x ≤ 3) ∧ hr B N b) (h5 : s (W + 45) 1 = 10) (h6 : 0 ≤ s (W + 45) 2 ∧ s (W + 45) 2 < 10) : Call d 88 [zrf 0, zint x, zint b] (G, s) Q = Q (some (zint (s (W + 45) 2 + 1))) (G, apd s (W + 45) x b 0) := by
  have hg' := hg
  obtain ⟨g1, g2, g3, g4, g5, g6, hw, hu, hx, g7, g8, g9, g10, g11, g12⟩ := hg'
  have hw' := hw
  obtain ⟨w1, w2, w3, w4, w5, w6, w7, w8, w9, w10, w11, w12, w13, w14, w15, w16, w17, w18, w19, w20, w21, w22, w23, w24, w25⟩ := hw'
  have hv' := hv
  obtain ⟨v1, v2, v3, vB⟩ := hv'
  obtain ⟨rs, rp, rb⟩ := rok1 hw
  rw [e88 (show 1 ≤ d by omega)]
  simp (disch := first | omega | exact rfl) only [↓u88_0, ↓u88_1, ↓u88_2, ↓u88_5, ↓u88_6, ↓u88_9, ↓u88_12, ↓u88_15, ↓u88_16, ↓u88_17, ↓u88_18, ↓u88_19, ↓u88_22, ↓u88_25, ↓u88_26, ↓u88_27, ↓u88_28, ↓u88_31, ↓u88_32, ↓u88_35, ↓u88_36, ↓u88_39, ↓u88_42, ↓u88_43, ↓u88_44, ↓u88_45, ↓u88_48, ↓u88_51, ↓u88_52, ↓u88_53, ↓u88_54, ↓u88_57, ↓lI_0, ↓lI_s, ↓lL_0, ↓lL_s, ↓lR_0, ↓lR_s, ↓sT_0, ↓sT_i, ↓sT_r, ↓sT_u, ↓sT_lu, ↓sU_0, ↓sU_i, ↓sU_r, ↓sU_u, ↓ite_bx, bx_T, bx_F, bx_pos, bx_neg, zws_i, zws_r, zws_l, zws_n, zCb_kc, xl_ll, xr_rr, xs_e, xset_e, Option.toList, List.cons_append, List.nil_append, zIb_e, zrng_e, nz_e, if_pos, if_neg, and_true, true_and, or_true, true_or, ite_self, bi_eq0, bi_eq1, bi_1, bi_0, bi_ir, bi_T, bi_F, up_eq, up_ne, ↓reduceIte, reduceIte, Nat.reduceAdd, Nat.reduceLeDiff, Nat.le_refl, Nat.zero_le, not_true_eq_false, not_false_eq_true, ne_eq, Int.reduceEq, Int.reduceLT, Int.reduceLE, Int.reduceAdd, Int.reduceSub, Int.reduceMul, Int.reduceNeg, pT g1, g2, g3, g4, g5, g6, pT w1, w2, pT w3, w4, w5, w6, v1, v2, v3, vB, s103, s28_y (show 1 ≤ d - 1 by omega) rp (show 0 ≤ s (W + 45) 2 ∧ s (W + 45) 2 < s (W + 45) 1 by omega) (show s (W + 45) 1 * 3 = 30 by omega), s37_y (show 2 ≤ d - 1 by omega) hw hv hb hn q.2, pT w13, pT w14, pT w15, w10, w11, w12]
set_option maxRecDepth 8000 in
theorem s91_e {d : Nat} {Q : Option AV → XH → Prop} {G : XS} {s : ZS} {W U V : Int} {B : ZS} {N R T : Int} {b x : Int} (hd : 5 ≤ d) (hg : LOK G W U V) (hv : CV s W B N R T) (hb : OKB B N) (hn : 0 ≤ N ∧ N ≤ 40 ∧ 0 ≤ R ∧ R ≤ 10 ∧ 0 ≤ T ∧ T ≤ 20000) (q : b = -1) : Call d 91 [zrf 0, zint b, zint x] (G, s) Q = Q (some (zint 0)) (G, up s (W + 47) 2 0) := by
  have hg' := hg
  obtain ⟨g1, g2, g3, g4, g5, g6, hw, hu, hx, g7, g8, g9, g10, g11, g12⟩ := hg'
  have hw' := hw
  obtain ⟨w1, w2, w3, w4, w5, w6, w7, w8, w9, w10, w11, w12, w13, w14, w15, w16, w17, w18, w19, w20, w21, w22, w23, w24, w25⟩ := hw'
  have hv' := hv
  obtain ⟨v1, v2, v3, vB⟩ := hv'
  obtain ⟨rs, rp, rb⟩ := rok1 hw
  rw [e91 (show 1 ≤ d by omega)]
  simp (disch := first | omega | exact rfl) only [↓u91_0, ↓u91_1, ↓u91_2, ↓u91_5, ↓u91_6, ↓u91_9, ↓u91_12, ↓u91_15, ↓u91_16, ↓u91_17, ↓u91_20, ↓u91_21, ↓u91_24, ↓u91_27, ↓u91_28, ↓u91_29, ↓u91_30, ↓u91_31, ↓u91_34, ↓u91_37, ↓u91_40, ↓u91_42, ↓u91_43, ↓u91_44, ↓u91_47, ↓u91_50, ↓u91_51, ↓u91_52, ↓u91_53, ↓u91_56, ↓lI_0, ↓lI_s, ↓lL_0, ↓lL_s, ↓lR_0, ↓lR_s, ↓sT_0, ↓sT_i, ↓sT_r, ↓sT_u, ↓sT_lu, ↓sU_0, ↓sU_i, ↓sU_r, ↓sU_u, ↓ite_bx, bx_T, bx_F, bx_pos, bx_neg, zws_i, zws_r, zws_l, zws_n, zCb_kc, xl_ll, xr_rr, xs_e, xset_e, Option.toList, List.cons_append, List.nil_append, zIb_e, zrng_e, nz_e, if_pos, if_neg, and_true, true_and, or_true, true_or, ite_self, bi_eq0, bi_eq1, bi_1, bi_0, bi_ir, bi_T, bi_F, up_eq, up_ne, ↓reduceIte, reduceIte, Nat.reduceAdd, Nat.reduceLeDiff, Nat.le_refl, Nat.zero_le, not_true_eq_false, not_false_eq_true, ne_eq, Int.reduceEq, Int.reduceLT, Int.reduceLE, Int.reduceAdd, Int.reduceSub, Int.reduceMul, Int.reduceNeg, pT g1, g2, g3, g4, g5, g6, pT w1, w2, pT w3, w4, w5, w6, v1, v2, v3, vB, s27 (show 1 ≤ d - 1 by omega) rb, pT w13, pT w14, pT w15, w10, w11, w12]
set_option maxRecDepth 8000 in
theorem s91_n {d : Nat} {Q : Option AV → XH → Prop} {G : XS} {s : ZS} {W U V : Int} {B : ZS} {N R T : Int} {b x : Int} (hd : 5 ≤ d) (hg : LOK G W U V) (hv : CV s W B N R T) (hb : OKB B N) (hn : 0 ≤ N ∧ N ≤ 40 ∧ 0 ≤ R ∧ R ≤ 10 ∧ 0 ≤ T ∧ T ≤ 20000) (ib : ir b) (q0 : b ≠ -1) (q : ¬hr B N b) : Call d 91 [zrf 0, zint b, zint x] (G, s) Q = Q (some (zint (-1))) (G, s) := by
  have hg' := hg
  obtain ⟨g1, g2, g3, g4, g5, g6, hw, hu, hx, g7, g8, g9, g10, g11, g12⟩ := hg'
  have hw' := hw
  obtain ⟨w1, w2, w3, w4, w5, w6, w7, w8, w9, w10, w11, w12, w13, w14, w15, w16, w17, w18, w19, w20, w21, w22, w23, w24, w25⟩ := hw'
  have hv' := hv
  obtain ⟨v1, v2, v3, vB⟩ := hv'
  rw [e91 (show 1 ≤ d by omega)]
  simp (disch := first | omega | exact rfl) only [↓u91_0, ↓u91_1, ↓u91_2, ↓u91_5, ↓u91_6, ↓u91_9, ↓u91_12, ↓u91_15, ↓u91_16, ↓u91_17, ↓u91_20, ↓u91_21, ↓u91_24, ↓u91_27, ↓u91_28, ↓u91_29, ↓u91_30, ↓u91_31, ↓u91_34, ↓u91_37, ↓u91_40, ↓u91_42, ↓u91_43, ↓u91_44, ↓u91_47, ↓u91_50, ↓u91_51, ↓u91_52, ↓u91_53, ↓u91_56, ↓lI_0, ↓lI_s, ↓lL_0, ↓lL_s, ↓lR_0, ↓lR_s, ↓sT_0, ↓sT_i, ↓sT_r, ↓sT_u, ↓sT_lu, ↓sU_0, ↓sU_i, ↓sU_r, ↓sU_u, ↓ite_bx, bx_T, bx_F, bx_pos, bx_neg, zws_i, zws_r, zws_l, zws_n, zCb_kc, xl_ll, xr_rr, xs_e, xset_e, Option.toList, List.cons_append, List.nil_append, zIb_e, zrng_e, nz_e, if_pos, if_neg, and_true, true_and, or_true, true_or, ite_self, bi_eq0, bi_eq1, bi_1, bi_0, bi_ir, bi_T, bi_F, up_eq, up_ne, ↓reduceIte, reduceIte, Nat.reduceAdd, Nat.reduceLeDiff, Nat.le_refl, Nat.zero_le, not_true_eq_false, not_false_eq_true, ne_eq, Int.reduceEq, Int.reduceLT, Int.reduceLE, Int.reduceAdd, Int.reduceSub, Int.reduceMul, Int.reduceNeg, pT g1, g2, g3, g4, g5, g6, pT w1, w2, pT w3, w4, w5, w6, v1, v2, v3, vB, s37_n (show 2 ≤ d - 1 by omega) hw hv hb hn ib q]
set_option maxRecDepth 8000 in
theorem s91_b {d : Nat} {Q : Option AV → XH → Prop} {G : XS} {s : ZS} {W U V : Int} {B : ZS} {N R T : Int} {b x : Int} (hd : 5 ≤ d) (hg : LOK G W U V) (hv : CV s W B N R T) (hb : OKB B N) (hn : 0 ≤ N ∧ N ≤ 40 ∧ 0 ≤ R ∧ R ≤ 10 ∧ 0 ≤ T ∧ T ≤ 20000) (ix : ir x) (q : hr B N b) (q2 : ¬(0 ≤ x ∧ x ≤ 99999)) : Call d 91 [zrf 0, zint b, zint x] (G, s) Q = Q (some (zint (-2))) (G, s) := by
  have hg' := hg
  obtain ⟨g1, g2, g3, g4, g5, g6, hw, hu, hx, g7, g8, g9, g10, g11, g12⟩ := hg'
  have hw' := hw
  obtain ⟨w1, w2, w3, w4, w5, w6, w7, w8, w9, w10, w11, w12, w13, w14, w15, w16, w17, w18, w19, w20, w21, w22, w23, w24, w25⟩ := hw'
  have hv' := hv
  obtain ⟨v1, v2, v3, vB⟩ := hv'
  rw [e91 (show 1 ≤ d by omega)]
  simp (disch := first | omega | exact rfl) only [↓u91_0, ↓u91_1, ↓u91_2, ↓u91_5, ↓u91_6, ↓u91_9, ↓u91_12, ↓u91_15, ↓u91_16, ↓u91_17, ↓u91_20, ↓u91_21, ↓u91_24, ↓u91_27, ↓u91_28, ↓u91_29, ↓u91_30, ↓u91_31, ↓u91_34, ↓u91_37, ↓u91_40, ↓u91_42, ↓u91_43, ↓u91_44, ↓u91_47, ↓u91_50, ↓u91_51, ↓u91_52, ↓u91_53, ↓u91_56, ↓lI_0, ↓lI_s, ↓lL_0, ↓lL_s, ↓lR_0, ↓lR_s, ↓sT_0, ↓sT_i, ↓sT_r, ↓sT_u, ↓sT_lu, ↓sU_0, ↓sU_i, ↓sU_r, ↓sU_u, ↓ite_bx, bx_T, bx_F, bx_pos, bx_neg, zws_i, zws_r, zws_l, zws_n, zCb_kc, xl_ll, xr_rr, xs_e, xset_e, Option.toList, List.cons_append, List.nil_append, zIb_e, zrng_e, nz_e, if_pos, if_neg, and_true, true_and, or_true, true_or, ite_self, bi_eq0, bi_eq1, bi_1, bi_0, bi_ir, bi_T, bi_F, up_eq, up_ne, ↓reduceIte, reduceIte, Nat.reduceAdd, Nat.reduceLeDiff, Nat.le_refl, Nat.zero_le, not_true_eq_false, not_false_eq_true, ne_eq, Int.reduceEq, Int.reduceLT, Int.reduceLE, Int.reduceAdd, Int.reduceSub, Int.reduceMul, Int.reduceNeg, pT g1, g2, g3, g4, g5, g6, pT w1, w2, pT w3, w4, w5, w6, v1, v2, v3, vB, s103, s37_y (show 2 ≤ d - 1 by omega) hw hv hb hn q]
set_option maxRecDepth 8000 in
theorem s91_f {d : Nat} {Q : Option AV → XH → Prop} {G : XS} {s : ZS} {W U V : Int} {B : ZS} {N R T : Int} {b x : Int} (hd : 5 ≤ d) (hg : LOK G W U V) (hv : CV s W B N R T) (hb : OKB B N) (hn : 0 ≤ N ∧ N ≤ 40 ∧ 0 ≤ R ∧ R ≤ 10 ∧ 0 ≤ T ∧ T ≤ 20000) (ix : ir x) (q : hr B N b) (q2 : 0 ≤ x ∧ x ≤ 99999) (h5 : s (W + 47) 1 = 8) (h6 : s (W + 47) 2 = 8) : Call d 91 [zrf 0, zint b, zint x] (G, s) Q = Q (some (zint (-4))) (G, s) := by
  have hg' := hg
  obtain ⟨g1, g2, g3, g4, g5, g6, hw, hu, hx, g7, g8, g9, g10, g11, g12⟩ := hg'
  have hw' := hw
  obtain ⟨w1, w2, w3, w4, w5, w6, w7, w8, w9, w10, w11, w12, w13, w14, w15, w16, w17, w18, w19, w20, w21, w22, w23, w24, w25⟩ := hw'
  have hv' := hv
  obtain ⟨v1, v2, v3, vB⟩ := hv'
  obtain ⟨rs, rp, rb⟩ := rok1 hw
  rw [e91 (show 1 ≤ d by omega)]
  simp (disch := first | omega | exact rfl) only [↓u91_0, ↓u91_1, ↓u91_2, ↓u91_5, ↓u91_6, ↓u91_9, ↓u91_12, ↓u91_15, ↓u91_16, ↓u91_17, ↓u91_20, ↓u91_21, ↓u91_24, ↓u91_27, ↓u91_28, ↓u91_29, ↓u91_30, ↓u91_31, ↓u91_34, ↓u91_37, ↓u91_40, ↓u91_42, ↓u91_43, ↓u91_44, ↓u91_47, ↓u91_50, ↓u91_51, ↓u91_52, ↓u91_53, ↓u91_56, ↓lI_0, ↓lI_s, ↓lL_0, ↓lL_s, ↓lR_0, ↓lR_s, ↓sT_0, ↓sT_i, ↓sT_r, ↓sT_u, ↓sT_lu, ↓sU_0, ↓sU_i, ↓sU_r, ↓sU_u, ↓ite_bx, bx_T, bx_F, bx_pos, bx_neg, zws_i, zws_r, zws_l, zws_n, zCb_kc, xl_ll, xr_rr, xs_e, xset_e, Option.toList, List.cons_append, List.nil_append, zIb_e, zrng_e, nz_e, if_pos, if_neg, and_true, true_and, or_true, true_or, ite_self, bi_eq0, bi_eq1, bi_1, bi_0, bi_ir, bi_T, bi_F, up_eq, up_ne, ↓reduceIte, reduceIte, Nat.reduceAdd, Nat.reduceLeDiff, Nat.le_refl, Nat.zero_le, not_true_eq_false, not_false_eq_true, ne_eq, Int.reduceEq, Int.reduceLT, Int.reduceLE, Int.reduceAdd, Int.reduceSub, Int.reduceMul, Int.reduceNeg, pT g1, g2, g3, g4, g5, g6, pT w1, w2, pT w3, w4, w5, w6, v1, v2, v3, vB, s103, s28_n (show 1 ≤ d - 1 by omega) rb (show s (W + 47) 2 = s (W + 47) 1 by omega) (show 0 ≤ s (W + 47) 1 ∧ s (W + 47) 1 * 3 = 24 by omega), s37_y (show 2 ≤ d - 1 by omega) hw hv hb hn q, pT w13, pT w14, pT w15, w10, w11, w12]
set_option maxRecDepth 8000 in
theorem s91_y {d : Nat} {Q : Option AV → XH → Prop} {G : XS} {s : ZS} {W U V : Int} {B : ZS} {N R T : Int} {b x : Int} (hd : 5 ≤ d) (hg : LOK G W U V) (hv : CV s W B N R T) (hb : OKB B N) (hn : 0 ≤ N ∧ N ≤ 40 ∧ 0 ≤ R ∧ R ≤ 10 ∧ 0 ≤ T ∧ T ≤ 20000) (ix : ir x) (q : hr B N b) (q2 : 0 ≤ x ∧ x ≤ 99999) (h5 : s (W + 47) 1 = 8) (h6 : 0 ≤ s (W + 47) 2 ∧ s (W + 47) 2 < 8) : Call d 91 [zrf 0, zint b, zint x] (G, s) Q = Q (some (zint (s (W + 47) 2 + 1))) (G, apd s (W + 47) b x 0) := by
  have hg' := hg
  obtain ⟨g1, g2, g3, g4, g5, g6, hw, hu, hx, g7, g8, g9, g10, g11, g12⟩ := hg'
  have hw' := hw
  obtain ⟨w1, w2, w3, w4, w5, w6, w7, w8, w9, w10, w11, w12, w13, w14, w15, w16, w17, w18, w19, w20, w21, w22, w23, w24, w25⟩ := hw'
  have hv' := hv
  obtain ⟨v1, v2, v3, vB⟩ := hv'
  obtain ⟨rs, rp, rb⟩ := rok1 hw
  rw [e91 (show 1 ≤ d by omega)]
  simp (disch := first | omega | exact rfl) only [↓u91_0, ↓u91_1, ↓u91_2, ↓u91_5, ↓u91_6, ↓u91_9, ↓u91_12, ↓u91_15, ↓u91_16, ↓u91_17, ↓u91_20, ↓u91_21, ↓u91_24, ↓u91_27, ↓u91_28, ↓u91_29, ↓u91_30, ↓u91_31, ↓u91_34, ↓u91_37, ↓u91_40, ↓u91_42, ↓u91_43, ↓u91_44, ↓u91_47, ↓u91_50, ↓u91_51, ↓u91_52, ↓u91_53, ↓u91_56, ↓lI_0, ↓lI_s, ↓lL_0, ↓lL_s, ↓lR_0, ↓lR_s, ↓sT_0, ↓sT_i, ↓sT_r, ↓sT_u, ↓sT_lu, ↓sU_0, ↓sU_i, ↓sU_r, ↓sU_u, ↓ite_bx, bx_T, bx_F, bx_pos, bx_neg, zws_i, zws_r, zws_l, zws_n, zCb_kc, xl_ll, xr_rr, xs_e, xset_e, Option.toList, List.cons_append, List.nil_append, zIb_e, zrng_e, nz_e, if_pos, if_neg, and_true, true_and, or_true, true_or, ite_self, bi_eq0, bi_eq1, bi_1, bi_0, bi_ir, bi_T, bi_F, up_eq, up_ne, ↓reduceIte, reduceIte, Nat.reduceAdd, Nat.reduceLeDiff, Nat.le_refl, Nat.zero_le, not_true_eq_false, not_false_eq_true, ne_eq, Int.reduceEq, Int.reduceLT, Int.reduceLE, Int.reduceAdd, Int.reduceSub, Int.reduceMul, Int.reduceNeg, pT g1, g2, g3, g4, g5, g6, pT w1, w2, pT w3, w4, w5, w6, v1, v2, v3, vB, s103, s28_y (show 1 ≤ d - 1 by omega) rb (show 0 ≤ s (W + 47) 2 ∧ s (W + 47) 2 < s (W + 47) 1 by omega) (show s (W + 47) 1 * 3 = 24 by omega), s37_y (show 2 ≤ d - 1 by omega) hw hv hb hn q, pT w13, pT w14, pT w15, w10, w11, w12]
/-- rows of three, read in the state s, at the array cell a -/
abbrev rv (s : ZS) (a r c : Int) : Int := s a (r * 3 + c)
def lkp (B : ZS) (N R : Int) (s : ZS) (a r : Int) : Prop := ¬(hr B N (rv s a r 0) ∧ pt B N R (rv s a r 0) = rv s a r 1)
set_option maxRecDepth 8000 in
theorem s92 {d : Nat} {Q : Option AV → XH → Prop} {G : XS} {s : ZS} {W U V : Int} {B : ZS} {N R T : Int} {n : Int} (hd : 6 ≤ d) (hg : LOK G W U V) (hv : CV s W B N R T) (hb : OKB B N) (hn : 0 ≤ N ∧ N ≤ 40 ∧ 0 ≤ R ∧ R ≤ 10 ∧ 0 ≤ T ∧ T ≤ 20000) (hs : s (W + 47) 2 = n) (hnn : 0 ≤ n ∧ n ≤ 8) (hi : ∀ r, 0 ≤ r ∧ r < n → ir (rv s (W + 48) r 0) ∧ ir (rv s (W + 48) r 1)) : Call d 92 [zrf 0] (G, s) Q = Q (some (zint (kth (fun r => lkp B N R s (W + 48) r) 0 n 0))) (G, s) := by
  have hg' := hg
  obtain ⟨g1, g2, g3, g4, g5, g6, hw, hu, hx, g7, g8, g9, g10, g11, g12⟩ := hg'
  have hw' := hw
  obtain ⟨w1, w2, w3, w4, w5, w6, w7, w8, w9, w10, w11, w12, w13, w14, w15, w16, w17, w18, w19, w20, w21, w22, w23, w24, w25⟩ := hw'
  have hv' := hv
  obtain ⟨v1, v2, v3, vB⟩ := hv'
  obtain ⟨rs, rp, rb⟩ := rok1 hw
  have rb2 : ROK G (W + 47) 24 := rb
  have e48 : W + 47 + 1 = W + 48 := by omega
  have lp : ∀ i, 0 ≤ i → i ≤ n → ∀ v, Wp (d - 1) 92 (2, [zrf 0, zint i, v], [], (G, s)) Q = Q (some (zint (kth (fun r => lkp B N R s (W + 48) r) i n 0))) (G, s) := by
    refine dn (P := fun i => ∀ v, Wp (d - 1) 92 (2, [zrf 0, zint i, v], [], (G, s)) Q = Q (some (zint (kth (fun r => lkp B N R s (W + 48) r) i n 0))) (G, s)) ?_ ?_
    · intro v
      rw [kth_e (Int.le_refl n), u92_2]
      simp (disch := first | omega | exact rfl) only [↓u92_0, ↓u92_1, ↓u92_3, ↓u92_4, ↓u92_7, ↓u92_10, ↓u92_13, ↓u92_16, ↓u92_17, ↓u92_20, ↓u92_21, ↓u92_24, ↓u92_27, ↓u92_28, ↓u92_29, ↓u92_32, ↓u92_35, ↓u92_36, ↓u92_37, ↓u92_40, ↓u92_41, ↓u92_44, ↓u92_45, ↓u92_48, ↓u92_49, ↓u92_52, ↓u92_55, ↓u92_56, ↓u92_57, ↓u92_60, ↓u92_63, ↓u92_64, ↓u92_65, ↓u92_68, ↓u92_71, ↓u92_73, ↓lI_0, ↓lI_s, ↓lL_0, ↓lL_s, ↓lR_0, ↓lR_s, ↓sT_0, ↓sT_i, ↓sT_r, ↓sT_u, ↓sT_lu, ↓sU_0, ↓sU_i, ↓sU_r, ↓sU_u, ↓ite_bx, bx_T, bx_F, bx_pos, bx_neg, zws_i, zws_r, zws_l, zws_n, zCb_kc, xl_ll, xr_rr, xs_e, xset_e, Option.toList, List.cons_append, List.nil_append, zIb_e, zrng_e, nz_e, if_pos, if_neg, and_true, true_and, or_true, true_or, ite_self, bi_eq0, bi_eq1, bi_1, bi_0, bi_ir, bi_T, bi_F, up_eq, up_ne, ↓reduceIte, reduceIte, Nat.reduceAdd, Nat.reduceLeDiff, Nat.le_refl, Nat.zero_le, not_true_eq_false, not_false_eq_true, ne_eq, Int.reduceEq, Int.reduceLT, Int.reduceLE, Int.reduceAdd, Int.reduceSub, Int.reduceMul, Int.reduceNeg, pT g1, g2, g3, g4, g5, g6, pT w1, w2, pT w3, w4, w5, w6, v1, v2, v3, vB, hs, pT w13, pT w14, pT w15, w10, w11, w12]
    · intro i h0 h1 ih v
      have a0 := hi i ⟨h0, h1⟩
      have y0 := fun Q => s29 (d := d - 1) (Q := Q) (s := s) (r := i) (c := 0) (show 2 ≤ d - 1 by omega) rb2 (by omega) (by omega)
      have y1 := fun Q => s29 (d := d - 1) (Q := Q) (s := s) (r := i) (c := 1) (show 2 ≤ d - 1 by omega) rb2 (by omega) (by omega)
      rw [e48] at y0 y1
      rw [u92_2]
      generalize hb0 : rv s (W + 48) i 0 = b at a0
      generalize hb1 : rv s (W + 48) i 1 = w at a0
      have hb0' : s (W + 48) (i * 3 + 0) = b := hb0
      have hb1' : s (W + 48) (i * 3 + 1) = w := hb1
      have ptb := pt_b (B := B) (N := N) (R := R) (m := b)
      by_cases q : hr B N b
      · have qn := q.1
        by_cases q2 : pt B N R b = w
        · rw [kth_n h1 (show ¬lkp B N R s (W + 48) i from fun c => c ⟨by rw [hb0]; exact q, by rw [hb0, hb1]; exact q2⟩)]
          simp (disch := first | omega | exact rfl) only [↓u92_0, ↓u92_1, ↓u92_3, ↓u92_4, ↓u92_7, ↓u92_10, ↓u92_13, ↓u92_16, ↓u92_17, ↓u92_20, ↓u92_21, ↓u92_24, ↓u92_27, ↓u92_28, ↓u92_29, ↓u92_32, ↓u92_35, ↓u92_36, ↓u92_37, ↓u92_40, ↓u92_41, ↓u92_44, ↓u92_45, ↓u92_48, ↓u92_49, ↓u92_52, ↓u92_55, ↓u92_56, ↓u92_57, ↓u92_60, ↓u92_63, ↓u92_64, ↓u92_65, ↓u92_68, ↓u92_71, ↓u92_73, ↓lI_0, ↓lI_s, ↓lL_0, ↓lL_s, ↓lR_0, ↓lR_s, ↓sT_0, ↓sT_i, ↓sT_r, ↓sT_u, ↓sT_lu, ↓sU_0, ↓sU_i, ↓sU_r, ↓sU_u, ↓ite_bx, bx_T, bx_F, bx_pos, bx_neg, zws_i, zws_r, zws_l, zws_n, zCb_kc, xl_ll, xr_rr, xs_e, xset_e, Option.toList, List.cons_append, List.nil_append, zIb_e, zrng_e, nz_e, if_pos, if_neg, and_true, true_and, or_true, true_or, ite_self, bi_eq0, bi_eq1, bi_1, bi_0, bi_ir, bi_T, bi_F, up_eq, up_ne, ↓reduceIte, reduceIte, Nat.reduceAdd, Nat.reduceLeDiff, Nat.le_refl, Nat.zero_le, not_true_eq_false, not_false_eq_true, ne_eq, Int.reduceEq, Int.reduceLT, Int.reduceLE, Int.reduceAdd, Int.reduceSub, Int.reduceMul, Int.reduceNeg, pT g1, g2, g3, g4, g5, g6, pT w1, w2, pT w3, w4, w5, w6, v1, v2, v3, vB, hs, y0, y1, hb0', hb1', ih, s37_y (show 2 ≤ d - 1 by omega) hw hv hb hn q, s44 (show 4 ≤ d - 1 by omega) hw hv hb hn qn, pT w13, pT w14, pT w15, w10, w11, w12]
        · rw [kth_z h1 (show lkp B N R s (W + 48) i from fun c => q2 (by rw [← hb0, c.2, hb1])) rfl]
          simp (disch := first | omega | exact rfl) only [↓u92_0, ↓u92_1, ↓u92_3, ↓u92_4, ↓u92_7, ↓u92_10, ↓u92_13, ↓u92_16, ↓u92_17, ↓u92_20, ↓u92_21, ↓u92_24, ↓u92_27, ↓u92_28, ↓u92_29, ↓u92_32, ↓u92_35, ↓u92_36, ↓u92_37, ↓u92_40, ↓u92_41, ↓u92_44, ↓u92_45, ↓u92_48, ↓u92_49, ↓u92_52, ↓u92_55, ↓u92_56, ↓u92_57, ↓u92_60, ↓u92_63, ↓u92_64, ↓u92_65, ↓u92_68, ↓u92_71, ↓u92_73, ↓lI_0, ↓lI_s, ↓lL_0, ↓lL_s, ↓lR_0, ↓lR_s, ↓sT_0, ↓sT_i, ↓sT_r, ↓sT_u, ↓sT_lu, ↓sU_0, ↓sU_i, ↓sU_r, ↓sU_u, ↓ite_bx, bx_T, bx_F, bx_pos, bx_neg, zws_i, zws_r, zws_l, zws_n, zCb_kc, xl_ll, xr_rr, xs_e, xset_e, Option.toList, List.cons_append, List.nil_append, zIb_e, zrng_e, nz_e, if_pos, if_neg, and_true, true_and, or_true, true_or, ite_self, bi_eq0, bi_eq1, bi_1, bi_0, bi_ir, bi_T, bi_F, up_eq, up_ne, ↓reduceIte, reduceIte, Nat.reduceAdd, Nat.reduceLeDiff, Nat.le_refl, Nat.zero_le, not_true_eq_false, not_false_eq_true, ne_eq, Int.reduceEq, Int.reduceLT, Int.reduceLE, Int.reduceAdd, Int.reduceSub, Int.reduceMul, Int.reduceNeg, pT g1, g2, g3, g4, g5, g6, pT w1, w2, pT w3, w4, w5, w6, v1, v2, v3, vB, hs, y0, y1, hb0', hb1', ih, s37_y (show 2 ≤ d - 1 by omega) hw hv hb hn q, s44 (show 4 ≤ d - 1 by omega) hw hv hb hn qn, pT w13, pT w14, pT w15, w10, w11, w12]
      · rw [kth_z h1 (show lkp B N R s (W + 48) i from fun c => q (by rw [← hb0]; exact c.1)) rfl]
        simp (disch := first | omega | exact rfl) only [↓u92_0, ↓u92_1, ↓u92_3, ↓u92_4, ↓u92_7, ↓u92_10, ↓u92_13, ↓u92_16, ↓u92_17, ↓u92_20, ↓u92_21, ↓u92_24, ↓u92_27, ↓u92_28, ↓u92_29, ↓u92_32, ↓u92_35, ↓u92_36, ↓u92_37, ↓u92_40, ↓u92_41, ↓u92_44, ↓u92_45, ↓u92_48, ↓u92_49, ↓u92_52, ↓u92_55, ↓u92_56, ↓u92_57, ↓u92_60, ↓u92_63, ↓u92_64, ↓u92_65, ↓u92_68, ↓u92_71, ↓u92_73, ↓lI_0, ↓lI_s, ↓lL_0, ↓lL_s, ↓lR_0, ↓lR_s, ↓sT_0, ↓sT_i, ↓sT_r, ↓sT_u, ↓sT_lu, ↓sU_0, ↓sU_i, ↓sU_r, ↓sU_u, ↓ite_bx, bx_T, bx_F, bx_pos, bx_neg, zws_i, zws_r, zws_l, zws_n, zCb_kc, xl_ll, xr_rr, xs_e, xset_e, Option.toList, List.cons_append, List.nil_append, zIb_e, zrng_e, nz_e, if_pos, if_neg, and_true, true_and, or_true, true_or, ite_self, bi_eq0, bi_eq1, bi_1, bi_0, bi_ir, bi_T, bi_F, up_eq, up_ne, ↓reduceIte, reduceIte, Nat.reduceAdd, Nat.reduceLeDiff, Nat.le_refl, Nat.zero_le, not_true_eq_false, not_false_eq_true, ne_eq, Int.reduceEq, Int.reduceLT, Int.reduceLE, Int.reduceAdd, Int.reduceSub, Int.reduceMul, Int.reduceNeg, pT g1, g2, g3, g4, g5, g6, pT w1, w2, pT w3, w4, w5, w6, v1, v2, v3, vB, hs, y0, y1, hb0', hb1', s37_n (show 2 ≤ d - 1 by omega) hw hv hb hn a0.1 q, pT w13, pT w14, pT w15, w10, w11, w12]
  rw [e92 (show 1 ≤ d by omega)]
  simp (disch := first | omega | exact rfl) only [↓u92_0, ↓u92_1, ↓u92_3, ↓u92_4, ↓u92_7, ↓u92_10, ↓u92_13, ↓u92_16, ↓u92_17, ↓u92_20, ↓u92_21, ↓u92_24, ↓u92_27, ↓u92_28, ↓u92_29, ↓u92_32, ↓u92_35, ↓u92_36, ↓u92_37, ↓u92_40, ↓u92_41, ↓u92_44, ↓u92_45, ↓u92_48, ↓u92_49, ↓u92_52, ↓u92_55, ↓u92_56, ↓u92_57, ↓u92_60, ↓u92_63, ↓u92_64, ↓u92_65, ↓u92_68, ↓u92_71, ↓u92_73, ↓lI_0, ↓lI_s, ↓lL_0, ↓lL_s, ↓lR_0, ↓lR_s, ↓sT_0, ↓sT_i, ↓sT_r, ↓sT_u, ↓sT_lu, ↓sU_0, ↓sU_i, ↓sU_r, ↓sU_u, ↓ite_bx, bx_T, bx_F, bx_pos, bx_neg, zws_i, zws_r, zws_l, zws_n, zCb_kc, xl_ll, xr_rr, xs_e, xset_e, Option.toList, List.cons_append, List.nil_append, zIb_e, zrng_e, nz_e, if_pos, if_neg, and_true, true_and, or_true, true_or, ite_self, bi_eq0, bi_eq1, bi_1, bi_0, bi_ir, bi_T, bi_F, up_eq, up_ne, ↓reduceIte, reduceIte, Nat.reduceAdd, Nat.reduceLeDiff, Nat.le_refl, Nat.zero_le, not_true_eq_false, not_false_eq_true, ne_eq, Int.reduceEq, Int.reduceLT, Int.reduceLE, Int.reduceAdd, Int.reduceSub, Int.reduceMul, Int.reduceNeg, pT g1, g2, g3, g4, g5, g6, pT w1, w2, pT w3, w4, w5, w6, v1, v2, v3, vB, lp 0 (Int.le_refl 0) hnn.1]
set_option maxRecDepth 8000 in
theorem thr_b {B : ZS} {N : Int} (hn : 0 ≤ N) : 0 ≤ thr B N ∧ thr B N ≤ N := by
  have := cn_b (fun j => B j 8 = 1) 0 N hn
  unfold thr
  omega
set_option maxRecDepth 8000 in
theorem ar_b {B : ZS} {N : Int} (hn : 0 ≤ N ∧ N ≤ 40) (hb : OKB B N) : 0 ≤ ar B N ∧ ar B N ≤ 40960 := by
  have h1 : ∀ j, 0 ≤ j ∧ j < N → 0 ≤ bi (B j 8 = 1) * (B j 4 * B j 5) ∧ bi (B j 8 = 1) * (B j 4 * B j 5) ≤ 1024 := by
    intro j hj
    have b := hb j hj
    have pm := mul_b (c := 32) (a := B j 4) (b := B j 5) (by omega) (by omega)
    rcases bi_cases (B j 8 = 1) with e | e <;> rw [e] <;> simp only [Int.zero_mul, Int.one_mul] <;> omega
  have h2 := sm_le (f := fun _ => 0) (g := fun j => bi (B j 8 = 1) * (B j 4 * B j 5)) hn.1 (fun j hj => (h1 j hj).1)
  have h3 := sm_le (f := fun j => bi (B j 8 = 1) * (B j 4 * B j 5)) (g := fun _ => 1024) hn.1 (fun j hj => (h1 j hj).2)
  have h4 := sm_b (f := fun _ => 1024) (N := N) (c := 1024) (fun j => ⟨by omega, by omega⟩) 0 hn.1
  have h5 : sm (fun _ => 0) 0 N = 0 := sm_0 hn.1 (fun _ _ => rfl)
  unfold ar
  omega
set_option maxRecDepth 8000 in
theorem s87_n {d : Nat} {Q : Option AV → XH → Prop} {G : XS} {s : ZS} {W U V : Int} {B : ZS} {N R T : Int} {k : Int} (hd : 5 ≤ d) (hg : LOK G W U V) (hv : CV s W B N R T) (hb : OKB B N) (hn : 0 ≤ N ∧ N ≤ 40 ∧ 0 ≤ R ∧ R ≤ 10 ∧ 0 ≤ T ∧ T ≤ 20000) (ik : ir k) (q : thr B N = 0 ∨ ¬(0 ≤ k ∧ k ≤ 1)) : Call d 87 [zrf 0, zint k] (G, s) Q = Q (some (zlng (-9223372036854775808))) (G, s) := by
  have hg' := hg
  obtain ⟨g1, g2, g3, g4, g5, g6, hw, hu, hx, g7, g8, g9, g10, g11, g12⟩ := hg'
  have hw' := hw
  obtain ⟨w1, w2, w3, w4, w5, w6, w7, w8, w9, w10, w11, w12, w13, w14, w15, w16, w17, w18, w19, w20, w21, w22, w23, w24, w25⟩ := hw'
  have hv' := hv
  obtain ⟨v1, v2, v3, vB⟩ := hv'
  have tb := thr_b (B := B) (N := N) hn.1
  have ab := ar_b (B := B) (N := N) ⟨hn.1, hn.2.1⟩ hb
  rw [e87 (show 1 ≤ d by omega)]
  by_cases q0 : thr B N = 0
  · skip
    first
    | (exfalso; omega; done)
    | simp (disch := first | omega | exact rfl) only [↓u87_0, ↓u87_1, ↓u87_4, ↓u87_7, ↓u87_8, ↓u87_9, ↓u87_12, ↓u87_13, ↓u87_14, ↓u87_15, ↓u87_18, ↓u87_21, ↓u87_24, ↓u87_25, ↓u87_26, ↓u87_29, ↓u87_32, ↓u87_33, ↓u87_34, ↓u87_37, ↓lI_0, ↓lI_s, ↓lL_0, ↓lL_s, ↓lR_0, ↓lR_s, ↓sT_0, ↓sT_i, ↓sT_r, ↓sT_u, ↓sT_lu, ↓sU_0, ↓sU_i, ↓sU_r, ↓sU_u, ↓ite_bx, bx_T, bx_F, bx_pos, bx_neg, zws_i, zws_r, zws_l, zws_n, zCb_kc, xl_ll, xr_rr, xs_e, xset_e, Option.toList, List.cons_append, List.nil_append, zIb_e, zrng_e, nz_e, if_pos, if_neg, and_true, true_and, or_true, true_or, ite_self, bi_eq0, bi_eq1, bi_1, bi_0, bi_ir, bi_T, bi_F, up_eq, up_ne, ↓reduceIte, reduceIte, Nat.reduceAdd, Nat.reduceLeDiff, Nat.le_refl, Nat.zero_le, not_true_eq_false, not_false_eq_true, ne_eq, Int.reduceEq, Int.reduceLT, Int.reduceLE, Int.reduceAdd, Int.reduceSub, Int.reduceMul, Int.reduceNeg, pT g1, g2, g3, g4, g5, g6, pT w1, w2, pT w3, w4, w5, w6, v1, v2, v3, vB, s103, t39 (show 1 ≤ d - 1 by omega) hw hv hb hn, t40 (show 1 ≤ d - 1 by omega) hw hv hb hn]
  · skip
    first
    | (exfalso; omega; done)
    | simp (disch := first | omega | exact rfl) only [↓u87_0, ↓u87_1, ↓u87_4, ↓u87_7, ↓u87_8, ↓u87_9, ↓u87_12, ↓u87_13, ↓u87_14, ↓u87_15, ↓u87_18, ↓u87_21, ↓u87_24, ↓u87_25, ↓u87_26, ↓u87_29, ↓u87_32, ↓u87_33, ↓u87_34, ↓u87_37, ↓lI_0, ↓lI_s, ↓lL_0, ↓lL_s, ↓lR_0, ↓lR_s, ↓sT_0, ↓sT_i, ↓sT_r, ↓sT_u, ↓sT_lu, ↓sU_0, ↓sU_i, ↓sU_r, ↓sU_u, ↓ite_bx, bx_T, bx_F, bx_pos, bx_neg, zws_i, zws_r, zws_l, zws_n, zCb_kc, xl_ll, xr_rr, xs_e, xset_e, Option.toList, List.cons_append, List.nil_append, zIb_e, zrng_e, nz_e, if_pos, if_neg, and_true, true_and, or_true, true_or, ite_self, bi_eq0, bi_eq1, bi_1, bi_0, bi_ir, bi_T, bi_F, up_eq, up_ne, ↓reduceIte, reduceIte, Nat.reduceAdd, Nat.reduceLeDiff, Nat.le_refl, Nat.zero_le, not_true_eq_false, not_false_eq_true, ne_eq, Int.reduceEq, Int.reduceLT, Int.reduceLE, Int.reduceAdd, Int.reduceSub, Int.reduceMul, Int.reduceNeg, pT g1, g2, g3, g4, g5, g6, pT w1, w2, pT w3, w4, w5, w6, v1, v2, v3, vB, s103, t39 (show 1 ≤ d - 1 by omega) hw hv hb hn, t40 (show 1 ≤ d - 1 by omega) hw hv hb hn]
set_option maxRecDepth 8000 in
theorem s87_y {d : Nat} {Q : Option AV → XH → Prop} {G : XS} {s : ZS} {W U V : Int} {B : ZS} {N R T : Int} {k : Int} (hd : 5 ≤ d) (hg : LOK G W U V) (hv : CV s W B N R T) (hb : OKB B N) (hn : 0 ≤ N ∧ N ≤ 40 ∧ 0 ≤ R ∧ R ≤ 10 ∧ 0 ≤ T ∧ T ≤ 20000) (q : thr B N ≠ 0) (q2 : k = 0 ∨ k = 1) : Call d 87 [zrf 0, zint k] (G, s) Q = Q (some (zlng ((if k = 0 then ar B N else thr B N) / gcn 100 (ar B N) (thr B N)))) (G, s) := by
  have hg' := hg
  obtain ⟨g1, g2, g3, g4, g5, g6, hw, hu, hx, g7, g8, g9, g10, g11, g12⟩ := hg'
  have hw' := hw
  obtain ⟨w1, w2, w3, w4, w5, w6, w7, w8, w9, w10, w11, w12, w13, w14, w15, w16, w17, w18, w19, w20, w21, w22, w23, w24, w25⟩ := hw'
  have hv' := hv
  obtain ⟨v1, v2, v3, vB⟩ := hv'
  have tb := thr_b (B := B) (N := N) hn.1
  have ab := ar_b (B := B) (N := N) ⟨hn.1, hn.2.1⟩ hb
  rw [e87 (show 1 ≤ d by omega)]
  simp (disch := first | omega | exact rfl) only [↓u87_0, ↓u87_1, ↓u87_4, ↓u87_7, ↓u87_8, ↓u87_9, ↓u87_12, ↓u87_13, ↓u87_14, ↓u87_15, ↓u87_18, ↓u87_21, ↓u87_24, ↓u87_25, ↓u87_26, ↓u87_29, ↓u87_32, ↓u87_33, ↓u87_34, ↓u87_37, ↓lI_0, ↓lI_s, ↓lL_0, ↓lL_s, ↓lR_0, ↓lR_s, ↓sT_0, ↓sT_i, ↓sT_r, ↓sT_u, ↓sT_lu, ↓sU_0, ↓sU_i, ↓sU_r, ↓sU_u, ↓ite_bx, bx_T, bx_F, bx_pos, bx_neg, zws_i, zws_r, zws_l, zws_n, zCb_kc, xl_ll, xr_rr, xs_e, xset_e, Option.toList, List.cons_append, List.nil_append, zIb_e, zrng_e, nz_e, if_pos, if_neg, and_true, true_and, or_true, true_or, ite_self, bi_eq0, bi_eq1, bi_1, bi_0, bi_ir, bi_T, bi_F, up_eq, up_ne, ↓reduceIte, reduceIte, Nat.reduceAdd, Nat.reduceLeDiff, Nat.le_refl, Nat.zero_le, not_true_eq_false, not_false_eq_true, ne_eq, Int.reduceEq, Int.reduceLT, Int.reduceLE, Int.reduceAdd, Int.reduceSub, Int.reduceMul, Int.reduceNeg, pT g1, g2, g3, g4, g5, g6, pT w1, w2, pT w3, w4, w5, w6, v1, v2, v3, vB, s103, s108 (show 3 ≤ d - 1 by omega) (show 0 ≤ ar B N ∧ ar B N ≤ 1000000 by omega) (show 1 ≤ thr B N ∧ thr B N ≤ 1000000 by omega) q2, t39 (show 1 ≤ d - 1 by omega) hw hv hb hn, t40 (show 1 ≤ d - 1 by omega) hw hv hb hn]
noncomputable def od1 (B : ZS) (N b x j : Int) : Int := sm (fun j => bi (nr B N (8 + 16 * x) (8 + 16 * j) 0 0 = b)) j 8
noncomputable def od (B : ZS) (N b : Int) : Int := sm (fun x => od1 B N b x 0) 0 8
set_option maxRecDepth 8000 in
theorem nr_b {B : ZS} {N px py t k : Int} (hn : 0 ≤ N) : -5 ≤ nr B N px py t k ∧ nr B N px py t k ≤ N := kth_b (Int.le_refl 0) hn
set_option maxRecDepth 8000 in
theorem od1_b {B : ZS} {N b x j : Int} (h : 0 ≤ j ∧ j ≤ 8) : 0 ≤ od1 B N b x j ∧ od1 B N b x j ≤ 8 - j := cn_b (fun j => nr B N (8 + 16 * x) (8 + 16 * j) 0 0 = b) j 8 h.2
set_option maxRecDepth 8000 in
theorem od_b {B : ZS} {N b : Int} : 0 ≤ od B N b ∧ od B N b ≤ 64 := by
  have := sm_b (f := fun x => od1 B N b x 0) (N := 8) (c := 8) (fun x => by have := od1_b (B := B) (N := N) (b := b) (x := x) (j := 0) (by omega); omega) 0 (by omega)
  unfold od
  omega
set_option maxRecDepth 8000 in
theorem i86 {d : Nat} {Q : Option AV → XH → Prop} {G : XS} {s : ZS} {W U V : Int} {B : ZS} {N R T : Int} {b k x : Int} (hd : 6 ≤ d) (hg : LOK G W U V) (hv : CV s W B N R T) (hb : OKB B N) (hn : 0 ≤ N ∧ N ≤ 40 ∧ 0 ≤ R ∧ R ≤ 10 ∧ 0 ≤ T ∧ T ≤ 20000) (ib : ir b) (hx8 : 0 ≤ x ∧ x < 8) : ∀ j, 0 ≤ j → j ≤ 8 → ∀ p h, Wp (d - 1) 86 (45, [zrf 0, zint b, zint k, zint p, zint h, zint (8 + 16 * x), zint (8 + 16 * j)], [], (G, s)) Q = Wp (d - 1) 86 (82, [zrf 0, zint b, zint k, zint (p + (8 - j)), zint (h + od1 B N b x j), zint (8 + 16 * x), zint 136], [], (G, s)) Q := by
  have hg' := hg
  obtain ⟨g1, g2, g3, g4, g5, g6, hw, hu, hx, g7, g8, g9, g10, g11, g12⟩ := hg'
  have hw' := hw
  obtain ⟨w1, w2, w3, w4, w5, w6, w7, w8, w9, w10, w11, w12, w13, w14, w15, w16, w17, w18, w19, w20, w21, w22, w23, w24, w25⟩ := hw'
  have hv' := hv
  obtain ⟨v1, v2, v3, vB⟩ := hv'
  unfold od1
  refine dn (P := fun j => ∀ p h, Wp (d - 1) 86 (45, [zrf 0, zint b, zint k, zint p, zint h, zint (8 + 16 * x), zint (8 + 16 * j)], [], (G, s)) Q = Wp (d - 1) 86 (82, [zrf 0, zint b, zint k, zint (p + (8 - j)), zint (h + sm (fun j => bi (nr B N (8 + 16 * x) (8 + 16 * j) 0 0 = b)) j 8), zint (8 + 16 * x), zint 136], [], (G, s)) Q) ?_ ?_
  · intro p h
    rw [sm_e (Int.le_refl 8), Int.add_zero, show p + (8 - 8) = p by omega, show (8 : Int) + 16 * 8 = 136 by omega, u86_45]
    simp (disch := first | omega | exact rfl) only [↓u86_0, ↓u86_1, ↓u86_4, ↓u86_5, ↓u86_8, ↓u86_11, ↓u86_12, ↓u86_13, ↓u86_14, ↓u86_17, ↓u86_20, ↓u86_23, ↓u86_24, ↓u86_25, ↓u86_26, ↓u86_27, ↓u86_29, ↓u86_31, ↓u86_33, ↓u86_35, ↓u86_38, ↓u86_41, ↓u86_43, ↓u86_47, ↓u86_50, ↓u86_53, ↓u86_56, ↓u86_57, ↓u86_60, ↓u86_62, ↓u86_64, ↓u86_65, ↓u86_66, ↓u86_69, ↓u86_70, ↓u86_73, ↓u86_76, ↓u86_79, ↓u86_85, ↓u86_88, ↓u86_90, ↓u86_91, ↓u86_92, ↓u86_95, ↓lI_0, ↓lI_s, ↓lL_0, ↓lL_s, ↓lR_0, ↓lR_s, ↓sT_0, ↓sT_i, ↓sT_r, ↓sT_u, ↓sT_lu, ↓sU_0, ↓sU_i, ↓sU_r, ↓sU_u, ↓ite_bx, bx_T, bx_F, bx_pos, bx_neg, zws_i, zws_r, zws_l, zws_n, zCb_kc, xl_ll, xr_rr, xs_e, xset_e, Option.toList, List.cons_append, List.nil_append, zIb_e, zrng_e, nz_e, if_pos, if_neg, and_true, true_and, or_true, true_or, ite_self, bi_eq0, bi_eq1, bi_1, bi_0, bi_ir, bi_T, bi_F, up_eq, up_ne, ↓reduceIte, reduceIte, Nat.reduceAdd, Nat.reduceLeDiff, Nat.le_refl, Nat.zero_le, not_true_eq_false, not_false_eq_true, ne_eq, Int.reduceEq, Int.reduceLT, Int.reduceLE, Int.reduceAdd, Int.reduceSub, Int.reduceMul, Int.reduceNeg, pT g1, g2, g3, g4, g5, g6, pT w1, w2, pT w3, w4, w5, w6, v1, v2, v3, vB]
  · intro j h0 h1 ih p h
    have nb := nr_b (B := B) (N := N) (px := 8 + 16 * x) (py := 8 + 16 * j) (t := 0) (k := 0) hn.1
    rw [sm_s h1, u86_45]
    rw [show (8 : Int) + 16 * (j + 1) = 8 + 16 * j + 16 by omega] at ih
    by_cases q : nr B N (8 + 16 * x) (8 + 16 * j) 0 0 = b
    · have ih2 := ih (p + 1) (h + 1)
      rw [bi_1 q, ← Int.add_assoc, show p + (8 - j) = p + 1 + (8 - (j + 1)) by omega]
      simp (disch := first | omega | exact rfl) only [↓u86_0, ↓u86_1, ↓u86_4, ↓u86_5, ↓u86_8, ↓u86_11, ↓u86_12, ↓u86_13, ↓u86_14, ↓u86_17, ↓u86_20, ↓u86_23, ↓u86_24, ↓u86_25, ↓u86_26, ↓u86_27, ↓u86_29, ↓u86_31, ↓u86_33, ↓u86_35, ↓u86_38, ↓u86_41, ↓u86_43, ↓u86_47, ↓u86_50, ↓u86_53, ↓u86_56, ↓u86_57, ↓u86_60, ↓u86_62, ↓u86_64, ↓u86_65, ↓u86_66, ↓u86_69, ↓u86_70, ↓u86_73, ↓u86_76, ↓u86_79, ↓u86_85, ↓u86_88, ↓u86_90, ↓u86_91, ↓u86_92, ↓u86_95, ↓lI_0, ↓lI_s, ↓lL_0, ↓lL_s, ↓lR_0, ↓lR_s, ↓sT_0, ↓sT_i, ↓sT_r, ↓sT_u, ↓sT_lu, ↓sU_0, ↓sU_i, ↓sU_r, ↓sU_u, ↓ite_bx, bx_T, bx_F, bx_pos, bx_neg, zws_i, zws_r, zws_l, zws_n, zCb_kc, xl_ll, xr_rr, xs_e, xset_e, Option.toList, List.cons_append, List.nil_append, zIb_e, zrng_e, nz_e, if_pos, if_neg, and_true, true_and, or_true, true_or, ite_self, bi_eq0, bi_eq1, bi_1, bi_0, bi_ir, bi_T, bi_F, up_eq, up_ne, ↓reduceIte, reduceIte, Nat.reduceAdd, Nat.reduceLeDiff, Nat.le_refl, Nat.zero_le, not_true_eq_false, not_false_eq_true, ne_eq, Int.reduceEq, Int.reduceLT, Int.reduceLE, Int.reduceAdd, Int.reduceSub, Int.reduceMul, Int.reduceNeg, pT g1, g2, g3, g4, g5, g6, pT w1, w2, pT w3, w4, w5, w6, v1, v2, v3, vB, ih2, s55 (show 5 ≤ d - 1 by omega) hw hv hb hn (show 0 ≤ 8 + 16 * x ∧ 8 + 16 * x ≤ 127 by omega) (show 0 ≤ 8 + 16 * j ∧ 8 + 16 * j ≤ 127 by omega) (show (0 : Int) ≤ 0 ∧ (0 : Int) ≤ 4 by omega) (show (0 : Int) ≤ 0 ∧ ir 0 by omega)]
    · have ih2 := ih (p + 1) h
      rw [bi_0 q, Int.zero_add, show p + (8 - j) = p + 1 + (8 - (j + 1)) by omega]
      simp (disch := first | omega | exact rfl) only [↓u86_0, ↓u86_1, ↓u86_4, ↓u86_5, ↓u86_8, ↓u86_11, ↓u86_12, ↓u86_13, ↓u86_14, ↓u86_17, ↓u86_20, ↓u86_23, ↓u86_24, ↓u86_25, ↓u86_26, ↓u86_27, ↓u86_29, ↓u86_31, ↓u86_33, ↓u86_35, ↓u86_38, ↓u86_41, ↓u86_43, ↓u86_47, ↓u86_50, ↓u86_53, ↓u86_56, ↓u86_57, ↓u86_60, ↓u86_62, ↓u86_64, ↓u86_65, ↓u86_66, ↓u86_69, ↓u86_70, ↓u86_73, ↓u86_76, ↓u86_79, ↓u86_85, ↓u86_88, ↓u86_90, ↓u86_91, ↓u86_92, ↓u86_95, ↓lI_0, ↓lI_s, ↓lL_0, ↓lL_s, ↓lR_0, ↓lR_s, ↓sT_0, ↓sT_i, ↓sT_r, ↓sT_u, ↓sT_lu, ↓sU_0, ↓sU_i, ↓sU_r, ↓sU_u, ↓ite_bx, bx_T, bx_F, bx_pos, bx_neg, zws_i, zws_r, zws_l, zws_n, zCb_kc, xl_ll, xr_rr, xs_e, xset_e, Option.toList, List.cons_append, List.nil_append, zIb_e, zrng_e, nz_e, if_pos, if_neg, and_true, true_and, or_true, true_or, ite_self, bi_eq0, bi_eq1, bi_1, bi_0, bi_ir, bi_T, bi_F, up_eq, up_ne, ↓reduceIte, reduceIte, Nat.reduceAdd, Nat.reduceLeDiff, Nat.le_refl, Nat.zero_le, not_true_eq_false, not_false_eq_true, ne_eq, Int.reduceEq, Int.reduceLT, Int.reduceLE, Int.reduceAdd, Int.reduceSub, Int.reduceMul, Int.reduceNeg, pT g1, g2, g3, g4, g5, g6, pT w1, w2, pT w3, w4, w5, w6, v1, v2, v3, vB, ih2, s55 (show 5 ≤ d - 1 by omega) hw hv hb hn (show 0 ≤ 8 + 16 * x ∧ 8 + 16 * x ≤ 127 by omega) (show 0 ≤ 8 + 16 * j ∧ 8 + 16 * j ≤ 127 by omega) (show (0 : Int) ≤ 0 ∧ (0 : Int) ≤ 4 by omega) (show (0 : Int) ≤ 0 ∧ ir 0 by omega)]
set_option maxRecDepth 8000 in
theorem s86_n {d : Nat} {Q : Option AV → XH → Prop} {G : XS} {s : ZS} {W U V : Int} {B : ZS} {N R T : Int} {b k : Int} (hd : 6 ≤ d) (hg : LOK G W U V) (hv : CV s W B N R T) (hb : OKB B N) (hn : 0 ≤ N ∧ N ≤ 40 ∧ 0 ≤ R ∧ R ≤ 10 ∧ 0 ≤ T ∧ T ≤ 20000) (ib : ir b) (ik : ir k) (q : ¬(hr B N b ∧ 0 ≤ k ∧ k ≤ 1)) : Call d 86 [zrf 0, zint b, zint k] (G, s) Q = Q (some (zlng (-9223372036854775808))) (G, s) := by
  have hg' := hg
  obtain ⟨g1, g2, g3, g4, g5, g6, hw, hu, hx, g7, g8, g9, g10, g11, g12⟩ := hg'
  have hw' := hw
  obtain ⟨w1, w2, w3, w4, w5, w6, w7, w8, w9, w10, w11, w12, w13, w14, w15, w16, w17, w18, w19, w20, w21, w22, w23, w24, w25⟩ := hw'
  have hv' := hv
  obtain ⟨v1, v2, v3, vB⟩ := hv'
  rw [e86 (show 1 ≤ d by omega)]
  by_cases q2 : hr B N b
  · simp (disch := first | omega | exact rfl) only [↓u86_0, ↓u86_1, ↓u86_4, ↓u86_5, ↓u86_8, ↓u86_11, ↓u86_12, ↓u86_13, ↓u86_14, ↓u86_17, ↓u86_20, ↓u86_23, ↓u86_24, ↓u86_25, ↓u86_26, ↓u86_27, ↓u86_29, ↓u86_31, ↓u86_33, ↓u86_35, ↓u86_38, ↓u86_41, ↓u86_43, ↓u86_45, ↓u86_47, ↓u86_50, ↓u86_53, ↓u86_56, ↓u86_57, ↓u86_60, ↓u86_62, ↓u86_64, ↓u86_65, ↓u86_66, ↓u86_69, ↓u86_70, ↓u86_73, ↓u86_76, ↓u86_79, ↓u86_82, ↓u86_85, ↓u86_88, ↓u86_90, ↓u86_91, ↓u86_92, ↓u86_95, ↓lI_0, ↓lI_s, ↓lL_0, ↓lL_s, ↓lR_0, ↓lR_s, ↓sT_0, ↓sT_i, ↓sT_r, ↓sT_u, ↓sT_lu, ↓sU_0, ↓sU_i, ↓sU_r, ↓sU_u, ↓ite_bx, bx_T, bx_F, bx_pos, bx_neg, zws_i, zws_r, zws_l, zws_n, zCb_kc, xl_ll, xr_rr, xs_e, xset_e, Option.toList, List.cons_append, List.nil_append, zIb_e, zrng_e, nz_e, if_pos, if_neg, and_true, true_and, or_true, true_or, ite_self, bi_eq0, bi_eq1, bi_1, bi_0, bi_ir, bi_T, bi_F, up_eq, up_ne, ↓reduceIte, reduceIte, Nat.reduceAdd, Nat.reduceLeDiff, Nat.le_refl, Nat.zero_le, not_true_eq_false, not_false_eq_true, ne_eq, Int.reduceEq, Int.reduceLT, Int.reduceLE, Int.reduceAdd, Int.reduceSub, Int.reduceMul, Int.reduceNeg, pT g1, g2, g3, g4, g5, g6, pT w1, w2, pT w3, w4, w5, w6, v1, v2, v3, vB, s103, s37_y (show 2 ≤ d - 1 by omega) hw hv hb hn q2]
  · simp (disch := first | omega | exact rfl) only [↓u86_0, ↓u86_1, ↓u86_4, ↓u86_5, ↓u86_8, ↓u86_11, ↓u86_12, ↓u86_13, ↓u86_14, ↓u86_17, ↓u86_20, ↓u86_23, ↓u86_24, ↓u86_25, ↓u86_26, ↓u86_27, ↓u86_29, ↓u86_31, ↓u86_33, ↓u86_35, ↓u86_38, ↓u86_41, ↓u86_43, ↓u86_45, ↓u86_47, ↓u86_50, ↓u86_53, ↓u86_56, ↓u86_57, ↓u86_60, ↓u86_62, ↓u86_64, ↓u86_65, ↓u86_66, ↓u86_69, ↓u86_70, ↓u86_73, ↓u86_76, ↓u86_79, ↓u86_82, ↓u86_85, ↓u86_88, ↓u86_90, ↓u86_91, ↓u86_92, ↓u86_95, ↓lI_0, ↓lI_s, ↓lL_0, ↓lL_s, ↓lR_0, ↓lR_s, ↓sT_0, ↓sT_i, ↓sT_r, ↓sT_u, ↓sT_lu, ↓sU_0, ↓sU_i, ↓sU_r, ↓sU_u, ↓ite_bx, bx_T, bx_F, bx_pos, bx_neg, zws_i, zws_r, zws_l, zws_n, zCb_kc, xl_ll, xr_rr, xs_e, xset_e, Option.toList, List.cons_append, List.nil_append, zIb_e, zrng_e, nz_e, if_pos, if_neg, and_true, true_and, or_true, true_or, ite_self, bi_eq0, bi_eq1, bi_1, bi_0, bi_ir, bi_T, bi_F, up_eq, up_ne, ↓reduceIte, reduceIte, Nat.reduceAdd, Nat.reduceLeDiff, Nat.le_refl, Nat.zero_le, not_true_eq_false, not_false_eq_true, ne_eq, Int.reduceEq, Int.reduceLT, Int.reduceLE, Int.reduceAdd, Int.reduceSub, Int.reduceMul, Int.reduceNeg, pT g1, g2, g3, g4, g5, g6, pT w1, w2, pT w3, w4, w5, w6, v1, v2, v3, vB, s103, s37_n (show 2 ≤ d - 1 by omega) hw hv hb hn ib q2]
set_option maxRecDepth 8000 in
theorem j86 {d : Nat} {Q : Option AV → XH → Prop} {G : XS} {s : ZS} {W U V : Int} {B : ZS} {N R T : Int} {b k : Int} (hd : 6 ≤ d) (hg : LOK G W U V) (hv : CV s W B N R T) (hb : OKB B N) (hn : 0 ≤ N ∧ N ≤ 40 ∧ 0 ≤ R ∧ R ≤ 10 ∧ 0 ≤ T ∧ T ≤ 20000) (ib : ir b) : ∀ x, 0 ≤ x → x ≤ 8 → ∀ p h v, (0 ≤ p ∧ p ≤ 8 * x) → (0 ≤ h ∧ h ≤ 8 * x) → ∃ v22, Wp (d - 1) 86 (33, [zrf 0, zint b, zint k, zint p, zint h, zint (8 + 16 * x), v], [], (G, s)) Q = Wp (d - 1) 86 (88, [zrf 0, zint b, zint k, zint (p + 8 * (8 - x)), zint (h + sm (fun x => od1 B N b x 0) x 8), zint 136, v22], [], (G, s)) Q := by
  have hg' := hg
  obtain ⟨g1, g2, g3, g4, g5, g6, hw, hu, hx, g7, g8, g9, g10, g11, g12⟩ := hg'
  have hw' := hw
  obtain ⟨w1, w2, w3, w4, w5, w6, w7, w8, w9, w10, w11, w12, w13, w14, w15, w16, w17, w18, w19, w20, w21, w22, w23, w24, w25⟩ := hw'
  have hv' := hv
  obtain ⟨v1, v2, v3, vB⟩ := hv'
  refine dn (P := fun x => ∀ p h v, (0 ≤ p ∧ p ≤ 8 * x) → (0 ≤ h ∧ h ≤ 8 * x) → ∃ v22, Wp (d - 1) 86 (33, [zrf 0, zint b, zint k, zint p, zint h, zint (8 + 16 * x), v], [], (G, s)) Q = Wp (d - 1) 86 (88, [zrf 0, zint b, zint k, zint (p + 8 * (8 - x)), zint (h + sm (fun x => od1 B N b x 0) x 8), zint 136, v22], [], (G, s)) Q) ?_ ?_
  · intro p h v hp hh
    refine ⟨v, ?_⟩
    rw [sm_e (Int.le_refl 8), Int.add_zero, show p + 8 * (8 - 8) = p by omega, show (8 : Int) + 16 * 8 = 136 by omega, u86_33]
    simp (disch := first | omega | exact rfl) only [↓u86_0, ↓u86_1, ↓u86_4, ↓u86_5, ↓u86_8, ↓u86_11, ↓u86_12, ↓u86_13, ↓u86_14, ↓u86_17, ↓u86_20, ↓u86_23, ↓u86_24, ↓u86_25, ↓u86_26, ↓u86_27, ↓u86_29, ↓u86_31, ↓u86_35, ↓u86_38, ↓u86_41, ↓u86_43, ↓u86_45, ↓u86_47, ↓u86_50, ↓u86_53, ↓u86_56, ↓u86_57, ↓u86_60, ↓u86_62, ↓u86_64, ↓u86_65, ↓u86_66, ↓u86_69, ↓u86_70, ↓u86_73, ↓u86_76, ↓u86_79, ↓u86_82, ↓u86_85, ↓u86_90, ↓u86_91, ↓u86_92, ↓u86_95, ↓lI_0, ↓lI_s, ↓lL_0, ↓lL_s, ↓lR_0, ↓lR_s, ↓sT_0, ↓sT_i, ↓sT_r, ↓sT_u, ↓sT_lu, ↓sU_0, ↓sU_i, ↓sU_r, ↓sU_u, ↓ite_bx, bx_T, bx_F, bx_pos, bx_neg, zws_i, zws_r, zws_l, zws_n, zCb_kc, xl_ll, xr_rr, xs_e, xset_e, Option.toList, List.cons_append, List.nil_append, zIb_e, zrng_e, nz_e, if_pos, if_neg, and_true, true_and, or_true, true_or, ite_self, bi_eq0, bi_eq1, bi_1, bi_0, bi_ir, bi_T, bi_F, up_eq, up_ne, ↓reduceIte, reduceIte, Nat.reduceAdd, Nat.reduceLeDiff, Nat.le_refl, Nat.zero_le, not_true_eq_false, not_false_eq_true, ne_eq, Int.reduceEq, Int.reduceLT, Int.reduceLE, Int.reduceAdd, Int.reduceSub, Int.reduceMul, Int.reduceNeg, pT g1, g2, g3, g4, g5, g6, pT w1, w2, pT w3, w4, w5, w6, v1, v2, v3, vB]
  · intro x h0 h1 ih p h v hp hh
    have ob := od1_b (B := B) (N := N) (b := b) (x := x) (j := 0) (by omega)
    have i2 := i86 (d := d) (Q := Q) (k := k) (show 6 ≤ d by omega) hg hv hb hn ib (show 0 ≤ x ∧ x < 8 by omega) 0 (Int.le_refl 0) (by omega) p h
    rw [show (8 : Int) + 16 * 0 = 8 by omega, show p + (8 - 0) = p + 8 by omega] at i2
    obtain ⟨v22, ih2⟩ := ih (p + 8) (h + od1 B N b x 0) (zint 136) (by omega) (by omega)
    refine ⟨v22, ?_⟩
    rw [show (8 : Int) + 16 * (x + 1) = 8 + 16 * x + 16 by omega] at ih2
    rw [sm_s h1, u86_33, ← Int.add_assoc, show p + 8 * (8 - x) = p + 8 + 8 * (8 - (x + 1)) by omega]
    simp (disch := first | omega | exact rfl) only [↓u86_0, ↓u86_1, ↓u86_4, ↓u86_5, ↓u86_8, ↓u86_11, ↓u86_12, ↓u86_13, ↓u86_14, ↓u86_17, ↓u86_20, ↓u86_23, ↓u86_24, ↓u86_25, ↓u86_26, ↓u86_27, ↓u86_29, ↓u86_31, ↓u86_35, ↓u86_38, ↓u86_41, ↓u86_43, ↓u86_47, ↓u86_50, ↓u86_53, ↓u86_56, ↓u86_57, ↓u86_60, ↓u86_62, ↓u86_64, ↓u86_65, ↓u86_66, ↓u86_69, ↓u86_70, ↓u86_73, ↓u86_76, ↓u86_79, ↓u86_82, ↓u86_85, ↓u86_90, ↓u86_91, ↓u86_92, ↓u86_95, ↓lI_0, ↓lI_s, ↓lL_0, ↓lL_s, ↓lR_0, ↓lR_s, ↓sT_0, ↓sT_i, ↓sT_r, ↓sT_u, ↓sT_lu, ↓sU_0, ↓sU_i, ↓sU_r, ↓sU_u, ↓ite_bx, bx_T, bx_F, bx_pos, bx_neg, zws_i, zws_r, zws_l, zws_n, zCb_kc, xl_ll, xr_rr, xs_e, xset_e, Option.toList, List.cons_append, List.nil_append, zIb_e, zrng_e, nz_e, if_pos, if_neg, and_true, true_and, or_true, true_or, ite_self, bi_eq0, bi_eq1, bi_1, bi_0, bi_ir, bi_T, bi_F, up_eq, up_ne, ↓reduceIte, reduceIte, Nat.reduceAdd, Nat.reduceLeDiff, Nat.le_refl, Nat.zero_le, not_true_eq_false, not_false_eq_true, ne_eq, Int.reduceEq, Int.reduceLT, Int.reduceLE, Int.reduceAdd, Int.reduceSub, Int.reduceMul, Int.reduceNeg, pT g1, g2, g3, g4, g5, g6, pT w1, w2, pT w3, w4, w5, w6, v1, v2, v3, vB, i2, ih2]
set_option maxRecDepth 8000 in
theorem s86_y {d : Nat} {Q : Option AV → XH → Prop} {G : XS} {s : ZS} {W U V : Int} {B : ZS} {N R T : Int} {b k : Int} (hd : 6 ≤ d) (hg : LOK G W U V) (hv : CV s W B N R T) (hb : OKB B N) (hn : 0 ≤ N ∧ N ≤ 40 ∧ 0 ≤ R ∧ R ≤ 10 ∧ 0 ≤ T ∧ T ≤ 20000) (ib : ir b) (q : hr B N b) (q2 : k = 0 ∨ k = 1) : Call d 86 [zrf 0, zint b, zint k] (G, s) Q = Q (some (zlng ((if k = 0 then od B N b else 64) / gcn 100 (od B N b) 64))) (G, s) := by
  have hg' := hg
  obtain ⟨g1, g2, g3, g4, g5, g6, hw, hu, hx, g7, g8, g9, g10, g11, g12⟩ := hg'
  have hw' := hw
  obtain ⟨w1, w2, w3, w4, w5, w6, w7, w8, w9, w10, w11, w12, w13, w14, w15, w16, w17, w18, w19, w20, w21, w22, w23, w24, w25⟩ := hw'
  have hv' := hv
  obtain ⟨v1, v2, v3, vB⟩ := hv'
  have ob := od_b (B := B) (N := N) (b := b)
  obtain ⟨v22, e⟩ := j86 (d := d) (Q := Q) (k := k) (b := b) (show 6 ≤ d by omega) hg hv hb hn ib 0 (Int.le_refl 0) (by omega) 0 0 zun (by omega) (by omega)
  rw [show (8 : Int) + 16 * 0 = 8 by omega, show (0 : Int) + 8 * (8 - 0) = 64 by omega, Int.zero_add, show sm (fun x => od1 B N b x 0) 0 8 = od B N b from rfl] at e
  rw [e86 (show 1 ≤ d by omega)]
  simp (disch := first | omega | exact rfl) only [↓u86_0, ↓u86_1, ↓u86_4, ↓u86_5, ↓u86_8, ↓u86_11, ↓u86_12, ↓u86_13, ↓u86_14, ↓u86_17, ↓u86_20, ↓u86_23, ↓u86_24, ↓u86_25, ↓u86_26, ↓u86_27, ↓u86_29, ↓u86_31, ↓u86_35, ↓u86_38, ↓u86_41, ↓u86_43, ↓u86_45, ↓u86_47, ↓u86_50, ↓u86_53, ↓u86_56, ↓u86_57, ↓u86_60, ↓u86_62, ↓u86_64, ↓u86_65, ↓u86_66, ↓u86_69, ↓u86_70, ↓u86_73, ↓u86_76, ↓u86_79, ↓u86_82, ↓u86_85, ↓u86_88, ↓u86_90, ↓u86_91, ↓u86_92, ↓u86_95, ↓lI_0, ↓lI_s, ↓lL_0, ↓lL_s, ↓lR_0, ↓lR_s, ↓sT_0, ↓sT_i, ↓sT_r, ↓sT_u, ↓sT_lu, ↓sU_0, ↓sU_i, ↓sU_r, ↓sU_u, ↓ite_bx, bx_T, bx_F, bx_pos, bx_neg, zws_i, zws_r, zws_l, zws_n, zCb_kc, xl_ll, xr_rr, xs_e, xset_e, Option.toList, List.cons_append, List.nil_append, zIb_e, zrng_e, nz_e, if_pos, if_neg, and_true, true_and, or_true, true_or, ite_self, bi_eq0, bi_eq1, bi_1, bi_0, bi_ir, bi_T, bi_F, up_eq, up_ne, ↓reduceIte, reduceIte, Nat.reduceAdd, Nat.reduceLeDiff, Nat.le_refl, Nat.zero_le, not_true_eq_false, not_false_eq_true, ne_eq, Int.reduceEq, Int.reduceLT, Int.reduceLE, Int.reduceAdd, Int.reduceSub, Int.reduceMul, Int.reduceNeg, pT g1, g2, g3, g4, g5, g6, pT w1, w2, pT w3, w4, w5, w6, v1, v2, v3, vB, s103, e, s37_y (show 2 ≤ d - 1 by omega) hw hv hb hn q, s108 (show 3 ≤ d - 1 by omega) (show 0 ≤ od B N b ∧ od B N b ≤ 1000000 by omega) (show (1 : Int) ≤ 64 ∧ (64 : Int) ≤ 1000000 by omega) q2]
