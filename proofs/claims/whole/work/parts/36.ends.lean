/-! the class LooseGrid: ends; judging, the image, what is taken, counted -/
def dpl (B : ZS) (N w n : Int) : ZS := if w = 0 then stp B else if hr B N n then (if w = 1 then up B n 8 0 else if w = 2 then up (up B n 6 (-(B n 6))) n 7 (-(B n 7)) else up B n 1 1) else B
set_option maxRecDepth 8000 in
theorem dpl_0 {B : ZS} {N w n : Int} (h : w = 0) : dpl B N w n = stp B := if_pos h
set_option maxRecDepth 8000 in
theorem dpl_n {B : ZS} {N w n : Int} (h : w ≠ 0) (q : ¬hr B N n) : dpl B N w n = B := by unfold dpl; rw [if_neg h, if_neg q]
set_option maxRecDepth 8000 in
theorem dpl_1 {B : ZS} {N w n : Int} (h : w = 1) (q : hr B N n) : dpl B N w n = up B n 8 0 := by unfold dpl; rw [if_neg (by omega), if_pos q, if_pos h]
set_option maxRecDepth 8000 in
theorem dpl_2 {B : ZS} {N w n : Int} (h : w = 2) (q : hr B N n) : dpl B N w n = up (up B n 6 (-(B n 6))) n 7 (-(B n 7)) := by unfold dpl; rw [if_neg (by omega), if_pos q, if_neg (by omega), if_pos h]
set_option maxRecDepth 8000 in
theorem dpl_3 {B : ZS} {N w n : Int} (h : w = 3) (q : hr B N n) : dpl B N w n = up B n 1 1 := by unfold dpl; rw [if_neg (by omega), if_pos q, if_neg (by omega), if_neg (by omega)]
def plf (N : Int) (s : ZS) (a : Int) : Nat → Int → ZS → ZS
  | 0, _, B => B
  | j + 1, i, B => plf N s a j (i + 1) (dpl B N (rv s a i 0) (rv s a i 1))
set_option maxRecDepth 8000 in
theorem OKB_7 {B : ZS} {N n : Int} (hb : OKB B N) (hn : 0 ≤ n ∧ n < N) : OKB (up (up B n 6 (-(B n 6))) n 7 (-(B n 7))) N := by
  intro i hi
  have q := hb i hi
  have bn := hb n hn
  have h6 : up B n 6 (-(B n 6)) i 6 = B i 6 ∨ up B n 6 (-(B n 6)) i 6 = -(B n 6) := by
    by_cases e : i = n
    · right; rw [e, up_eq]
    · left; rw [up_ne (Or.inl e)]
  have h7 : up (up B n 6 (-(B n 6))) n 7 (-(B n 7)) i 7 = B i 7 ∨ up (up B n 6 (-(B n 6))) n 7 (-(B n 7)) i 7 = -(B n 7) := by
    by_cases e : i = n
    · right; rw [e, up_eq]
    · left; rw [up_ne (Or.inl e), up_ne (Or.inl e)]
  simp (disch := omega) only [okb, up_ne]
  omega
set_option maxRecDepth 8000 in
theorem OKB_1 {B : ZS} {N n : Int} (hb : OKB B N) : OKB (up B n 1 1) N := by
  intro i hi
  have q := hb i hi
  have h8 : up B n 1 1 i 1 = B i 1 ∨ up B n 1 1 i 1 = 1 := by
    by_cases e : i = n
    · right; rw [e, up_eq]
    · left; rw [up_ne (Or.inl e)]
  simp (disch := omega) only [okb, up_ne]
  omega
set_option maxRecDepth 8000 in
theorem OKB_d {B : ZS} {N w n : Int} (hb : OKB B N) (hw : 0 ≤ w ∧ w ≤ 3) : OKB (dpl B N w n) N := by
  by_cases e : w = 0
  · rw [dpl_0 e]; exact OKB_s hb
  · by_cases q : hr B N n
    · rcases (show w = 1 ∨ w = 2 ∨ w = 3 by omega) with z | z | z
      · rw [dpl_1 z q]; exact OKB_g hb
      · rw [dpl_2 z q]; exact OKB_7 hb q.1
      · rw [dpl_3 z q]; exact OKB_1 hb
    · rw [dpl_n e q]; exact hb
set_option maxRecDepth 8000 in
theorem s90 {d : Nat} {G : XS} {s : ZS} {W U V : Int} {B : ZS} {N R T w n : Int} (hd : 5 ≤ d) (hg : LOK G W U V) (hv : CV s V B N R T) (hb : OKB B N) (hn : 0 ≤ N ∧ N ≤ 40 ∧ 0 ≤ R ∧ R ≤ 10 ∧ 0 ≤ T ∧ T ≤ 20000) (hww : 0 ≤ w ∧ w ≤ 3) (i1 : ir n) : ∃ s2 T2, fvw s s2 V ∧ CV s2 V (dpl B N w n) N R T2 ∧ (T ≤ T2 ∧ T2 ≤ T + 1) ∧ ∀ Q, Call d 90 [zrf 0, zint w, zint n] (G, s) Q = Q none (G, s2) := by
  obtain ⟨g1, g2, g3, g4, g5, g6, hw, hu, hx, g7, g8, g9, g10, g11, g12⟩ := id hg
  obtain ⟨v1, v2, v3, vB⟩ := id hv
  by_cases q0 : w = 0
  · refine ⟨up (ws s V N) V 6 (T + 1), T + 1, fvw_x (fbx_w hn.2.1), by rw [dpl_0 q0]; exact CV_s hv, by omega, fun Q => ?_⟩
    rw [e90 (show 1 ≤ d by omega)]
    simp (disch := first | omega | exact rfl) only [↓u90_0, ↓u90_1, ↓u90_4, ↓u90_5, ↓u90_8, ↓u90_11, ↓u90_12, ↓u90_13, ↓u90_16, ↓u90_17, ↓u90_20, ↓u90_21, ↓u90_22, ↓u90_25, ↓u90_26, ↓u90_27, ↓u90_28, ↓u90_31, ↓u90_32, ↓u90_33, ↓u90_36, ↓u90_39, ↓u90_40, ↓u90_41, ↓u90_44, ↓u90_45, ↓u90_46, ↓u90_49, ↓u90_50, ↓u90_53, ↓u90_54, ↓u90_55, ↓u90_58, ↓u90_59, ↓u90_62, ↓u90_65, ↓u90_66, ↓u90_67, ↓u90_70, ↓lI_0, ↓lI_s, ↓lL_0, ↓lL_s, ↓lR_0, ↓lR_s, ↓sT_0, ↓sT_i, ↓sT_r, ↓sT_u, ↓sT_lu, ↓sU_0, ↓sU_i, ↓sU_r, ↓sU_u, ↓ite_bx, bx_T, bx_F, bx_pos, bx_neg, zws_i, zws_r, zws_l, zws_n, zCb_kc, xl_ll, xr_rr, xs_e, xset_e, Option.toList, List.cons_append, List.nil_append, zIb_e, zrng_e, nz_e, if_pos, if_neg, and_true, true_and, or_true, true_or, ite_self, bi_eq0, bi_eq1, bi_1, bi_0, bi_ir, bi_T, bi_F, up_eq, up_ne, ↓reduceIte, reduceIte, Nat.reduceAdd, Nat.reduceLeDiff, Nat.le_refl, Nat.zero_le, not_true_eq_false, not_false_eq_true, ne_eq, Int.reduceEq, Int.reduceLT, Int.reduceLE, Int.reduceAdd, Int.reduceSub, Int.reduceMul, Int.reduceNeg, pT g1, g4, pT hx.1, s41 (show 4 ≤ d - 1 by omega) hx hv hb hn]
  · by_cases q : hr B N n
    · have x6 := hx.2.2.2.2.2.1
      have kn := x6 n (by omega)
      have bn := hb n q.1
      rcases (show w = 1 ∨ w = 2 ∨ w = 3 by omega) with z | z | z
      · refine ⟨up s (V + 2 + n) 8 0, T, fun a c h => up_ne (by omega), by rw [dpl_1 z q]; exact CV_u hv q.1, by omega, fun Q => ?_⟩
        rw [e90 (show 1 ≤ d by omega)]
        simp (disch := first | omega | exact rfl) only [↓u90_0, ↓u90_1, ↓u90_4, ↓u90_5, ↓u90_8, ↓u90_11, ↓u90_12, ↓u90_13, ↓u90_16, ↓u90_17, ↓u90_20, ↓u90_21, ↓u90_22, ↓u90_25, ↓u90_26, ↓u90_27, ↓u90_28, ↓u90_31, ↓u90_32, ↓u90_33, ↓u90_36, ↓u90_39, ↓u90_40, ↓u90_41, ↓u90_44, ↓u90_45, ↓u90_46, ↓u90_49, ↓u90_50, ↓u90_53, ↓u90_54, ↓u90_55, ↓u90_58, ↓u90_59, ↓u90_62, ↓u90_65, ↓u90_66, ↓u90_67, ↓u90_70, ↓lI_0, ↓lI_s, ↓lL_0, ↓lL_s, ↓lR_0, ↓lR_s, ↓sT_0, ↓sT_i, ↓sT_r, ↓sT_u, ↓sT_lu, ↓sU_0, ↓sU_i, ↓sU_r, ↓sU_u, ↓ite_bx, bx_T, bx_F, bx_pos, bx_neg, zws_i, zws_r, zws_l, zws_n, zCb_kc, xl_ll, xr_rr, xs_e, xset_e, Option.toList, List.cons_append, List.nil_append, zIb_e, zrng_e, nz_e, if_pos, if_neg, and_true, true_and, or_true, true_or, ite_self, bi_eq0, bi_eq1, bi_1, bi_0, bi_ir, bi_T, bi_F, up_eq, up_ne, ↓reduceIte, reduceIte, Nat.reduceAdd, Nat.reduceLeDiff, Nat.le_refl, Nat.zero_le, not_true_eq_false, not_false_eq_true, ne_eq, Int.reduceEq, Int.reduceLT, Int.reduceLE, Int.reduceAdd, Int.reduceSub, Int.reduceMul, Int.reduceNeg, pT g1, g4, pT hx.1, pT kn, vB, s37_y (show 2 ≤ d - 1 by omega) hx hv hb hn q]
      · refine ⟨up (up s (V + 2 + n) 6 (-(B n 6))) (V + 2 + n) 7 (-(B n 7)), T, fun a c h => by rw [up_ne (by omega), up_ne (by omega)], by rw [dpl_2 z q]; exact CV_u (CV_u hv q.1) q.1, by omega, fun Q => ?_⟩
        rw [e90 (show 1 ≤ d by omega)]
        simp (disch := first | omega | exact rfl) only [↓u90_0, ↓u90_1, ↓u90_4, ↓u90_5, ↓u90_8, ↓u90_11, ↓u90_12, ↓u90_13, ↓u90_16, ↓u90_17, ↓u90_20, ↓u90_21, ↓u90_22, ↓u90_25, ↓u90_26, ↓u90_27, ↓u90_28, ↓u90_31, ↓u90_32, ↓u90_33, ↓u90_36, ↓u90_39, ↓u90_40, ↓u90_41, ↓u90_44, ↓u90_45, ↓u90_46, ↓u90_49, ↓u90_50, ↓u90_53, ↓u90_54, ↓u90_55, ↓u90_58, ↓u90_59, ↓u90_62, ↓u90_65, ↓u90_66, ↓u90_67, ↓u90_70, ↓lI_0, ↓lI_s, ↓lL_0, ↓lL_s, ↓lR_0, ↓lR_s, ↓sT_0, ↓sT_i, ↓sT_r, ↓sT_u, ↓sT_lu, ↓sU_0, ↓sU_i, ↓sU_r, ↓sU_u, ↓ite_bx, bx_T, bx_F, bx_pos, bx_neg, zws_i, zws_r, zws_l, zws_n, zCb_kc, xl_ll, xr_rr, xs_e, xset_e, Option.toList, List.cons_append, List.nil_append, zIb_e, zrng_e, nz_e, if_pos, if_neg, and_true, true_and, or_true, true_or, ite_self, bi_eq0, bi_eq1, bi_1, bi_0, bi_ir, bi_T, bi_F, up_eq, up_ne, ↓reduceIte, reduceIte, Nat.reduceAdd, Nat.reduceLeDiff, Nat.le_refl, Nat.zero_le, not_true_eq_false, not_false_eq_true, ne_eq, Int.reduceEq, Int.reduceLT, Int.reduceLE, Int.reduceAdd, Int.reduceSub, Int.reduceMul, Int.reduceNeg, pT g1, g4, pT hx.1, pT kn, vB, s37_y (show 2 ≤ d - 1 by omega) hx hv hb hn q]
      · refine ⟨up s (V + 2 + n) 1 1, T, fun a c h => up_ne (by omega), by rw [dpl_3 z q]; exact CV_u hv q.1, by omega, fun Q => ?_⟩
        rw [e90 (show 1 ≤ d by omega)]
        simp (disch := first | omega | exact rfl) only [↓u90_0, ↓u90_1, ↓u90_4, ↓u90_5, ↓u90_8, ↓u90_11, ↓u90_12, ↓u90_13, ↓u90_16, ↓u90_17, ↓u90_20, ↓u90_21, ↓u90_22, ↓u90_25, ↓u90_26, ↓u90_27, ↓u90_28, ↓u90_31, ↓u90_32, ↓u90_33, ↓u90_36, ↓u90_39, ↓u90_40, ↓u90_41, ↓u90_44, ↓u90_45, ↓u90_46, ↓u90_49, ↓u90_50, ↓u90_53, ↓u90_54, ↓u90_55, ↓u90_58, ↓u90_59, ↓u90_62, ↓u90_65, ↓u90_66, ↓u90_67, ↓u90_70, ↓lI_0, ↓lI_s, ↓lL_0, ↓lL_s, ↓lR_0, ↓lR_s, ↓sT_0, ↓sT_i, ↓sT_r, ↓sT_u, ↓sT_lu, ↓sU_0, ↓sU_i, ↓sU_r, ↓sU_u, ↓ite_bx, bx_T, bx_F, bx_pos, bx_neg, zws_i, zws_r, zws_l, zws_n, zCb_kc, xl_ll, xr_rr, xs_e, xset_e, Option.toList, List.cons_append, List.nil_append, zIb_e, zrng_e, nz_e, if_pos, if_neg, and_true, true_and, or_true, true_or, ite_self, bi_eq0, bi_eq1, bi_1, bi_0, bi_ir, bi_T, bi_F, up_eq, up_ne, ↓reduceIte, reduceIte, Nat.reduceAdd, Nat.reduceLeDiff, Nat.le_refl, Nat.zero_le, not_true_eq_false, not_false_eq_true, ne_eq, Int.reduceEq, Int.reduceLT, Int.reduceLE, Int.reduceAdd, Int.reduceSub, Int.reduceMul, Int.reduceNeg, pT g1, g4, pT hx.1, pT kn, vB, s37_y (show 2 ≤ d - 1 by omega) hx hv hb hn q]
    · refine ⟨s, T, fun a c h => rfl, by rw [dpl_n q0 q]; exact hv, by omega, fun Q => ?_⟩
      rw [e90 (show 1 ≤ d by omega)]
      simp (disch := first | omega | exact rfl) only [↓u90_0, ↓u90_1, ↓u90_4, ↓u90_5, ↓u90_8, ↓u90_11, ↓u90_12, ↓u90_13, ↓u90_16, ↓u90_17, ↓u90_20, ↓u90_21, ↓u90_22, ↓u90_25, ↓u90_26, ↓u90_27, ↓u90_28, ↓u90_31, ↓u90_32, ↓u90_33, ↓u90_36, ↓u90_39, ↓u90_40, ↓u90_41, ↓u90_44, ↓u90_45, ↓u90_46, ↓u90_49, ↓u90_50, ↓u90_53, ↓u90_54, ↓u90_55, ↓u90_58, ↓u90_59, ↓u90_62, ↓u90_65, ↓u90_66, ↓u90_67, ↓u90_70, ↓lI_0, ↓lI_s, ↓lL_0, ↓lL_s, ↓lR_0, ↓lR_s, ↓sT_0, ↓sT_i, ↓sT_r, ↓sT_u, ↓sT_lu, ↓sU_0, ↓sU_i, ↓sU_r, ↓sU_u, ↓ite_bx, bx_T, bx_F, bx_pos, bx_neg, zws_i, zws_r, zws_l, zws_n, zCb_kc, xl_ll, xr_rr, xs_e, xset_e, Option.toList, List.cons_append, List.nil_append, zIb_e, zrng_e, nz_e, if_pos, if_neg, and_true, true_and, or_true, true_or, ite_self, bi_eq0, bi_eq1, bi_1, bi_0, bi_ir, bi_T, bi_F, up_eq, up_ne, ↓reduceIte, reduceIte, Nat.reduceAdd, Nat.reduceLeDiff, Nat.le_refl, Nat.zero_le, not_true_eq_false, not_false_eq_true, ne_eq, Int.reduceEq, Int.reduceLT, Int.reduceLE, Int.reduceAdd, Int.reduceSub, Int.reduceMul, Int.reduceNeg, pT g1, g4, pT hx.1, s37_n (show 2 ≤ d - 1 by omega) hx hv hb hn i1 q]
set_option maxRecDepth 8000 in
theorem l89 {d : Nat} {G : XS} {s : ZS} {W U V N R n w : Int} (hd : 7 ≤ d) (hg : LOK G W U V) (hn : 0 ≤ N ∧ N ≤ 40 ∧ 0 ≤ R ∧ R ≤ 10) (hs : s (W + 45) 2 = n) (hnn : 0 ≤ n ∧ n ≤ 10) (hi : ∀ r, 0 ≤ r ∧ r < n → (0 ≤ rv s (W + 46) r 0 ∧ rv s (W + 46) r 0 ≤ 3) ∧ ir (rv s (W + 46) r 1)) : ∀ (j : Nat) (i : Int) (t C : ZS) (T : Int), i + j = n → 0 ≤ i → fvw s t V → CV t V C N R T → OKB C N → (0 ≤ T ∧ T + j ≤ 20000) → ∃ s2 T2, fvw s s2 V ∧ CV s2 V (plf N s (W + 46) j i C) N R T2 ∧ OKB (plf N s (W + 46) j i C) N ∧ (0 ≤ T2 ∧ T2 ≤ 20000) ∧ ∀ Q, Wp (d - 1) 89 (24, [zrf 0, zint w, zint i], [], (G, t)) Q = Wp (d - 1) 89 (72, [zrf 0, zint w, zint n], [], (G, s2)) Q := by
  obtain ⟨g1, g2, g3, g4, g5, g6, hw, hu, hx, g7, g8, g9, g10, g11, g12⟩ := id hg
  obtain ⟨rs, rp, rb⟩ := rok1 hw
  obtain ⟨w1, w2, w3, w4, w5, w6, w7, w8, w9, w10, w11, w12, w13, w14, w15, w16, w17, w18, w19, w20, w21, w22, w23, w24, w25⟩ := id hw
  have e45 : W + 45 + 1 = W + 46 := by omega
  intro j
  induction j with
  | zero =>
    intro i t C T h1 h2 ht hv hb hT
    have n5 : t (W + 45) 2 = n := by rw [ht _ _ (by omega)]; exact hs
    refine ⟨t, T, ht, hv, hb, by omega, fun Q => ?_⟩
    rw [show i = n by omega, u89_24]
    simp (disch := first | omega | exact rfl) only [↓u89_0, ↓u89_1, ↓u89_2, ↓u89_3, ↓u89_6, ↓u89_9, ↓u89_10, ↓u89_11, ↓u89_12, ↓u89_15, ↓u89_16, ↓u89_19, ↓u89_22, ↓u89_23, ↓u89_25, ↓u89_26, ↓u89_29, ↓u89_32, ↓u89_35, ↓u89_38, ↓u89_39, ↓u89_40, ↓u89_43, ↓u89_46, ↓u89_47, ↓u89_48, ↓u89_51, ↓u89_52, ↓u89_55, ↓u89_58, ↓u89_59, ↓u89_60, ↓u89_63, ↓u89_66, ↓u89_69, ↓u89_73, ↓u89_76, ↓u89_77, ↓u89_80, ↓u89_83, ↓u89_86, ↓u89_87, ↓u89_90, ↓u89_93, ↓lI_0, ↓lI_s, ↓lL_0, ↓lL_s, ↓lR_0, ↓lR_s, ↓sT_0, ↓sT_i, ↓sT_r, ↓sT_u, ↓sT_lu, ↓sU_0, ↓sU_i, ↓sU_r, ↓sU_u, ↓ite_bx, bx_T, bx_F, bx_pos, bx_neg, zws_i, zws_r, zws_l, zws_n, zCb_kc, xl_ll, xr_rr, xs_e, xset_e, Option.toList, List.cons_append, List.nil_append, zIb_e, zrng_e, nz_e, if_pos, if_neg, and_true, true_and, or_true, true_or, ite_self, bi_eq0, bi_eq1, bi_1, bi_0, bi_ir, bi_T, bi_F, up_eq, up_ne, ↓reduceIte, reduceIte, Nat.reduceAdd, Nat.reduceLeDiff, Nat.le_refl, Nat.zero_le, not_true_eq_false, not_false_eq_true, ne_eq, Int.reduceEq, Int.reduceLT, Int.reduceLE, Int.reduceAdd, Int.reduceSub, Int.reduceMul, Int.reduceNeg, pT g1, g2, g4, pT w1, pT w14, w11, n5]
  | succ j ih =>
    intro i t C T h1 h2 ht hv hb hT
    have n5 : t (W + 45) 2 = n := by rw [ht _ _ (by omega)]; exact hs
    have a0 := hi i (by omega)
    have y0 := fun Q => s29 (d := d - 1) (Q := Q) (s := t) (r := i) (c := 0) (show 2 ≤ d - 1 by omega) rp (by omega) (by omega)
    have y1 := fun Q => s29 (d := d - 1) (Q := Q) (s := t) (r := i) (c := 1) (show 2 ≤ d - 1 by omega) rp (by omega) (by omega)
    rw [e45, ht (W + 46) _ (by omega)] at y0 y1
    obtain ⟨s3, T3, f3, c3, d3, e3⟩ := s90 (d := d - 1) (T := T) (w := rv s (W + 46) i 0) (n := rv s (W + 46) i 1) (show 5 ≤ d - 1 by omega) hg hv hb (by omega) a0.1 a0.2
    obtain ⟨s2, T2, f2, c2, o2, d2, e2⟩ := ih (i + 1) s3 (dpl C N (rv s (W + 46) i 0) (rv s (W + 46) i 1)) T3 (by omega) (by omega) (fvw_t ht f3) c3 (OKB_d hb a0.1) (by omega)
    refine ⟨s2, T2, f2, c2, o2, d2, fun Q => ?_⟩
    rw [u89_24]
    simp (disch := first | omega | exact rfl) only [↓u89_0, ↓u89_1, ↓u89_2, ↓u89_3, ↓u89_6, ↓u89_9, ↓u89_10, ↓u89_11, ↓u89_12, ↓u89_15, ↓u89_16, ↓u89_19, ↓u89_22, ↓u89_23, ↓u89_25, ↓u89_26, ↓u89_29, ↓u89_32, ↓u89_35, ↓u89_38, ↓u89_39, ↓u89_40, ↓u89_43, ↓u89_46, ↓u89_47, ↓u89_48, ↓u89_51, ↓u89_52, ↓u89_55, ↓u89_58, ↓u89_59, ↓u89_60, ↓u89_63, ↓u89_66, ↓u89_69, ↓u89_73, ↓u89_76, ↓u89_77, ↓u89_80, ↓u89_83, ↓u89_86, ↓u89_87, ↓u89_90, ↓u89_93, ↓lI_0, ↓lI_s, ↓lL_0, ↓lL_s, ↓lR_0, ↓lR_s, ↓sT_0, ↓sT_i, ↓sT_r, ↓sT_u, ↓sT_lu, ↓sU_0, ↓sU_i, ↓sU_r, ↓sU_u, ↓ite_bx, bx_T, bx_F, bx_pos, bx_neg, zws_i, zws_r, zws_l, zws_n, zCb_kc, xl_ll, xr_rr, xs_e, xset_e, Option.toList, List.cons_append, List.nil_append, zIb_e, zrng_e, nz_e, if_pos, if_neg, and_true, true_and, or_true, true_or, ite_self, bi_eq0, bi_eq1, bi_1, bi_0, bi_ir, bi_T, bi_F, up_eq, up_ne, ↓reduceIte, reduceIte, Nat.reduceAdd, Nat.reduceLeDiff, Nat.le_refl, Nat.zero_le, not_true_eq_false, not_false_eq_true, ne_eq, Int.reduceEq, Int.reduceLT, Int.reduceLE, Int.reduceAdd, Int.reduceSub, Int.reduceMul, Int.reduceNeg, pT g1, g2, g4, pT w1, pT w14, w11, n5, y0, y1, e3, e2]
set_option maxRecDepth 8000 in
theorem s89_n {d : Nat} {Q : Option AV → XH → Prop} {G : XS} {s : ZS} {W U V : Int} {B : ZS} {N R T : Int} {w : Int} (hd : 7 ≤ d) (hg : LOK G W U V) (hv : CV s W B N R T) (hb : OKB B N) (hn : 0 ≤ N ∧ N ≤ 40 ∧ 0 ≤ R ∧ R ≤ 10 ∧ 0 ≤ T ∧ T ≤ 20000) (iw : ir w) (q : ¬(0 ≤ w ∧ w ≤ 1)) : Call d 89 [zrf 0, zint w] (G, s) Q = Q (some (zint (-1))) (G, s) := by
  have hg' := hg
  obtain ⟨g1, g2, g3, g4, g5, g6, hw, hu, hx, g7, g8, g9, g10, g11, g12⟩ := hg'
  have hw' := hw
  obtain ⟨w1, w2, w3, w4, w5, w6, w7, w8, w9, w10, w11, w12, w13, w14, w15, w16, w17, w18, w19, w20, w21, w22, w23, w24, w25⟩ := hw'
  have hv' := hv
  obtain ⟨v1, v2, v3, vB⟩ := hv'
  rw [e89 (show 1 ≤ d by omega)]
  simp (disch := first | omega | exact rfl) only [↓u89_0, ↓u89_1, ↓u89_2, ↓u89_3, ↓u89_6, ↓u89_9, ↓u89_10, ↓u89_11, ↓u89_12, ↓u89_15, ↓u89_16, ↓u89_19, ↓u89_22, ↓u89_23, ↓u89_24, ↓u89_25, ↓u89_26, ↓u89_29, ↓u89_32, ↓u89_35, ↓u89_38, ↓u89_39, ↓u89_40, ↓u89_43, ↓u89_46, ↓u89_47, ↓u89_48, ↓u89_51, ↓u89_52, ↓u89_55, ↓u89_58, ↓u89_59, ↓u89_60, ↓u89_63, ↓u89_66, ↓u89_69, ↓u89_72, ↓u89_73, ↓u89_76, ↓u89_77, ↓u89_80, ↓u89_83, ↓u89_86, ↓u89_87, ↓u89_90, ↓u89_93, ↓lI_0, ↓lI_s, ↓lL_0, ↓lL_s, ↓lR_0, ↓lR_s, ↓sT_0, ↓sT_i, ↓sT_r, ↓sT_u, ↓sT_lu, ↓sU_0, ↓sU_i, ↓sU_r, ↓sU_u, ↓ite_bx, bx_T, bx_F, bx_pos, bx_neg, zws_i, zws_r, zws_l, zws_n, zCb_kc, xl_ll, xr_rr, xs_e, xset_e, Option.toList, List.cons_append, List.nil_append, zIb_e, zrng_e, nz_e, if_pos, if_neg, and_true, true_and, or_true, true_or, ite_self, bi_eq0, bi_eq1, bi_1, bi_0, bi_ir, bi_T, bi_F, up_eq, up_ne, ↓reduceIte, reduceIte, Nat.reduceAdd, Nat.reduceLeDiff, Nat.le_refl, Nat.zero_le, not_true_eq_false, not_false_eq_true, ne_eq, Int.reduceEq, Int.reduceLT, Int.reduceLE, Int.reduceAdd, Int.reduceSub, Int.reduceMul, Int.reduceNeg, pT g1, g2, g3, g4, g5, g6, pT w1, w2, pT w3, w4, w5, w6, v1, v2, v3, vB, s103]
set_option maxRecDepth 8000 in
theorem s89_0 {d : Nat} {G : XS} {s : ZS} {W U V : Int} {B : ZS} {N R T : Int} {n : Int} (hd : 7 ≤ d) (hg : LOK G W U V) (hv : CV s W B N R T) (hb : OKB B N) (hn : 0 ≤ N ∧ N ≤ 40 ∧ 0 ≤ R ∧ R ≤ 10 ∧ 0 ≤ T ∧ T ≤ 20000) (hs : s (W + 45) 2 = n) (hnn : 0 ≤ n ∧ n ≤ 10) (hi : ∀ r, 0 ≤ r ∧ r < n → (0 ≤ rv s (W + 46) r 0 ∧ rv s (W + 46) r 0 ≤ 3) ∧ ir (rv s (W + 46) r 1)) (hT : T ≤ 9999) : ∃ s2, fvw s s2 V ∧ ∀ Q, Call d 89 [zrf 0, zint 0] (G, s) Q = Q (some (zint (prs (plf N s (W + 46) n.toNat 0 B) N))) (G, s2) := by
  have hg' := hg
  obtain ⟨g1, g2, g3, g4, g5, g6, hw, hu, hx, g7, g8, g9, g10, g11, g12⟩ := hg'
  have hw' := hw
  obtain ⟨w1, w2, w3, w4, w5, w6, w7, w8, w9, w10, w11, w12, w13, w14, w15, w16, w17, w18, w19, w20, w21, w22, w23, w24, w25⟩ := hw'
  have hv' := hv
  obtain ⟨v1, v2, v3, vB⟩ := hv'
  have hvt := CV_t hv (W := V) (V := W) ⟨hn.1, hn.2.1⟩ (by omega)
  have c0 := fun Q => s35 (d := d - 1) (Q := Q) (show 3 ≤ d - 1 by omega) hx hw hv hb ⟨hn.1, hn.2.1⟩ (by omega)
  obtain ⟨s2, T2, f2, c2, o2, d2, e2⟩ := l89 (w := 0) hd hg (by omega) hs hnn hi n.toNat 0 (tb (tb3 s V N R T) V W N) B T (by omega) (Int.le_refl 0) (fvw_b hn.2.1) hvt hb (by omega)
  have hn3 : 0 ≤ N ∧ N ≤ 40 ∧ 0 ≤ R ∧ R ≤ 10 ∧ 0 ≤ T2 ∧ T2 ≤ 20000 := by omega
  refine ⟨s2, f2, fun Q => ?_⟩
  rw [e89 (show 1 ≤ d by omega)]
  simp (disch := first | omega | exact rfl) only [↓u89_0, ↓u89_1, ↓u89_2, ↓u89_3, ↓u89_6, ↓u89_9, ↓u89_10, ↓u89_11, ↓u89_12, ↓u89_15, ↓u89_16, ↓u89_19, ↓u89_22, ↓u89_23, ↓u89_25, ↓u89_26, ↓u89_29, ↓u89_32, ↓u89_35, ↓u89_38, ↓u89_39, ↓u89_40, ↓u89_43, ↓u89_46, ↓u89_47, ↓u89_48, ↓u89_51, ↓u89_52, ↓u89_55, ↓u89_58, ↓u89_59, ↓u89_60, ↓u89_63, ↓u89_66, ↓u89_69, ↓u89_72, ↓u89_73, ↓u89_76, ↓u89_77, ↓u89_80, ↓u89_83, ↓u89_86, ↓u89_87, ↓u89_90, ↓u89_93, ↓lI_0, ↓lI_s, ↓lL_0, ↓lL_s, ↓lR_0, ↓lR_s, ↓sT_0, ↓sT_i, ↓sT_r, ↓sT_u, ↓sT_lu, ↓sU_0, ↓sU_i, ↓sU_r, ↓sU_u, ↓ite_bx, bx_T, bx_F, bx_pos, bx_neg, zws_i, zws_r, zws_l, zws_n, zCb_kc, xl_ll, xr_rr, xs_e, xset_e, Option.toList, List.cons_append, List.nil_append, zIb_e, zrng_e, nz_e, if_pos, if_neg, and_true, true_and, or_true, true_or, ite_self, bi_eq0, bi_eq1, bi_1, bi_0, bi_ir, bi_T, bi_F, up_eq, up_ne, ↓reduceIte, reduceIte, Nat.reduceAdd, Nat.reduceLeDiff, Nat.le_refl, Nat.zero_le, not_true_eq_false, not_false_eq_true, ne_eq, Int.reduceEq, Int.reduceLT, Int.reduceLE, Int.reduceAdd, Int.reduceSub, Int.reduceMul, Int.reduceNeg, pT g1, g2, g3, g4, g5, g6, pT w1, w2, pT w3, w4, w5, w6, v1, v2, v3, vB, s103, pT hx.1, c0, e2, t59 (show 4 ≤ d - 1 by omega) hx c2 o2 hn3]
set_option maxRecDepth 8000 in
theorem s89_1 {d : Nat} {G : XS} {s : ZS} {W U V : Int} {B : ZS} {N R T : Int} {n : Int} (hd : 7 ≤ d) (hg : LOK G W U V) (hv : CV s W B N R T) (hb : OKB B N) (hn : 0 ≤ N ∧ N ≤ 40 ∧ 0 ≤ R ∧ R ≤ 10 ∧ 0 ≤ T ∧ T ≤ 20000) (hs : s (W + 45) 2 = n) (hnn : 0 ≤ n ∧ n ≤ 10) (hi : ∀ r, 0 ≤ r ∧ r < n → (0 ≤ rv s (W + 46) r 0 ∧ rv s (W + 46) r 0 ≤ 3) ∧ ir (rv s (W + 46) r 1)) (hT : T ≤ 9999) : ∃ s2, fvw s s2 V ∧ ∀ Q, Call d 89 [zrf 0, zint 1] (G, s) Q = Q (some (zint (1 + sqa (plf N s (W + 46) n.toNat 0 B) N R 0))) (G, s2) := by
  have hg' := hg
  obtain ⟨g1, g2, g3, g4, g5, g6, hw, hu, hx, g7, g8, g9, g10, g11, g12⟩ := hg'
  have hw' := hw
  obtain ⟨w1, w2, w3, w4, w5, w6, w7, w8, w9, w10, w11, w12, w13, w14, w15, w16, w17, w18, w19, w20, w21, w22, w23, w24, w25⟩ := hw'
  have hv' := hv
  obtain ⟨v1, v2, v3, vB⟩ := hv'
  have hvt := CV_t hv (W := V) (V := W) ⟨hn.1, hn.2.1⟩ (by omega)
  have c0 := fun Q => s35 (d := d - 1) (Q := Q) (show 3 ≤ d - 1 by omega) hx hw hv hb ⟨hn.1, hn.2.1⟩ (by omega)
  obtain ⟨s2, T2, f2, c2, o2, d2, e2⟩ := l89 (w := 1) hd hg (by omega) hs hnn hi n.toNat 0 (tb (tb3 s V N R T) V W N) B T (by omega) (Int.le_refl 0) (fvw_b hn.2.1) hvt hb (by omega)
  have hn3 : 0 ≤ N ∧ N ≤ 40 ∧ 0 ≤ R ∧ R ≤ 10 ∧ 0 ≤ T2 ∧ T2 ≤ 20000 := by omega
  obtain ⟨s3, f3, e3⟩ := s50 (d := d - 1) (show 3 ≤ d - 1 by omega) hx c2 o2 hn3
  refine ⟨s3, fvw_t f2 (fvw_4 f3), fun Q => ?_⟩
  rw [e89 (show 1 ≤ d by omega)]
  simp (disch := first | omega | exact rfl) only [↓u89_0, ↓u89_1, ↓u89_2, ↓u89_3, ↓u89_6, ↓u89_9, ↓u89_10, ↓u89_11, ↓u89_12, ↓u89_15, ↓u89_16, ↓u89_19, ↓u89_22, ↓u89_23, ↓u89_25, ↓u89_26, ↓u89_29, ↓u89_32, ↓u89_35, ↓u89_38, ↓u89_39, ↓u89_40, ↓u89_43, ↓u89_46, ↓u89_47, ↓u89_48, ↓u89_51, ↓u89_52, ↓u89_55, ↓u89_58, ↓u89_59, ↓u89_60, ↓u89_63, ↓u89_66, ↓u89_69, ↓u89_72, ↓u89_73, ↓u89_76, ↓u89_77, ↓u89_80, ↓u89_83, ↓u89_86, ↓u89_87, ↓u89_90, ↓u89_93, ↓lI_0, ↓lI_s, ↓lL_0, ↓lL_s, ↓lR_0, ↓lR_s, ↓sT_0, ↓sT_i, ↓sT_r, ↓sT_u, ↓sT_lu, ↓sU_0, ↓sU_i, ↓sU_r, ↓sU_u, ↓ite_bx, bx_T, bx_F, bx_pos, bx_neg, zws_i, zws_r, zws_l, zws_n, zCb_kc, xl_ll, xr_rr, xs_e, xset_e, Option.toList, List.cons_append, List.nil_append, zIb_e, zrng_e, nz_e, if_pos, if_neg, and_true, true_and, or_true, true_or, ite_self, bi_eq0, bi_eq1, bi_1, bi_0, bi_ir, bi_T, bi_F, up_eq, up_ne, ↓reduceIte, reduceIte, Nat.reduceAdd, Nat.reduceLeDiff, Nat.le_refl, Nat.zero_le, not_true_eq_false, not_false_eq_true, ne_eq, Int.reduceEq, Int.reduceLT, Int.reduceLE, Int.reduceAdd, Int.reduceSub, Int.reduceMul, Int.reduceNeg, pT g1, g2, g3, g4, g5, g6, pT w1, w2, pT w3, w4, w5, w6, v1, v2, v3, vB, s103, pT hx.1, c0, e2, e3]
set_option maxRecDepth 8000 in
theorem s102_y {d : Nat} {Q : Option AV → XH → Prop} {G : XS} {s : ZS} {W U V : Int} {B : ZS} {N R T : Int} {k : Int} (hd : 5 ≤ d) (hg : LOK G W U V) (hv : CV s W B N R T) (hb : OKB B N) (hn : 0 ≤ N ∧ N ≤ 40 ∧ 0 ≤ R ∧ R ≤ 10 ∧ 0 ≤ T ∧ T ≤ 20000) (hk : 0 ≤ k ∧ k < 6) : Call d 102 [zrf 0, zint k] (G, s) Q = Q (some (zrf (160 + 2 * k))) (G, s) := by
  have hg' := hg
  obtain ⟨g1, g2, g3, g4, g5, g6, hw, hu, hx, g7, g8, g9, g10, g11, g12⟩ := hg'
  have hw' := hw
  obtain ⟨w1, w2, w3, w4, w5, w6, w7, w8, w9, w10, w11, w12, w13, w14, w15, w16, w17, w18, w19, w20, w21, w22, w23, w24, w25⟩ := hw'
  have hv' := hv
  obtain ⟨v1, v2, v3, vB⟩ := hv'
  have hk6 : 0 ≤ k ∧ k < 6 := hk
  have kt := g11 k hk6
  obtain ⟨t1, t2, t3, t4⟩ := id kt
  have g10k := g10 k hk6
  rw [e102 (show 1 ≤ d by omega)]
  simp (disch := first | omega | exact rfl) only [↓u102_0, ↓u102_1, ↓u102_2, ↓u102_3, ↓u102_6, ↓u102_9, ↓u102_10, ↓u102_13, ↓u102_14, ↓u102_15, ↓u102_18, ↓u102_19, ↓lI_0, ↓lI_s, ↓lL_0, ↓lL_s, ↓lR_0, ↓lR_s, ↓sT_0, ↓sT_i, ↓sT_r, ↓sT_u, ↓sT_lu, ↓sU_0, ↓sU_i, ↓sU_r, ↓sU_u, ↓ite_bx, bx_T, bx_F, bx_pos, bx_neg, zws_i, zws_r, zws_l, zws_n, zCb_kc, xl_ll, xr_rr, xs_e, xset_e, Option.toList, List.cons_append, List.nil_append, zIb_e, zrng_e, nz_e, if_pos, if_neg, and_true, true_and, or_true, true_or, ite_self, bi_eq0, bi_eq1, bi_1, bi_0, bi_ir, bi_T, bi_F, up_eq, up_ne, ↓reduceIte, reduceIte, Nat.reduceAdd, Nat.reduceLeDiff, Nat.le_refl, Nat.zero_le, not_true_eq_false, not_false_eq_true, ne_eq, Int.reduceEq, Int.reduceLT, Int.reduceLE, Int.reduceAdd, Int.reduceSub, Int.reduceMul, Int.reduceNeg, pT g1, g2, g3, g4, g5, g6, pT w1, w2, pT w3, w4, w5, w6, v1, v2, v3, vB, s103, pT g8, g9, g10]
set_option maxRecDepth 8000 in
theorem s102_n {d : Nat} {Q : Option AV → XH → Prop} {G : XS} {s : ZS} {W U V : Int} {B : ZS} {N R T : Int} {k : Int} (hd : 5 ≤ d) (hg : LOK G W U V) (hv : CV s W B N R T) (hb : OKB B N) (hn : 0 ≤ N ∧ N ≤ 40 ∧ 0 ≤ R ∧ R ≤ 10 ∧ 0 ≤ T ∧ T ≤ 20000) (ik : ir k) (hk : ¬(0 ≤ k ∧ k < 6)) : Call d 102 [zrf 0, zint k] (G, s) Q = Q (some (zrf (-1))) (G, s) := by
  have hg' := hg
  obtain ⟨g1, g2, g3, g4, g5, g6, hw, hu, hx, g7, g8, g9, g10, g11, g12⟩ := hg'
  have hw' := hw
  obtain ⟨w1, w2, w3, w4, w5, w6, w7, w8, w9, w10, w11, w12, w13, w14, w15, w16, w17, w18, w19, w20, w21, w22, w23, w24, w25⟩ := hw'
  have hv' := hv
  obtain ⟨v1, v2, v3, vB⟩ := hv'
  rw [e102 (show 1 ≤ d by omega)]
  simp (disch := first | omega | exact rfl) only [↓u102_0, ↓u102_1, ↓u102_2, ↓u102_3, ↓u102_6, ↓u102_9, ↓u102_10, ↓u102_13, ↓u102_14, ↓u102_15, ↓u102_18, ↓u102_19, ↓lI_0, ↓lI_s, ↓lL_0, ↓lL_s, ↓lR_0, ↓lR_s, ↓sT_0, ↓sT_i, ↓sT_r, ↓sT_u, ↓sT_lu, ↓sU_0, ↓sU_i, ↓sU_r, ↓sU_u, ↓ite_bx, bx_T, bx_F, bx_pos, bx_neg, zws_i, zws_r, zws_l, zws_n, zCb_kc, xl_ll, xr_rr, xs_e, xset_e, Option.toList, List.cons_append, List.nil_append, zIb_e, zrng_e, nz_e, if_pos, if_neg, and_true, true_and, or_true, true_or, ite_self, bi_eq0, bi_eq1, bi_1, bi_0, bi_ir, bi_T, bi_F, up_eq, up_ne, ↓reduceIte, reduceIte, Nat.reduceAdd, Nat.reduceLeDiff, Nat.le_refl, Nat.zero_le, not_true_eq_false, not_false_eq_true, ne_eq, Int.reduceEq, Int.reduceLT, Int.reduceLE, Int.reduceAdd, Int.reduceSub, Int.reduceMul, Int.reduceNeg, pT g1, g2, g3, g4, g5, g6, pT w1, w2, pT w3, w4, w5, w6, v1, v2, v3, vB, s103, pT g8, g9, g10]
set_option maxRecDepth 8000 in
theorem s93_n {d : Nat} {Q : Option AV → XH → Prop} {G : XS} {s : ZS} {W U V : Int} {B : ZS} {N R T : Int} {k x : Int} (hd : 6 ≤ d) (hg : LOK G W U V) (hv : CV s W B N R T) (hb : OKB B N) (hn : 0 ≤ N ∧ N ≤ 40 ∧ 0 ≤ R ∧ R ≤ 10 ∧ 0 ≤ T ∧ T ≤ 20000) (ik : ir k) (ix : ir x) (hk : ¬(0 ≤ k ∧ k < 6)) : Call d 93 [zrf 0, zint k, zint x] (G, s) Q = Q (some (zint (-1))) (G, s) := by
  have hg' := hg
  obtain ⟨g1, g2, g3, g4, g5, g6, hw, hu, hx, g7, g8, g9, g10, g11, g12⟩ := hg'
  have hw' := hw
  obtain ⟨w1, w2, w3, w4, w5, w6, w7, w8, w9, w10, w11, w12, w13, w14, w15, w16, w17, w18, w19, w20, w21, w22, w23, w24, w25⟩ := hw'
  have hv' := hv
  obtain ⟨v1, v2, v3, vB⟩ := hv'
  rw [e93 (show 1 ≤ d by omega)]
  simp (disch := first | omega | exact rfl) only [↓u93_0, ↓u93_1, ↓u93_2, ↓u93_5, ↓u93_6, ↓u93_7, ↓u93_10, ↓u93_11, ↓u93_12, ↓u93_13, ↓u93_16, ↓u93_17, ↓u93_20, ↓u93_21, ↓u93_24, ↓u93_27, ↓u93_29, ↓u93_30, ↓u93_31, ↓u93_34, ↓u93_37, ↓u93_40, ↓u93_42, ↓u93_43, ↓u93_44, ↓u93_47, ↓u93_49, ↓u93_50, ↓u93_51, ↓u93_53, ↓u93_55, ↓u93_56, ↓u93_59, ↓u93_62, ↓u93_65, ↓u93_67, ↓u93_68, ↓u93_71, ↓u93_72, ↓u93_73, ↓u93_76, ↓u93_78, ↓u93_80, ↓u93_81, ↓u93_82, ↓u93_83, ↓u93_86, ↓u93_88, ↓u93_91, ↓u93_93, ↓u93_95, ↓u93_98, ↓u93_99, ↓u93_102, ↓u93_104, ↓u93_107, ↓u93_109, ↓u93_110, ↓u93_113, ↓u93_114, ↓u93_116, ↓u93_117, ↓u93_118, ↓u93_120, ↓u93_121, ↓u93_122, ↓u93_125, ↓u93_127, ↓u93_128, ↓u93_131, ↓u93_134, ↓u93_136, ↓lI_0, ↓lI_s, ↓lL_0, ↓lL_s, ↓lR_0, ↓lR_s, ↓sT_0, ↓sT_i, ↓sT_r, ↓sT_u, ↓sT_lu, ↓sU_0, ↓sU_i, ↓sU_r, ↓sU_u, ↓ite_bx, bx_T, bx_F, bx_pos, bx_neg, zws_i, zws_r, zws_l, zws_n, zCb_kc, xl_ll, xr_rr, xs_e, xset_e, Option.toList, List.cons_append, List.nil_append, zIb_e, zrng_e, nz_e, if_pos, if_neg, and_true, true_and, or_true, true_or, ite_self, bi_eq0, bi_eq1, bi_1, bi_0, bi_ir, bi_T, bi_F, up_eq, up_ne, ↓reduceIte, reduceIte, Nat.reduceAdd, Nat.reduceLeDiff, Nat.le_refl, Nat.zero_le, not_true_eq_false, not_false_eq_true, ne_eq, Int.reduceEq, Int.reduceLT, Int.reduceLE, Int.reduceAdd, Int.reduceSub, Int.reduceMul, Int.reduceNeg, pT g1, g2, g3, g4, g5, g6, pT w1, w2, pT w3, w4, w5, w6, v1, v2, v3, vB, s102_n (show 5 ≤ d - 1 by omega) hg hv hb hn ik hk]
set_option maxRecDepth 8000 in
theorem s93_c {d : Nat} {Q : Option AV → XH → Prop} {G : XS} {s : ZS} {W U V : Int} {B : ZS} {N R T : Int} {k x : Int} (hd : 6 ≤ d) (hg : LOK G W U V) (hv : CV s W B N R T) (hb : OKB B N) (hn : 0 ≤ N ∧ N ≤ 40 ∧ 0 ≤ R ∧ R ≤ 10 ∧ 0 ≤ T ∧ T ≤ 20000) (ix : ir x) (hk : 0 ≤ k ∧ k < 6) (hs : -1 ≤ s (160 + 2 * k) 1 ∧ s (160 + 2 * k) 1 ≤ 4) (q : 0 < s (160 + 2 * k) 1) : Call d 93 [zrf 0, zint k, zint x] (G, s) Q = Q (some (zint (-12))) (G, s) := by
  have hg' := hg
  obtain ⟨g1, g2, g3, g4, g5, g6, hw, hu, hx, g7, g8, g9, g10, g11, g12⟩ := hg'
  have hw' := hw
  obtain ⟨w1, w2, w3, w4, w5, w6, w7, w8, w9, w10, w11, w12, w13, w14, w15, w16, w17, w18, w19, w20, w21, w22, w23, w24, w25⟩ := hw'
  have hv' := hv
  obtain ⟨v1, v2, v3, vB⟩ := hv'
  have hk6 : 0 ≤ k ∧ k < 6 := hk
  have kt := g11 k hk6
  obtain ⟨t1, t2, t3, t4⟩ := id kt
  have g10k := g10 k hk6
  rw [e93 (show 1 ≤ d by omega)]
  simp (disch := first | omega | exact rfl) only [↓u93_0, ↓u93_1, ↓u93_2, ↓u93_5, ↓u93_6, ↓u93_7, ↓u93_10, ↓u93_11, ↓u93_12, ↓u93_13, ↓u93_16, ↓u93_17, ↓u93_20, ↓u93_21, ↓u93_24, ↓u93_27, ↓u93_29, ↓u93_30, ↓u93_31, ↓u93_34, ↓u93_37, ↓u93_40, ↓u93_42, ↓u93_43, ↓u93_44, ↓u93_47, ↓u93_49, ↓u93_50, ↓u93_51, ↓u93_53, ↓u93_55, ↓u93_56, ↓u93_59, ↓u93_62, ↓u93_65, ↓u93_67, ↓u93_68, ↓u93_71, ↓u93_72, ↓u93_73, ↓u93_76, ↓u93_78, ↓u93_80, ↓u93_81, ↓u93_82, ↓u93_83, ↓u93_86, ↓u93_88, ↓u93_91, ↓u93_93, ↓u93_95, ↓u93_98, ↓u93_99, ↓u93_102, ↓u93_104, ↓u93_107, ↓u93_109, ↓u93_110, ↓u93_113, ↓u93_114, ↓u93_116, ↓u93_117, ↓u93_118, ↓u93_120, ↓u93_121, ↓u93_122, ↓u93_125, ↓u93_127, ↓u93_128, ↓u93_131, ↓u93_134, ↓u93_136, ↓lI_0, ↓lI_s, ↓lL_0, ↓lL_s, ↓lR_0, ↓lR_s, ↓sT_0, ↓sT_i, ↓sT_r, ↓sT_u, ↓sT_lu, ↓sU_0, ↓sU_i, ↓sU_r, ↓sU_u, ↓ite_bx, bx_T, bx_F, bx_pos, bx_neg, zws_i, zws_r, zws_l, zws_n, zCb_kc, xl_ll, xr_rr, xs_e, xset_e, Option.toList, List.cons_append, List.nil_append, zIb_e, zrng_e, nz_e, if_pos, if_neg, and_true, true_and, or_true, true_or, ite_self, bi_eq0, bi_eq1, bi_1, bi_0, bi_ir, bi_T, bi_F, up_eq, up_ne, ↓reduceIte, reduceIte, Nat.reduceAdd, Nat.reduceLeDiff, Nat.le_refl, Nat.zero_le, not_true_eq_false, not_false_eq_true, ne_eq, Int.reduceEq, Int.reduceLT, Int.reduceLE, Int.reduceAdd, Int.reduceSub, Int.reduceMul, Int.reduceNeg, pT g1, g2, g3, g4, g5, g6, pT w1, w2, pT w3, w4, w5, w6, v1, v2, v3, vB, s102_y (show 5 ≤ d - 1 by omega) hg hv hb hn hk, pT t1, t2, pT t3, t4]
set_option maxRecDepth 8000 in
theorem s93_z {d : Nat} {Q : Option AV → XH → Prop} {G : XS} {s : ZS} {W U V : Int} {B : ZS} {N R T : Int} {k x : Int} (hd : 6 ≤ d) (hg : LOK G W U V) (hv : CV s W B N R T) (hb : OKB B N) (hn : 0 ≤ N ∧ N ≤ 40 ∧ 0 ≤ R ∧ R ≤ 10 ∧ 0 ≤ T ∧ T ≤ 20000) (ix : ir x) (hk : 0 ≤ k ∧ k < 6) (hs : -1 ≤ s (160 + 2 * k) 1 ∧ s (160 + 2 * k) 1 ≤ 4) (q : s (160 + 2 * k) 1 ≤ 0) (q2 : N = 0) : Call d 93 [zrf 0, zint k, zint x] (G, s) Q = Q (some (zint (-5))) (G, s) := by
  have hg' := hg
  obtain ⟨g1, g2, g3, g4, g5, g6, hw, hu, hx, g7, g8, g9, g10, g11, g12⟩ := hg'
  have hw' := hw
  obtain ⟨w1, w2, w3, w4, w5, w6, w7, w8, w9, w10, w11, w12, w13, w14, w15, w16, w17, w18, w19, w20, w21, w22, w23, w24, w25⟩ := hw'
  have hv' := hv
  obtain ⟨v1, v2, v3, vB⟩ := hv'
  have hk6 : 0 ≤ k ∧ k < 6 := hk
  have kt := g11 k hk6
  obtain ⟨t1, t2, t3, t4⟩ := id kt
  have g10k := g10 k hk6
  rw [e93 (show 1 ≤ d by omega)]
  rcases (show s (160 + 2 * k) 1 = -1 ∨ s (160 + 2 * k) 1 = 0 by omega) with z | z
  · simp (disch := first | omega | exact rfl) only [↓u93_0, ↓u93_1, ↓u93_2, ↓u93_5, ↓u93_6, ↓u93_7, ↓u93_10, ↓u93_11, ↓u93_12, ↓u93_13, ↓u93_16, ↓u93_17, ↓u93_20, ↓u93_21, ↓u93_24, ↓u93_27, ↓u93_29, ↓u93_30, ↓u93_31, ↓u93_34, ↓u93_37, ↓u93_40, ↓u93_42, ↓u93_43, ↓u93_44, ↓u93_47, ↓u93_49, ↓u93_50, ↓u93_51, ↓u93_53, ↓u93_55, ↓u93_56, ↓u93_59, ↓u93_62, ↓u93_65, ↓u93_67, ↓u93_68, ↓u93_71, ↓u93_72, ↓u93_73, ↓u93_76, ↓u93_78, ↓u93_80, ↓u93_81, ↓u93_82, ↓u93_83, ↓u93_86, ↓u93_88, ↓u93_91, ↓u93_93, ↓u93_95, ↓u93_98, ↓u93_99, ↓u93_102, ↓u93_104, ↓u93_107, ↓u93_109, ↓u93_110, ↓u93_113, ↓u93_114, ↓u93_116, ↓u93_117, ↓u93_118, ↓u93_120, ↓u93_121, ↓u93_122, ↓u93_125, ↓u93_127, ↓u93_128, ↓u93_131, ↓u93_134, ↓u93_136, ↓lI_0, ↓lI_s, ↓lL_0, ↓lL_s, ↓lR_0, ↓lR_s, ↓sT_0, ↓sT_i, ↓sT_r, ↓sT_u, ↓sT_lu, ↓sU_0, ↓sU_i, ↓sU_r, ↓sU_u, ↓ite_bx, bx_T, bx_F, bx_pos, bx_neg, zws_i, zws_r, zws_l, zws_n, zCb_kc, xl_ll, xr_rr, xs_e, xset_e, Option.toList, List.cons_append, List.nil_append, zIb_e, zrng_e, nz_e, if_pos, if_neg, and_true, true_and, or_true, true_or, ite_self, bi_eq0, bi_eq1, bi_1, bi_0, bi_ir, bi_T, bi_F, up_eq, up_ne, ↓reduceIte, reduceIte, Nat.reduceAdd, Nat.reduceLeDiff, Nat.le_refl, Nat.zero_le, not_true_eq_false, not_false_eq_true, ne_eq, Int.reduceEq, Int.reduceLT, Int.reduceLE, Int.reduceAdd, Int.reduceSub, Int.reduceMul, Int.reduceNeg, pT g1, g2, g3, g4, g5, g6, pT w1, w2, pT w3, w4, w5, w6, v1, v2, v3, vB, z, s102_y (show 5 ≤ d - 1 by omega) hg hv hb hn hk, pT t1, t2, pT t3, t4]
  · simp (disch := first | omega | exact rfl) only [↓u93_0, ↓u93_1, ↓u93_2, ↓u93_5, ↓u93_6, ↓u93_7, ↓u93_10, ↓u93_11, ↓u93_12, ↓u93_13, ↓u93_16, ↓u93_17, ↓u93_20, ↓u93_21, ↓u93_24, ↓u93_27, ↓u93_29, ↓u93_30, ↓u93_31, ↓u93_34, ↓u93_37, ↓u93_40, ↓u93_42, ↓u93_43, ↓u93_44, ↓u93_47, ↓u93_49, ↓u93_50, ↓u93_51, ↓u93_53, ↓u93_55, ↓u93_56, ↓u93_59, ↓u93_62, ↓u93_65, ↓u93_67, ↓u93_68, ↓u93_71, ↓u93_72, ↓u93_73, ↓u93_76, ↓u93_78, ↓u93_80, ↓u93_81, ↓u93_82, ↓u93_83, ↓u93_86, ↓u93_88, ↓u93_91, ↓u93_93, ↓u93_95, ↓u93_98, ↓u93_99, ↓u93_102, ↓u93_104, ↓u93_107, ↓u93_109, ↓u93_110, ↓u93_113, ↓u93_114, ↓u93_116, ↓u93_117, ↓u93_118, ↓u93_120, ↓u93_121, ↓u93_122, ↓u93_125, ↓u93_127, ↓u93_128, ↓u93_131, ↓u93_134, ↓u93_136, ↓lI_0, ↓lI_s, ↓lL_0, ↓lL_s, ↓lR_0, ↓lR_s, ↓sT_0, ↓sT_i, ↓sT_r, ↓sT_u, ↓sT_lu, ↓sU_0, ↓sU_i, ↓sU_r, ↓sU_u, ↓ite_bx, bx_T, bx_F, bx_pos, bx_neg, zws_i, zws_r, zws_l, zws_n, zCb_kc, xl_ll, xr_rr, xs_e, xset_e, Option.toList, List.cons_append, List.nil_append, zIb_e, zrng_e, nz_e, if_pos, if_neg, and_true, true_and, or_true, true_or, ite_self, bi_eq0, bi_eq1, bi_1, bi_0, bi_ir, bi_T, bi_F, up_eq, up_ne, ↓reduceIte, reduceIte, Nat.reduceAdd, Nat.reduceLeDiff, Nat.le_refl, Nat.zero_le, not_true_eq_false, not_false_eq_true, ne_eq, Int.reduceEq, Int.reduceLT, Int.reduceLE, Int.reduceAdd, Int.reduceSub, Int.reduceMul, Int.reduceNeg, pT g1, g2, g3, g4, g5, g6, pT w1, w2, pT w3, w4, w5, w6, v1, v2, v3, vB, z, s102_y (show 5 ≤ d - 1 by omega) hg hv hb hn hk, pT t1, t2, pT t3, t4]
set_option maxRecDepth 8000 in
theorem s93_i {d : Nat} {Q : Option AV → XH → Prop} {G : XS} {s : ZS} {W U V : Int} {B : ZS} {N R T : Int} {k x : Int} (hd : 6 ≤ d) (hg : LOK G W U V) (hv : CV s W B N R T) (hb : OKB B N) (hn : 0 ≤ N ∧ N ≤ 40 ∧ 0 ≤ R ∧ R ≤ 10 ∧ 0 ≤ T ∧ T ≤ 20000) (ix : ir x) (hk : 0 ≤ k ∧ k < 6) (hs : -1 ≤ s (160 + 2 * k) 1 ∧ s (160 + 2 * k) 1 ≤ 4) (q : s (160 + 2 * k) 1 ≤ 0) (q2 : N ≠ 0) (q3 : x < 0) : Call d 93 [zrf 0, zint k, zint x] (G, s) Q = Q (some (zint 100)) (G, s) := by
  have hg' := hg
  obtain ⟨g1, g2, g3, g4, g5, g6, hw, hu, hx, g7, g8, g9, g10, g11, g12⟩ := hg'
  have hw' := hw
  obtain ⟨w1, w2, w3, w4, w5, w6, w7, w8, w9, w10, w11, w12, w13, w14, w15, w16, w17, w18, w19, w20, w21, w22, w23, w24, w25⟩ := hw'
  have hv' := hv
  obtain ⟨v1, v2, v3, vB⟩ := hv'
  have hk6 : 0 ≤ k ∧ k < 6 := hk
  have kt := g11 k hk6
  obtain ⟨t1, t2, t3, t4⟩ := id kt
  have g10k := g10 k hk6
  rw [e93 (show 1 ≤ d by omega)]
  rcases (show s (160 + 2 * k) 1 = -1 ∨ s (160 + 2 * k) 1 = 0 by omega) with z | z
  · simp (disch := first | omega | exact rfl) only [↓u93_0, ↓u93_1, ↓u93_2, ↓u93_5, ↓u93_6, ↓u93_7, ↓u93_10, ↓u93_11, ↓u93_12, ↓u93_13, ↓u93_16, ↓u93_17, ↓u93_20, ↓u93_21, ↓u93_24, ↓u93_27, ↓u93_29, ↓u93_30, ↓u93_31, ↓u93_34, ↓u93_37, ↓u93_40, ↓u93_42, ↓u93_43, ↓u93_44, ↓u93_47, ↓u93_49, ↓u93_50, ↓u93_51, ↓u93_53, ↓u93_55, ↓u93_56, ↓u93_59, ↓u93_62, ↓u93_65, ↓u93_67, ↓u93_68, ↓u93_71, ↓u93_72, ↓u93_73, ↓u93_76, ↓u93_78, ↓u93_80, ↓u93_81, ↓u93_82, ↓u93_83, ↓u93_86, ↓u93_88, ↓u93_91, ↓u93_93, ↓u93_95, ↓u93_98, ↓u93_99, ↓u93_102, ↓u93_104, ↓u93_107, ↓u93_109, ↓u93_110, ↓u93_113, ↓u93_114, ↓u93_116, ↓u93_117, ↓u93_118, ↓u93_120, ↓u93_121, ↓u93_122, ↓u93_125, ↓u93_127, ↓u93_128, ↓u93_131, ↓u93_134, ↓u93_136, ↓lI_0, ↓lI_s, ↓lL_0, ↓lL_s, ↓lR_0, ↓lR_s, ↓sT_0, ↓sT_i, ↓sT_r, ↓sT_u, ↓sT_lu, ↓sU_0, ↓sU_i, ↓sU_r, ↓sU_u, ↓ite_bx, bx_T, bx_F, bx_pos, bx_neg, zws_i, zws_r, zws_l, zws_n, zCb_kc, xl_ll, xr_rr, xs_e, xset_e, Option.toList, List.cons_append, List.nil_append, zIb_e, zrng_e, nz_e, if_pos, if_neg, and_true, true_and, or_true, true_or, ite_self, bi_eq0, bi_eq1, bi_1, bi_0, bi_ir, bi_T, bi_F, up_eq, up_ne, ↓reduceIte, reduceIte, Nat.reduceAdd, Nat.reduceLeDiff, Nat.le_refl, Nat.zero_le, not_true_eq_false, not_false_eq_true, ne_eq, Int.reduceEq, Int.reduceLT, Int.reduceLE, Int.reduceAdd, Int.reduceSub, Int.reduceMul, Int.reduceNeg, pT g1, g2, g3, g4, g5, g6, pT w1, w2, pT w3, w4, w5, w6, v1, v2, v3, vB, z, s102_y (show 5 ≤ d - 1 by omega) hg hv hb hn hk, pT t1, t2, pT t3, t4]
  · simp (disch := first | omega | exact rfl) only [↓u93_0, ↓u93_1, ↓u93_2, ↓u93_5, ↓u93_6, ↓u93_7, ↓u93_10, ↓u93_11, ↓u93_12, ↓u93_13, ↓u93_16, ↓u93_17, ↓u93_20, ↓u93_21, ↓u93_24, ↓u93_27, ↓u93_29, ↓u93_30, ↓u93_31, ↓u93_34, ↓u93_37, ↓u93_40, ↓u93_42, ↓u93_43, ↓u93_44, ↓u93_47, ↓u93_49, ↓u93_50, ↓u93_51, ↓u93_53, ↓u93_55, ↓u93_56, ↓u93_59, ↓u93_62, ↓u93_65, ↓u93_67, ↓u93_68, ↓u93_71, ↓u93_72, ↓u93_73, ↓u93_76, ↓u93_78, ↓u93_80, ↓u93_81, ↓u93_82, ↓u93_83, ↓u93_86, ↓u93_88, ↓u93_91, ↓u93_93, ↓u93_95, ↓u93_98, ↓u93_99, ↓u93_102, ↓u93_104, ↓u93_107, ↓u93_109, ↓u93_110, ↓u93_113, ↓u93_114, ↓u93_116, ↓u93_117, ↓u93_118, ↓u93_120, ↓u93_121, ↓u93_122, ↓u93_125, ↓u93_127, ↓u93_128, ↓u93_131, ↓u93_134, ↓u93_136, ↓lI_0, ↓lI_s, ↓lL_0, ↓lL_s, ↓lR_0, ↓lR_s, ↓sT_0, ↓sT_i, ↓sT_r, ↓sT_u, ↓sT_lu, ↓sU_0, ↓sU_i, ↓sU_r, ↓sU_u, ↓ite_bx, bx_T, bx_F, bx_pos, bx_neg, zws_i, zws_r, zws_l, zws_n, zCb_kc, xl_ll, xr_rr, xs_e, xset_e, Option.toList, List.cons_append, List.nil_append, zIb_e, zrng_e, nz_e, if_pos, if_neg, and_true, true_and, or_true, true_or, ite_self, bi_eq0, bi_eq1, bi_1, bi_0, bi_ir, bi_T, bi_F, up_eq, up_ne, ↓reduceIte, reduceIte, Nat.reduceAdd, Nat.reduceLeDiff, Nat.le_refl, Nat.zero_le, not_true_eq_false, not_false_eq_true, ne_eq, Int.reduceEq, Int.reduceLT, Int.reduceLE, Int.reduceAdd, Int.reduceSub, Int.reduceMul, Int.reduceNeg, pT g1, g2, g3, g4, g5, g6, pT w1, w2, pT w3, w4, w5, w6, v1, v2, v3, vB, z, s102_y (show 5 ≤ d - 1 by omega) hg hv hb hn hk, pT t1, t2, pT t3, t4]
def due (B : ZS) (m : Int) : Int := if B m 8 = 1 then B m 2 else -1
def jdn (B : ZS) (len : Int) (it : Int → Int) (x : Int) : Nat → Int → Int
  | 0, _ => -5
  | j + 1, m => if len - x ≤ m then 100 + m else if it (x + m) = due B m then jdn B len it x j (m + 1) else m
set_option maxRecDepth 8000 in
theorem jdn_l {B : ZS} {len x m : Int} {it : Int → Int} {j : Nat} (h : len - x ≤ m) : jdn B len it x (j + 1) m = 100 + m := if_pos h
set_option maxRecDepth 8000 in
theorem jdn_y {B : ZS} {len x m : Int} {it : Int → Int} {j : Nat} (h : ¬len - x ≤ m) (q : it (x + m) = due B m) : jdn B len it x (j + 1) m = jdn B len it x j (m + 1) := by
  show (if len - x ≤ m then 100 + m else if it (x + m) = due B m then jdn B len it x j (m + 1) else m) = _
  rw [if_neg h, if_pos q]
set_option maxRecDepth 8000 in
theorem jdn_n {B : ZS} {len x m : Int} {it : Int → Int} {j : Nat} (h : ¬len - x ≤ m) (q : ¬it (x + m) = due B m) : jdn B len it x (j + 1) m = m := by
  show (if len - x ≤ m then 100 + m else if it (x + m) = due B m then jdn B len it x j (m + 1) else m) = _
  rw [if_neg h, if_neg q]
set_option maxRecDepth 8000 in
theorem l93 {d : Nat} {Q : Option AV → XH → Prop} {G : XS} {s : ZS} {W U V : Int} {B : ZS} {N R T : Int} {k x : Int} (hd : 6 ≤ d) (hg : LOK G W U V) (hv : CV s W B N R T) (hb : OKB B N) (hn : 0 ≤ N ∧ N ≤ 40 ∧ 0 ≤ R ∧ R ≤ 10 ∧ 0 ≤ T ∧ T ≤ 20000) (hk : 0 ≤ k ∧ k < 6) (hx0 : 0 ≤ x ∧ ir x) (hl : 0 ≤ s (160 + 2 * k) 2 ∧ s (160 + 2 * k) 2 ≤ 60) (hj : ∀ i, 0 ≤ i ∧ i < 60 → jr (s (160 + 2 * k + 1) i)) : ∀ (j : Nat) (m : Int), m + j = N → 0 ≤ m → ∀ v5 v6, Wp (d - 1) 93 (53, [zrf 0, zint k, zint x, zrf (160 + 2 * k), zint m, v5, v6], [], (G, s)) Q = Q (some (zint (jdn B (s (160 + 2 * k) 2) (s (160 + 2 * k + 1)) x j m))) (G, s) := by
  have hg' := hg
  obtain ⟨g1, g2, g3, g4, g5, g6, hw, hu, hx, g7, g8, g9, g10, g11, g12⟩ := hg'
  have hw' := hw
  obtain ⟨w1, w2, w3, w4, w5, w6, w7, w8, w9, w10, w11, w12, w13, w14, w15, w16, w17, w18, w19, w20, w21, w22, w23, w24, w25⟩ := hw'
  have hv' := hv
  obtain ⟨v1, v2, v3, vB⟩ := hv'
  have hk6 : 0 ≤ k ∧ k < 6 := hk
  have kt := g11 k hk6
  obtain ⟨t1, t2, t3, t4⟩ := id kt
  have g10k := g10 k hk6
  intro j
  induction j with
  | zero =>
    intro m h1 h2 v5 v6
    rw [show jdn B (s (160 + 2 * k) 2) (s (160 + 2 * k + 1)) x 0 m = -5 from rfl, u93_53]
    simp (disch := first | omega | exact rfl) only [↓u93_0, ↓u93_1, ↓u93_2, ↓u93_5, ↓u93_6, ↓u93_7, ↓u93_10, ↓u93_11, ↓u93_12, ↓u93_13, ↓u93_16, ↓u93_17, ↓u93_20, ↓u93_21, ↓u93_24, ↓u93_27, ↓u93_29, ↓u93_30, ↓u93_31, ↓u93_34, ↓u93_37, ↓u93_40, ↓u93_42, ↓u93_43, ↓u93_44, ↓u93_47, ↓u93_49, ↓u93_50, ↓u93_51, ↓u93_55, ↓u93_56, ↓u93_59, ↓u93_62, ↓u93_65, ↓u93_67, ↓u93_68, ↓u93_71, ↓u93_72, ↓u93_73, ↓u93_76, ↓u93_78, ↓u93_80, ↓u93_81, ↓u93_82, ↓u93_83, ↓u93_86, ↓u93_88, ↓u93_91, ↓u93_93, ↓u93_95, ↓u93_98, ↓u93_99, ↓u93_102, ↓u93_104, ↓u93_107, ↓u93_109, ↓u93_110, ↓u93_113, ↓u93_114, ↓u93_116, ↓u93_117, ↓u93_118, ↓u93_120, ↓u93_121, ↓u93_122, ↓u93_125, ↓u93_127, ↓u93_128, ↓u93_131, ↓u93_134, ↓u93_136, ↓lI_0, ↓lI_s, ↓lL_0, ↓lL_s, ↓lR_0, ↓lR_s, ↓sT_0, ↓sT_i, ↓sT_r, ↓sT_u, ↓sT_lu, ↓sU_0, ↓sU_i, ↓sU_r, ↓sU_u, ↓ite_bx, bx_T, bx_F, bx_pos, bx_neg, zws_i, zws_r, zws_l, zws_n, zCb_kc, xl_ll, xr_rr, xs_e, xset_e, Option.toList, List.cons_append, List.nil_append, zIb_e, zrng_e, nz_e, if_pos, if_neg, and_true, true_and, or_true, true_or, ite_self, bi_eq0, bi_eq1, bi_1, bi_0, bi_ir, bi_T, bi_F, up_eq, up_ne, ↓reduceIte, reduceIte, Nat.reduceAdd, Nat.reduceLeDiff, Nat.le_refl, Nat.zero_le, not_true_eq_false, not_false_eq_true, ne_eq, Int.reduceEq, Int.reduceLT, Int.reduceLE, Int.reduceAdd, Int.reduceSub, Int.reduceMul, Int.reduceNeg, pT g1, g2, g3, g4, g5, g6, pT w1, w2, pT w3, w4, w5, w6, v1, v2, v3, vB, pT t1, t2, pT t3, t4]
  | succ j ih =>
    intro m h1 h2 v5 v6
    have ih2 := ih (m + 1) (by omega) (by omega)
    have bm := hb m (by omega)
    have km := w6 m (by omega)
    rw [u93_53]
    generalize hlen : s (160 + 2 * k) 2 = len at hl ih2
    by_cases q : len - x ≤ m
    · rw [jdn_l q]
      simp (disch := first | omega | exact rfl) only [↓u93_0, ↓u93_1, ↓u93_2, ↓u93_5, ↓u93_6, ↓u93_7, ↓u93_10, ↓u93_11, ↓u93_12, ↓u93_13, ↓u93_16, ↓u93_17, ↓u93_20, ↓u93_21, ↓u93_24, ↓u93_27, ↓u93_29, ↓u93_30, ↓u93_31, ↓u93_34, ↓u93_37, ↓u93_40, ↓u93_42, ↓u93_43, ↓u93_44, ↓u93_47, ↓u93_49, ↓u93_50, ↓u93_51, ↓u93_55, ↓u93_56, ↓u93_59, ↓u93_62, ↓u93_65, ↓u93_67, ↓u93_68, ↓u93_71, ↓u93_72, ↓u93_73, ↓u93_76, ↓u93_78, ↓u93_80, ↓u93_81, ↓u93_82, ↓u93_83, ↓u93_86, ↓u93_88, ↓u93_91, ↓u93_93, ↓u93_95, ↓u93_98, ↓u93_99, ↓u93_102, ↓u93_104, ↓u93_107, ↓u93_109, ↓u93_110, ↓u93_113, ↓u93_114, ↓u93_116, ↓u93_117, ↓u93_118, ↓u93_120, ↓u93_121, ↓u93_122, ↓u93_125, ↓u93_127, ↓u93_128, ↓u93_131, ↓u93_134, ↓u93_136, ↓lI_0, ↓lI_s, ↓lL_0, ↓lL_s, ↓lR_0, ↓lR_s, ↓sT_0, ↓sT_i, ↓sT_r, ↓sT_u, ↓sT_lu, ↓sU_0, ↓sU_i, ↓sU_r, ↓sU_u, ↓ite_bx, bx_T, bx_F, bx_pos, bx_neg, zws_i, zws_r, zws_l, zws_n, zCb_kc, xl_ll, xr_rr, xs_e, xset_e, Option.toList, List.cons_append, List.nil_append, zIb_e, zrng_e, nz_e, if_pos, if_neg, and_true, true_and, or_true, true_or, ite_self, bi_eq0, bi_eq1, bi_1, bi_0, bi_ir, bi_T, bi_F, up_eq, up_ne, ↓reduceIte, reduceIte, Nat.reduceAdd, Nat.reduceLeDiff, Nat.le_refl, Nat.zero_le, not_true_eq_false, not_false_eq_true, ne_eq, Int.reduceEq, Int.reduceLT, Int.reduceLE, Int.reduceAdd, Int.reduceSub, Int.reduceMul, Int.reduceNeg, pT g1, g2, g3, g4, g5, g6, pT w1, w2, pT w3, w4, w5, w6, v1, v2, v3, vB, hlen, pT t1, t2, pT t3, t4]
    · have jm := hj (x + m) (by omega)
      by_cases q8 : B m 8 = 1
      · have hrm : hr B N m := ⟨by omega, q8⟩
        have jb : jr (B m 2) := by omega
        by_cases q2 : s (160 + 2 * k + 1) (x + m) = B m 2
        · rw [jdn_y q (show _ = due B m by rw [q2]; unfold due; rw [if_pos q8])]
          simp (disch := first | omega | exact rfl) only [↓u93_0, ↓u93_1, ↓u93_2, ↓u93_5, ↓u93_6, ↓u93_7, ↓u93_10, ↓u93_11, ↓u93_12, ↓u93_13, ↓u93_16, ↓u93_17, ↓u93_20, ↓u93_21, ↓u93_24, ↓u93_27, ↓u93_29, ↓u93_30, ↓u93_31, ↓u93_34, ↓u93_37, ↓u93_40, ↓u93_42, ↓u93_43, ↓u93_44, ↓u93_47, ↓u93_49, ↓u93_50, ↓u93_51, ↓u93_55, ↓u93_56, ↓u93_59, ↓u93_62, ↓u93_65, ↓u93_67, ↓u93_68, ↓u93_71, ↓u93_72, ↓u93_73, ↓u93_76, ↓u93_78, ↓u93_80, ↓u93_81, ↓u93_82, ↓u93_83, ↓u93_86, ↓u93_88, ↓u93_91, ↓u93_93, ↓u93_95, ↓u93_98, ↓u93_99, ↓u93_102, ↓u93_104, ↓u93_107, ↓u93_109, ↓u93_110, ↓u93_113, ↓u93_114, ↓u93_116, ↓u93_117, ↓u93_118, ↓u93_120, ↓u93_121, ↓u93_122, ↓u93_125, ↓u93_127, ↓u93_128, ↓u93_131, ↓u93_134, ↓u93_136, ↓lI_0, ↓lI_s, ↓lL_0, ↓lL_s, ↓lR_0, ↓lR_s, ↓sT_0, ↓sT_i, ↓sT_r, ↓sT_u, ↓sT_lu, ↓sU_0, ↓sU_i, ↓sU_r, ↓sU_u, ↓ite_bx, bx_T, bx_F, bx_pos, bx_neg, zws_i, zws_r, zws_l, zws_n, zCb_kc, xl_ll, xr_rr, xs_e, xset_e, Option.toList, List.cons_append, List.nil_append, zIb_e, zrng_e, nz_e, if_pos, if_neg, and_true, true_and, or_true, true_or, ite_self, bi_eq0, bi_eq1, bi_1, bi_0, bi_ir, bi_T, bi_F, up_eq, up_ne, ↓reduceIte, reduceIte, Nat.reduceAdd, Nat.reduceLeDiff, Nat.le_refl, Nat.zero_le, not_true_eq_false, not_false_eq_true, ne_eq, Int.reduceEq, Int.reduceLT, Int.reduceLE, Int.reduceAdd, Int.reduceSub, Int.reduceMul, Int.reduceNeg, pT g1, g2, g3, g4, g5, g6, pT w1, w2, pT w3, w4, w5, w6, v1, v2, v3, vB, hlen, ih2, zJb_e, pT km, q2, s37_y (show 2 ≤ d - 1 by omega) hw hv hb hn hrm, pT t1, t2, pT t3, t4]
        · rw [jdn_n q (show ¬_ = due B m by unfold due; rw [if_pos q8]; exact q2)]
          rcases (show s (160 + 2 * k + 1) (x + m) < B m 2 ∨ B m 2 < s (160 + 2 * k + 1) (x + m) by omega) with z | z
          · simp (disch := first | omega | exact rfl) only [↓u93_0, ↓u93_1, ↓u93_2, ↓u93_5, ↓u93_6, ↓u93_7, ↓u93_10, ↓u93_11, ↓u93_12, ↓u93_13, ↓u93_16, ↓u93_17, ↓u93_20, ↓u93_21, ↓u93_24, ↓u93_27, ↓u93_29, ↓u93_30, ↓u93_31, ↓u93_34, ↓u93_37, ↓u93_40, ↓u93_42, ↓u93_43, ↓u93_44, ↓u93_47, ↓u93_49, ↓u93_50, ↓u93_51, ↓u93_55, ↓u93_56, ↓u93_59, ↓u93_62, ↓u93_65, ↓u93_67, ↓u93_68, ↓u93_71, ↓u93_72, ↓u93_73, ↓u93_76, ↓u93_78, ↓u93_80, ↓u93_81, ↓u93_82, ↓u93_83, ↓u93_86, ↓u93_88, ↓u93_91, ↓u93_93, ↓u93_95, ↓u93_98, ↓u93_99, ↓u93_102, ↓u93_104, ↓u93_107, ↓u93_109, ↓u93_110, ↓u93_113, ↓u93_114, ↓u93_116, ↓u93_117, ↓u93_118, ↓u93_120, ↓u93_121, ↓u93_122, ↓u93_125, ↓u93_127, ↓u93_128, ↓u93_131, ↓u93_134, ↓u93_136, ↓lI_0, ↓lI_s, ↓lL_0, ↓lL_s, ↓lR_0, ↓lR_s, ↓sT_0, ↓sT_i, ↓sT_r, ↓sT_u, ↓sT_lu, ↓sU_0, ↓sU_i, ↓sU_r, ↓sU_u, ↓ite_bx, bx_T, bx_F, bx_pos, bx_neg, zws_i, zws_r, zws_l, zws_n, zCb_kc, xl_ll, xr_rr, xs_e, xset_e, Option.toList, List.cons_append, List.nil_append, zIb_e, zrng_e, nz_e, if_pos, if_neg, and_true, true_and, or_true, true_or, ite_self, bi_eq0, bi_eq1, bi_1, bi_0, bi_ir, bi_T, bi_F, up_eq, up_ne, ↓reduceIte, reduceIte, Nat.reduceAdd, Nat.reduceLeDiff, Nat.le_refl, Nat.zero_le, not_true_eq_false, not_false_eq_true, ne_eq, Int.reduceEq, Int.reduceLT, Int.reduceLE, Int.reduceAdd, Int.reduceSub, Int.reduceMul, Int.reduceNeg, pT g1, g2, g3, g4, g5, g6, pT w1, w2, pT w3, w4, w5, w6, v1, v2, v3, vB, hlen, ih2, zJb_e, pT km, s37_y (show 2 ≤ d - 1 by omega) hw hv hb hn hrm, pT t1, t2, pT t3, t4]
          · simp (disch := first | omega | exact rfl) only [↓u93_0, ↓u93_1, ↓u93_2, ↓u93_5, ↓u93_6, ↓u93_7, ↓u93_10, ↓u93_11, ↓u93_12, ↓u93_13, ↓u93_16, ↓u93_17, ↓u93_20, ↓u93_21, ↓u93_24, ↓u93_27, ↓u93_29, ↓u93_30, ↓u93_31, ↓u93_34, ↓u93_37, ↓u93_40, ↓u93_42, ↓u93_43, ↓u93_44, ↓u93_47, ↓u93_49, ↓u93_50, ↓u93_51, ↓u93_55, ↓u93_56, ↓u93_59, ↓u93_62, ↓u93_65, ↓u93_67, ↓u93_68, ↓u93_71, ↓u93_72, ↓u93_73, ↓u93_76, ↓u93_78, ↓u93_80, ↓u93_81, ↓u93_82, ↓u93_83, ↓u93_86, ↓u93_88, ↓u93_91, ↓u93_93, ↓u93_95, ↓u93_98, ↓u93_99, ↓u93_102, ↓u93_104, ↓u93_107, ↓u93_109, ↓u93_110, ↓u93_113, ↓u93_114, ↓u93_116, ↓u93_117, ↓u93_118, ↓u93_120, ↓u93_121, ↓u93_122, ↓u93_125, ↓u93_127, ↓u93_128, ↓u93_131, ↓u93_134, ↓u93_136, ↓lI_0, ↓lI_s, ↓lL_0, ↓lL_s, ↓lR_0, ↓lR_s, ↓sT_0, ↓sT_i, ↓sT_r, ↓sT_u, ↓sT_lu, ↓sU_0, ↓sU_i, ↓sU_r, ↓sU_u, ↓ite_bx, bx_T, bx_F, bx_pos, bx_neg, zws_i, zws_r, zws_l, zws_n, zCb_kc, xl_ll, xr_rr, xs_e, xset_e, Option.toList, List.cons_append, List.nil_append, zIb_e, zrng_e, nz_e, if_pos, if_neg, and_true, true_and, or_true, true_or, ite_self, bi_eq0, bi_eq1, bi_1, bi_0, bi_ir, bi_T, bi_F, up_eq, up_ne, ↓reduceIte, reduceIte, Nat.reduceAdd, Nat.reduceLeDiff, Nat.le_refl, Nat.zero_le, not_true_eq_false, not_false_eq_true, ne_eq, Int.reduceEq, Int.reduceLT, Int.reduceLE, Int.reduceAdd, Int.reduceSub, Int.reduceMul, Int.reduceNeg, pT g1, g2, g3, g4, g5, g6, pT w1, w2, pT w3, w4, w5, w6, v1, v2, v3, vB, hlen, ih2, zJb_e, pT km, s37_y (show 2 ≤ d - 1 by omega) hw hv hb hn hrm, pT t1, t2, pT t3, t4]
      · have hrm : ¬hr B N m := fun c => q8 c.2
        by_cases q2 : s (160 + 2 * k + 1) (x + m) = -1
        · rw [jdn_y q (show _ = due B m by rw [q2]; unfold due; rw [if_neg q8])]
          simp (disch := first | omega | exact rfl) only [↓u93_0, ↓u93_1, ↓u93_2, ↓u93_5, ↓u93_6, ↓u93_7, ↓u93_10, ↓u93_11, ↓u93_12, ↓u93_13, ↓u93_16, ↓u93_17, ↓u93_20, ↓u93_21, ↓u93_24, ↓u93_27, ↓u93_29, ↓u93_30, ↓u93_31, ↓u93_34, ↓u93_37, ↓u93_40, ↓u93_42, ↓u93_43, ↓u93_44, ↓u93_47, ↓u93_49, ↓u93_50, ↓u93_51, ↓u93_55, ↓u93_56, ↓u93_59, ↓u93_62, ↓u93_65, ↓u93_67, ↓u93_68, ↓u93_71, ↓u93_72, ↓u93_73, ↓u93_76, ↓u93_78, ↓u93_80, ↓u93_81, ↓u93_82, ↓u93_83, ↓u93_86, ↓u93_88, ↓u93_91, ↓u93_93, ↓u93_95, ↓u93_98, ↓u93_99, ↓u93_102, ↓u93_104, ↓u93_107, ↓u93_109, ↓u93_110, ↓u93_113, ↓u93_114, ↓u93_116, ↓u93_117, ↓u93_118, ↓u93_120, ↓u93_121, ↓u93_122, ↓u93_125, ↓u93_127, ↓u93_128, ↓u93_131, ↓u93_134, ↓u93_136, ↓lI_0, ↓lI_s, ↓lL_0, ↓lL_s, ↓lR_0, ↓lR_s, ↓sT_0, ↓sT_i, ↓sT_r, ↓sT_u, ↓sT_lu, ↓sU_0, ↓sU_i, ↓sU_r, ↓sU_u, ↓ite_bx, bx_T, bx_F, bx_pos, bx_neg, zws_i, zws_r, zws_l, zws_n, zCb_kc, xl_ll, xr_rr, xs_e, xset_e, Option.toList, List.cons_append, List.nil_append, zIb_e, zrng_e, nz_e, if_pos, if_neg, and_true, true_and, or_true, true_or, ite_self, bi_eq0, bi_eq1, bi_1, bi_0, bi_ir, bi_T, bi_F, up_eq, up_ne, ↓reduceIte, reduceIte, Nat.reduceAdd, Nat.reduceLeDiff, Nat.le_refl, Nat.zero_le, not_true_eq_false, not_false_eq_true, ne_eq, Int.reduceEq, Int.reduceLT, Int.reduceLE, Int.reduceAdd, Int.reduceSub, Int.reduceMul, Int.reduceNeg, pT g1, g2, g3, g4, g5, g6, pT w1, w2, pT w3, w4, w5, w6, v1, v2, v3, vB, hlen, ih2, zJb_e, q2, s37_n (show 2 ≤ d - 1 by omega) hw hv hb hn (show ir m by omega) hrm, pT t1, t2, pT t3, t4]
        · rw [jdn_n q (show ¬_ = due B m by unfold due; rw [if_neg q8]; exact q2)]
          rcases (show s (160 + 2 * k + 1) (x + m) < -1 ∨ -1 < s (160 + 2 * k + 1) (x + m) by omega) with z | z
          · simp (disch := first | omega | exact rfl) only [↓u93_0, ↓u93_1, ↓u93_2, ↓u93_5, ↓u93_6, ↓u93_7, ↓u93_10, ↓u93_11, ↓u93_12, ↓u93_13, ↓u93_16, ↓u93_17, ↓u93_20, ↓u93_21, ↓u93_24, ↓u93_27, ↓u93_29, ↓u93_30, ↓u93_31, ↓u93_34, ↓u93_37, ↓u93_40, ↓u93_42, ↓u93_43, ↓u93_44, ↓u93_47, ↓u93_49, ↓u93_50, ↓u93_51, ↓u93_55, ↓u93_56, ↓u93_59, ↓u93_62, ↓u93_65, ↓u93_67, ↓u93_68, ↓u93_71, ↓u93_72, ↓u93_73, ↓u93_76, ↓u93_78, ↓u93_80, ↓u93_81, ↓u93_82, ↓u93_83, ↓u93_86, ↓u93_88, ↓u93_91, ↓u93_93, ↓u93_95, ↓u93_98, ↓u93_99, ↓u93_102, ↓u93_104, ↓u93_107, ↓u93_109, ↓u93_110, ↓u93_113, ↓u93_114, ↓u93_116, ↓u93_117, ↓u93_118, ↓u93_120, ↓u93_121, ↓u93_122, ↓u93_125, ↓u93_127, ↓u93_128, ↓u93_131, ↓u93_134, ↓u93_136, ↓lI_0, ↓lI_s, ↓lL_0, ↓lL_s, ↓lR_0, ↓lR_s, ↓sT_0, ↓sT_i, ↓sT_r, ↓sT_u, ↓sT_lu, ↓sU_0, ↓sU_i, ↓sU_r, ↓sU_u, ↓ite_bx, bx_T, bx_F, bx_pos, bx_neg, zws_i, zws_r, zws_l, zws_n, zCb_kc, xl_ll, xr_rr, xs_e, xset_e, Option.toList, List.cons_append, List.nil_append, zIb_e, zrng_e, nz_e, if_pos, if_neg, and_true, true_and, or_true, true_or, ite_self, bi_eq0, bi_eq1, bi_1, bi_0, bi_ir, bi_T, bi_F, up_eq, up_ne, ↓reduceIte, reduceIte, Nat.reduceAdd, Nat.reduceLeDiff, Nat.le_refl, Nat.zero_le, not_true_eq_false, not_false_eq_true, ne_eq, Int.reduceEq, Int.reduceLT, Int.reduceLE, Int.reduceAdd, Int.reduceSub, Int.reduceMul, Int.reduceNeg, pT g1, g2, g3, g4, g5, g6, pT w1, w2, pT w3, w4, w5, w6, v1, v2, v3, vB, hlen, ih2, zJb_e, s37_n (show 2 ≤ d - 1 by omega) hw hv hb hn (show ir m by omega) hrm, pT t1, t2, pT t3, t4]
          · simp (disch := first | omega | exact rfl) only [↓u93_0, ↓u93_1, ↓u93_2, ↓u93_5, ↓u93_6, ↓u93_7, ↓u93_10, ↓u93_11, ↓u93_12, ↓u93_13, ↓u93_16, ↓u93_17, ↓u93_20, ↓u93_21, ↓u93_24, ↓u93_27, ↓u93_29, ↓u93_30, ↓u93_31, ↓u93_34, ↓u93_37, ↓u93_40, ↓u93_42, ↓u93_43, ↓u93_44, ↓u93_47, ↓u93_49, ↓u93_50, ↓u93_51, ↓u93_55, ↓u93_56, ↓u93_59, ↓u93_62, ↓u93_65, ↓u93_67, ↓u93_68, ↓u93_71, ↓u93_72, ↓u93_73, ↓u93_76, ↓u93_78, ↓u93_80, ↓u93_81, ↓u93_82, ↓u93_83, ↓u93_86, ↓u93_88, ↓u93_91, ↓u93_93, ↓u93_95, ↓u93_98, ↓u93_99, ↓u93_102, ↓u93_104, ↓u93_107, ↓u93_109, ↓u93_110, ↓u93_113, ↓u93_114, ↓u93_116, ↓u93_117, ↓u93_118, ↓u93_120, ↓u93_121, ↓u93_122, ↓u93_125, ↓u93_127, ↓u93_128, ↓u93_131, ↓u93_134, ↓u93_136, ↓lI_0, ↓lI_s, ↓lL_0, ↓lL_s, ↓lR_0, ↓lR_s, ↓sT_0, ↓sT_i, ↓sT_r, ↓sT_u, ↓sT_lu, ↓sU_0, ↓sU_i, ↓sU_r, ↓sU_u, ↓ite_bx, bx_T, bx_F, bx_pos, bx_neg, zws_i, zws_r, zws_l, zws_n, zCb_kc, xl_ll, xr_rr, xs_e, xset_e, Option.toList, List.cons_append, List.nil_append, zIb_e, zrng_e, nz_e, if_pos, if_neg, and_true, true_and, or_true, true_or, ite_self, bi_eq0, bi_eq1, bi_1, bi_0, bi_ir, bi_T, bi_F, up_eq, up_ne, ↓reduceIte, reduceIte, Nat.reduceAdd, Nat.reduceLeDiff, Nat.le_refl, Nat.zero_le, not_true_eq_false, not_false_eq_true, ne_eq, Int.reduceEq, Int.reduceLT, Int.reduceLE, Int.reduceAdd, Int.reduceSub, Int.reduceMul, Int.reduceNeg, pT g1, g2, g3, g4, g5, g6, pT w1, w2, pT w3, w4, w5, w6, v1, v2, v3, vB, hlen, ih2, zJb_e, s37_n (show 2 ≤ d - 1 by omega) hw hv hb hn (show ir m by omega) hrm, pT t1, t2, pT t3, t4]
set_option maxRecDepth 8000 in
theorem s93_y {d : Nat} {Q : Option AV → XH → Prop} {G : XS} {s : ZS} {W U V : Int} {B : ZS} {N R T : Int} {k x : Int} (hd : 6 ≤ d) (hg : LOK G W U V) (hv : CV s W B N R T) (hb : OKB B N) (hn : 0 ≤ N ∧ N ≤ 40 ∧ 0 ≤ R ∧ R ≤ 10 ∧ 0 ≤ T ∧ T ≤ 20000) (hk : 0 ≤ k ∧ k < 6) (hx0 : 0 ≤ x ∧ ir x) (hl : 0 ≤ s (160 + 2 * k) 2 ∧ s (160 + 2 * k) 2 ≤ 60) (hj : ∀ i, 0 ≤ i ∧ i < 60 → jr (s (160 + 2 * k + 1) i)) (hs : -1 ≤ s (160 + 2 * k) 1 ∧ s (160 + 2 * k) 1 ≤ 4) (q : s (160 + 2 * k) 1 ≤ 0) (q2 : N ≠ 0) : Call d 93 [zrf 0, zint k, zint x] (G, s) Q = Q (some (zint (jdn B (s (160 + 2 * k) 2) (s (160 + 2 * k + 1)) x N.toNat 0))) (G, s) := by
  have hg' := hg
  obtain ⟨g1, g2, g3, g4, g5, g6, hw, hu, hx, g7, g8, g9, g10, g11, g12⟩ := hg'
  have hw' := hw
  obtain ⟨w1, w2, w3, w4, w5, w6, w7, w8, w9, w10, w11, w12, w13, w14, w15, w16, w17, w18, w19, w20, w21, w22, w23, w24, w25⟩ := hw'
  have hv' := hv
  obtain ⟨v1, v2, v3, vB⟩ := hv'
  have hk6 : 0 ≤ k ∧ k < 6 := hk
  have kt := g11 k hk6
  obtain ⟨t1, t2, t3, t4⟩ := id kt
  have g10k := g10 k hk6
  have e := l93 (d := d) (Q := Q) hd hg hv hb hn hk hx0 hl hj N.toNat 0 (by omega) (Int.le_refl 0)
  rw [e93 (show 1 ≤ d by omega)]
  rcases (show s (160 + 2 * k) 1 = -1 ∨ s (160 + 2 * k) 1 = 0 by omega) with z | z
  · simp (disch := first | omega | exact rfl) only [↓u93_0, ↓u93_1, ↓u93_2, ↓u93_5, ↓u93_6, ↓u93_7, ↓u93_10, ↓u93_11, ↓u93_12, ↓u93_13, ↓u93_16, ↓u93_17, ↓u93_20, ↓u93_21, ↓u93_24, ↓u93_27, ↓u93_29, ↓u93_30, ↓u93_31, ↓u93_34, ↓u93_37, ↓u93_40, ↓u93_42, ↓u93_43, ↓u93_44, ↓u93_47, ↓u93_49, ↓u93_50, ↓u93_51, ↓u93_55, ↓u93_56, ↓u93_59, ↓u93_62, ↓u93_65, ↓u93_67, ↓u93_68, ↓u93_71, ↓u93_72, ↓u93_73, ↓u93_76, ↓u93_78, ↓u93_80, ↓u93_81, ↓u93_82, ↓u93_83, ↓u93_86, ↓u93_88, ↓u93_91, ↓u93_93, ↓u93_95, ↓u93_98, ↓u93_99, ↓u93_102, ↓u93_104, ↓u93_107, ↓u93_109, ↓u93_110, ↓u93_113, ↓u93_114, ↓u93_116, ↓u93_117, ↓u93_118, ↓u93_120, ↓u93_121, ↓u93_122, ↓u93_125, ↓u93_127, ↓u93_128, ↓u93_131, ↓u93_134, ↓u93_136, ↓lI_0, ↓lI_s, ↓lL_0, ↓lL_s, ↓lR_0, ↓lR_s, ↓sT_0, ↓sT_i, ↓sT_r, ↓sT_u, ↓sT_lu, ↓sU_0, ↓sU_i, ↓sU_r, ↓sU_u, ↓ite_bx, bx_T, bx_F, bx_pos, bx_neg, zws_i, zws_r, zws_l, zws_n, zCb_kc, xl_ll, xr_rr, xs_e, xset_e, Option.toList, List.cons_append, List.nil_append, zIb_e, zrng_e, nz_e, if_pos, if_neg, and_true, true_and, or_true, true_or, ite_self, bi_eq0, bi_eq1, bi_1, bi_0, bi_ir, bi_T, bi_F, up_eq, up_ne, ↓reduceIte, reduceIte, Nat.reduceAdd, Nat.reduceLeDiff, Nat.le_refl, Nat.zero_le, not_true_eq_false, not_false_eq_true, ne_eq, Int.reduceEq, Int.reduceLT, Int.reduceLE, Int.reduceAdd, Int.reduceSub, Int.reduceMul, Int.reduceNeg, pT g1, g2, g3, g4, g5, g6, pT w1, w2, pT w3, w4, w5, w6, v1, v2, v3, vB, z, e, s102_y (show 5 ≤ d - 1 by omega) hg hv hb hn hk, pT t1, t2, pT t3, t4]
  · simp (disch := first | omega | exact rfl) only [↓u93_0, ↓u93_1, ↓u93_2, ↓u93_5, ↓u93_6, ↓u93_7, ↓u93_10, ↓u93_11, ↓u93_12, ↓u93_13, ↓u93_16, ↓u93_17, ↓u93_20, ↓u93_21, ↓u93_24, ↓u93_27, ↓u93_29, ↓u93_30, ↓u93_31, ↓u93_34, ↓u93_37, ↓u93_40, ↓u93_42, ↓u93_43, ↓u93_44, ↓u93_47, ↓u93_49, ↓u93_50, ↓u93_51, ↓u93_55, ↓u93_56, ↓u93_59, ↓u93_62, ↓u93_65, ↓u93_67, ↓u93_68, ↓u93_71, ↓u93_72, ↓u93_73, ↓u93_76, ↓u93_78, ↓u93_80, ↓u93_81, ↓u93_82, ↓u93_83, ↓u93_86, ↓u93_88, ↓u93_91, ↓u93_93, ↓u93_95, ↓u93_98, ↓u93_99, ↓u93_102, ↓u93_104, ↓u93_107, ↓u93_109, ↓u93_110, ↓u93_113, ↓u93_114, ↓u93_116, ↓u93_117, ↓u93_118, ↓u93_120, ↓u93_121, ↓u93_122, ↓u93_125, ↓u93_127, ↓u93_128, ↓u93_131, ↓u93_134, ↓u93_136, ↓lI_0, ↓lI_s, ↓lL_0, ↓lL_s, ↓lR_0, ↓lR_s, ↓sT_0, ↓sT_i, ↓sT_r, ↓sT_u, ↓sT_lu, ↓sU_0, ↓sU_i, ↓sU_r, ↓sU_u, ↓ite_bx, bx_T, bx_F, bx_pos, bx_neg, zws_i, zws_r, zws_l, zws_n, zCb_kc, xl_ll, xr_rr, xs_e, xset_e, Option.toList, List.cons_append, List.nil_append, zIb_e, zrng_e, nz_e, if_pos, if_neg, and_true, true_and, or_true, true_or, ite_self, bi_eq0, bi_eq1, bi_1, bi_0, bi_ir, bi_T, bi_F, up_eq, up_ne, ↓reduceIte, reduceIte, Nat.reduceAdd, Nat.reduceLeDiff, Nat.le_refl, Nat.zero_le, not_true_eq_false, not_false_eq_true, ne_eq, Int.reduceEq, Int.reduceLT, Int.reduceLE, Int.reduceAdd, Int.reduceSub, Int.reduceMul, Int.reduceNeg, pT g1, g2, g3, g4, g5, g6, pT w1, w2, pT w3, w4, w5, w6, v1, v2, v3, vB, z, e, s102_y (show 5 ≤ d - 1 by omega) hg hv hb hn hk, pT t1, t2, pT t3, t4]
