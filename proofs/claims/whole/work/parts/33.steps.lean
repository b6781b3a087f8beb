/-! the class LooseGrid: steps, and what will be -/
def itb : Nat → ZS → ZS
  | 0, B => B
  | n + 1, B => itb n (stp B)
set_option maxRecDepth 8000 in
theorem itb_s {n : Nat} {B : ZS} : itb (n + 1) B = itb n (stp B) := rfl
set_option maxRecDepth 8000 in
theorem OKB_i : ∀ (n : Nat) {B : ZS} {N : Int}, OKB B N → OKB (itb n B) N := by
  intro n
  induction n with
  | zero => intro B N h; exact h
  | succ n ih => intro B N h; exact ih (OKB_s h)
set_option maxRecDepth 8000 in
theorem itb_c {n : Nat} {B : ZS} {i f : Int} (h : f ≠ 2 ∧ f ≠ 3 ∧ f ≠ 6 ∧ f ≠ 7) : itb n B i f = B i f := by
  induction n generalizing B with
  | zero => rfl
  | succ n ih => rw [itb_s, ih, stp_o h]
set_option maxRecDepth 8000 in
theorem hr_i {n : Nat} {B : ZS} {N b : Int} : hr (itb n B) N b = hr B N b := by
  unfold hr
  rw [itb_c (by omega)]
def fbx (s s2 : ZS) (W : Int) : Prop := ∀ a c, (a < W + 2 ∨ W + 42 ≤ a) → (a ≠ W ∨ c ≠ 6) → s2 a c = s a c
set_option maxRecDepth 8000 in
theorem fbx_t {s s2 s3 : ZS} {W : Int} (h1 : fbx s s2 W) (h2 : fbx s2 s3 W) : fbx s s3 W := fun a c h h' => by rw [h2 a c h h', h1 a c h h']
set_option maxRecDepth 8000 in
theorem fbx_w {s : ZS} {W N v : Int} (hn : N ≤ 40) : fbx s (up (ws s W N) W 6 v) W := fun a c h h' => by rw [up_ne (by omega), ws_o (by omega)]
set_option maxRecDepth 8000 in
theorem fbx_r (s : ZS) (W : Int) : fbx s s W := fun a c _ _ => rfl
/-- all but the world V as it was -/
def fvw (s s2 : ZS) (V : Int) : Prop := ∀ a c, (a < V ∨ V + 49 ≤ a) → s2 a c = s a c
set_option maxRecDepth 8000 in
theorem fvw_t {s s2 s3 : ZS} {V : Int} (h1 : fvw s s2 V) (h2 : fvw s2 s3 V) : fvw s s3 V := fun a c h => by rw [h2 a c h, h1 a c h]
set_option maxRecDepth 8000 in
theorem fvw_x {s s2 : ZS} {V : Int} (h1 : fbx s s2 V) : fvw s s2 V := fun a c h => h1 a c (by omega) (by omega)
set_option maxRecDepth 8000 in
theorem fvw_b {s : ZS} {V W N R T : Int} : N ≤ 40 → fvw s (tb (tb3 s V N R T) V W N) V := fun hn a c h => by rw [tb_o (by omega), tb3_o (by omega)]
set_option maxRecDepth 8000 in
theorem fvw_4 {s s2 : ZS} {V : Int} (h : ∀ b c, b ≠ V + 42 → s2 b c = s b c) : fvw s s2 V := fun a c h' => h a c (by omega)
set_option maxRecDepth 8000 in
theorem CV_f {s s2 : ZS} {W V : Int} {B : ZS} {N R T : Int} (hv : CV s W B N R T) (hn : N ≤ 40) (hf : fvw s s2 V) (hw : W + 49 ≤ V ∨ V + 49 ≤ W) : CV s2 W B N R T := by
  obtain ⟨v1, v2, v3, vB⟩ := hv
  refine ⟨?_, ?_, ?_, ?_⟩
  · rw [hf _ _ (by omega)]; exact v1
  · rw [hf _ _ (by omega)]; exact v2
  · rw [hf _ _ (by omega)]; exact v3
  · intro i f h
    rw [hf _ _ (by omega)]
    exact vB i f h
set_option maxRecDepth 8000 in
theorem l78 {d : Nat} {G : XS} {W U V N R n : Int} (hd : 6 ≤ d) (hg : LOK G W U V) (hn : 0 ≤ N ∧ N ≤ 40) (hr : 0 ≤ R ∧ R ≤ 10) (h40 : n ≤ 40) : ∀ (j : Nat) (i : Int) (s : ZS) (B : ZS) (T : Int), i + j = n → 0 ≤ i → CV s W B N R T → OKB B N → (0 ≤ T ∧ T + j ≤ 20000) → ∃ s2, fbx s s2 W ∧ CV s2 W (itb j B) N R (T + j) ∧ ∀ Q, Wp (d - 1) 78 (33, [zrf 0, zint n, zint i], [], (G, s)) Q = Q (some (zint (T + j))) (G, s2) := by
  obtain ⟨g1, g2, g3, g4, g5, g6, hw, hu, hx, g7, g8, g9, g10, g11, g12⟩ := hg
  intro j
  induction j with
  | zero =>
    intro i s B T h1 h2 hv hb ht
    refine ⟨s, fbx_r s W, by rw [show T + ((0 : Nat) : Int) = T by omega]; exact hv, fun Q => ?_⟩
    obtain ⟨v1, v2, v3, vB⟩ := hv
    rw [show T + ((0 : Nat) : Int) = T by omega, u78_33]
    simp (disch := first | omega | exact rfl) only [↓u78_0, ↓u78_1, ↓u78_2, ↓u78_4, ↓u78_7, ↓u78_10, ↓u78_12, ↓u78_13, ↓u78_14, ↓u78_17, ↓u78_20, ↓u78_23, ↓u78_24, ↓u78_25, ↓u78_28, ↓u78_30, ↓u78_31, ↓u78_32, ↓u78_34, ↓u78_35, ↓u78_38, ↓u78_39, ↓u78_42, ↓u78_45, ↓u78_48, ↓u78_51, ↓u78_52, ↓u78_55, ↓u78_58, ↓lI_0, ↓lI_s, ↓lL_0, ↓lL_s, ↓lR_0, ↓lR_s, ↓sT_0, ↓sT_i, ↓sT_r, ↓sT_u, ↓sT_lu, ↓sU_0, ↓sU_i, ↓sU_r, ↓sU_u, ↓ite_bx, bx_T, bx_F, bx_pos, bx_neg, zws_i, zws_r, zws_l, zws_n, zCb_kc, xl_ll, xr_rr, xs_e, xset_e, Option.toList, List.cons_append, List.nil_append, zIb_e, zrng_e, nz_e, if_pos, if_neg, and_true, true_and, or_true, true_or, ite_self, bi_eq0, bi_eq1, bi_1, bi_0, bi_ir, bi_T, bi_F, up_eq, up_ne, ↓reduceIte, reduceIte, Nat.reduceAdd, Nat.reduceLeDiff, Nat.le_refl, Nat.zero_le, not_true_eq_false, not_false_eq_true, ne_eq, Int.reduceEq, Int.reduceLT, Int.reduceLE, Int.reduceAdd, Int.reduceSub, Int.reduceMul, Int.reduceNeg, pT g1, g2, g3, g4, g5, g6, pT hw.1, pT hx.1, pT hu.1, v2]
  | succ j ih =>
    intro i s B T h1 h2 hv hb ht
    obtain ⟨s2, f1, f2, e⟩ := ih (i + 1) (up (ws s W N) W 6 (T + 1)) (stp B) (T + 1) (by omega) (by omega) (CV_s hv) (OKB_s hb) (by omega)
    refine ⟨s2, fbx_t (fbx_w hn.2) f1, by rw [show T + ((j + 1 : Nat) : Int) = T + 1 + j by omega]; exact f2, fun Q => ?_⟩
    rw [show T + ((j + 1 : Nat) : Int) = T + 1 + j by omega, u78_33]
    simp (disch := first | omega | exact rfl) only [↓u78_0, ↓u78_1, ↓u78_2, ↓u78_4, ↓u78_7, ↓u78_10, ↓u78_12, ↓u78_13, ↓u78_14, ↓u78_17, ↓u78_20, ↓u78_23, ↓u78_24, ↓u78_25, ↓u78_28, ↓u78_30, ↓u78_31, ↓u78_32, ↓u78_34, ↓u78_35, ↓u78_38, ↓u78_39, ↓u78_42, ↓u78_45, ↓u78_48, ↓u78_51, ↓u78_52, ↓u78_55, ↓u78_58, ↓lI_0, ↓lI_s, ↓lL_0, ↓lL_s, ↓lR_0, ↓lR_s, ↓sT_0, ↓sT_i, ↓sT_r, ↓sT_u, ↓sT_lu, ↓sU_0, ↓sU_i, ↓sU_r, ↓sU_u, ↓ite_bx, bx_T, bx_F, bx_pos, bx_neg, zws_i, zws_r, zws_l, zws_n, zCb_kc, xl_ll, xr_rr, xs_e, xset_e, Option.toList, List.cons_append, List.nil_append, zIb_e, zrng_e, nz_e, if_pos, if_neg, and_true, true_and, or_true, true_or, ite_self, bi_eq0, bi_eq1, bi_1, bi_0, bi_ir, bi_T, bi_F, up_eq, up_ne, ↓reduceIte, reduceIte, Nat.reduceAdd, Nat.reduceLeDiff, Nat.le_refl, Nat.zero_le, not_true_eq_false, not_false_eq_true, ne_eq, Int.reduceEq, Int.reduceLT, Int.reduceLE, Int.reduceAdd, Int.reduceSub, Int.reduceMul, Int.reduceNeg, pT g1, g2, g3, g4, g5, g6, pT hw.1, pT hx.1, pT hu.1, s41 (show 4 ≤ d - 1 by omega) hw hv hb (show 0 ≤ N ∧ N ≤ 40 ∧ 0 ≤ R ∧ R ≤ 10 ∧ 0 ≤ T ∧ T ≤ 20000 by omega), e]
set_option maxRecDepth 8000 in
theorem s78_b {d : Nat} {Q : Option AV → XH → Prop} {G : XS} {s : ZS} {W U V : Int} {B : ZS} {N R T : Int} {n : Int} (hd : 6 ≤ d) (hg : LOK G W U V) (hv : CV s W B N R T) (hb : OKB B N) (hn : 0 ≤ N ∧ N ≤ 40 ∧ 0 ≤ R ∧ R ≤ 10 ∧ 0 ≤ T ∧ T ≤ 20000) (i1 : ir n) (q : ¬(0 ≤ n ∧ n ≤ 40)) : Call d 78 [zrf 0, zint n] (G, s) Q = Q (some (zint (-2))) (G, s) := by
  have hg' := hg
  obtain ⟨g1, g2, g3, g4, g5, g6, hw, hu, hx, g7, g8, g9, g10, g11, g12⟩ := hg'
  have hw' := hw
  obtain ⟨w1, w2, w3, w4, w5, w6, w7, w8, w9, w10, w11, w12, w13, w14, w15, w16, w17, w18, w19, w20, w21, w22, w23, w24, w25⟩ := hw'
  have hv' := hv
  obtain ⟨v1, v2, v3, vB⟩ := hv'
  rw [e78 (show 1 ≤ d by omega)]
  simp (disch := first | omega | exact rfl) only [↓u78_0, ↓u78_1, ↓u78_2, ↓u78_4, ↓u78_7, ↓u78_10, ↓u78_12, ↓u78_13, ↓u78_14, ↓u78_17, ↓u78_20, ↓u78_23, ↓u78_24, ↓u78_25, ↓u78_28, ↓u78_30, ↓u78_31, ↓u78_32, ↓u78_33, ↓u78_34, ↓u78_35, ↓u78_38, ↓u78_39, ↓u78_42, ↓u78_45, ↓u78_48, ↓u78_51, ↓u78_52, ↓u78_55, ↓u78_58, ↓lI_0, ↓lI_s, ↓lL_0, ↓lL_s, ↓lR_0, ↓lR_s, ↓sT_0, ↓sT_i, ↓sT_r, ↓sT_u, ↓sT_lu, ↓sU_0, ↓sU_i, ↓sU_r, ↓sU_u, ↓ite_bx, bx_T, bx_F, bx_pos, bx_neg, zws_i, zws_r, zws_l, zws_n, zCb_kc, xl_ll, xr_rr, xs_e, xset_e, Option.toList, List.cons_append, List.nil_append, zIb_e, zrng_e, nz_e, if_pos, if_neg, and_true, true_and, or_true, true_or, ite_self, bi_eq0, bi_eq1, bi_1, bi_0, bi_ir, bi_T, bi_F, up_eq, up_ne, ↓reduceIte, reduceIte, Nat.reduceAdd, Nat.reduceLeDiff, Nat.le_refl, Nat.zero_le, not_true_eq_false, not_false_eq_true, ne_eq, Int.reduceEq, Int.reduceLT, Int.reduceLE, Int.reduceAdd, Int.reduceSub, Int.reduceMul, Int.reduceNeg, pT g1, g2, g3, g4, g5, g6, pT w1, w2, pT w3, w4, w5, w6, v1, v2, v3, vB, s103]
set_option maxRecDepth 8000 in
theorem s78_s {d : Nat} {Q : Option AV → XH → Prop} {G : XS} {s : ZS} {W U V : Int} {B : ZS} {N R T : Int} {n : Int} (hd : 6 ≤ d) (hg : LOK G W U V) (hv : CV s W B N R T) (hb : OKB B N) (hn : 0 ≤ N ∧ N ≤ 40 ∧ 0 ≤ R ∧ R ≤ 10 ∧ 0 ≤ T ∧ T ≤ 20000) (i1 : ir n) (q : 0 ≤ n ∧ n ≤ 40) (q2 : 9999 < T + n) : Call d 78 [zrf 0, zint n] (G, s) Q = Q (some (zint (-3))) (G, s) := by
  have hg' := hg
  obtain ⟨g1, g2, g3, g4, g5, g6, hw, hu, hx, g7, g8, g9, g10, g11, g12⟩ := hg'
  have hw' := hw
  obtain ⟨w1, w2, w3, w4, w5, w6, w7, w8, w9, w10, w11, w12, w13, w14, w15, w16, w17, w18, w19, w20, w21, w22, w23, w24, w25⟩ := hw'
  have hv' := hv
  obtain ⟨v1, v2, v3, vB⟩ := hv'
  rw [e78 (show 1 ≤ d by omega)]
  simp (disch := first | omega | exact rfl) only [↓u78_0, ↓u78_1, ↓u78_2, ↓u78_4, ↓u78_7, ↓u78_10, ↓u78_12, ↓u78_13, ↓u78_14, ↓u78_17, ↓u78_20, ↓u78_23, ↓u78_24, ↓u78_25, ↓u78_28, ↓u78_30, ↓u78_31, ↓u78_32, ↓u78_33, ↓u78_34, ↓u78_35, ↓u78_38, ↓u78_39, ↓u78_42, ↓u78_45, ↓u78_48, ↓u78_51, ↓u78_52, ↓u78_55, ↓u78_58, ↓lI_0, ↓lI_s, ↓lL_0, ↓lL_s, ↓lR_0, ↓lR_s, ↓sT_0, ↓sT_i, ↓sT_r, ↓sT_u, ↓sT_lu, ↓sU_0, ↓sU_i, ↓sU_r, ↓sU_u, ↓ite_bx, bx_T, bx_F, bx_pos, bx_neg, zws_i, zws_r, zws_l, zws_n, zCb_kc, xl_ll, xr_rr, xs_e, xset_e, Option.toList, List.cons_append, List.nil_append, zIb_e, zrng_e, nz_e, if_pos, if_neg, and_true, true_and, or_true, true_or, ite_self, bi_eq0, bi_eq1, bi_1, bi_0, bi_ir, bi_T, bi_F, up_eq, up_ne, ↓reduceIte, reduceIte, Nat.reduceAdd, Nat.reduceLeDiff, Nat.le_refl, Nat.zero_le, not_true_eq_false, not_false_eq_true, ne_eq, Int.reduceEq, Int.reduceLT, Int.reduceLE, Int.reduceAdd, Int.reduceSub, Int.reduceMul, Int.reduceNeg, pT g1, g2, g3, g4, g5, g6, pT w1, w2, pT w3, w4, w5, w6, v1, v2, v3, vB, s103]
set_option maxRecDepth 8000 in
theorem s78_y {d : Nat} {G : XS} {s : ZS} {W U V : Int} {B : ZS} {N R T : Int} {n : Int} (hd : 6 ≤ d) (hg : LOK G W U V) (hv : CV s W B N R T) (hb : OKB B N) (hn : 0 ≤ N ∧ N ≤ 40 ∧ 0 ≤ R ∧ R ≤ 10 ∧ 0 ≤ T ∧ T ≤ 20000) (q : 0 ≤ n ∧ n ≤ 40) (q2 : T + n ≤ 9999) : ∃ s2, fbx s s2 W ∧ CV s2 W (itb n.toNat B) N R (T + n) ∧ ∀ Q, Call d 78 [zrf 0, zint n] (G, s) Q = Q (some (zint (T + n))) (G, s2) := by
  have hg' := hg
  obtain ⟨g1, g2, g3, g4, g5, g6, hw, hu, hx, g7, g8, g9, g10, g11, g12⟩ := hg'
  have hw' := hw
  obtain ⟨w1, w2, w3, w4, w5, w6, w7, w8, w9, w10, w11, w12, w13, w14, w15, w16, w17, w18, w19, w20, w21, w22, w23, w24, w25⟩ := hw'
  have hv' := hv
  obtain ⟨v1, v2, v3, vB⟩ := hv'
  obtain ⟨s2, f1, f2, e⟩ := l78 (n := n) hd hg (by omega) (by omega) q.2 n.toNat 0 s B T (by omega) (Int.le_refl 0) hv hb (by omega)
  rw [show T + (n.toNat : Int) = T + n by omega] at f2 e
  refine ⟨s2, f1, f2, fun Q => ?_⟩
  rw [e78 (show 1 ≤ d by omega)]
  simp (disch := first | omega | exact rfl) only [↓u78_0, ↓u78_1, ↓u78_2, ↓u78_4, ↓u78_7, ↓u78_10, ↓u78_12, ↓u78_13, ↓u78_14, ↓u78_17, ↓u78_20, ↓u78_23, ↓u78_24, ↓u78_25, ↓u78_28, ↓u78_30, ↓u78_31, ↓u78_32, ↓u78_34, ↓u78_35, ↓u78_38, ↓u78_39, ↓u78_42, ↓u78_45, ↓u78_48, ↓u78_51, ↓u78_52, ↓u78_55, ↓u78_58, ↓lI_0, ↓lI_s, ↓lL_0, ↓lL_s, ↓lR_0, ↓lR_s, ↓sT_0, ↓sT_i, ↓sT_r, ↓sT_u, ↓sT_lu, ↓sU_0, ↓sU_i, ↓sU_r, ↓sU_u, ↓ite_bx, bx_T, bx_F, bx_pos, bx_neg, zws_i, zws_r, zws_l, zws_n, zCb_kc, xl_ll, xr_rr, xs_e, xset_e, Option.toList, List.cons_append, List.nil_append, zIb_e, zrng_e, nz_e, if_pos, if_neg, and_true, true_and, or_true, true_or, ite_self, bi_eq0, bi_eq1, bi_1, bi_0, bi_ir, bi_T, bi_F, up_eq, up_ne, ↓reduceIte, reduceIte, Nat.reduceAdd, Nat.reduceLeDiff, Nat.le_refl, Nat.zero_le, not_true_eq_false, not_false_eq_true, ne_eq, Int.reduceEq, Int.reduceLT, Int.reduceLE, Int.reduceAdd, Int.reduceSub, Int.reduceMul, Int.reduceNeg, pT g1, g2, g3, g4, g5, g6, pT w1, w2, pT w3, w4, w5, w6, v1, v2, v3, vB, s103, e]
set_option maxRecDepth 8000 in
theorem s80_0 {d : Nat} {Q : Option AV → XH → Prop} {G : XS} {s : ZS} {W U V : Int} {B : ZS} {N R T b : Int} (hd : 5 ≤ d) (hg : LOK G W U V) (hv : CV s V B N R T) (hb : OKB B N) (hn : 0 ≤ N ∧ N ≤ 40 ∧ 0 ≤ R ∧ R ≤ 10 ∧ 0 ≤ T ∧ T ≤ 20000)  : Call d 80 [zrf 0, zint 0, zrf b] (G, s) Q = Q (some (zint (prs B N))) (G, s) := by
  obtain ⟨g1, g2, g3, g4, g5, g6, hw, hu, hx, g7, g8, g9, g10, g11, g12⟩ := hg
  skip
  rw [e80 (show 1 ≤ d by omega)]
  simp (disch := first | omega | exact rfl) only [↓u80_0, ↓u80_1, ↓u80_4, ↓u80_5, ↓u80_8, ↓u80_11, ↓u80_12, ↓u80_13, ↓u80_16, ↓u80_17, ↓u80_18, ↓u80_19, ↓u80_44, ↓u80_45, ↓u80_48, ↓u80_49, ↓u80_50, ↓u80_53, ↓u80_54, ↓u80_55, ↓u80_58, ↓u80_59, ↓u80_62, ↓lI_0, ↓lI_s, ↓lL_0, ↓lL_s, ↓lR_0, ↓lR_s, ↓sT_0, ↓sT_i, ↓sT_r, ↓sT_u, ↓sT_lu, ↓sU_0, ↓sU_i, ↓sU_r, ↓sU_u, ↓ite_bx, bx_T, bx_F, bx_pos, bx_neg, zws_i, zws_r, zws_l, zws_n, zCb_kc, xl_ll, xr_rr, xs_e, xset_e, Option.toList, List.cons_append, List.nil_append, zIb_e, zrng_e, nz_e, if_pos, if_neg, and_true, true_and, or_true, true_or, ite_self, bi_eq0, bi_eq1, bi_1, bi_0, bi_ir, bi_T, bi_F, up_eq, up_ne, ↓reduceIte, reduceIte, Nat.reduceAdd, Nat.reduceLeDiff, Nat.le_refl, Nat.zero_le, not_true_eq_false, not_false_eq_true, ne_eq, Int.reduceEq, Int.reduceLT, Int.reduceLE, Int.reduceAdd, Int.reduceSub, Int.reduceMul, Int.reduceNeg, pT g1, g2, g3, g4, g5, g6, pT hw.1, pT hx.1, pT hu.1, ztc_0, ztc_s, t59 (show 4 ≤ d - 1 by omega) hx hv hb hn]
set_option maxRecDepth 8000 in
theorem s80_1 {d : Nat} {Q : Option AV → XH → Prop} {G : XS} {s : ZS} {W U V : Int} {B : ZS} {N R T b : Int} (hd : 5 ≤ d) (hg : LOK G W U V) (hv : CV s V B N R T) (hb : OKB B N) (hn : 0 ≤ N ∧ N ≤ 40 ∧ 0 ≤ R ∧ R ≤ 10 ∧ 0 ≤ T ∧ T ≤ 20000) (hb2 : hr B N b) : Call d 80 [zrf 0, zint 1, zrf (V + 2 + b)] (G, s) Q = Q (some (zint (B b 2))) (G, s) := by
  obtain ⟨g1, g2, g3, g4, g5, g6, hw, hu, hx, g7, g8, g9, g10, g11, g12⟩ := hg
  obtain ⟨v1, v2, v3, vB⟩ := id hv
  have x6 := hx.2.2.2.2.2.1
  have k1 := x6 b (by omega)
  have ok := hb b hb2.1
  rw [e80 (show 1 ≤ d by omega)]
  simp (disch := first | omega | exact rfl) only [↓u80_0, ↓u80_1, ↓u80_4, ↓u80_5, ↓u80_8, ↓u80_11, ↓u80_12, ↓u80_13, ↓u80_16, ↓u80_17, ↓u80_18, ↓u80_19, ↓u80_44, ↓u80_45, ↓u80_48, ↓u80_49, ↓u80_50, ↓u80_53, ↓u80_54, ↓u80_55, ↓u80_58, ↓u80_59, ↓u80_62, ↓lI_0, ↓lI_s, ↓lL_0, ↓lL_s, ↓lR_0, ↓lR_s, ↓sT_0, ↓sT_i, ↓sT_r, ↓sT_u, ↓sT_lu, ↓sU_0, ↓sU_i, ↓sU_r, ↓sU_u, ↓ite_bx, bx_T, bx_F, bx_pos, bx_neg, zws_i, zws_r, zws_l, zws_n, zCb_kc, xl_ll, xr_rr, xs_e, xset_e, Option.toList, List.cons_append, List.nil_append, zIb_e, zrng_e, nz_e, if_pos, if_neg, and_true, true_and, or_true, true_or, ite_self, bi_eq0, bi_eq1, bi_1, bi_0, bi_ir, bi_T, bi_F, up_eq, up_ne, ↓reduceIte, reduceIte, Nat.reduceAdd, Nat.reduceLeDiff, Nat.le_refl, Nat.zero_le, not_true_eq_false, not_false_eq_true, ne_eq, Int.reduceEq, Int.reduceLT, Int.reduceLE, Int.reduceAdd, Int.reduceSub, Int.reduceMul, Int.reduceNeg, pT g1, g2, g3, g4, g5, g6, pT hw.1, pT hx.1, pT hu.1, ztc_0, ztc_s, pT k1, vB]
set_option maxRecDepth 8000 in
theorem s80_2 {d : Nat} {Q : Option AV → XH → Prop} {G : XS} {s : ZS} {W U V : Int} {B : ZS} {N R T b : Int} (hd : 5 ≤ d) (hg : LOK G W U V) (hv : CV s V B N R T) (hb : OKB B N) (hn : 0 ≤ N ∧ N ≤ 40 ∧ 0 ≤ R ∧ R ≤ 10 ∧ 0 ≤ T ∧ T ≤ 20000) (hb2 : hr B N b) : Call d 80 [zrf 0, zint 2, zrf (V + 2 + b)] (G, s) Q = Q (some (zint (B b 3))) (G, s) := by
  obtain ⟨g1, g2, g3, g4, g5, g6, hw, hu, hx, g7, g8, g9, g10, g11, g12⟩ := hg
  obtain ⟨v1, v2, v3, vB⟩ := id hv
  have x6 := hx.2.2.2.2.2.1
  have k1 := x6 b (by omega)
  have ok := hb b hb2.1
  rw [e80 (show 1 ≤ d by omega)]
  simp (disch := first | omega | exact rfl) only [↓u80_0, ↓u80_1, ↓u80_4, ↓u80_5, ↓u80_8, ↓u80_11, ↓u80_12, ↓u80_13, ↓u80_16, ↓u80_17, ↓u80_18, ↓u80_19, ↓u80_44, ↓u80_45, ↓u80_48, ↓u80_49, ↓u80_50, ↓u80_53, ↓u80_54, ↓u80_55, ↓u80_58, ↓u80_59, ↓u80_62, ↓lI_0, ↓lI_s, ↓lL_0, ↓lL_s, ↓lR_0, ↓lR_s, ↓sT_0, ↓sT_i, ↓sT_r, ↓sT_u, ↓sT_lu, ↓sU_0, ↓sU_i, ↓sU_r, ↓sU_u, ↓ite_bx, bx_T, bx_F, bx_pos, bx_neg, zws_i, zws_r, zws_l, zws_n, zCb_kc, xl_ll, xr_rr, xs_e, xset_e, Option.toList, List.cons_append, List.nil_append, zIb_e, zrng_e, nz_e, if_pos, if_neg, and_true, true_and, or_true, true_or, ite_self, bi_eq0, bi_eq1, bi_1, bi_0, bi_ir, bi_T, bi_F, up_eq, up_ne, ↓reduceIte, reduceIte, Nat.reduceAdd, Nat.reduceLeDiff, Nat.le_refl, Nat.zero_le, not_true_eq_false, not_false_eq_true, ne_eq, Int.reduceEq, Int.reduceLT, Int.reduceLE, Int.reduceAdd, Int.reduceSub, Int.reduceMul, Int.reduceNeg, pT g1, g2, g3, g4, g5, g6, pT hw.1, pT hx.1, pT hu.1, ztc_0, ztc_s, pT k1, vB]
set_option maxRecDepth 8000 in
theorem s80_3 {d : Nat} {Q : Option AV → XH → Prop} {G : XS} {s : ZS} {W U V : Int} {B : ZS} {N R T b : Int} (hd : 5 ≤ d) (hg : LOK G W U V) (hv : CV s V B N R T) (hb : OKB B N) (hn : 0 ≤ N ∧ N ≤ 40 ∧ 0 ≤ R ∧ R ≤ 10 ∧ 0 ≤ T ∧ T ≤ 20000) (hb2 : hr B N b) : Call d 80 [zrf 0, zint 3, zrf (V + 2 + b)] (G, s) Q = Q (some (zint (pt B N R b))) (G, s) := by
  obtain ⟨g1, g2, g3, g4, g5, g6, hw, hu, hx, g7, g8, g9, g10, g11, g12⟩ := hg
  obtain ⟨v1, v2, v3, vB⟩ := id hv
  have x6 := hx.2.2.2.2.2.1
  have k1 := x6 b (by omega)
  have ok := hb b hb2.1
  rw [e80 (show 1 ≤ d by omega)]
  simp (disch := first | omega | exact rfl) only [↓u80_0, ↓u80_1, ↓u80_4, ↓u80_5, ↓u80_8, ↓u80_11, ↓u80_12, ↓u80_13, ↓u80_16, ↓u80_17, ↓u80_18, ↓u80_19, ↓u80_44, ↓u80_45, ↓u80_48, ↓u80_49, ↓u80_50, ↓u80_53, ↓u80_54, ↓u80_55, ↓u80_58, ↓u80_59, ↓u80_62, ↓lI_0, ↓lI_s, ↓lL_0, ↓lL_s, ↓lR_0, ↓lR_s, ↓sT_0, ↓sT_i, ↓sT_r, ↓sT_u, ↓sT_lu, ↓sU_0, ↓sU_i, ↓sU_r, ↓sU_u, ↓ite_bx, bx_T, bx_F, bx_pos, bx_neg, zws_i, zws_r, zws_l, zws_n, zCb_kc, xl_ll, xr_rr, xs_e, xset_e, Option.toList, List.cons_append, List.nil_append, zIb_e, zrng_e, nz_e, if_pos, if_neg, and_true, true_and, or_true, true_or, ite_self, bi_eq0, bi_eq1, bi_1, bi_0, bi_ir, bi_T, bi_F, up_eq, up_ne, ↓reduceIte, reduceIte, Nat.reduceAdd, Nat.reduceLeDiff, Nat.le_refl, Nat.zero_le, not_true_eq_false, not_false_eq_true, ne_eq, Int.reduceEq, Int.reduceLT, Int.reduceLE, Int.reduceAdd, Int.reduceSub, Int.reduceMul, Int.reduceNeg, pT g1, g2, g3, g4, g5, g6, pT hw.1, pT hx.1, pT hu.1, ztc_0, ztc_s, pT k1, vB, s44 (show 4 ≤ d - 1 by omega) hx hv hb hn hb2.1]
set_option maxRecDepth 8000 in
theorem l79 {d : Nat} {G : XS} {W U V N R n w ab nb : Int} {v5 : Int} (hd : 6 ≤ d) (hg : LOK G W U V) (hn : 0 ≤ N ∧ N ≤ 40) (hr : 0 ≤ R ∧ R ≤ 10) (h40 : n ≤ 40) : ∀ (j : Nat) (i : Int) (s : ZS) (B : ZS) (T : Int), i + j = n → 0 ≤ i → CV s V B N R T → OKB B N → (0 ≤ T ∧ T + j ≤ 20000) → ∃ s2, fvw s s2 V ∧ CV s2 V (itb j B) N R (T + j) ∧ ∀ Q, Wp (d - 1) 79 (77, [zrf 0, zint n, zint w, zint ab, zint nb, zint v5, zint i], [], (G, s)) Q = Wp (d - 1) 79 (96, [zrf 0, zint n, zint w, zint ab, zint nb, zint v5, zint n], [], (G, s2)) Q := by
  obtain ⟨g1, g2, g3, g4, g5, g6, hw, hu, hx, g7, g8, g9, g10, g11, g12⟩ := hg
  intro j
  induction j with
  | zero =>
    intro i s B T h1 h2 hv hb ht
    refine ⟨s, fun a c h => rfl, by rw [show T + ((0 : Nat) : Int) = T by omega]; exact hv, fun Q => ?_⟩
    rw [show i = n by omega, u79_77]
    simp (disch := first | omega | exact rfl) only [↓u79_0, ↓u79_1, ↓u79_3, ↓u79_4, ↓u79_5, ↓u79_6, ↓u79_8, ↓u79_9, ↓u79_11, ↓u79_12, ↓u79_13, ↓u79_14, ↓u79_17, ↓u79_20, ↓u79_21, ↓u79_24, ↓u79_26, ↓u79_29, ↓u79_32, ↓u79_33, ↓u79_36, ↓u79_37, ↓u79_39, ↓u79_40, ↓u79_43, ↓u79_45, ↓u79_48, ↓u79_49, ↓u79_50, ↓u79_51, ↓u79_52, ↓u79_54, ↓u79_57, ↓u79_60, ↓u79_62, ↓u79_63, ↓u79_64, ↓u79_67, ↓u79_68, ↓u79_71, ↓u79_74, ↓u79_75, ↓u79_79, ↓u79_80, ↓u79_83, ↓u79_84, ↓u79_87, ↓u79_90, ↓u79_93, ↓u79_97, ↓u79_98, ↓u79_99, ↓u79_102, ↓u79_104, ↓u79_107, ↓u79_110, ↓lI_0, ↓lI_s, ↓lL_0, ↓lL_s, ↓lR_0, ↓lR_s, ↓sT_0, ↓sT_i, ↓sT_r, ↓sT_u, ↓sT_lu, ↓sU_0, ↓sU_i, ↓sU_r, ↓sU_u, ↓ite_bx, bx_T, bx_F, bx_pos, bx_neg, zws_i, zws_r, zws_l, zws_n, zCb_kc, xl_ll, xr_rr, xs_e, xset_e, Option.toList, List.cons_append, List.nil_append, zIb_e, zrng_e, nz_e, if_pos, if_neg, and_true, true_and, or_true, true_or, ite_self, bi_eq0, bi_eq1, bi_1, bi_0, bi_ir, bi_T, bi_F, up_eq, up_ne, ↓reduceIte, reduceIte, Nat.reduceAdd, Nat.reduceLeDiff, Nat.le_refl, Nat.zero_le, not_true_eq_false, not_false_eq_true, ne_eq, Int.reduceEq, Int.reduceLT, Int.reduceLE, Int.reduceAdd, Int.reduceSub, Int.reduceMul, Int.reduceNeg, pT g1, g2, g3, g4, g5, g6, pT hw.1, pT hx.1, pT hu.1]
  | succ j ih =>
    intro i s B T h1 h2 hv hb ht
    obtain ⟨s2, f1, f2, e⟩ := ih (i + 1) (up (ws s V N) V 6 (T + 1)) (stp B) (T + 1) (by omega) (by omega) (CV_s hv) (OKB_s hb) (by omega)
    refine ⟨s2, fvw_t (fvw_x (fbx_w hn.2)) f1, by rw [show T + ((j + 1 : Nat) : Int) = T + 1 + j by omega]; exact f2, fun Q => ?_⟩
    rw [u79_77]
    simp (disch := first | omega | exact rfl) only [↓u79_0, ↓u79_1, ↓u79_3, ↓u79_4, ↓u79_5, ↓u79_6, ↓u79_8, ↓u79_9, ↓u79_11, ↓u79_12, ↓u79_13, ↓u79_14, ↓u79_17, ↓u79_20, ↓u79_21, ↓u79_24, ↓u79_26, ↓u79_29, ↓u79_32, ↓u79_33, ↓u79_36, ↓u79_37, ↓u79_39, ↓u79_40, ↓u79_43, ↓u79_45, ↓u79_48, ↓u79_49, ↓u79_50, ↓u79_51, ↓u79_52, ↓u79_54, ↓u79_57, ↓u79_60, ↓u79_62, ↓u79_63, ↓u79_64, ↓u79_67, ↓u79_68, ↓u79_71, ↓u79_74, ↓u79_75, ↓u79_79, ↓u79_80, ↓u79_83, ↓u79_84, ↓u79_87, ↓u79_90, ↓u79_93, ↓u79_97, ↓u79_98, ↓u79_99, ↓u79_102, ↓u79_104, ↓u79_107, ↓u79_110, ↓lI_0, ↓lI_s, ↓lL_0, ↓lL_s, ↓lR_0, ↓lR_s, ↓sT_0, ↓sT_i, ↓sT_r, ↓sT_u, ↓sT_lu, ↓sU_0, ↓sU_i, ↓sU_r, ↓sU_u, ↓ite_bx, bx_T, bx_F, bx_pos, bx_neg, zws_i, zws_r, zws_l, zws_n, zCb_kc, xl_ll, xr_rr, xs_e, xset_e, Option.toList, List.cons_append, List.nil_append, zIb_e, zrng_e, nz_e, if_pos, if_neg, and_true, true_and, or_true, true_or, ite_self, bi_eq0, bi_eq1, bi_1, bi_0, bi_ir, bi_T, bi_F, up_eq, up_ne, ↓reduceIte, reduceIte, Nat.reduceAdd, Nat.reduceLeDiff, Nat.le_refl, Nat.zero_le, not_true_eq_false, not_false_eq_true, ne_eq, Int.reduceEq, Int.reduceLT, Int.reduceLE, Int.reduceAdd, Int.reduceSub, Int.reduceMul, Int.reduceNeg, pT g1, g2, g3, g4, g5, g6, pT hw.1, pT hx.1, pT hu.1, s41 (show 4 ≤ d - 1 by omega) hx hv hb (show 0 ≤ N ∧ N ≤ 40 ∧ 0 ≤ R ∧ R ≤ 10 ∧ 0 ≤ T ∧ T ≤ 20000 by omega), e]
set_option maxRecDepth 8000 in
theorem tdb {a : Int} (h : ir a) : ir (a.tdiv 100) ∧ ir (a.tmod 100) ∧ (a < 0 → a.tdiv 100 ≤ 0) ∧ (0 ≤ a → a.tdiv 100 = a / 100 ∧ a.tmod 100 = a % 100) := by
  by_cases q : 0 ≤ a
  · rw [td_e q, tm_e q]
    omega
  · have e1 : a.tdiv 100 = -((-a).tdiv 100) := by rw [Int.neg_tdiv, Int.neg_neg]
    have e2 : a.tmod 100 = -((-a).tmod 100) := by rw [Int.neg_tmod, Int.neg_neg]
    rw [e1, e2, td_e (by omega), tm_e (by omega)]
    omega
set_option maxRecDepth 8000 in
theorem s79_n {d : Nat} {Q : Option AV → XH → Prop} {G : XS} {s : ZS} {W U V : Int} {B : ZS} {N R T : Int} {n w : Int} (hd : 6 ≤ d) (hg : LOK G W U V) (hv : CV s W B N R T) (hb : OKB B N) (hn : 0 ≤ N ∧ N ≤ 40 ∧ 0 ≤ R ∧ R ≤ 10 ∧ 0 ≤ T ∧ T ≤ 20000) (i1 : ir n) (iw : ir w) (q0 : w ≠ 0) (q : ¬((100 ≤ w ∧ w ≤ 399) ∧ hr B N (w % 100))) : Call d 79 [zrf 0, zint n, zint w] (G, s) Q = Q (some (zint (-1))) (G, s) := by
  have hg' := hg
  obtain ⟨g1, g2, g3, g4, g5, g6, hw, hu, hx, g7, g8, g9, g10, g11, g12⟩ := hg'
  have hw' := hw
  obtain ⟨w1, w2, w3, w4, w5, w6, w7, w8, w9, w10, w11, w12, w13, w14, w15, w16, w17, w18, w19, w20, w21, w22, w23, w24, w25⟩ := hw'
  have hv' := hv
  obtain ⟨v1, v2, v3, vB⟩ := hv'
  have td := tdb iw
  rw [e79 (show 1 ≤ d by omega)]
  generalize hab : w.tdiv 100 = ab at td
  generalize hnb : w.tmod 100 = nb at td
  by_cases q1 : 1 ≤ ab ∧ ab ≤ 3
  · have h2 : ¬hr B N nb := fun c => q ⟨by omega, by rw [← (td.2.2.2 (by omega)).2]; exact c⟩
    simp (disch := first | omega | exact rfl) only [↓u79_0, ↓u79_1, ↓u79_3, ↓u79_4, ↓u79_5, ↓u79_6, ↓u79_8, ↓u79_9, ↓u79_11, ↓u79_12, ↓u79_13, ↓u79_14, ↓u79_17, ↓u79_20, ↓u79_21, ↓u79_24, ↓u79_26, ↓u79_29, ↓u79_32, ↓u79_33, ↓u79_36, ↓u79_37, ↓u79_39, ↓u79_40, ↓u79_43, ↓u79_45, ↓u79_48, ↓u79_49, ↓u79_50, ↓u79_51, ↓u79_52, ↓u79_54, ↓u79_57, ↓u79_60, ↓u79_62, ↓u79_63, ↓u79_64, ↓u79_67, ↓u79_68, ↓u79_71, ↓u79_74, ↓u79_75, ↓u79_79, ↓u79_80, ↓u79_83, ↓u79_84, ↓u79_87, ↓u79_90, ↓u79_93, ↓u79_96, ↓u79_97, ↓u79_98, ↓u79_99, ↓u79_102, ↓u79_104, ↓u79_107, ↓u79_110, ↓lI_0, ↓lI_s, ↓lL_0, ↓lL_s, ↓lR_0, ↓lR_s, ↓sT_0, ↓sT_i, ↓sT_r, ↓sT_u, ↓sT_lu, ↓sU_0, ↓sU_i, ↓sU_r, ↓sU_u, ↓ite_bx, bx_T, bx_F, bx_pos, bx_neg, zws_i, zws_r, zws_l, zws_n, zCb_kc, xl_ll, xr_rr, xs_e, xset_e, Option.toList, List.cons_append, List.nil_append, zIb_e, zrng_e, nz_e, if_pos, if_neg, and_true, true_and, or_true, true_or, ite_self, bi_eq0, bi_eq1, bi_1, bi_0, bi_ir, bi_T, bi_F, up_eq, up_ne, ↓reduceIte, reduceIte, Nat.reduceAdd, Nat.reduceLeDiff, Nat.le_refl, Nat.zero_le, not_true_eq_false, not_false_eq_true, ne_eq, Int.reduceEq, Int.reduceLT, Int.reduceLE, Int.reduceAdd, Int.reduceSub, Int.reduceMul, Int.reduceNeg, pT g1, g2, g3, g4, g5, g6, pT w1, w2, pT w3, w4, w5, w6, v1, v2, v3, vB, hab, hnb, s103, s37_n (show 2 ≤ d - 1 by omega) hw hv hb hn td.2.1 h2]
  · simp (disch := first | omega | exact rfl) only [↓u79_0, ↓u79_1, ↓u79_3, ↓u79_4, ↓u79_5, ↓u79_6, ↓u79_8, ↓u79_9, ↓u79_11, ↓u79_12, ↓u79_13, ↓u79_14, ↓u79_17, ↓u79_20, ↓u79_21, ↓u79_24, ↓u79_26, ↓u79_29, ↓u79_32, ↓u79_33, ↓u79_36, ↓u79_37, ↓u79_39, ↓u79_40, ↓u79_43, ↓u79_45, ↓u79_48, ↓u79_49, ↓u79_50, ↓u79_51, ↓u79_52, ↓u79_54, ↓u79_57, ↓u79_60, ↓u79_62, ↓u79_63, ↓u79_64, ↓u79_67, ↓u79_68, ↓u79_71, ↓u79_74, ↓u79_75, ↓u79_79, ↓u79_80, ↓u79_83, ↓u79_84, ↓u79_87, ↓u79_90, ↓u79_93, ↓u79_96, ↓u79_97, ↓u79_98, ↓u79_99, ↓u79_102, ↓u79_104, ↓u79_107, ↓u79_110, ↓lI_0, ↓lI_s, ↓lL_0, ↓lL_s, ↓lR_0, ↓lR_s, ↓sT_0, ↓sT_i, ↓sT_r, ↓sT_u, ↓sT_lu, ↓sU_0, ↓sU_i, ↓sU_r, ↓sU_u, ↓ite_bx, bx_T, bx_F, bx_pos, bx_neg, zws_i, zws_r, zws_l, zws_n, zCb_kc, xl_ll, xr_rr, xs_e, xset_e, Option.toList, List.cons_append, List.nil_append, zIb_e, zrng_e, nz_e, if_pos, if_neg, and_true, true_and, or_true, true_or, ite_self, bi_eq0, bi_eq1, bi_1, bi_0, bi_ir, bi_T, bi_F, up_eq, up_ne, ↓reduceIte, reduceIte, Nat.reduceAdd, Nat.reduceLeDiff, Nat.le_refl, Nat.zero_le, not_true_eq_false, not_false_eq_true, ne_eq, Int.reduceEq, Int.reduceLT, Int.reduceLE, Int.reduceAdd, Int.reduceSub, Int.reduceMul, Int.reduceNeg, pT g1, g2, g3, g4, g5, g6, pT w1, w2, pT w3, w4, w5, w6, v1, v2, v3, vB, hab, hnb, s103]
set_option maxRecDepth 8000 in
theorem s79_b {d : Nat} {Q : Option AV → XH → Prop} {G : XS} {s : ZS} {W U V : Int} {B : ZS} {N R T : Int} {n w : Int} (hd : 6 ≤ d) (hg : LOK G W U V) (hv : CV s W B N R T) (hb : OKB B N) (hn : 0 ≤ N ∧ N ≤ 40 ∧ 0 ≤ R ∧ R ≤ 10 ∧ 0 ≤ T ∧ T ≤ 20000) (i1 : ir n) (iw : ir w) (q : w = 0 ∨ ((100 ≤ w ∧ w ≤ 399) ∧ hr B N (w % 100))) (q2 : ¬(0 ≤ n ∧ n ≤ 40)) : Call d 79 [zrf 0, zint n, zint w] (G, s) Q = Q (some (zint (-2))) (G, s) := by
  have hg' := hg
  obtain ⟨g1, g2, g3, g4, g5, g6, hw, hu, hx, g7, g8, g9, g10, g11, g12⟩ := hg'
  have hw' := hw
  obtain ⟨w1, w2, w3, w4, w5, w6, w7, w8, w9, w10, w11, w12, w13, w14, w15, w16, w17, w18, w19, w20, w21, w22, w23, w24, w25⟩ := hw'
  have hv' := hv
  obtain ⟨v1, v2, v3, vB⟩ := hv'
  have td := tdb iw
  rw [e79 (show 1 ≤ d by omega)]
  generalize hab : w.tdiv 100 = ab at td
  generalize hnb : w.tmod 100 = nb at td
  rcases q with q | q
  · simp (disch := first | omega | exact rfl) only [↓u79_0, ↓u79_1, ↓u79_3, ↓u79_4, ↓u79_5, ↓u79_6, ↓u79_8, ↓u79_9, ↓u79_11, ↓u79_12, ↓u79_13, ↓u79_14, ↓u79_17, ↓u79_20, ↓u79_21, ↓u79_24, ↓u79_26, ↓u79_29, ↓u79_32, ↓u79_33, ↓u79_36, ↓u79_37, ↓u79_39, ↓u79_40, ↓u79_43, ↓u79_45, ↓u79_48, ↓u79_49, ↓u79_50, ↓u79_51, ↓u79_52, ↓u79_54, ↓u79_57, ↓u79_60, ↓u79_62, ↓u79_63, ↓u79_64, ↓u79_67, ↓u79_68, ↓u79_71, ↓u79_74, ↓u79_75, ↓u79_79, ↓u79_80, ↓u79_83, ↓u79_84, ↓u79_87, ↓u79_90, ↓u79_93, ↓u79_96, ↓u79_97, ↓u79_98, ↓u79_99, ↓u79_102, ↓u79_104, ↓u79_107, ↓u79_110, ↓lI_0, ↓lI_s, ↓lL_0, ↓lL_s, ↓lR_0, ↓lR_s, ↓sT_0, ↓sT_i, ↓sT_r, ↓sT_u, ↓sT_lu, ↓sU_0, ↓sU_i, ↓sU_r, ↓sU_u, ↓ite_bx, bx_T, bx_F, bx_pos, bx_neg, zws_i, zws_r, zws_l, zws_n, zCb_kc, xl_ll, xr_rr, xs_e, xset_e, Option.toList, List.cons_append, List.nil_append, zIb_e, zrng_e, nz_e, if_pos, if_neg, and_true, true_and, or_true, true_or, ite_self, bi_eq0, bi_eq1, bi_1, bi_0, bi_ir, bi_T, bi_F, up_eq, up_ne, ↓reduceIte, reduceIte, Nat.reduceAdd, Nat.reduceLeDiff, Nat.le_refl, Nat.zero_le, not_true_eq_false, not_false_eq_true, ne_eq, Int.reduceEq, Int.reduceLT, Int.reduceLE, Int.reduceAdd, Int.reduceSub, Int.reduceMul, Int.reduceNeg, pT g1, g2, g3, g4, g5, g6, pT w1, w2, pT w3, w4, w5, w6, v1, v2, v3, vB, hab, hnb, s103]
  · have h2 : hr B N nb := by rw [(td.2.2.2 (by omega)).2]; exact q.2
    have h3 := h2.1
    simp (disch := first | omega | exact rfl) only [↓u79_0, ↓u79_1, ↓u79_3, ↓u79_4, ↓u79_5, ↓u79_6, ↓u79_8, ↓u79_9, ↓u79_11, ↓u79_12, ↓u79_13, ↓u79_14, ↓u79_17, ↓u79_20, ↓u79_21, ↓u79_24, ↓u79_26, ↓u79_29, ↓u79_32, ↓u79_33, ↓u79_36, ↓u79_37, ↓u79_39, ↓u79_40, ↓u79_43, ↓u79_45, ↓u79_48, ↓u79_49, ↓u79_50, ↓u79_51, ↓u79_52, ↓u79_54, ↓u79_57, ↓u79_60, ↓u79_62, ↓u79_63, ↓u79_64, ↓u79_67, ↓u79_68, ↓u79_71, ↓u79_74, ↓u79_75, ↓u79_79, ↓u79_80, ↓u79_83, ↓u79_84, ↓u79_87, ↓u79_90, ↓u79_93, ↓u79_96, ↓u79_97, ↓u79_98, ↓u79_99, ↓u79_102, ↓u79_104, ↓u79_107, ↓u79_110, ↓lI_0, ↓lI_s, ↓lL_0, ↓lL_s, ↓lR_0, ↓lR_s, ↓sT_0, ↓sT_i, ↓sT_r, ↓sT_u, ↓sT_lu, ↓sU_0, ↓sU_i, ↓sU_r, ↓sU_u, ↓ite_bx, bx_T, bx_F, bx_pos, bx_neg, zws_i, zws_r, zws_l, zws_n, zCb_kc, xl_ll, xr_rr, xs_e, xset_e, Option.toList, List.cons_append, List.nil_append, zIb_e, zrng_e, nz_e, if_pos, if_neg, and_true, true_and, or_true, true_or, ite_self, bi_eq0, bi_eq1, bi_1, bi_0, bi_ir, bi_T, bi_F, up_eq, up_ne, ↓reduceIte, reduceIte, Nat.reduceAdd, Nat.reduceLeDiff, Nat.le_refl, Nat.zero_le, not_true_eq_false, not_false_eq_true, ne_eq, Int.reduceEq, Int.reduceLT, Int.reduceLE, Int.reduceAdd, Int.reduceSub, Int.reduceMul, Int.reduceNeg, pT g1, g2, g3, g4, g5, g6, pT w1, w2, pT w3, w4, w5, w6, v1, v2, v3, vB, hab, hnb, s103, s37_y (show 2 ≤ d - 1 by omega) hw hv hb hn h2]
set_option maxRecDepth 8000 in
theorem s79_0 {d : Nat} {G : XS} {s : ZS} {W U V : Int} {B : ZS} {N R T : Int} {n w : Int} (hd : 6 ≤ d) (hg : LOK G W U V) (hv : CV s W B N R T) (hb : OKB B N) (hn : 0 ≤ N ∧ N ≤ 40 ∧ 0 ≤ R ∧ R ≤ 10 ∧ 0 ≤ T ∧ T ≤ 20000) (i1 : ir n) (iw : ir w) (q : w = 0) (q2 : 0 ≤ n ∧ n ≤ 40) (hT : T ≤ 9999) : ∃ s2, fvw s s2 V ∧ ∀ Q, Call d 79 [zrf 0, zint n, zint w] (G, s) Q = Q (some (zint (prs (itb n.toNat B) N))) (G, s2) := by
  have hg' := hg
  obtain ⟨g1, g2, g3, g4, g5, g6, hw, hu, hx, g7, g8, g9, g10, g11, g12⟩ := hg'
  have hw' := hw
  obtain ⟨w1, w2, w3, w4, w5, w6, w7, w8, w9, w10, w11, w12, w13, w14, w15, w16, w17, w18, w19, w20, w21, w22, w23, w24, w25⟩ := hw'
  have hv' := hv
  obtain ⟨v1, v2, v3, vB⟩ := hv'
  have td := tdb iw
  generalize hab : w.tdiv 100 = ab at td
  generalize hnb : w.tmod 100 = nb at td
  have hab0 : ab = 0 := by omega
  have hnb0 : nb = 0 := by omega
  subst hab0
  subst hnb0
  have hvt := CV_t hv (W := V) (V := W) ⟨hn.1, hn.2.1⟩ (by omega)
  obtain ⟨s2, f1, f2, e⟩ := l79 (n := n) (w := w) (ab := 0) (nb := 0) (v5 := 0) hd hg (by omega) (by omega) q2.2 n.toNat 0 (tb (tb3 s V N R T) V W N) B T (by omega) (Int.le_refl 0) hvt hb (by omega)
  rw [show T + (n.toNat : Int) = T + n by omega] at f2
  have hb3 := OKB_i n.toNat hb
  have c0 := fun Q => s35 (d := d - 1) (Q := Q) (show 3 ≤ d - 1 by omega) hx hw hv hb ⟨hn.1, hn.2.1⟩ (by omega)
  have hn3 : 0 ≤ N ∧ N ≤ 40 ∧ 0 ≤ R ∧ R ≤ 10 ∧ 0 ≤ T + n ∧ T + n ≤ 20000 := by omega
  refine ⟨s2, fvw_t (fvw_b hn.2.1) f1, fun Q => ?_⟩
  rw [e79 (show 1 ≤ d by omega)]
  have hb4 := hb3
  by_cases q3 : hr (itb n.toNat B) N 0
  · simp (disch := first | omega | exact rfl) only [↓u79_0, ↓u79_1, ↓u79_3, ↓u79_4, ↓u79_5, ↓u79_6, ↓u79_8, ↓u79_9, ↓u79_11, ↓u79_12, ↓u79_13, ↓u79_14, ↓u79_17, ↓u79_20, ↓u79_21, ↓u79_24, ↓u79_26, ↓u79_29, ↓u79_32, ↓u79_33, ↓u79_36, ↓u79_37, ↓u79_39, ↓u79_40, ↓u79_43, ↓u79_45, ↓u79_48, ↓u79_49, ↓u79_50, ↓u79_51, ↓u79_52, ↓u79_54, ↓u79_57, ↓u79_60, ↓u79_62, ↓u79_63, ↓u79_64, ↓u79_67, ↓u79_68, ↓u79_71, ↓u79_74, ↓u79_75, ↓u79_79, ↓u79_80, ↓u79_83, ↓u79_84, ↓u79_87, ↓u79_90, ↓u79_93, ↓u79_96, ↓u79_97, ↓u79_98, ↓u79_99, ↓u79_102, ↓u79_104, ↓u79_107, ↓u79_110, ↓lI_0, ↓lI_s, ↓lL_0, ↓lL_s, ↓lR_0, ↓lR_s, ↓sT_0, ↓sT_i, ↓sT_r, ↓sT_u, ↓sT_lu, ↓sU_0, ↓sU_i, ↓sU_r, ↓sU_u, ↓ite_bx, bx_T, bx_F, bx_pos, bx_neg, zws_i, zws_r, zws_l, zws_n, zCb_kc, xl_ll, xr_rr, xs_e, xset_e, Option.toList, List.cons_append, List.nil_append, zIb_e, zrng_e, nz_e, if_pos, if_neg, and_true, true_and, or_true, true_or, ite_self, bi_eq0, bi_eq1, bi_1, bi_0, bi_ir, bi_T, bi_F, up_eq, up_ne, ↓reduceIte, reduceIte, Nat.reduceAdd, Nat.reduceLeDiff, Nat.le_refl, Nat.zero_le, not_true_eq_false, not_false_eq_true, ne_eq, Int.reduceEq, Int.reduceLT, Int.reduceLE, Int.reduceAdd, Int.reduceSub, Int.reduceMul, Int.reduceNeg, pT g1, g2, g3, g4, g5, g6, pT w1, w2, pT w3, w4, w5, w6, v1, v2, v3, vB, hab, hnb, s103, c0, e, pT hx.1, s37_y (show 2 ≤ d - 1 by omega) hx f2 hb3 hn3 q3, s80_0 (show 5 ≤ d - 1 by omega) hg f2 hb3 hn3]
  · simp (disch := first | omega | exact rfl) only [↓u79_0, ↓u79_1, ↓u79_3, ↓u79_4, ↓u79_5, ↓u79_6, ↓u79_8, ↓u79_9, ↓u79_11, ↓u79_12, ↓u79_13, ↓u79_14, ↓u79_17, ↓u79_20, ↓u79_21, ↓u79_24, ↓u79_26, ↓u79_29, ↓u79_32, ↓u79_33, ↓u79_36, ↓u79_37, ↓u79_39, ↓u79_40, ↓u79_43, ↓u79_45, ↓u79_48, ↓u79_49, ↓u79_50, ↓u79_51, ↓u79_52, ↓u79_54, ↓u79_57, ↓u79_60, ↓u79_62, ↓u79_63, ↓u79_64, ↓u79_67, ↓u79_68, ↓u79_71, ↓u79_74, ↓u79_75, ↓u79_79, ↓u79_80, ↓u79_83, ↓u79_84, ↓u79_87, ↓u79_90, ↓u79_93, ↓u79_96, ↓u79_97, ↓u79_98, ↓u79_99, ↓u79_102, ↓u79_104, ↓u79_107, ↓u79_110, ↓lI_0, ↓lI_s, ↓lL_0, ↓lL_s, ↓lR_0, ↓lR_s, ↓sT_0, ↓sT_i, ↓sT_r, ↓sT_u, ↓sT_lu, ↓sU_0, ↓sU_i, ↓sU_r, ↓sU_u, ↓ite_bx, bx_T, bx_F, bx_pos, bx_neg, zws_i, zws_r, zws_l, zws_n, zCb_kc, xl_ll, xr_rr, xs_e, xset_e, Option.toList, List.cons_append, List.nil_append, zIb_e, zrng_e, nz_e, if_pos, if_neg, and_true, true_and, or_true, true_or, ite_self, bi_eq0, bi_eq1, bi_1, bi_0, bi_ir, bi_T, bi_F, up_eq, up_ne, ↓reduceIte, reduceIte, Nat.reduceAdd, Nat.reduceLeDiff, Nat.le_refl, Nat.zero_le, not_true_eq_false, not_false_eq_true, ne_eq, Int.reduceEq, Int.reduceLT, Int.reduceLE, Int.reduceAdd, Int.reduceSub, Int.reduceMul, Int.reduceNeg, pT g1, g2, g3, g4, g5, g6, pT w1, w2, pT w3, w4, w5, w6, v1, v2, v3, vB, hab, hnb, s103, c0, e, pT hx.1, s37_n (show 2 ≤ d - 1 by omega) hx f2 hb3 hn3 (show ir 0 by omega) q3, s80_0 (show 5 ≤ d - 1 by omega) hg f2 hb3 hn3]
set_option maxRecDepth 8000 in
theorem s79_1 {d : Nat} {G : XS} {s : ZS} {W U V : Int} {B : ZS} {N R T : Int} {n w : Int} (hd : 6 ≤ d) (hg : LOK G W U V) (hv : CV s W B N R T) (hb : OKB B N) (hn : 0 ≤ N ∧ N ≤ 40 ∧ 0 ≤ R ∧ R ≤ 10 ∧ 0 ≤ T ∧ T ≤ 20000) (i1 : ir n) (iw : ir w) (q : (100 ≤ w ∧ w ≤ 199) ∧ hr B N (w % 100)) (q2 : 0 ≤ n ∧ n ≤ 40) (hT : T ≤ 9999) : ∃ s2, fvw s s2 V ∧ ∀ Q, Call d 79 [zrf 0, zint n, zint w] (G, s) Q = Q (some (zint (itb n.toNat B (w % 100) 2))) (G, s2) := by
  have hg' := hg
  obtain ⟨g1, g2, g3, g4, g5, g6, hw, hu, hx, g7, g8, g9, g10, g11, g12⟩ := hg'
  have hw' := hw
  obtain ⟨w1, w2, w3, w4, w5, w6, w7, w8, w9, w10, w11, w12, w13, w14, w15, w16, w17, w18, w19, w20, w21, w22, w23, w24, w25⟩ := hw'
  have hv' := hv
  obtain ⟨v1, v2, v3, vB⟩ := hv'
  have td := tdb iw
  generalize hab : w.tdiv 100 = ab at td
  generalize hnb : w.tmod 100 = nb at td
  have hab0 : ab = 1 := by omega
  have hnb0 : nb = w % 100 := by omega
  subst hab0
  have h2 : hr B N nb := by rw [hnb0]; exact q.2
  have h2b := h2.1
  have q3 : hr (itb n.toNat B) N nb := by rw [hr_i]; exact h2
  rw [← hnb0]
  have hvt := CV_t hv (W := V) (V := W) ⟨hn.1, hn.2.1⟩ (by omega)
  obtain ⟨s2, f1, f2, e⟩ := l79 (n := n) (w := w) (ab := 1) (nb := nb) (v5 := 1) hd hg (by omega) (by omega) q2.2 n.toNat 0 (tb (tb3 s V N R T) V W N) B T (by omega) (Int.le_refl 0) hvt hb (by omega)
  rw [show T + (n.toNat : Int) = T + n by omega] at f2
  have hb3 := OKB_i n.toNat hb
  have c0 := fun Q => s35 (d := d - 1) (Q := Q) (show 3 ≤ d - 1 by omega) hx hw hv hb ⟨hn.1, hn.2.1⟩ (by omega)
  have hn3 : 0 ≤ N ∧ N ≤ 40 ∧ 0 ≤ R ∧ R ≤ 10 ∧ 0 ≤ T + n ∧ T + n ≤ 20000 := by omega
  refine ⟨s2, fvw_t (fvw_b hn.2.1) f1, fun Q => ?_⟩
  rw [e79 (show 1 ≤ d by omega)]
  simp (disch := first | omega | exact rfl) only [↓u79_0, ↓u79_1, ↓u79_3, ↓u79_4, ↓u79_5, ↓u79_6, ↓u79_8, ↓u79_9, ↓u79_11, ↓u79_12, ↓u79_13, ↓u79_14, ↓u79_17, ↓u79_20, ↓u79_21, ↓u79_24, ↓u79_26, ↓u79_29, ↓u79_32, ↓u79_33, ↓u79_36, ↓u79_37, ↓u79_39, ↓u79_40, ↓u79_43, ↓u79_45, ↓u79_48, ↓u79_49, ↓u79_50, ↓u79_51, ↓u79_52, ↓u79_54, ↓u79_57, ↓u79_60, ↓u79_62, ↓u79_63, ↓u79_64, ↓u79_67, ↓u79_68, ↓u79_71, ↓u79_74, ↓u79_75, ↓u79_79, ↓u79_80, ↓u79_83, ↓u79_84, ↓u79_87, ↓u79_90, ↓u79_93, ↓u79_96, ↓u79_97, ↓u79_98, ↓u79_99, ↓u79_102, ↓u79_104, ↓u79_107, ↓u79_110, ↓lI_0, ↓lI_s, ↓lL_0, ↓lL_s, ↓lR_0, ↓lR_s, ↓sT_0, ↓sT_i, ↓sT_r, ↓sT_u, ↓sT_lu, ↓sU_0, ↓sU_i, ↓sU_r, ↓sU_u, ↓ite_bx, bx_T, bx_F, bx_pos, bx_neg, zws_i, zws_r, zws_l, zws_n, zCb_kc, xl_ll, xr_rr, xs_e, xset_e, Option.toList, List.cons_append, List.nil_append, zIb_e, zrng_e, nz_e, if_pos, if_neg, and_true, true_and, or_true, true_or, ite_self, bi_eq0, bi_eq1, bi_1, bi_0, bi_ir, bi_T, bi_F, up_eq, up_ne, ↓reduceIte, reduceIte, Nat.reduceAdd, Nat.reduceLeDiff, Nat.le_refl, Nat.zero_le, not_true_eq_false, not_false_eq_true, ne_eq, Int.reduceEq, Int.reduceLT, Int.reduceLE, Int.reduceAdd, Int.reduceSub, Int.reduceMul, Int.reduceNeg, pT g1, g2, g3, g4, g5, g6, pT w1, w2, pT w3, w4, w5, w6, v1, v2, v3, vB, hab, hnb, s103, c0, e, pT hx.1, s37_y (show 2 ≤ d - 1 by omega) hw hv hb hn h2, s37_y (show 2 ≤ d - 1 by omega) hx f2 hb3 hn3 q3, s80_1 (show 5 ≤ d - 1 by omega) hg f2 hb3 hn3 q3]
set_option maxRecDepth 8000 in
theorem s79_2 {d : Nat} {G : XS} {s : ZS} {W U V : Int} {B : ZS} {N R T : Int} {n w : Int} (hd : 6 ≤ d) (hg : LOK G W U V) (hv : CV s W B N R T) (hb : OKB B N) (hn : 0 ≤ N ∧ N ≤ 40 ∧ 0 ≤ R ∧ R ≤ 10 ∧ 0 ≤ T ∧ T ≤ 20000) (i1 : ir n) (iw : ir w) (q : (200 ≤ w ∧ w ≤ 299) ∧ hr B N (w % 100)) (q2 : 0 ≤ n ∧ n ≤ 40) (hT : T ≤ 9999) : ∃ s2, fvw s s2 V ∧ ∀ Q, Call d 79 [zrf 0, zint n, zint w] (G, s) Q = Q (some (zint (itb n.toNat B (w % 100) 3))) (G, s2) := by
  have hg' := hg
  obtain ⟨g1, g2, g3, g4, g5, g6, hw, hu, hx, g7, g8, g9, g10, g11, g12⟩ := hg'
  have hw' := hw
  obtain ⟨w1, w2, w3, w4, w5, w6, w7, w8, w9, w10, w11, w12, w13, w14, w15, w16, w17, w18, w19, w20, w21, w22, w23, w24, w25⟩ := hw'
  have hv' := hv
  obtain ⟨v1, v2, v3, vB⟩ := hv'
  have td := tdb iw
  generalize hab : w.tdiv 100 = ab at td
  generalize hnb : w.tmod 100 = nb at td
  have hab0 : ab = 2 := by omega
  have hnb0 : nb = w % 100 := by omega
  subst hab0
  have h2 : hr B N nb := by rw [hnb0]; exact q.2
  have h2b := h2.1
  have q3 : hr (itb n.toNat B) N nb := by rw [hr_i]; exact h2
  rw [← hnb0]
  have hvt := CV_t hv (W := V) (V := W) ⟨hn.1, hn.2.1⟩ (by omega)
  obtain ⟨s2, f1, f2, e⟩ := l79 (n := n) (w := w) (ab := 2) (nb := nb) (v5 := 1) hd hg (by omega) (by omega) q2.2 n.toNat 0 (tb (tb3 s V N R T) V W N) B T (by omega) (Int.le_refl 0) hvt hb (by omega)
  rw [show T + (n.toNat : Int) = T + n by omega] at f2
  have hb3 := OKB_i n.toNat hb
  have c0 := fun Q => s35 (d := d - 1) (Q := Q) (show 3 ≤ d - 1 by omega) hx hw hv hb ⟨hn.1, hn.2.1⟩ (by omega)
  have hn3 : 0 ≤ N ∧ N ≤ 40 ∧ 0 ≤ R ∧ R ≤ 10 ∧ 0 ≤ T + n ∧ T + n ≤ 20000 := by omega
  refine ⟨s2, fvw_t (fvw_b hn.2.1) f1, fun Q => ?_⟩
  rw [e79 (show 1 ≤ d by omega)]
  simp (disch := first | omega | exact rfl) only [↓u79_0, ↓u79_1, ↓u79_3, ↓u79_4, ↓u79_5, ↓u79_6, ↓u79_8, ↓u79_9, ↓u79_11, ↓u79_12, ↓u79_13, ↓u79_14, ↓u79_17, ↓u79_20, ↓u79_21, ↓u79_24, ↓u79_26, ↓u79_29, ↓u79_32, ↓u79_33, ↓u79_36, ↓u79_37, ↓u79_39, ↓u79_40, ↓u79_43, ↓u79_45, ↓u79_48, ↓u79_49, ↓u79_50, ↓u79_51, ↓u79_52, ↓u79_54, ↓u79_57, ↓u79_60, ↓u79_62, ↓u79_63, ↓u79_64, ↓u79_67, ↓u79_68, ↓u79_71, ↓u79_74, ↓u79_75, ↓u79_79, ↓u79_80, ↓u79_83, ↓u79_84, ↓u79_87, ↓u79_90, ↓u79_93, ↓u79_96, ↓u79_97, ↓u79_98, ↓u79_99, ↓u79_102, ↓u79_104, ↓u79_107, ↓u79_110, ↓lI_0, ↓lI_s, ↓lL_0, ↓lL_s, ↓lR_0, ↓lR_s, ↓sT_0, ↓sT_i, ↓sT_r, ↓sT_u, ↓sT_lu, ↓sU_0, ↓sU_i, ↓sU_r, ↓sU_u, ↓ite_bx, bx_T, bx_F, bx_pos, bx_neg, zws_i, zws_r, zws_l, zws_n, zCb_kc, xl_ll, xr_rr, xs_e, xset_e, Option.toList, List.cons_append, List.nil_append, zIb_e, zrng_e, nz_e, if_pos, if_neg, and_true, true_and, or_true, true_or, ite_self, bi_eq0, bi_eq1, bi_1, bi_0, bi_ir, bi_T, bi_F, up_eq, up_ne, ↓reduceIte, reduceIte, Nat.reduceAdd, Nat.reduceLeDiff, Nat.le_refl, Nat.zero_le, not_true_eq_false, not_false_eq_true, ne_eq, Int.reduceEq, Int.reduceLT, Int.reduceLE, Int.reduceAdd, Int.reduceSub, Int.reduceMul, Int.reduceNeg, pT g1, g2, g3, g4, g5, g6, pT w1, w2, pT w3, w4, w5, w6, v1, v2, v3, vB, hab, hnb, s103, c0, e, pT hx.1, s37_y (show 2 ≤ d - 1 by omega) hw hv hb hn h2, s37_y (show 2 ≤ d - 1 by omega) hx f2 hb3 hn3 q3, s80_2 (show 5 ≤ d - 1 by omega) hg f2 hb3 hn3 q3]
set_option maxRecDepth 8000 in
theorem s79_3 {d : Nat} {G : XS} {s : ZS} {W U V : Int} {B : ZS} {N R T : Int} {n w : Int} (hd : 6 ≤ d) (hg : LOK G W U V) (hv : CV s W B N R T) (hb : OKB B N) (hn : 0 ≤ N ∧ N ≤ 40 ∧ 0 ≤ R ∧ R ≤ 10 ∧ 0 ≤ T ∧ T ≤ 20000) (i1 : ir n) (iw : ir w) (q : (300 ≤ w ∧ w ≤ 399) ∧ hr B N (w % 100)) (q2 : 0 ≤ n ∧ n ≤ 40) (hT : T ≤ 9999) : ∃ s2, fvw s s2 V ∧ ∀ Q, Call d 79 [zrf 0, zint n, zint w] (G, s) Q = Q (some (zint (pt (itb n.toNat B) N R (w % 100)))) (G, s2) := by
  have hg' := hg
  obtain ⟨g1, g2, g3, g4, g5, g6, hw, hu, hx, g7, g8, g9, g10, g11, g12⟩ := hg'
  have hw' := hw
  obtain ⟨w1, w2, w3, w4, w5, w6, w7, w8, w9, w10, w11, w12, w13, w14, w15, w16, w17, w18, w19, w20, w21, w22, w23, w24, w25⟩ := hw'
  have hv' := hv
  obtain ⟨v1, v2, v3, vB⟩ := hv'
  have td := tdb iw
  generalize hab : w.tdiv 100 = ab at td
  generalize hnb : w.tmod 100 = nb at td
  have hab0 : ab = 3 := by omega
  have hnb0 : nb = w % 100 := by omega
  subst hab0
  have h2 : hr B N nb := by rw [hnb0]; exact q.2
  have h2b := h2.1
  have q3 : hr (itb n.toNat B) N nb := by rw [hr_i]; exact h2
  rw [← hnb0]
  have hvt := CV_t hv (W := V) (V := W) ⟨hn.1, hn.2.1⟩ (by omega)
  obtain ⟨s2, f1, f2, e⟩ := l79 (n := n) (w := w) (ab := 3) (nb := nb) (v5 := 1) hd hg (by omega) (by omega) q2.2 n.toNat 0 (tb (tb3 s V N R T) V W N) B T (by omega) (Int.le_refl 0) hvt hb (by omega)
  rw [show T + (n.toNat : Int) = T + n by omega] at f2
  have hb3 := OKB_i n.toNat hb
  have c0 := fun Q => s35 (d := d - 1) (Q := Q) (show 3 ≤ d - 1 by omega) hx hw hv hb ⟨hn.1, hn.2.1⟩ (by omega)
  have hn3 : 0 ≤ N ∧ N ≤ 40 ∧ 0 ≤ R ∧ R ≤ 10 ∧ 0 ≤ T + n ∧ T + n ≤ 20000 := by omega
  refine ⟨s2, fvw_t (fvw_b hn.2.1) f1, fun Q => ?_⟩
  rw [e79 (show 1 ≤ d by omega)]
  simp (disch := first | omega | exact rfl) only [↓u79_0, ↓u79_1, ↓u79_3, ↓u79_4, ↓u79_5, ↓u79_6, ↓u79_8, ↓u79_9, ↓u79_11, ↓u79_12, ↓u79_13, ↓u79_14, ↓u79_17, ↓u79_20, ↓u79_21, ↓u79_24, ↓u79_26, ↓u79_29, ↓u79_32, ↓u79_33, ↓u79_36, ↓u79_37, ↓u79_39, ↓u79_40, ↓u79_43, ↓u79_45, ↓u79_48, ↓u79_49, ↓u79_50, ↓u79_51, ↓u79_52, ↓u79_54, ↓u79_57, ↓u79_60, ↓u79_62, ↓u79_63, ↓u79_64, ↓u79_67, ↓u79_68, ↓u79_71, ↓u79_74, ↓u79_75, ↓u79_79, ↓u79_80, ↓u79_83, ↓u79_84, ↓u79_87, ↓u79_90, ↓u79_93, ↓u79_96, ↓u79_97, ↓u79_98, ↓u79_99, ↓u79_102, ↓u79_104, ↓u79_107, ↓u79_110, ↓lI_0, ↓lI_s, ↓lL_0, ↓lL_s, ↓lR_0, ↓lR_s, ↓sT_0, ↓sT_i, ↓sT_r, ↓sT_u, ↓sT_lu, ↓sU_0, ↓sU_i, ↓sU_r, ↓sU_u, ↓ite_bx, bx_T, bx_F, bx_pos, bx_neg, zws_i, zws_r, zws_l, zws_n, zCb_kc, xl_ll, xr_rr, xs_e, xset_e, Option.toList, List.cons_append, List.nil_append, zIb_e, zrng_e, nz_e, if_pos, if_neg, and_true, true_and, or_true, true_or, ite_self, bi_eq0, bi_eq1, bi_1, bi_0, bi_ir, bi_T, bi_F, up_eq, up_ne, ↓reduceIte, reduceIte, Nat.reduceAdd, Nat.reduceLeDiff, Nat.le_refl, Nat.zero_le, not_true_eq_false, not_false_eq_true, ne_eq, Int.reduceEq, Int.reduceLT, Int.reduceLE, Int.reduceAdd, Int.reduceSub, Int.reduceMul, Int.reduceNeg, pT g1, g2, g3, g4, g5, g6, pT w1, w2, pT w3, w4, w5, w6, v1, v2, v3, vB, hab, hnb, s103, c0, e, pT hx.1, s37_y (show 2 ≤ d - 1 by omega) hw hv hb hn h2, s37_y (show 2 ≤ d - 1 by omega) hx f2 hb3 hn3 q3, s80_3 (show 5 ≤ d - 1 by omega) hg f2 hb3 hn3 q3]
/-- the first step at which they meet -/
noncomputable def fm (a b : Int) : Nat → ZS → Int → Int
  | 0, _, _ => -5
  | n + 1, B, i => @ite Int (mt B a b) (Classical.propDecidable _) i (fm a b n (stp B) (i + 1))
set_option maxRecDepth 8000 in
theorem fm_y {a b i : Int} {n : Nat} {B : ZS} (h : mt B a b) : fm a b (n + 1) B i = i := if_pos h
set_option maxRecDepth 8000 in
theorem fm_n {a b i : Int} {n : Nat} {B : ZS} (h : ¬mt B a b) : fm a b (n + 1) B i = fm a b n (stp B) (i + 1) := if_neg h
set_option maxRecDepth 8000 in
theorem stc_o {s : ZS} {o a c : Int} (h : a ≠ o) : stc s o a c = s a c := if_neg h
set_option maxRecDepth 8000 in
theorem stc_y {s : ZS} {o c : Int} : stc s o o c = stp s o c := if_pos rfl
set_option maxRecDepth 8000 in
theorem okb_v {s : ZS} {o i : Int} {B : ZS} (h : ∀ f, 0 ≤ f ∧ f < 9 → s o f = B i f) (b : okb B i) : okb s o := by
  simp (disch := omega) only [okb, h]
  exact b
set_option maxRecDepth 8000 in
theorem l82 {d : Nat} {G : XS} {V a b : Int} (hd : 5 ≤ d) (hx : WOK G V) (ha : 0 ≤ a ∧ a < 40) (hb : 0 ≤ b ∧ b < 40) (hab : a ≠ b) : ∀ (j : Nat) (i : Int) (s : ZS) (B : ZS), i + j = 41 → 0 ≤ i → (∀ f, 0 ≤ f ∧ f < 9 → s (V + 2 + a) f = B a f) → (∀ f, 0 ≤ f ∧ f < 9 → s (V + 2 + b) f = B b f) → okb B a → okb B b → ∃ s2, fvw s s2 V ∧ ∀ Q, Wp (d - 1) 82 (12, [zrf (V + 2 + a), zrf (V + 2 + b), zint i], [], (G, s)) Q = Q (some (zint (fm a b j B i))) (G, s2) := by
  have x6 := hx.2.2.2.2.2.1
  have ka := x6 a ha
  have kb := x6 b hb
  intro j
  induction j with
  | zero =>
    intro i s B h1 h2 va vb oa ob
    refine ⟨s, fun a c h => rfl, fun Q => ?_⟩
    rw [show fm a b 0 B i = -5 from rfl, u82_12]
    simp (disch := first | omega | exact rfl) only [↓u82_0, ↓u82_1, ↓u82_4, ↓u82_5, ↓u82_8, ↓u82_9, ↓u82_10, ↓u82_11, ↓u82_13, ↓u82_15, ↓u82_18, ↓u82_19, ↓u82_20, ↓u82_23, ↓u82_26, ↓u82_27, ↓u82_28, ↓u82_29, ↓u82_32, ↓u82_33, ↓u82_36, ↓u82_39, ↓u82_42, ↓u82_44, ↓lI_0, ↓lI_s, ↓lL_0, ↓lL_s, ↓lR_0, ↓lR_s, ↓sT_0, ↓sT_i, ↓sT_r, ↓sT_u, ↓sT_lu, ↓sU_0, ↓sU_i, ↓sU_r, ↓sU_u, ↓ite_bx, bx_T, bx_F, bx_pos, bx_neg, zws_i, zws_r, zws_l, zws_n, zCb_kc, xl_ll, xr_rr, xs_e, xset_e, Option.toList, List.cons_append, List.nil_append, zIb_e, zrng_e, nz_e, if_pos, if_neg, and_true, true_and, or_true, true_or, ite_self, bi_eq0, bi_eq1, bi_1, bi_0, bi_ir, bi_T, bi_F, up_eq, up_ne, ↓reduceIte, reduceIte, Nat.reduceAdd, Nat.reduceLeDiff, Nat.le_refl, Nat.zero_le, not_true_eq_false, not_false_eq_true, ne_eq, Int.reduceEq, Int.reduceLT, Int.reduceLE, Int.reduceAdd, Int.reduceSub, Int.reduceMul, Int.reduceNeg, pT ka, pT kb]
  | succ j ih =>
    intro i s B h1 h2 va vb oa ob
    have oa2 := okb_v va oa
    have ob2 := okb_v vb ob
    by_cases q : mt B a b
    · refine ⟨s, fun a c h => rfl, fun Q => ?_⟩
      rw [fm_y q, u82_12]
      simp (disch := first | omega | exact rfl) only [↓u82_0, ↓u82_1, ↓u82_4, ↓u82_5, ↓u82_8, ↓u82_9, ↓u82_10, ↓u82_11, ↓u82_13, ↓u82_15, ↓u82_18, ↓u82_19, ↓u82_20, ↓u82_23, ↓u82_26, ↓u82_27, ↓u82_28, ↓u82_29, ↓u82_32, ↓u82_33, ↓u82_36, ↓u82_39, ↓u82_42, ↓u82_44, ↓lI_0, ↓lI_s, ↓lL_0, ↓lL_s, ↓lR_0, ↓lR_s, ↓sT_0, ↓sT_i, ↓sT_r, ↓sT_u, ↓sT_lu, ↓sU_0, ↓sU_i, ↓sU_r, ↓sU_u, ↓ite_bx, bx_T, bx_F, bx_pos, bx_neg, zws_i, zws_r, zws_l, zws_n, zCb_kc, xl_ll, xr_rr, xs_e, xset_e, Option.toList, List.cons_append, List.nil_append, zIb_e, zrng_e, nz_e, if_pos, if_neg, and_true, true_and, or_true, true_or, ite_self, bi_eq0, bi_eq1, bi_1, bi_0, bi_ir, bi_T, bi_F, up_eq, up_ne, ↓reduceIte, reduceIte, Nat.reduceAdd, Nat.reduceLeDiff, Nat.le_refl, Nat.zero_le, not_true_eq_false, not_false_eq_true, ne_eq, Int.reduceEq, Int.reduceLT, Int.reduceLE, Int.reduceAdd, Int.reduceSub, Int.reduceMul, Int.reduceNeg, pT ka, pT kb, s9 (show 2 ≤ d - 1 by omega) ka oa2 kb ob2, va, vb, bi_1 q]
    · have va2 : ∀ f, 0 ≤ f ∧ f < 9 → stc (stc s (V + 2 + a)) (V + 2 + b) (V + 2 + a) f = stp B a f := by
        intro f hf
        rw [stc_o (by omega), stc_y]
        exact stp_c va (va f hf)
      have vb1 : ∀ f, 0 ≤ f ∧ f < 9 → stc s (V + 2 + a) (V + 2 + b) f = B b f := fun f hf => by rw [stc_o (by omega)]; exact vb f hf
      have vb2 : ∀ f, 0 ≤ f ∧ f < 9 → stc (stc s (V + 2 + a)) (V + 2 + b) (V + 2 + b) f = stp B b f := by
        intro f hf
        rw [stc_y]
        exact stp_c vb1 (vb1 f hf)
      have ob3 := okb_v vb1 ob
      obtain ⟨s2, f1, e⟩ := ih (i + 1) (stc (stc s (V + 2 + a)) (V + 2 + b)) (stp B) (by omega) (by omega) va2 vb2 (okb_s oa) (okb_s ob)
      refine ⟨s2, fun x c h => by rw [f1 x c h, stc_o (by omega), stc_o (by omega)], fun Q => ?_⟩
      rw [fm_n q, u82_12]
      simp (disch := first | omega | exact rfl) only [↓u82_0, ↓u82_1, ↓u82_4, ↓u82_5, ↓u82_8, ↓u82_9, ↓u82_10, ↓u82_11, ↓u82_13, ↓u82_15, ↓u82_18, ↓u82_19, ↓u82_20, ↓u82_23, ↓u82_26, ↓u82_27, ↓u82_28, ↓u82_29, ↓u82_32, ↓u82_33, ↓u82_36, ↓u82_39, ↓u82_42, ↓u82_44, ↓lI_0, ↓lI_s, ↓lL_0, ↓lL_s, ↓lR_0, ↓lR_s, ↓sT_0, ↓sT_i, ↓sT_r, ↓sT_u, ↓sT_lu, ↓sU_0, ↓sU_i, ↓sU_r, ↓sU_u, ↓ite_bx, bx_T, bx_F, bx_pos, bx_neg, zws_i, zws_r, zws_l, zws_n, zCb_kc, xl_ll, xr_rr, xs_e, xset_e, Option.toList, List.cons_append, List.nil_append, zIb_e, zrng_e, nz_e, if_pos, if_neg, and_true, true_and, or_true, true_or, ite_self, bi_eq0, bi_eq1, bi_1, bi_0, bi_ir, bi_T, bi_F, up_eq, up_ne, ↓reduceIte, reduceIte, Nat.reduceAdd, Nat.reduceLeDiff, Nat.le_refl, Nat.zero_le, not_true_eq_false, not_false_eq_true, ne_eq, Int.reduceEq, Int.reduceLT, Int.reduceLE, Int.reduceAdd, Int.reduceSub, Int.reduceMul, Int.reduceNeg, pT ka, pT kb, s9 (show 2 ≤ d - 1 by omega) ka oa2 kb ob2, va, vb, bi_0 q, s4 (show 3 ≤ d - 1 by omega) ka oa2, s4 (show 3 ≤ d - 1 by omega) kb ob3, e]
set_option maxRecDepth 8000 in
theorem s81_n1 {d : Nat} {Q : Option AV → XH → Prop} {G : XS} {s : ZS} {W U V : Int} {B : ZS} {N R T : Int} {a b : Int} (hd : 6 ≤ d) (hg : LOK G W U V) (hv : CV s W B N R T) (hb : OKB B N) (hn : 0 ≤ N ∧ N ≤ 40 ∧ 0 ≤ R ∧ R ≤ 10 ∧ 0 ≤ T ∧ T ≤ 20000) (ia : ir a) (ib : ir b) (q : ¬hr B N a) : Call d 81 [zrf 0, zint a, zint b] (G, s) Q = Q (some (zint (-1))) (G, s) := by
  have hg' := hg
  obtain ⟨g1, g2, g3, g4, g5, g6, hw, hu, hx, g7, g8, g9, g10, g11, g12⟩ := hg'
  have hw' := hw
  obtain ⟨w1, w2, w3, w4, w5, w6, w7, w8, w9, w10, w11, w12, w13, w14, w15, w16, w17, w18, w19, w20, w21, w22, w23, w24, w25⟩ := hw'
  have hv' := hv
  obtain ⟨v1, v2, v3, vB⟩ := hv'
  rw [e81 (show 1 ≤ d by omega)]
  by_cases q2 : hr B N b
  · simp (disch := first | omega | exact rfl) only [↓u81_0, ↓u81_1, ↓u81_4, ↓u81_5, ↓u81_8, ↓u81_9, ↓u81_10, ↓u81_13, ↓u81_14, ↓u81_17, ↓u81_19, ↓u81_20, ↓u81_23, ↓u81_25, ↓u81_28, ↓u81_29, ↓u81_30, ↓u81_31, ↓u81_34, ↓u81_36, ↓u81_39, ↓u81_42, ↓u81_44, ↓u81_45, ↓u81_46, ↓u81_49, ↓u81_50, ↓u81_53, ↓u81_56, ↓u81_57, ↓u81_60, ↓u81_61, ↓u81_64, ↓u81_65, ↓u81_68, ↓u81_69, ↓u81_72, ↓u81_75, ↓lI_0, ↓lI_s, ↓lL_0, ↓lL_s, ↓lR_0, ↓lR_s, ↓sT_0, ↓sT_i, ↓sT_r, ↓sT_u, ↓sT_lu, ↓sU_0, ↓sU_i, ↓sU_r, ↓sU_u, ↓ite_bx, bx_T, bx_F, bx_pos, bx_neg, zws_i, zws_r, zws_l, zws_n, zCb_kc, xl_ll, xr_rr, xs_e, xset_e, Option.toList, List.cons_append, List.nil_append, zIb_e, zrng_e, nz_e, if_pos, if_neg, and_true, true_and, or_true, true_or, ite_self, bi_eq0, bi_eq1, bi_1, bi_0, bi_ir, bi_T, bi_F, up_eq, up_ne, ↓reduceIte, reduceIte, Nat.reduceAdd, Nat.reduceLeDiff, Nat.le_refl, Nat.zero_le, not_true_eq_false, not_false_eq_true, ne_eq, Int.reduceEq, Int.reduceLT, Int.reduceLE, Int.reduceAdd, Int.reduceSub, Int.reduceMul, Int.reduceNeg, pT g1, g2, g3, g4, g5, g6, pT w1, w2, pT w3, w4, w5, w6, v1, v2, v3, vB, s37_n (show 2 ≤ d - 1 by omega) hw hv hb hn ia q, s37_y (show 2 ≤ d - 1 by omega) hw hv hb hn q2]
  · simp (disch := first | omega | exact rfl) only [↓u81_0, ↓u81_1, ↓u81_4, ↓u81_5, ↓u81_8, ↓u81_9, ↓u81_10, ↓u81_13, ↓u81_14, ↓u81_17, ↓u81_19, ↓u81_20, ↓u81_23, ↓u81_25, ↓u81_28, ↓u81_29, ↓u81_30, ↓u81_31, ↓u81_34, ↓u81_36, ↓u81_39, ↓u81_42, ↓u81_44, ↓u81_45, ↓u81_46, ↓u81_49, ↓u81_50, ↓u81_53, ↓u81_56, ↓u81_57, ↓u81_60, ↓u81_61, ↓u81_64, ↓u81_65, ↓u81_68, ↓u81_69, ↓u81_72, ↓u81_75, ↓lI_0, ↓lI_s, ↓lL_0, ↓lL_s, ↓lR_0, ↓lR_s, ↓sT_0, ↓sT_i, ↓sT_r, ↓sT_u, ↓sT_lu, ↓sU_0, ↓sU_i, ↓sU_r, ↓sU_u, ↓ite_bx, bx_T, bx_F, bx_pos, bx_neg, zws_i, zws_r, zws_l, zws_n, zCb_kc, xl_ll, xr_rr, xs_e, xset_e, Option.toList, List.cons_append, List.nil_append, zIb_e, zrng_e, nz_e, if_pos, if_neg, and_true, true_and, or_true, true_or, ite_self, bi_eq0, bi_eq1, bi_1, bi_0, bi_ir, bi_T, bi_F, up_eq, up_ne, ↓reduceIte, reduceIte, Nat.reduceAdd, Nat.reduceLeDiff, Nat.le_refl, Nat.zero_le, not_true_eq_false, not_false_eq_true, ne_eq, Int.reduceEq, Int.reduceLT, Int.reduceLE, Int.reduceAdd, Int.reduceSub, Int.reduceMul, Int.reduceNeg, pT g1, g2, g3, g4, g5, g6, pT w1, w2, pT w3, w4, w5, w6, v1, v2, v3, vB, s37_n (show 2 ≤ d - 1 by omega) hw hv hb hn ia q, s37_n (show 2 ≤ d - 1 by omega) hw hv hb hn ib q2]
set_option maxRecDepth 8000 in
theorem s81_n2 {d : Nat} {Q : Option AV → XH → Prop} {G : XS} {s : ZS} {W U V : Int} {B : ZS} {N R T : Int} {a b : Int} (hd : 6 ≤ d) (hg : LOK G W U V) (hv : CV s W B N R T) (hb : OKB B N) (hn : 0 ≤ N ∧ N ≤ 40 ∧ 0 ≤ R ∧ R ≤ 10 ∧ 0 ≤ T ∧ T ≤ 20000) (ia : ir a) (ib : ir b) (q : hr B N a) (q2 : ¬hr B N b) : Call d 81 [zrf 0, zint a, zint b] (G, s) Q = Q (some (zint (-1))) (G, s) := by
  have hg' := hg
  obtain ⟨g1, g2, g3, g4, g5, g6, hw, hu, hx, g7, g8, g9, g10, g11, g12⟩ := hg'
  have hw' := hw
  obtain ⟨w1, w2, w3, w4, w5, w6, w7, w8, w9, w10, w11, w12, w13, w14, w15, w16, w17, w18, w19, w20, w21, w22, w23, w24, w25⟩ := hw'
  have hv' := hv
  obtain ⟨v1, v2, v3, vB⟩ := hv'
  rw [e81 (show 1 ≤ d by omega)]
  simp (disch := first | omega | exact rfl) only [↓u81_0, ↓u81_1, ↓u81_4, ↓u81_5, ↓u81_8, ↓u81_9, ↓u81_10, ↓u81_13, ↓u81_14, ↓u81_17, ↓u81_19, ↓u81_20, ↓u81_23, ↓u81_25, ↓u81_28, ↓u81_29, ↓u81_30, ↓u81_31, ↓u81_34, ↓u81_36, ↓u81_39, ↓u81_42, ↓u81_44, ↓u81_45, ↓u81_46, ↓u81_49, ↓u81_50, ↓u81_53, ↓u81_56, ↓u81_57, ↓u81_60, ↓u81_61, ↓u81_64, ↓u81_65, ↓u81_68, ↓u81_69, ↓u81_72, ↓u81_75, ↓lI_0, ↓lI_s, ↓lL_0, ↓lL_s, ↓lR_0, ↓lR_s, ↓sT_0, ↓sT_i, ↓sT_r, ↓sT_u, ↓sT_lu, ↓sU_0, ↓sU_i, ↓sU_r, ↓sU_u, ↓ite_bx, bx_T, bx_F, bx_pos, bx_neg, zws_i, zws_r, zws_l, zws_n, zCb_kc, xl_ll, xr_rr, xs_e, xset_e, Option.toList, List.cons_append, List.nil_append, zIb_e, zrng_e, nz_e, if_pos, if_neg, and_true, true_and, or_true, true_or, ite_self, bi_eq0, bi_eq1, bi_1, bi_0, bi_ir, bi_T, bi_F, up_eq, up_ne, ↓reduceIte, reduceIte, Nat.reduceAdd, Nat.reduceLeDiff, Nat.le_refl, Nat.zero_le, not_true_eq_false, not_false_eq_true, ne_eq, Int.reduceEq, Int.reduceLT, Int.reduceLE, Int.reduceAdd, Int.reduceSub, Int.reduceMul, Int.reduceNeg, pT g1, g2, g3, g4, g5, g6, pT w1, w2, pT w3, w4, w5, w6, v1, v2, v3, vB, s37_y (show 2 ≤ d - 1 by omega) hw hv hb hn q, s37_n (show 2 ≤ d - 1 by omega) hw hv hb hn ib q2]
set_option maxRecDepth 8000 in
theorem s81_s {d : Nat} {Q : Option AV → XH → Prop} {G : XS} {s : ZS} {W U V : Int} {B : ZS} {N R T : Int} {a b : Int} (hd : 6 ≤ d) (hg : LOK G W U V) (hv : CV s W B N R T) (hb : OKB B N) (hn : 0 ≤ N ∧ N ≤ 40 ∧ 0 ≤ R ∧ R ≤ 10 ∧ 0 ≤ T ∧ T ≤ 20000) (ia : ir a) (ib : ir b) (q : hr B N a) (q2 : hr B N b) (q3 : B a 1 = B b 1) : Call d 81 [zrf 0, zint a, zint b] (G, s) Q = Q (some (zint (-3))) (G, s) := by
  have hg' := hg
  obtain ⟨g1, g2, g3, g4, g5, g6, hw, hu, hx, g7, g8, g9, g10, g11, g12⟩ := hg'
  have hw' := hw
  obtain ⟨w1, w2, w3, w4, w5, w6, w7, w8, w9, w10, w11, w12, w13, w14, w15, w16, w17, w18, w19, w20, w21, w22, w23, w24, w25⟩ := hw'
  have hv' := hv
  obtain ⟨v1, v2, v3, vB⟩ := hv'
  have oka := hb a q.1
  have okbb := hb b q2.1
  have ka := w6 a (by omega)
  have kb := w6 b (by omega)
  rw [e81 (show 1 ≤ d by omega)]
  simp (disch := first | omega | exact rfl) only [↓u81_0, ↓u81_1, ↓u81_4, ↓u81_5, ↓u81_8, ↓u81_9, ↓u81_10, ↓u81_13, ↓u81_14, ↓u81_17, ↓u81_19, ↓u81_20, ↓u81_23, ↓u81_25, ↓u81_28, ↓u81_29, ↓u81_30, ↓u81_31, ↓u81_34, ↓u81_36, ↓u81_39, ↓u81_42, ↓u81_44, ↓u81_45, ↓u81_46, ↓u81_49, ↓u81_50, ↓u81_53, ↓u81_56, ↓u81_57, ↓u81_60, ↓u81_61, ↓u81_64, ↓u81_65, ↓u81_68, ↓u81_69, ↓u81_72, ↓u81_75, ↓lI_0, ↓lI_s, ↓lL_0, ↓lL_s, ↓lR_0, ↓lR_s, ↓sT_0, ↓sT_i, ↓sT_r, ↓sT_u, ↓sT_lu, ↓sU_0, ↓sU_i, ↓sU_r, ↓sU_u, ↓ite_bx, bx_T, bx_F, bx_pos, bx_neg, zws_i, zws_r, zws_l, zws_n, zCb_kc, xl_ll, xr_rr, xs_e, xset_e, Option.toList, List.cons_append, List.nil_append, zIb_e, zrng_e, nz_e, if_pos, if_neg, and_true, true_and, or_true, true_or, ite_self, bi_eq0, bi_eq1, bi_1, bi_0, bi_ir, bi_T, bi_F, up_eq, up_ne, ↓reduceIte, reduceIte, Nat.reduceAdd, Nat.reduceLeDiff, Nat.le_refl, Nat.zero_le, not_true_eq_false, not_false_eq_true, ne_eq, Int.reduceEq, Int.reduceLT, Int.reduceLE, Int.reduceAdd, Int.reduceSub, Int.reduceMul, Int.reduceNeg, pT g1, g2, g3, g4, g5, g6, pT w1, w2, pT w3, w4, w5, w6, v1, v2, v3, vB, pT ka, pT kb, s37_y (show 2 ≤ d - 1 by omega) hw hv hb hn q, s37_y (show 2 ≤ d - 1 by omega) hw hv hb hn q2]
set_option maxRecDepth 8000 in
theorem s81_y {d : Nat} {G : XS} {s : ZS} {W U V : Int} {B : ZS} {N R T : Int} {a b : Int} (hd : 6 ≤ d) (hg : LOK G W U V) (hv : CV s W B N R T) (hb : OKB B N) (hn : 0 ≤ N ∧ N ≤ 40 ∧ 0 ≤ R ∧ R ≤ 10 ∧ 0 ≤ T ∧ T ≤ 20000) (q : hr B N a) (q2 : hr B N b) (q3 : B a 1 ≠ B b 1) : ∃ s2, fvw s s2 V ∧ ∀ Q, Call d 81 [zrf 0, zint a, zint b] (G, s) Q = Q (some (zint (fm a b 41 B 0))) (G, s2) := by
  have hg' := hg
  obtain ⟨g1, g2, g3, g4, g5, g6, hw, hu, hx, g7, g8, g9, g10, g11, g12⟩ := hg'
  have hw' := hw
  obtain ⟨w1, w2, w3, w4, w5, w6, w7, w8, w9, w10, w11, w12, w13, w14, w15, w16, w17, w18, w19, w20, w21, w22, w23, w24, w25⟩ := hw'
  have hv' := hv
  obtain ⟨v1, v2, v3, vB⟩ := hv'
  have oka := hb a q.1
  have okbb := hb b q2.1
  have ka := w6 a (by omega)
  have kb := w6 b (by omega)
  have hvt := CV_t hv (W := V) (V := W) ⟨hn.1, hn.2.1⟩ (by omega)
  have c0 := fun Q => s35 (d := d - 1) (Q := Q) (show 3 ≤ d - 1 by omega) hx hw hv hb ⟨hn.1, hn.2.1⟩ (by omega)
  have hab : a ≠ b := fun h => q3 (by rw [h])
  obtain ⟨s2, f1, e⟩ := l82 (d := d - 1) (a := a) (b := b) (show 5 ≤ d - 1 by omega) hx (by omega) (by omega) hab 41 0 (tb (tb3 s V N R T) V W N) B (by omega) (Int.le_refl 0) (fun f hf => hvt.2.2.2 a f ⟨q.1, hf⟩) (fun f hf => hvt.2.2.2 b f ⟨q2.1, hf⟩) (hb a q.1) (hb b q2.1)
  have e2 : ∀ Q, Call (d - 1) 82 [zrf (V + 2 + a), zrf (V + 2 + b)] (G, tb (tb3 s V N R T) V W N) Q = Q (some (zint (fm a b 41 B 0))) (G, s2) := by
    intro Q
    have e3 := e Q
    rw [e82 (show 1 ≤ d - 1 by omega)]
    simp (disch := first | omega | exact rfl) only [↓u82_0, ↓u82_1, ↓u82_4, ↓u82_5, ↓u82_8, ↓u82_9, ↓u82_10, ↓u82_11, ↓u82_13, ↓u82_15, ↓u82_18, ↓u82_19, ↓u82_20, ↓u82_23, ↓u82_26, ↓u82_27, ↓u82_28, ↓u82_29, ↓u82_32, ↓u82_33, ↓u82_36, ↓u82_39, ↓u82_42, ↓u82_44, ↓lI_0, ↓lI_s, ↓lL_0, ↓lL_s, ↓lR_0, ↓lR_s, ↓sT_0, ↓sT_i, ↓sT_r, ↓sT_u, ↓sT_lu, ↓sU_0, ↓sU_i, ↓sU_r, ↓sU_u, ↓ite_bx, bx_T, bx_F, bx_pos, bx_neg, zws_i, zws_r, zws_l, zws_n, zCb_kc, xl_ll, xr_rr, xs_e, xset_e, Option.toList, List.cons_append, List.nil_append, zIb_e, zrng_e, nz_e, if_pos, if_neg, and_true, true_and, or_true, true_or, ite_self, bi_eq0, bi_eq1, bi_1, bi_0, bi_ir, bi_T, bi_F, up_eq, up_ne, ↓reduceIte, reduceIte, Nat.reduceAdd, Nat.reduceLeDiff, Nat.le_refl, Nat.zero_le, not_true_eq_false, not_false_eq_true, ne_eq, Int.reduceEq, Int.reduceLT, Int.reduceLE, Int.reduceAdd, Int.reduceSub, Int.reduceMul, Int.reduceNeg, e3]
  refine ⟨s2, fvw_t (fvw_b hn.2.1) f1, fun Q => ?_⟩
  rw [e81 (show 1 ≤ d by omega)]
  simp (disch := first | omega | exact rfl) only [↓u81_0, ↓u81_1, ↓u81_4, ↓u81_5, ↓u81_8, ↓u81_9, ↓u81_10, ↓u81_13, ↓u81_14, ↓u81_17, ↓u81_19, ↓u81_20, ↓u81_23, ↓u81_25, ↓u81_28, ↓u81_29, ↓u81_30, ↓u81_31, ↓u81_34, ↓u81_36, ↓u81_39, ↓u81_42, ↓u81_44, ↓u81_45, ↓u81_46, ↓u81_49, ↓u81_50, ↓u81_53, ↓u81_56, ↓u81_57, ↓u81_60, ↓u81_61, ↓u81_64, ↓u81_65, ↓u81_68, ↓u81_69, ↓u81_72, ↓u81_75, ↓lI_0, ↓lI_s, ↓lL_0, ↓lL_s, ↓lR_0, ↓lR_s, ↓sT_0, ↓sT_i, ↓sT_r, ↓sT_u, ↓sT_lu, ↓sU_0, ↓sU_i, ↓sU_r, ↓sU_u, ↓ite_bx, bx_T, bx_F, bx_pos, bx_neg, zws_i, zws_r, zws_l, zws_n, zCb_kc, xl_ll, xr_rr, xs_e, xset_e, Option.toList, List.cons_append, List.nil_append, zIb_e, zrng_e, nz_e, if_pos, if_neg, and_true, true_and, or_true, true_or, ite_self, bi_eq0, bi_eq1, bi_1, bi_0, bi_ir, bi_T, bi_F, up_eq, up_ne, ↓reduceIte, reduceIte, Nat.reduceAdd, Nat.reduceLeDiff, Nat.le_refl, Nat.zero_le, not_true_eq_false, not_false_eq_true, ne_eq, Int.reduceEq, Int.reduceLT, Int.reduceLE, Int.reduceAdd, Int.reduceSub, Int.reduceMul, Int.reduceNeg, pT g1, g2, g3, g4, g5, g6, pT w1, w2, pT w3, w4, w5, w6, v1, v2, v3, vB, pT hx.1, pT ka, pT kb, c0, e2, s37_y (show 2 ≤ d - 1 by omega) hw hv hb hn q, s37_y (show 2 ≤ d - 1 by omega) hw hv hb hn q2, s37_y (show 2 ≤ d - 1 by omega) hx hvt hb hn q, s37_y (show 2 ≤ d - 1 by omega) hx hvt hb hn q2]
